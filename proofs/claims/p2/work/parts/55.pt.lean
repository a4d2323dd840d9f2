/-! heard, lasts -/
def so_hr (row nn : Int) : Int → Int := fun i => dz_an (dz_ur row (2 * (nn - 1 - i))) 3
def so_he (P S : ob_O) (R : Int → Int) : Nat → Bool
  | 0 => true
  | k + 1 => so_he P S R k && decide (dz_c (pf_t P S R ob_0 k) = dz_c (S 5 k))
def so_hc (P S : ob_O) (nn : Int) : Nat → Int × Int
  | 0 => (0, -4)
  | r + 1 => if so_he P S (so_hr r nn) nn.toNat = false then so_hc P S nn r else ((so_hc P S nn r).1 + 1, if dz_c (so_hc P S nn r).2 ≠ -4 then (so_hc P S nn r).2 else r)
def so_lo (P S : ob_O) (w : Int) : Nat → ob_O
  | 0 => ob_0
  | t + 1 => pf_o P S (S (20 + w.toNat)) (so_lo P S w t) (S 3 w).toNat
def so_la (P S : ob_O) (w s : Int) : Nat → Nat → Int
  | 0, _ => -4
  | k + 1, t => if so_brk P (so_lo P S w (t + 1)) s = false then so_la P S w s k (t + 1) else ((t : Int) + 1)
section pt
variable {n : Nat} {P S o m m0 : ob_O} {w a1 a2 row nn : Int} {Z Y Z' : dz_Z} {R : Int → Int}
theorem he_f : ∀ k j : Nat, so_he P S R k = false → k ≤ j → so_he P S R j = false
  | k, 0, h, hj => by
    have : k = 0 := by omega
    subst this
    exact h
  | k, j + 1, h, hj => by
    by_cases e : k = j + 1
    · rw [← e]; exact h
    · show (so_he P S R j && _) = false
      rw [he_f k j h (by omega)]
      rfl
theorem hr_r (i : Int) : 0 ≤ so_hr row nn i ∧ so_hr row nn i ≤ 9 := by
  unfold so_hr
  rw [bn_3]
  omega
theorem hr_s (hrow : 0 ≤ row ∧ row ≤ 1024) (hn : 1 ≤ nn ∧ nn ≤ 5) {i : Int} (hi : 0 ≤ i ∧ i < nn) : dz_an (dz_sr row (2 * (nn - 1 - i))) 3 = so_hr row nn i := by
  unfold so_hr
  have hc : dz_c row = row := dc_ir hrow.1 (by omega)
  have hm : row % 4294967296 = row := by omega
  have : nn - 1 - i = 0 ∨ nn - 1 - i = 1 ∨ nn - 1 - i = 2 ∨ nn - 1 - i = 3 ∨ nn - 1 - i = 4 := by omega
  rw [bn_3, bn_3]
  rcases this with e | e | e | e | e
  · rw [e, show (2 : Int) * 0 = 0 by rfl, bu_r row 0 0 (by decide) (Or.inr (by omega)), bs_r row 0 0 (by decide), hc, hm]
  · rw [e, show (2 : Int) * 1 = 2 by rfl, bu_r row 2 2 (by decide) (Or.inl (by decide)), bs_r row 2 2 (by decide), hc, hm]
  · rw [e, show (2 : Int) * 2 = 4 by rfl, bu_r row 4 4 (by decide) (Or.inl (by decide)), bs_r row 4 4 (by decide), hc, hm]
  · rw [e, show (2 : Int) * 3 = 6 by rfl, bu_r row 6 6 (by decide) (Or.inl (by decide)), bs_r row 6 6 (by decide), hc, hm]
  · rw [e, show (2 : Int) * 4 = 8 by rfl, bu_r row 8 8 (by decide) (Or.inl (by decide)), bs_r row 8 8 (by decide), hc, hm]
theorem he_cls (hr : iv_R (Z 0) (Z 1)) (hP : so_P (Z (iv_p Z))) (hS : so_S (Z (iv_p Z)) (Z (iv_s Z))) (hn : 1 ≤ Z (iv_s Z) 6 0 ∧ Z (iv_s Z) 6 0 ≤ 5) {K : Bool × dz_Z → Prop} (k : ∀ F : ob_O, K (so_he (Z (iv_p Z)) (Z (iv_s Z)) (so_hr row (Z (iv_s Z) 6 0)) (Z (iv_s Z) 6 0).toNat, ob_z Z 55 F)) : dz_p (jf_O_soundsAsTheTune row Z) K := by
  have hp := iv_isP hr
  have hs := iv_isS hr
  have hs2 := iv_s2 hr
  have hp2 := iv_p2 hr
  have e6 : dz_c (Z (iv_s Z) 6 0) = Z (iv_s Z) 6 0 := dc_ir (by omega) (by omega)
  have z0 : ∀ F : ob_O, ob_z Z 55 F 0 = Z 0 := fun F => oz_n (by decide)
  have zp : ∀ F : ob_O, ob_z Z 55 F (iv_p Z) = Z (iv_p Z) := fun F => oz_n (by omega)
  have zs : ∀ F : ob_O, ob_z Z 55 F (iv_s Z) = Z (iv_s Z) := fun F => oz_n (by omega)
  unfold jf_O_soundsAsTheTune
  refine dp_bi (dp_eq dr_cls ?_)
  simp only [z0, show (Z 0 3 0).toNat = iv_s Z from rfl, zs, e6]
  refine dp_ck hs ?_
  refine dp_lp (fun k q => ∃ (r : Nat) (F : ob_O), (r : Int) + k = Z (iv_s Z) 6 0 ∧ q = ((r : Int), ob_z Z 55 F) ∧ so_qF (pf_o (Z (iv_p Z)) (Z (iv_s Z)) (so_hr row (Z (iv_s Z) 6 0)) ob_0 r) F ∧ so_he (Z (iv_p Z)) (Z (iv_s Z)) (so_hr row (Z (iv_s Z) 6 0)) r = true) ?_ 5000 (Z (iv_s Z) 6 0).toNat (0, ob_z Z 55 (so_dry (Z 55))) (by omega) ⟨0, _, by omega, rfl, D_qF dr_f, rfl⟩
  rintro k1 _ ⟨r, F, hr', rfl, hF, hh⟩
  have er : dz_c (r : Int) = r := dc_ir (by omega) (by omega)
  simp only [z0, show (Z 0 3 0).toNat = iv_s Z from rfl, show (Z 0 2 0).toNat = iv_p Z from rfl, er]
  by_cases hk : (r : Int) = Z (iv_s Z) 6 0
  · refine dp_ck (by omega) (dp_sm ?_)
    have := k F
    rw [show (Z (iv_s Z) 6 0).toNat = r by omega, hh] at this
    exact this
  · refine dp_no (by omega) (dp_le (dp_ck hp (dp_ck hs ?_)))
    have hc := cf_sec (F := 55) (p := iv_p Z) (q := iv_s Z) (Z := ob_z Z 55 F) (v := so_hr row (Z (iv_s Z) 6 0) r) (Or.inr (Or.inl rfl)) hp hs (by rw [zp]; exact hP) (by rw [zp, zs]; exact hS)
    rw [zp, zs, oz_s, oz_z] at hc
    refine dp_bi (dp_eq hc ?_)
    have hq := qF_sec (P := Z (iv_p Z)) (S := Z (iv_s Z)) (v := so_hr row (Z (iv_s Z) 6 0) r) hF
    simp only [z0, show (Z 0 3 0).toNat = iv_s Z from rfl, zs, hq.1]
    have key : so_he (Z (iv_p Z)) (Z (iv_s Z)) (so_hr row (Z (iv_s Z) 6 0)) (r + 1) = (so_he (Z (iv_p Z)) (Z (iv_s Z)) (so_hr row (Z (iv_s Z) 6 0)) r && decide (dz_c (pf_t (Z (iv_p Z)) (Z (iv_s Z)) (so_hr row (Z (iv_s Z) 6 0)) ob_0 r) = dz_c (Z (iv_s Z) 5 r))) := rfl
    refine dp_ck hs (dp_ck (by omega) (dp_br (fun c => dp_sm ⟨k1 - 1, by omega, r + 1, _, by omega, rfl, hq.2, ?_⟩) (fun c => dp_sm ?_)))
    · rw [key, hh, decide_eq_true c]; rfl
    · have := k (so_sec (Z (iv_p Z)) (Z (iv_s Z)) (so_hr row (Z (iv_s Z) 6 0) r) F).2
      rw [he_f (r + 1) _ (by rw [key, decide_eq_false c, Bool.and_false]) (by omega)] at this
      exact this
theorem op_heard (h : iv_Z n Z) (c1 : dz_c a1 = a1) : dz_p (jf_O_heard a1 Z) (fun q => dz_p (jf_M_heard a1 q.2) (fun q' => iv_Z (n + 1) q'.2 ∧ dz_c q.1 = dz_c q'.1)) := by
  have hp := iv_isP h.1
  have hs := iv_isS h.1
  have hs2 := iv_s2 h.1
  have hp2 := iv_p2 h.1
  have hP := h.2.1
  have rP := h.2.2.1
  obtain ⟨hS, rS, hB, rF⟩ := h.2.2.2.1
  have h6 := hS.2.2.2.2.1
  have r73 := rS.2.2.2.1
  rw [Int.zero_add] at r73
  have e6 : dz_c (Z (iv_s Z) 6 0) = Z (iv_s Z) 6 0 := dc_ir h6.1 (by omega)
  unfold jf_O_heard
  simp only [c1, show (Z 0 3 0).toNat = iv_s Z from rfl, e6]
  have bad1 : ¬(0 ≤ a1 ∧ a1 ≤ 1) → dz_p (jf_M_heard a1 Z) (fun q' => iv_Z (n + 1) q'.2 ∧ dz_c (-1) = dz_c q'.1) := by
    intro hv
    unfold jf_M_heard
    rw [c1]
    exact dp_no hv (dp_sm ⟨iv_nx h, rfl⟩)
  have bad2 : (0 ≤ a1 ∧ a1 ≤ 1) → ¬(1 ≤ Z (iv_s Z) 6 0 ∧ Z (iv_s Z) 6 0 ≤ 5) → dz_p (jf_M_heard a1 Z) (fun q' => iv_Z (n + 1) q'.2 ∧ dz_c (-2) = dz_c q'.1) := by
    intro hv hw
    unfold jf_M_heard
    rw [c1, r73, e6]
    exact dp_ck hv (dp_no hw (dp_sm ⟨iv_nx h, rfl⟩))
  refine dp_br (fun a => dp_sm (bad1 (by omega))) (fun a => dp_br (fun b => dp_ck hs ?_) (fun b => dp_sm (bad1 (by omega))))
  refine dp_br (fun c => dp_sm (bad2 (by omega) (by omega))) (fun c => dp_br (fun d => ?_) (fun d => dp_sm (bad2 (by omega) (by omega))))
  generalize hN : Z (iv_s Z) 6 0 = N at *
  obtain ⟨E, hE, eE, hEn⟩ : ∃ E : Nat, dz_sl 1 (2 * N) = (E : Int) ∧ dz_c (E : Int) = (E : Int) ∧ E ≤ 1024 := by
    have : N = 1 ∨ N = 2 ∨ N = 3 ∨ N = 4 ∨ N = 5 := by omega
    rcases this with rfl | rfl | rfl | rfl | rfl
    · exact ⟨4, by decide, by decide, by decide⟩
    · exact ⟨16, by decide, by decide, by decide⟩
    · exact ⟨64, by decide, by decide, by decide⟩
    · exact ⟨256, by decide, by decide, by decide⟩
    · exact ⟨1024, by decide, by decide, by decide⟩
  rw [hE, eE]
  refine dp_lp (fun k q => ∃ (r : Nat) (F : ob_O), r + k = E ∧ q = ((so_hc (Z (iv_p Z)) (Z (iv_s Z)) N r).1, (so_hc (Z (iv_p Z)) (Z (iv_s Z)) N r).2, (r : Int), ob_z Z 55 F)) ?_ 5000 E (0, -4, 0, Z) (by omega) ⟨0, Z 55, by omega, by rw [oz_i]; rfl⟩
  rintro k _ ⟨r, F, hr, rfl⟩
  have er : dz_c (r : Int) = r := dc_ir (by omega) (by omega)
  simp only [er]
  have z0 : ob_z Z 55 F 0 = Z 0 := oz_n (by decide)
  have z1 : ob_z Z 55 F 1 = Z 1 := oz_n (by decide)
  have ep : iv_p (ob_z Z 55 F) = iv_p Z := by unfold iv_p; rw [z0]
  have es : iv_s (ob_z Z 55 F) = iv_s Z := by unfold iv_s; rw [z0]
  have zp : ob_z Z 55 F (iv_p Z) = Z (iv_p Z) := oz_n (by omega)
  have zs : ob_z Z 55 F (iv_s Z) = Z (iv_s Z) := oz_n (by omega)
  by_cases hk : ¬ r = E
  · refine dp_no (by omega) ?_
    refine dp_bi (he_cls (Z := ob_z Z 55 F) (by rw [z0, z1]; exact h.1) (by rw [ep, zp]; exact hP) (by rw [ep, es, zp, zs]; exact hS) (by rw [es, zs, hN]; omega) (fun F2 => ?_))
    rw [ep, es, zp, zs, hN, oz_z]
    dsimp only
    have key : so_hc (Z (iv_p Z)) (Z (iv_s Z)) N (r + 1) = if so_he (Z (iv_p Z)) (Z (iv_s Z)) (so_hr r N) N.toNat = false then so_hc (Z (iv_p Z)) (Z (iv_s Z)) N r else ((so_hc (Z (iv_p Z)) (Z (iv_s Z)) N r).1 + 1, if dz_c (so_hc (Z (iv_p Z)) (Z (iv_s Z)) N r).2 ≠ -4 then (so_hc (Z (iv_p Z)) (Z (iv_s Z)) N r).2 else r) := rfl
    refine dp_br (fun x => dp_sm ⟨k - 1, by omega, r + 1, F2, by omega, by rw [key, if_pos x]; rfl⟩) (fun x => dp_br (fun y => dp_sm ⟨k - 1, by omega, r + 1, F2, by omega, by rw [key, if_neg x, if_pos y]; rfl⟩) (fun y => dp_sm ⟨k - 1, by omega, r + 1, F2, by omega, by rw [key, if_neg x, if_neg y]; rfl⟩))
  have hk : r = E := by omega
  subst hk
  refine dp_ck (by omega) ?_
  have mod : ∀ x : Int, x = (if a1 ≠ 0 then (so_hc (Z (iv_p Z)) (Z (iv_s Z)) N r).2 else (so_hc (Z (iv_p Z)) (Z (iv_s Z)) N r).1) → dz_p (jf_M_heard a1 (ob_z Z 55 F)) (fun q' => iv_Z (n + 1) q'.2 ∧ dz_c x = dz_c q'.1) := by
    intro x hx
    have y114 : ob_z Z 55 F 114 = Z 114 := oz_n (by decide)
    have ey : ob_z Z 55 F = ob_z (ob_z Z 55 F) 114 (Z 114) := by rw [← y114]; exact oz_i.symm
    rw [ey]
    unfold jf_M_heard
    simp only [c1, oz_s, r73, e6, hE, eE]
    refine dp_ck (by omega) (dp_ck (by omega) ?_)
    refine dp_lp (fun k q => ∃ (t : Nat) (m : ob_O), t + k = r ∧ q = ((so_hc (Z (iv_p Z)) (Z (iv_s Z)) N t).1, (so_hc (Z (iv_p Z)) (Z (iv_s Z)) N t).2, (t : Int), ob_z (ob_z Z 55 F) 114 m) ∧ (∀ j : Int, j < 420 → m 0 j = Z 114 0 j) ∧ (∀ f : Nat, f ≠ 0 → (f < 32 ∨ 34 < f) → m f = Z 114 f)) ?_ 5000 r (0, -4, 0, ob_z (ob_z Z 55 F) 114 (Z 114)) (by omega) ⟨0, Z 114, by omega, rfl, fun j _ => rfl, fun f _ _ => rfl⟩
    rintro k2 _ ⟨t, m, ht, rfl, hj, hf⟩
    have et : dz_c (t : Int) = t := dc_ir (by omega) (by omega)
    simp only [et]
    by_cases hk2 : ¬ t = r
    · refine dp_no (by omega) (dp_bi (dr_ref (Or.inr rfl) (fun m1 g1 g2 g3 => ?_)))
      have key : so_hc (Z (iv_p Z)) (Z (iv_s Z)) N (t + 1) = if so_he (Z (iv_p Z)) (Z (iv_s Z)) (so_hr t N) N.toNat = false then so_hc (Z (iv_p Z)) (Z (iv_s Z)) N t else ((so_hc (Z (iv_p Z)) (Z (iv_s Z)) N t).1 + 1, if dz_c (so_hc (Z (iv_p Z)) (Z (iv_s Z)) N t).2 ≠ -4 then (so_hc (Z (iv_p Z)) (Z (iv_s Z)) N t).2 else t) := rfl
      refine dp_lp (fun k q => ∃ (i : Nat) (m : ob_O), (i : Int) + k = N ∧ q = ((if so_he (Z (iv_p Z)) (Z (iv_s Z)) (so_hr t N) i = false then 0 else 1), (i : Int), ob_z (ob_z Z 55 F) 114 m) ∧ mr_F 420 (Z (iv_p Z)) (pf_o (Z (iv_p Z)) (Z (iv_s Z)) (so_hr t N) ob_0 i) m ∧ (∀ j : Int, j < 420 → m 0 j = Z 114 0 j) ∧ (∀ f : Nat, f ≠ 0 → (f < 32 ∨ 34 < f) → m f = Z 114 f)) ?_ 5000 N.toNat (1, 0, ob_z (ob_z Z 55 F) 114 m1) (by omega) ⟨0, m1, by omega, rfl, dr_F D_0 (fun j a b => g1 j a (by omega)), fun j a => by rw [g2 j (by omega), hj j a], fun f a b => by rw [g3 f a, hf f a b]⟩
      rintro k3 _ ⟨i, m2, hi, rfl, hF2, hj2, hf2⟩
      have ei : dz_c (i : Int) = i := dc_ir (by omega) (by omega)
      have ei2 : dz_c (74 + (i : Int)) = 74 + i := dc_ir (by omega) (by omega)
      have e10 : dz_c (if so_he (Z (iv_p Z)) (Z (iv_s Z)) (so_hr t N) i = false then 0 else 1) = (if so_he (Z (iv_p Z)) (Z (iv_s Z)) (so_hr t N) i = false then 0 else 1) := by split <;> decide
      simp only [ei, ei2, e10]
      -- the row is through
      have close : so_he (Z (iv_p Z)) (Z (iv_s Z)) (so_hr t N) i = so_he (Z (iv_p Z)) (Z (iv_s Z)) (so_hr t N) N.toNat → dz_p (Option.bind (α := Int) (if (if so_he (Z (iv_p Z)) (Z (iv_s Z)) (so_hr t N) i = false then (0 : Int) else 1) = 0 then (some (so_hc (Z (iv_p Z)) (Z (iv_s Z)) N t).2) else (if dz_c (so_hc (Z (iv_p Z)) (Z (iv_s Z)) N t).2 ≠ (-4) then (some (so_hc (Z (iv_p Z)) (Z (iv_s Z)) N t).2) else (some (t : Int)))) (fun (q13 : Int) => Option.bind (α := Int) (if (if so_he (Z (iv_p Z)) (Z (iv_s Z)) (so_hr t N) i = false then (0 : Int) else 1) = 0 then (some 0) else (some 1)) (fun (q15 : Int) => some (Sum.inr (Sum.inl ((so_hc (Z (iv_p Z)) (Z (iv_s Z)) N t).1 + q15, q13, (t : Int) + 1, ob_z (ob_z Z 55 F) 114 m2)))))) (Sum.elim (fun s' => ∃ k', k' < k3 ∧ ∃ (i : Nat) (m : ob_O), (i : Int) + k' = N ∧ s' = ((if so_he (Z (iv_p Z)) (Z (iv_s Z)) (so_hr t N) i = false then 0 else 1), (i : Int), ob_z (ob_z Z 55 F) 114 m) ∧ mr_F 420 (Z (iv_p Z)) (pf_o (Z (iv_p Z)) (Z (iv_s Z)) (so_hr t N) ob_0 i) m ∧ (∀ j : Int, j < 420 → m 0 j = Z 114 0 j) ∧ (∀ f : Nat, f ≠ 0 → (f < 32 ∨ 34 < f) → m f = Z 114 f)) (Sum.elim (fun s' => ∃ k', k' < k2 ∧ ∃ (t : Nat) (m : ob_O), t + k' = r ∧ s' = ((so_hc (Z (iv_p Z)) (Z (iv_s Z)) N t).1, (so_hc (Z (iv_p Z)) (Z (iv_s Z)) N t).2, (t : Int), ob_z (ob_z Z 55 F) 114 m) ∧ (∀ j : Int, j < 420 → m 0 j = Z 114 0 j) ∧ (∀ f : Nat, f ≠ 0 → (f < 32 ∨ 34 < f) → m f = Z 114 f)) (fun q' : Int × dz_Z => iv_Z (n + 1) q'.2 ∧ dz_c x = dz_c q'.1))) := by
        intro hcl
        rw [hcl]
        by_cases y : so_he (Z (iv_p Z)) (Z (iv_s Z)) (so_hr t N) N.toNat = false
        · rw [if_pos y]
          refine dp_bi (dp_ck rfl (dp_sm (dp_bi (dp_ck rfl (dp_sm (dp_sm ⟨k2 - 1, by omega, t + 1, m2, by omega, ?_, hj2, hf2⟩))))))
          rw [key, if_pos y, Int.add_zero]
          rfl
        · rw [if_neg y]
          refine dp_bi (dp_no (by decide) (dp_br (fun z => dp_sm (dp_bi (dp_no (by decide) (dp_sm (dp_sm ⟨k2 - 1, by omega, t + 1, m2, by omega, ?_, hj2, hf2⟩))))) (fun z => dp_sm (dp_bi (dp_no (by decide) (dp_sm (dp_sm ⟨k2 - 1, by omega, t + 1, m2, by omega, ?_, hj2, hf2⟩)))))))
          · rw [key, if_neg y, if_pos z]
            rfl
          · rw [key, if_neg y, if_neg z]
            rfl
      by_cases hk3 : (i : Int) = N
      · refine dp_ck (by omega) (close ?_)
        rw [show N.toNat = i by omega]
      · refine dp_no (by omega) (dp_br (fun y => close ?_) (fun y => ?_))
        · have : so_he (Z (iv_p Z)) (Z (iv_s Z)) (so_hr t N) i = false := by
            by_cases q : so_he (Z (iv_p Z)) (Z (iv_s Z)) (so_hr t N) i = false
            · exact q
            · rw [if_neg q] at y; omega
          rw [this, he_f i _ this (by omega)]
        · have hti : so_he (Z (iv_p Z)) (Z (iv_s Z)) (so_hr t N) i = true := by
            by_cases q : so_he (Z (iv_p Z)) (Z (iv_s Z)) (so_hr t N) i = false
            · rw [if_pos q] at y; exact absurd rfl y
            · exact Bool.eq_true_of_not_eq_false q
          rw [hr_s (by omega) (by omega) (by omega)]
          have hv := hr_r (row := (t : Int)) (nn := N) i
          have hb := pf_B (P := Z (iv_p Z)) (S := Z (iv_s Z)) (R := so_hr t N) (t := 0) hP hS (dr_B D_0 (by decide) (by decide)) i (by omega) (fun i hi => hr_r i)
          refine dp_bi (mf_sec (e := 420) (Or.inr rfl) hP hS hv hb (by omega) (by omega) (mrP_m rP (fun f a b => hf2 f (by omega) (by omega))) (mrW_m rS.1 hP (fun j a b => hj2 j (by omega))) hF2 (fun m3 f1 f2 f3 => ?_))
          dsimp only
          have t5 : m3 0 (74 + i) = Z (iv_s Z) 5 i := by
            have := rS.2.2.2.2 i (by omega) (by omega)
            rw [Int.zero_add] at this
            rw [f3 _ (by omega), hj2 _ (by omega), this]
          rw [oz_s, t5]
          have keyh : so_he (Z (iv_p Z)) (Z (iv_s Z)) (so_hr t N) (i + 1) = (so_he (Z (iv_p Z)) (Z (iv_s Z)) (so_hr t N) i && decide (dz_c (pf_t (Z (iv_p Z)) (Z (iv_s Z)) (so_hr t N) ob_0 i) = dz_c (Z (iv_s Z) 5 i))) := rfl
          have nj : ∀ j : Int, j < 420 → m3 0 j = Z 114 0 j := fun j a => by rw [f3 j (by omega), hj2 j a]
          have nf : ∀ f : Nat, f ≠ 0 → (f < 32 ∨ 34 < f) → m3 f = Z 114 f := fun f a b => by rw [f2 f a (by omega) (by omega) (by omega), hf2 f a b]
          refine dp_ck (by omega) (dp_br (fun z => dp_sm ⟨k3 - 1, by omega, i + 1, m3, by omega, ?_, f1, nj, nf⟩) (fun z => dp_sm ⟨k3 - 1, by omega, i + 1, m3, by omega, ?_, f1, nj, nf⟩))
          · rw [keyh, hti, decide_eq_false z]
            rfl
          · rw [keyh, hti, decide_eq_true (by
              have hz : ¬ dz_c (so_sec (Z (iv_p Z)) (Z (iv_s Z)) (so_hr t N i) (pf_o (Z (iv_p Z)) (Z (iv_s Z)) (so_hr t N) ob_0 i)).1 ≠ dz_c (Z (iv_s Z) 5 i) := z
              unfold pf_t
              omega)]
            rfl
    have hk2 : t = r := by omega
    subst hk2
    have fin : iv_Z (n + 1) (ob_z (ob_z Z 55 F) 114 m) := by
      refine iv_fin h (fun b _ _ h55 _ h114 _ => by rw [oz_n h114, oz_n h55]) ?_ (fun f a b => by rw [oz_s]; exact hf f a (by omega)) (fun j a b => by rw [oz_s]; exact hj j b)
      rw [oz_s, oz_n (show iv_s Z ≠ 114 by omega), oz_n (show iv_s Z ≠ 55 by omega), oz_n (show (46 : Nat) ≠ 114 by decide), oz_n (show (46 : Nat) ≠ 55 by decide)]
      exact iv_In (iv_Im h.2.2.2.1 h.2.1 (fun j a b => hj j (by omega))) (by omega)
    refine dp_ck (by omega) (dp_br (fun y => dp_sm ⟨fin, ?_⟩) (fun y => dp_sm ⟨fin, ?_⟩))
    · rw [hx, if_pos y]
    · rw [hx, if_neg y]
  exact dp_br (fun y => dp_sm (mod _ (by rw [if_pos y]))) (fun y => dp_sm (mod _ (by rw [if_neg y])))
end pt
