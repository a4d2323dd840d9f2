/-! heard, lasts -/
def so_hr (row nn : Int) : Int → Int := fun i => dz_an (dz_ur row (2 * (nn - 1 - i))) 3
def so_he (P S : ob_O) (R : Int → Int) : Nat → Bool
  | 0 => true
  | k + 1 => so_he P S R k && decide (dz_c (pf_t P S R ob_0 k) = dz_c (S 5 k))
def so_hc (P S : ob_O) (nn : Int) : Nat → Int × Int
  | 0 => (0, -4)
  | r + 1 => if so_he P S (so_hr r nn) nn.toNat = false then so_hc P S nn r else ((so_hc P S nn r).1 + 1, if dz_c (so_hc P S nn r).2 ≠ -4 then (so_hc P S nn r).2 else r)
def so_lo (P S : ob_O) (w : Int) : Nat → ob_O
  | 0 => ob_0
  | t + 1 => pf_o P S (S (20 + w.toNat)) (so_lo P S w t) (S 3 w).toNat
def so_la (P S : ob_O) (w s : Int) : Nat → Nat → Int
  | 0, _ => -4
  | k + 1, t => if so_brk P (so_lo P S w (t + 1)) s = false then so_la P S w s k (t + 1) else ((t : Int) + 1)
section pt
variable {n : Nat} {P S o m m0 : ob_O} {w a1 a2 row nn : Int} {Z Y Z' : dz_Z} {R : Int → Int}
theorem he_f : ∀ k j : Nat, so_he P S R k = false → k ≤ j → so_he P S R j = false
  | k, 0, h, hj => by
    have : k = 0 := by omega
    subst this
    exact h
  | k, j + 1, h, hj => by
    by_cases e : k = j + 1
    · rw [← e]; exact h
    · show (so_he P S R j && _) = false
      rw [he_f k j h (by omega)]
      rfl
theorem hr_r (i : Int) : 0 ≤ so_hr row nn i ∧ so_hr row nn i ≤ 9 := by
  unfold so_hr
  rw [bn_3]
  omega
theorem hr_s (hrow : 0 ≤ row ∧ row ≤ 1024) (hn : 1 ≤ nn ∧ nn ≤ 5) {i : Int} (hi : 0 ≤ i ∧ i < nn) : dz_an (dz_sr row (2 * (nn - 1 - i))) 3 = so_hr row nn i := by
  unfold so_hr
  have hc : dz_c row = row := dc_ir hrow.1 (by omega)
  have hm : row % 4294967296 = row := by omega
  have : nn - 1 - i = 0 ∨ nn - 1 - i = 1 ∨ nn - 1 - i = 2 ∨ nn - 1 - i = 3 ∨ nn - 1 - i = 4 := by omega
  rw [bn_3, bn_3]
  rcases this with e | e | e | e | e
  · rw [e, show (2 : Int) * 0 = 0 by rfl, bu_r row 0 0 (by decide) (Or.inr (by omega)), bs_r row 0 0 (by decide), hc, hm]
  · rw [e, show (2 : Int) * 1 = 2 by rfl, bu_r row 2 2 (by decide) (Or.inl (by decide)), bs_r row 2 2 (by decide), hc, hm]
  · rw [e, show (2 : Int) * 2 = 4 by rfl, bu_r row 4 4 (by decide) (Or.inl (by decide)), bs_r row 4 4 (by decide), hc, hm]
  · rw [e, show (2 : Int) * 3 = 6 by rfl, bu_r row 6 6 (by decide) (Or.inl (by decide)), bs_r row 6 6 (by decide), hc, hm]
  · rw [e, show (2 : Int) * 4 = 8 by rfl, bu_r row 8 8 (by decide) (Or.inl (by decide)), bs_r row 8 8 (by decide), hc, hm]
theorem he_cls (hr : iv_R (Z 0) (Z 1)) (hP : so_P (Z (iv_p Z))) (hS : so_S (Z (iv_p Z)) (Z (iv_s Z))) (hn : 1 ≤ Z (iv_s Z) 6 0 ∧ Z (iv_s Z) 6 0 ≤ 5) {K : Bool × dz_Z → Prop} (k : ∀ F : ob_O, K (so_he (Z (iv_p Z)) (Z (iv_s Z)) (so_hr row (Z (iv_s Z) 6 0)) (Z (iv_s Z) 6 0).toNat, ob_z Z 55 F)) : dz_p (jf_O_soundsAsTheTune row Z) K := by
  have hp := iv_isP hr
  have hs := iv_isS hr
  have hs2 := iv_s2 hr
  have hp2 := iv_p2 hr
  have e6 : dz_c (Z (iv_s Z) 6 0) = Z (iv_s Z) 6 0 := dc_ir (by omega) (by omega)
  have z0 : ∀ F : ob_O, ob_z Z 55 F 0 = Z 0 := fun F => oz_n (by decide)
  have zp : ∀ F : ob_O, ob_z Z 55 F (iv_p Z) = Z (iv_p Z) := fun F => oz_n (by omega)
  have zs : ∀ F : ob_O, ob_z Z 55 F (iv_s Z) = Z (iv_s Z) := fun F => oz_n (by omega)
  unfold jf_O_soundsAsTheTune
  refine dp_bi (dp_eq dr_cls ?_)
  simp only [z0, show (Z 0 3 0).toNat = iv_s Z from rfl, zs, e6]
  refine dp_ck hs ?_
  refine dp_lp (fun k q => ∃ (r : Nat) (F : ob_O), (r : Int) + k = Z (iv_s Z) 6 0 ∧ q = ((r : Int), ob_z Z 55 F) ∧ so_qF (pf_o (Z (iv_p Z)) (Z (iv_s Z)) (so_hr row (Z (iv_s Z) 6 0)) ob_0 r) F ∧ so_he (Z (iv_p Z)) (Z (iv_s Z)) (so_hr row (Z (iv_s Z) 6 0)) r = true) ?_ 5000 (Z (iv_s Z) 6 0).toNat (0, ob_z Z 55 (so_dry (Z 55))) (by omega) ⟨0, _, by omega, rfl, D_qF dr_f, rfl⟩
  rintro k1 _ ⟨r, F, hr', rfl, hF, hh⟩
  have er : dz_c (r : Int) = r := dc_ir (by omega) (by omega)
  simp only [z0, show (Z 0 3 0).toNat = iv_s Z from rfl, show (Z 0 2 0).toNat = iv_p Z from rfl, er]
  by_cases hk : (r : Int) = Z (iv_s Z) 6 0
  · refine dp_ck (by omega) (dp_sm ?_)
    have := k F
    rw [show (Z (iv_s Z) 6 0).toNat = r by omega, hh] at this
    exact this
  · refine dp_no (by omega) (dp_le (dp_ck hp (dp_ck hs ?_)))
    have hc := cf_sec (F := 55) (p := iv_p Z) (q := iv_s Z) (Z := ob_z Z 55 F) (v := so_hr row (Z (iv_s Z) 6 0) r) (Or.inr (Or.inl rfl)) hp hs (by rw [zp]; exact hP) (by rw [zp, zs]; exact hS)
    rw [zp, zs, oz_s, oz_z] at hc
    refine dp_bi (dp_eq hc ?_)
    have hq := qF_sec (P := Z (iv_p Z)) (S := Z (iv_s Z)) (v := so_hr row (Z (iv_s Z) 6 0) r) hF
    simp only [z0, show (Z 0 3 0).toNat = iv_s Z from rfl, zs, hq.1]
    have key : so_he (Z (iv_p Z)) (Z (iv_s Z)) (so_hr row (Z (iv_s Z) 6 0)) (r + 1) = (so_he (Z (iv_p Z)) (Z (iv_s Z)) (so_hr row (Z (iv_s Z) 6 0)) r && decide (dz_c (pf_t (Z (iv_p Z)) (Z (iv_s Z)) (so_hr row (Z (iv_s Z) 6 0)) ob_0 r) = dz_c (Z (iv_s Z) 5 r))) := rfl
    refine dp_ck hs (dp_ck (by omega) (dp_br (fun c => dp_sm ⟨k1 - 1, by omega, r + 1, _, by omega, rfl, hq.2, ?_⟩) (fun c => dp_sm ?_)))
    · have c' : dz_c (pf_t (Z (iv_p Z)) (Z (iv_s Z)) (so_hr row (Z (iv_s Z) 6 0)) ob_0 r) = dz_c (Z (iv_s Z) 5 r) := c
      rw [key, hh, decide_eq_true c']; rfl
    · have c' : ¬ dz_c (pf_t (Z (iv_p Z)) (Z (iv_s Z)) (so_hr row (Z (iv_s Z) 6 0)) ob_0 r) = dz_c (Z (iv_s Z) 5 r) := c
      have := k (so_sec (Z (iv_p Z)) (Z (iv_s Z)) (so_hr row (Z (iv_s Z) 6 0) r) F).2
      rw [he_f (r + 1) _ (by rw [key, decide_eq_false c', Bool.and_false]) (by omega)] at this
      exact this
theorem op_heard (h : iv_Z n Z) (c1 : dz_c a1 = a1) : dz_p (jf_O_heard a1 Z) (fun q => dz_p (jf_M_heard a1 q.2) (fun q' => iv_Z (n + 1) q'.2 ∧ dz_c q.1 = dz_c q'.1)) := by
  have hp := iv_isP h.1
  have hs := iv_isS h.1
  have hs2 := iv_s2 h.1
  have hp2 := iv_p2 h.1
  have hP := h.2.1
  have rP := h.2.2.1
  obtain ⟨hS, rS, hB, rF⟩ := h.2.2.2.1
  have h6 := hS.2.2.2.2.1
  have r73 := rS.2.2.2.1
  rw [Int.zero_add] at r73
  have e6 : dz_c (Z (iv_s Z) 6 0) = Z (iv_s Z) 6 0 := dc_ir h6.1 (by omega)
  unfold jf_O_heard
  simp only [c1, show (Z 0 3 0).toNat = iv_s Z from rfl, e6]
  have bad1 : ¬(0 ≤ a1 ∧ a1 ≤ 1) → dz_p (jf_M_heard a1 Z) (fun q' => iv_Z (n + 1) q'.2 ∧ dz_c (-1) = dz_c q'.1) := by
    intro hv
    unfold jf_M_heard
    rw [c1]
    exact dp_no hv (dp_sm ⟨iv_nx h, rfl⟩)
  have bad2 : (0 ≤ a1 ∧ a1 ≤ 1) → ¬(1 ≤ Z (iv_s Z) 6 0 ∧ Z (iv_s Z) 6 0 ≤ 5) → dz_p (jf_M_heard a1 Z) (fun q' => iv_Z (n + 1) q'.2 ∧ dz_c (-2) = dz_c q'.1) := by
    intro hv hw
    unfold jf_M_heard
    rw [c1, r73, e6]
    exact dp_ck hv (dp_no hw (dp_sm ⟨iv_nx h, rfl⟩))
  refine dp_br (fun a => dp_sm (bad1 (by omega))) (fun a => dp_br (fun b => dp_ck hs ?_) (fun b => dp_sm (bad1 (by omega))))
  refine dp_br (fun c => dp_sm (bad2 (by omega) (by omega))) (fun c => dp_br (fun d => ?_) (fun d => dp_sm (bad2 (by omega) (by omega))))
  generalize hN : Z (iv_s Z) 6 0 = N at *
  obtain ⟨E, hE, eE, hEn⟩ : ∃ E : Nat, dz_sl 1 (2 * N) = (E : Int) ∧ dz_c (E : Int) = (E : Int) ∧ E ≤ 1024 := by
    have : N = 1 ∨ N = 2 ∨ N = 3 ∨ N = 4 ∨ N = 5 := by omega
    rcases this with rfl | rfl | rfl | rfl | rfl
    · exact ⟨4, by decide, by decide, by decide⟩
    · exact ⟨16, by decide, by decide, by decide⟩
    · exact ⟨64, by decide, by decide, by decide⟩
    · exact ⟨256, by decide, by decide, by decide⟩
    · exact ⟨1024, by decide, by decide, by decide⟩
  rw [hE, eE]
  refine dp_lp (fun k q => ∃ (r : Nat) (F : ob_O), r + k = E ∧ q = ((so_hc (Z (iv_p Z)) (Z (iv_s Z)) N r).1, (so_hc (Z (iv_p Z)) (Z (iv_s Z)) N r).2, (r : Int), ob_z Z 55 F)) ?_ 5000 E (0, -4, 0, Z) (by omega) ⟨0, Z 55, by omega, by rw [oz_i]; rfl⟩
  rintro k _ ⟨r, F, hr, rfl⟩
  have er : dz_c (r : Int) = r := dc_ir (by omega) (by omega)
  simp only [er]
  have z0 : ob_z Z 55 F 0 = Z 0 := oz_n (by decide)
  have z1 : ob_z Z 55 F 1 = Z 1 := oz_n (by decide)
  have ep : iv_p (ob_z Z 55 F) = iv_p Z := by unfold iv_p; rw [z0]
  have es : iv_s (ob_z Z 55 F) = iv_s Z := by unfold iv_s; rw [z0]
  have zp : ob_z Z 55 F (iv_p Z) = Z (iv_p Z) := oz_n (by omega)
  have zs : ob_z Z 55 F (iv_s Z) = Z (iv_s Z) := oz_n (by omega)
  by_cases hk : ¬ r = E
  · refine dp_no (by omega) ?_
    refine dp_bi (he_cls (Z := ob_z Z 55 F) (by rw [z0, z1]; exact h.1) (by rw [ep, zp]; exact hP) (by rw [ep, es, zp, zs]; exact hS) (by rw [es, zs, hN]; omega) (fun F2 => ?_))
    rw [ep, es, zp, zs, hN, oz_z]
    dsimp only
    have key : so_hc (Z (iv_p Z)) (Z (iv_s Z)) N (r + 1) = if so_he (Z (iv_p Z)) (Z (iv_s Z)) (so_hr r N) N.toNat = false then so_hc (Z (iv_p Z)) (Z (iv_s Z)) N r else ((so_hc (Z (iv_p Z)) (Z (iv_s Z)) N r).1 + 1, if dz_c (so_hc (Z (iv_p Z)) (Z (iv_s Z)) N r).2 ≠ -4 then (so_hc (Z (iv_p Z)) (Z (iv_s Z)) N r).2 else r) := rfl
    refine dp_br (fun x => dp_sm ⟨k - 1, by omega, r + 1, F2, by omega, by rw [key, if_pos x]; rfl⟩) (fun x => dp_br (fun y => dp_sm ⟨k - 1, by omega, r + 1, F2, by omega, by rw [key, if_neg x, if_pos y]; rfl⟩) (fun y => dp_sm ⟨k - 1, by omega, r + 1, F2, by omega, by rw [key, if_neg x, if_neg y]; rfl⟩))
  have hk : r = E := by omega
  subst hk
  refine dp_ck (by omega) ?_
  have mod : ∀ x : Int, x = (if a1 ≠ 0 then (so_hc (Z (iv_p Z)) (Z (iv_s Z)) N r).2 else (so_hc (Z (iv_p Z)) (Z (iv_s Z)) N r).1) → dz_p (jf_M_heard a1 (ob_z Z 55 F)) (fun q' => iv_Z (n + 1) q'.2 ∧ dz_c x = dz_c q'.1) := by
    intro x hx
    have y114 : ob_z Z 55 F 114 = Z 114 := oz_n (by decide)
    have ey : ob_z Z 55 F = ob_z (ob_z Z 55 F) 114 (Z 114) := by rw [← y114]; exact oz_i.symm
    rw [ey]
    unfold jf_M_heard
    simp only [c1, oz_s, r73, e6, hE, eE]
    refine dp_ck (by omega) (dp_ck (by omega) ?_)
    refine dp_lp (fun k q => ∃ (t : Nat) (m : ob_O), t + k = r ∧ q = ((so_hc (Z (iv_p Z)) (Z (iv_s Z)) N t).1, (so_hc (Z (iv_p Z)) (Z (iv_s Z)) N t).2, (t : Int), ob_z (ob_z Z 55 F) 114 m) ∧ (∀ j : Int, j < 420 → m 0 j = Z 114 0 j) ∧ (∀ f : Nat, f ≠ 0 → (f < 32 ∨ 34 < f) → m f = Z 114 f)) ?_ 5000 r (0, -4, 0, ob_z (ob_z Z 55 F) 114 (Z 114)) (by omega) ⟨0, Z 114, by omega, rfl, fun j _ => rfl, fun f _ _ => rfl⟩
    rintro k2 _ ⟨t, m, ht, rfl, hj, hf⟩
    have et : dz_c (t : Int) = t := dc_ir (by omega) (by omega)
    simp only [et]
    by_cases hk2 : ¬ t = r
    · refine dp_no (by omega) (dp_bi (dr_ref (Or.inr rfl) (fun m1 g1 g2 g3 => ?_)))
      have key : so_hc (Z (iv_p Z)) (Z (iv_s Z)) N (t + 1) = if so_he (Z (iv_p Z)) (Z (iv_s Z)) (so_hr t N) N.toNat = false then so_hc (Z (iv_p Z)) (Z (iv_s Z)) N t else ((so_hc (Z (iv_p Z)) (Z (iv_s Z)) N t).1 + 1, if dz_c (so_hc (Z (iv_p Z)) (Z (iv_s Z)) N t).2 ≠ -4 then (so_hc (Z (iv_p Z)) (Z (iv_s Z)) N t).2 else t) := rfl
      refine dp_lp (fun k q => ∃ (i : Nat) (m : ob_O) (g : Int), (i : Int) + k = N ∧ q = (g, (i : Int), ob_z (ob_z Z 55 F) 114 m) ∧ (dz_c g = g ∧ (g = 0 ↔ so_he (Z (iv_p Z)) (Z (iv_s Z)) (so_hr t N) i = false)) ∧ mr_F 420 (Z (iv_p Z)) (pf_o (Z (iv_p Z)) (Z (iv_s Z)) (so_hr t N) ob_0 i) m ∧ (∀ j : Int, j < 420 → m 0 j = Z 114 0 j) ∧ (∀ f : Nat, f ≠ 0 → (f < 32 ∨ 34 < f) → m f = Z 114 f)) ?_ 5000 N.toNat (1, 0, ob_z (ob_z Z 55 F) 114 m1) (by omega) ⟨0, m1, 1, by omega, rfl, ⟨by decide, ⟨fun q => absurd q (by decide), fun q => absurd q (by show ¬ true = false; decide)⟩⟩, dr_F D_0 (fun j a b => g1 j a (by omega)), fun j a => by rw [g2 j (by omega), hj j a], fun f a b => by rw [g3 f a, hf f a b]⟩
      rintro k3 _ ⟨i, m2, g, hi, rfl, ⟨eg, hg⟩, hF2, hj2, hf2⟩
      have ei : dz_c (i : Int) = i := dc_ir (by omega) (by omega)
      have ei2 : dz_c (74 + (i : Int)) = 74 + i := dc_ir (by omega) (by omega)
      simp only [ei, ei2, eg]
      by_cases hcl : so_he (Z (iv_p Z)) (Z (iv_s Z)) (so_hr t N) i = so_he (Z (iv_p Z)) (Z (iv_s Z)) (so_hr t N) N.toNat ∧ ((i : Int) = N ∨ g = 0)
      · rw [hcl.1] at hg
        have : ∀ c d : Prop, [Decidable c] → [Decidable d] → (c ∨ d) → ∀ (a b : Option ((Int × Int × dz_Z) ⊕ ((Int × Int × Int × dz_Z) ⊕ (Int × dz_Z)))) (K : _ → Prop), dz_p a K → dz_p (if c then a else if d then a else b) K := by
          intro c d _ _ hcd a b K ha
          by_cases hc : c
          · exact dp_ck hc ha
          · exact dp_no hc (dp_ck (by rcases hcd with q | q; exact absurd q hc; exact q) ha)
        refine this _ _ (by omega) _ _ _ ?_
        by_cases y : so_he (Z (iv_p Z)) (Z (iv_s Z)) (so_hr t N) N.toNat = false
        · refine dp_bi (dp_ck (hg.2 y) (dp_sm (dp_bi (dp_ck (hg.2 y) (dp_sm (dp_sm ⟨k2 - 1, by omega, t + 1, m2, by omega, ?_, hj2, hf2⟩))))))
          rw [key, if_pos y, Int.add_zero]
          rfl
        · have y' : ¬ g = 0 := fun q => y (hg.1 q)
          refine dp_bi (dp_no y' (dp_br (fun z => dp_sm (dp_bi (dp_no y' (dp_sm (dp_sm ⟨k2 - 1, by omega, t + 1, m2, by omega, ?_, hj2, hf2⟩))))) (fun z => dp_sm (dp_bi (dp_no y' (dp_sm (dp_sm ⟨k2 - 1, by omega, t + 1, m2, by omega, ?_, hj2, hf2⟩)))))))
          · rw [key, if_neg y, if_pos z]
            rfl
          · rw [key, if_neg y, if_neg z]
            rfl
      · have hni : ¬ (i : Int) = N := fun q => hcl ⟨by rw [show N.toNat = i by omega], Or.inl q⟩
        have hg0 : ¬ g = 0 := fun q => hcl ⟨by have := hg.1 q; rw [this, he_f i _ this (by omega)], Or.inr q⟩
        have hti : so_he (Z (iv_p Z)) (Z (iv_s Z)) (so_hr t N) i = true := by
          cases q : so_he (Z (iv_p Z)) (Z (iv_s Z)) (so_hr t N) i
          · exact absurd (hg.2 q) hg0
          · rfl
        refine dp_no (by omega) (dp_no hg0 ?_)
        rw [hr_s (by omega) (by omega) (by omega)]
        have hv := hr_r (row := (t : Int)) (nn := N) i
        have hb := pf_B (P := Z (iv_p Z)) (S := Z (iv_s Z)) (R := so_hr t N) (t := 0) hP hS (dr_B D_0 (by decide) (by decide)) i (by omega) (fun i hi => hr_r i)
        refine dp_bi (mf_sec (e := 420) (Or.inr rfl) hP hS hv hb (by omega) (by omega) (mrP_m rP (fun f a b => hf2 f (by omega) (by omega))) (mrW_m rS.1 hP (fun j a b => hj2 j (by omega))) hF2 (fun m3 f1 f2 f3 => ?_))
        dsimp only
        have t5 : m3 0 (74 + i) = Z (iv_s Z) 5 i := by
          have := rS.2.2.2.2 i (by omega) (by omega)
          rw [Int.zero_add] at this
          rw [f3 _ (by omega), hj2 _ (by omega), this]
        simp only [oz_s, t5]
        have keyh : so_he (Z (iv_p Z)) (Z (iv_s Z)) (so_hr t N) (i + 1) = (so_he (Z (iv_p Z)) (Z (iv_s Z)) (so_hr t N) i && decide (dz_c (pf_t (Z (iv_p Z)) (Z (iv_s Z)) (so_hr t N) ob_0 i) = dz_c (Z (iv_s Z) 5 i))) := rfl
        have nj : ∀ j : Int, j < 420 → m3 0 j = Z 114 0 j := fun j a => by rw [f3 j (by omega), hj2 j a]
        have nf : ∀ f : Nat, f ≠ 0 → (f < 32 ∨ 34 < f) → m3 f = Z 114 f := fun f a b => by rw [f2 f a (by omega) (by omega) (by omega), hf2 f a b]
        refine dp_ck (by omega) (dp_br (fun z => dp_sm ⟨k3 - 1, by omega, i + 1, m3, 0, by omega, rfl, ⟨by decide, ?_⟩, f1, nj, nf⟩) (fun z => dp_sm ⟨k3 - 1, by omega, i + 1, m3, 1, by omega, rfl, ⟨by decide, ?_⟩, f1, nj, nf⟩))
        · have z' : ¬ dz_c (pf_t (Z (iv_p Z)) (Z (iv_s Z)) (so_hr t N) ob_0 i) = dz_c (Z (iv_s Z) 5 i) := z
          rw [keyh, hti, decide_eq_false z']
          exact ⟨fun _ => rfl, fun _ => rfl⟩
        · have z' : ¬ ¬ dz_c (pf_t (Z (iv_p Z)) (Z (iv_s Z)) (so_hr t N) ob_0 i) = dz_c (Z (iv_s Z) 5 i) := z
          rw [keyh, hti, decide_eq_true (by omega)]
          exact ⟨fun q => absurd q (by decide), fun q => absurd q (by decide)⟩
    have hk2 : t = r := by omega
    subst hk2
    have fin : iv_Z (n + 1) (ob_z (ob_z Z 55 F) 114 m) := by
      refine iv_fin h (fun b _ _ h55 _ h114 _ => by rw [oz_n h114, oz_n h55]) ?_ (fun f a b => by rw [oz_s]; exact hf f a (by omega)) (fun j a b => by rw [oz_s]; exact hj j b)
      rw [oz_s, oz_n (show iv_s Z ≠ 114 by omega), oz_n (show iv_s Z ≠ 55 by omega), oz_n (show (46 : Nat) ≠ 114 by decide), oz_n (show (46 : Nat) ≠ 55 by decide)]
      exact iv_In (iv_Im h.2.2.2.1 h.2.1 (fun j a b => hj j (by omega))) (by omega)
    refine dp_ck (by omega) (dp_br (fun y => dp_sm ⟨fin, ?_⟩) (fun y => dp_sm ⟨fin, ?_⟩))
    · rw [hx, if_pos y]
    · rw [hx, if_neg y]
  exact dp_br (fun y => dp_sm (mod _ (by rw [if_pos y]))) (fun y => dp_sm (mod _ (by rw [if_neg y])))
/-- the reference plays a shower on, whatever was loud before -/
theorem mp_s2 {t : Nat} (hP : so_P P) (hS : so_S P S) (rP : mr_P P m0) (rS : mr_V P S m0) (hw : 0 ≤ w ∧ w < P 10 0) (ht : t + 12 ≤ 1200) (hB : so_B (324 * t) (400000 * t) o) (rF : mr_F 420 P o m0) {K : dz_Z → Prop} (k : ∀ m' : ob_O, mr_F 420 P (pf_o P S (S (20 + w.toNat)) o (S 3 w).toNat) m' → (∀ j : Int, j < 420 → m' 0 j = m0 0 j) → (∀ f : Nat, f ≠ 0 → (f < 32 ∨ 37 < f) → m' f = m0 f) → K (ob_z Y 114 m')) : dz_p (jf_M_showers w (ob_z Y 114 m0)) K := by
  have h10 := hP.2.2.2.2.2.2.1
  have h6 := hP.2.2.2.2.1
  have hl := hS.2.2.2.1 w hw.1 hw.2
  have rl := rS.2.2.1 w hw.1 hw.2
  simp only [Int.zero_add] at rl
  have hR : ∀ i : Nat, (i : Int) < S 3 w → 0 ≤ S (20 + w.toNat) i ∧ S (20 + w.toNat) i ≤ 9 := fun i hi => hl.2 i (by omega) hi
  generalize hRg : S (20 + w.toNat) = R at *
  have e34 : dz_c (34 + 13 * w) = 34 + 13 * w := dc_ir (by omega) (by omega)
  have e1 : dz_c (S 3 w) = S 3 w := dc_ir (by omega) (by omega)
  unfold jf_M_showers
  refine dp_lp (fun k s => ∃ (r : Nat) (m : ob_O), (r : Int) + k = S 3 w ∧ s = ((r : Int), ob_z Y 114 m) ∧ mr_F 420 P (pf_o P S R o r) m ∧ (∀ j : Int, j < 420 → m 0 j = m0 0 j) ∧ (∀ f : Nat, f ≠ 0 → (f < 32 ∨ 37 < f) → m f = m0 f)) ?_ 5000 (S 3 w).toNat (0, ob_z Y 114 m0) (by omega) ⟨0, m0, by omega, rfl, rF, fun j _ => rfl, fun f _ _ => rfl⟩
  rintro k1 _ ⟨r, m, hr, rfl, i3, i4, i5⟩
  have er : dz_c (r : Int) = r := dc_ir (by omega) (by omega)
  have elen : jf_M_lengthOf w (ob_z Y 114 m) = some (S 3 w) := by
    unfold jf_M_lengthOf
    rw [e34, if_pos (by omega), oz_s, i4 _ (by omega), rl.1]
  refine dp_bi (dp_eq elen ?_)
  rw [e1, er]
  by_cases hk : (r : Int) = S 3 w
  · refine dp_ck (by omega) (dp_sm ?_)
    have e : (S 3 w).toNat = r := by omega
    refine k m ?_ i4 i5
    rw [e]; exact i3
  · have e35 : dz_c (34 + 13 * w + 1 + (r : Int)) = 34 + 13 * w + 1 + r := dc_ir (by omega) (by omega)
    have hv := hR r (by omega)
    have hrain : m 0 (34 + 13 * w + 1 + r) = R r := by rw [i4 _ (by omega)]; exact rl.2 r (by omega) (by omega)
    have hb := pf_B (R := R) hP hS hB r (by omega) (fun i hi => hR i (by omega))
    simp only [e35, oz_s, hrain]
    refine dp_no (by omega) (dp_ck (by omega) ?_)
    refine dp_bi (mf_sec (e := 420) (Or.inr rfl) hP hS hv hb (by omega) (by omega) (mrP_m rP (fun f a b => i5 f (by omega) (by omega))) (mrW_m rS.1 hP (fun j a b => i4 j (by omega))) i3 (fun m1 f1 f2 f3 => dp_ck (by omega) (dp_le ?_)))
    dsimp only
    rw [oz_uz]
    refine dp_bi (dp_eq (sm_ms (e := 420) (q := 126) (by decide) (by decide)) (dp_le ?_))
    rw [oz_uz]
    have m3 : m1 3 0 = P 6 0 := by rw [f2 3 (by decide) (by decide) (by decide) (by decide), i5 3 (by decide) (by decide)]; exact rP.2.2.2.2.1
    have e6 : dz_c (P 6 0) = P 6 0 := dc_ir h6.1 (by omega)
    have F1 : mr_F 420 P (pf_o P S R o (r + 1)) m1 := f1
    generalize hm2 : ob_u (ob_u m1 35 r (so_sec P S (R r) (pf_o P S R o r)).1) 36 r _ = m2
    have m2f : ∀ f : Nat, f ≠ 35 → f ≠ 36 → m2 f = m1 f := fun f a b => by rw [← hm2, ou_ff b, ou_ff a]
    refine dp_lp (fun k s => ∃ (q : Nat) (v : Int), (q : Int) + k = P 6 0 ∧ s = ((q : Int), ob_z Y 114 (ob_u m2 37 0 v))) ?_ 5000 (P 6 0).toNat (0, ob_z Y 114 m2) (by omega) ⟨0, m2 37 0, by omega, by rw [ou_m]; rfl⟩
    rintro k2 _ ⟨q, v, hq, rfl⟩
    have eq : dz_c (q : Int) = q := dc_ir (by omega) (by omega)
    have eq2 : dz_c (546 + (q : Int)) = 546 + q := dc_ir (by omega) (by omega)
    simp only [oz_s, eq, eq2, ou_f (show (3 : Nat) ≠ 37 by decide), ou_f (show (0 : Nat) ≠ 37 by decide), m2f 3 (by decide) (by decide), m3, e6]
    by_cases hk2 : (q : Int) = P 6 0
    · refine dp_ck (by omega) (dp_sm ⟨k1 - 1, by omega, r + 1, _, by omega, rfl, mrF_m F1 (fun j a b => ?_), fun j hj => ?_, fun f a b => ?_⟩)
      · rw [ou_f (by decide), m2f 0 (by decide) (by decide)]
      · rw [ou_f (by decide), m2f 0 (by decide) (by decide), f3 j (by omega)]; exact i4 j hj
      · rw [ou_ff (by omega), m2f f (by omega) (by omega), f2 f a (by omega) (by omega) (by omega)]; exact i5 f a b
    · refine dp_no (by omega) (dp_ck (by omega) (dp_bi (dp_br (fun c => dp_sm (dp_le (dp_sm ⟨k2 - 1, by omega, q + 1, dz_or (ob_u m2 37 0 v 37 0) 0, by omega, ?_⟩))) (fun c => dp_sm (dp_le (dp_sm ⟨k2 - 1, by omega, q + 1, dz_or (ob_u m2 37 0 v 37 0) (dz_sl 1 q), by omega, ?_⟩))))))
      · rw [oz_uz, ou_u]; rfl
      · rw [oz_uz, ou_u]; rfl
theorem lo_B (hP : so_P P) (hS : so_S P S) (hw : 0 ≤ w ∧ w < P 10 0) : ∀ t : Nat, t ≤ 100 → so_B (324 * (12 * t : Nat)) (400000 * (12 * t : Nat)) (so_lo P S w t)
  | 0, _ => dr_B D_0 (by omega) (by omega)
  | t + 1, ht => by
    have hl := hS.2.2.2.1 w hw.1 hw.2
    have := pf_B (R := S (20 + w.toNat)) hP hS (lo_B hP hS hw t (by omega)) (S 3 w).toNat (by omega) (fun i hi => hl.2 i (by omega) (by omega))
    exact sB_m this (by omega) (by omega)
theorem op_lasts (h : iv_Z n Z) (c1 : dz_c a1 = a1) (c2 : dz_c a2 = a2) : dz_p (jf_O_lasts a1 a2 Z) (fun q => dz_p (jf_M_lasts a1 a2 q.2) (fun q' => iv_Z (n + 1) q'.2 ∧ dz_c q.1 = dz_c q'.1)) := by
  have hp := iv_isP h.1
  have hs := iv_isS h.1
  have hs2 := iv_s2 h.1
  have hp2 := iv_p2 h.1
  have hP := h.2.1
  have rP := h.2.2.1
  have h6 := hP.2.2.2.2.1
  have h10 := hP.2.2.2.2.2.2.1
  obtain ⟨hS, rS, hB, rF⟩ := h.2.2.2.1
  have hpF : iv_p Z ≠ 55 := by omega
  unfold jf_O_lasts
  refine dp_bi (dp_eq (oi_wO h c1) ?_)
  simp only [decide_eq_false_iff_not, c1, c2]
  refine dp_br (fun a => dp_sm ?_) (fun a => dp_bi (dp_eq (oi_sO h c2) ?_))
  · dsimp only
    unfold jf_M_lasts
    refine dp_bi (dp_eq (oi_wM h.2.1 rP rfl c1) ?_)
    simp only [decide_eq_false_iff_not]
    exact dp_ck a (dp_sm ⟨iv_nx h, rfl⟩)
  have ha : 0 ≤ a1 ∧ a1 < Z (iv_p Z) 10 0 := by omega
  simp only [decide_eq_true_eq]
  refine dp_br (fun b => ?_) (fun b => dp_sm ?_)
  rotate_left
  · dsimp only
    unfold jf_M_lasts
    refine dp_bi (dp_eq (oi_wM h.2.1 rP rfl c1) ?_)
    simp only [decide_eq_false_iff_not]
    refine dp_no a (dp_bi (dp_eq (oi_sM h.2.1 rP rfl c2) ?_))
    simp only [decide_eq_true_eq]
    exact dp_no b (dp_sm ⟨iv_nx h, rfl⟩)
  have hl := (hS.2.2.2.1 a1 ha.1 ha.2)
  have e3 : dz_c (Z (iv_s Z) 3 a1) = Z (iv_s Z) 3 a1 := dc_ir (by omega) (by omega)
  have z0 : ∀ F : ob_O, ob_z Z 55 F 0 = Z 0 := fun F => oz_n (by decide)
  have zp : ∀ F : ob_O, ob_z Z 55 F (iv_p Z) = Z (iv_p Z) := fun F => oz_n (by omega)
  have zs : ∀ F : ob_O, ob_z Z 55 F (iv_s Z) = Z (iv_s Z) := fun F => oz_n (by omega)
  refine dp_bi (dp_eq dr_cls ?_)
  refine dp_lp (fun k q => ∃ (t : Nat) (F : ob_O), t + k = 99 ∧ q = ((t : Int) + 1, ob_z Z 55 F) ∧ so_qF (so_lo (Z (iv_p Z)) (Z (iv_s Z)) a1 t) F ∧ so_la (Z (iv_p Z)) (Z (iv_s Z)) a1 a2 99 0 = so_la (Z (iv_p Z)) (Z (iv_s Z)) a1 a2 k t) ?_ 5000 99 (1, ob_z Z 55 (so_dry (Z 55))) (by omega) ⟨0, _, by omega, rfl, D_qF dr_f, rfl⟩
  rintro k1 _ ⟨t, F, ht, rfl, hF, hla⟩
  have et : dz_c ((t : Int) + 1) = t + 1 := dc_ir (by omega) (by omega)
  simp only [et]
  have mod : ∀ (F : ob_O), dz_p (jf_M_lasts a1 a2 (ob_z Z 55 F)) (fun q' => iv_Z (n + 1) q'.2 ∧ dz_c (so_la (Z (iv_p Z)) (Z (iv_s Z)) a1 a2 99 0) = dz_c q'.1) := by
    intro F
    have y114 : ob_z Z 55 F 114 = Z 114 := oz_n (by decide)
    have ey : ob_z Z 55 F = ob_z (ob_z Z 55 F) 114 (Z 114) := by rw [← y114]; exact oz_i.symm
    rw [ey]
    have fin : ∀ m : ob_O, (∀ j : Int, j < 420 → m 0 j = Z 114 0 j) → (∀ f : Nat, f ≠ 0 → (f < 32 ∨ 37 < f) → m f = Z 114 f) → iv_Z (n + 1) (ob_z (ob_z Z 55 F) 114 m) := by
      intro m hj hf
      refine iv_fin h (fun b _ _ h55 _ h114 _ => by rw [oz_n h114, oz_n h55]) ?_ (fun f a b => by rw [oz_s]; exact hf f a (by omega)) (fun j a b => by rw [oz_s]; exact hj j b)
      rw [oz_s, oz_n (show iv_s Z ≠ 114 by omega), oz_n (show iv_s Z ≠ 55 by omega), oz_n (show (46 : Nat) ≠ 114 by decide), oz_n (show (46 : Nat) ≠ 55 by decide)]
      exact iv_In (iv_Im h.2.2.2.1 h.2.1 (fun j a b => hj j (by omega))) (by omega)
    unfold jf_M_lasts
    refine dp_bi (dp_eq (oi_wM (m := Z 114) h.2.1 rP oz_s c1) ?_)
    simp only [decide_eq_false_iff_not]
    refine dp_no a (dp_bi (dp_eq (oi_sM (m := Z 114) h.2.1 rP oz_s c2) ?_))
    simp only [decide_eq_true_eq]
    refine dp_ck b (dp_bi (dr_ref (Or.inr rfl) (fun m1 g1 g2 g3 => ?_)))
    refine dp_lp (fun k q => ∃ (t : Nat) (m : ob_O), t + k = 99 ∧ q = ((t : Int) + 1, ob_z (ob_z Z 55 F) 114 m) ∧ mr_F 420 (Z (iv_p Z)) (so_lo (Z (iv_p Z)) (Z (iv_s Z)) a1 t) m ∧ (∀ j : Int, j < 420 → m 0 j = Z 114 0 j) ∧ (∀ f : Nat, f ≠ 0 → (f < 32 ∨ 37 < f) → m f = Z 114 f) ∧ so_la (Z (iv_p Z)) (Z (iv_s Z)) a1 a2 99 0 = so_la (Z (iv_p Z)) (Z (iv_s Z)) a1 a2 k t) ?_ 5000 99 (1, ob_z (ob_z Z 55 F) 114 m1) (by omega) ⟨0, m1, by omega, rfl, dr_F D_0 (fun j a b => g1 j a (by omega)), fun j a => g2 j (by omega), fun f a b => g3 f a, rfl⟩
    rintro k2 _ ⟨t, m, ht, rfl, hF, hj, hf, hla⟩
    have et : dz_c ((t : Int) + 1) = t + 1 := dc_ir (by omega) (by omega)
    have e538 : dz_c (538 + a2) = 538 + a2 := dc_ir (by omega) (by omega)
    simp only [et, e538]
    by_cases hk : t = 99
    · refine dp_ck (by omega) (dp_sm ⟨fin m hj hf, ?_⟩)
      rw [hla, show k2 = 0 by omega]
      rfl
    · refine dp_no (by omega) (dp_bi (mp_s2 (t := 12 * t) hP hS (mrP_m rP (fun f a b => hf f (by omega) (by omega))) (mv_m (mv_S rS) hP hS (fun j a b => hj j (by omega))) ha (by omega) (lo_B hP hS ha t (by omega)) hF (fun m' f1 f2 f3 => dp_ck (by omega) ?_)))
      rw [oz_s]
      have hj' : ∀ j : Int, j < 420 → m' 0 j = Z 114 0 j := fun j a => by rw [f2 j a, hj j a]
      have hf' : ∀ f : Nat, f ≠ 0 → (f < 32 ∨ 37 < f) → m' f = Z 114 f := fun f a b => by rw [f3 f a b, hf f a b]
      have f1' : mr_F 420 (Z (iv_p Z)) (so_lo (Z (iv_p Z)) (Z (iv_s Z)) a1 (t + 1)) m' := f1
      have hbo := (lo_B hP hS ha (t + 1) (by omega)).1 a2 b.1 (by omega)
      have fl : m' 0 (538 + a2) = if so_brk (Z (iv_p Z)) (so_lo (Z (iv_p Z)) (Z (iv_s Z)) a1 (t + 1)) a2 = false then 0 else 1 := by
        have := (f1'.1 a2 b.1 (by omega)).2.2.2.2.2.1
        rw [show (420 : Int) + 118 + a2 = 538 + a2 by omega] at this
        rw [this]
        unfold so_brk
        rw [dz_li' (by omega) (by omega)]
        by_cases c : 0 < Z (iv_p Z) 15 0 ∧ Z (iv_p Z) 15 0 ≤ so_lo (Z (iv_p Z)) (Z (iv_s Z)) a1 (t + 1) 2 a2
        · rw [if_pos ⟨by omega, c⟩, decide_eq_true c]
          rfl
        · rw [if_neg (fun hh => c hh.2), decide_eq_false c]
          rfl
      obtain ⟨k3, rfl⟩ : ∃ k3, k2 = k3 + 1 := ⟨k2 - 1, by omega⟩
      have key : so_la (Z (iv_p Z)) (Z (iv_s Z)) a1 a2 (k3 + 1) t = if so_brk (Z (iv_p Z)) (so_lo (Z (iv_p Z)) (Z (iv_s Z)) a1 (t + 1)) a2 = false then so_la (Z (iv_p Z)) (Z (iv_s Z)) a1 a2 k3 (t + 1) else ((t : Int) + 1) := rfl
      rw [fl]
      by_cases c : so_brk (Z (iv_p Z)) (so_lo (Z (iv_p Z)) (Z (iv_s Z)) a1 (t + 1)) a2 = false
      · rw [if_pos c] at key
        rw [if_pos c]
        exact dp_ck (by decide) (dp_sm ⟨k3, by omega, t + 1, m', by omega, rfl, f1', hj', hf', by rw [hla, key]⟩)
      · rw [if_neg c] at key
        rw [if_neg c]
        exact dp_no (by decide) (dp_sm ⟨fin m' hj' hf', by rw [hla, key]⟩)
  by_cases hk : t = 99
  · refine dp_ck (by omega) (dp_sm ?_)
    have := mod F
    rw [hla, show k1 = 0 by omega] at this
    exact this
  refine dp_no (by omega) ?_
  refine dp_lp (fun k q => ∃ (r : Nat) (F : ob_O), (r : Int) + k = Z (iv_s Z) 3 a1 ∧ q = ((r : Int), ob_z Z 55 F) ∧ so_qF (pf_o (Z (iv_p Z)) (Z (iv_s Z)) (Z (iv_s Z) (20 + a1.toNat)) (so_lo (Z (iv_p Z)) (Z (iv_s Z)) a1 t) r) F) ?_ 5000 (Z (iv_s Z) 3 a1).toNat (0, ob_z Z 55 F) (by omega) ⟨0, _, by omega, rfl, hF⟩
  rintro k2 _ ⟨r, G, hr, rfl, hG⟩
  have er : dz_c (r : Int) = r := dc_ir (by omega) (by omega)
  simp only [z0, show (Z 0 3 0).toNat = iv_s Z from rfl, show (Z 0 2 0).toNat = iv_p Z from rfl, er, zs, e3]
  refine dp_ck hs (dp_ck (by omega) ?_)
  by_cases hk2 : (r : Int) = Z (iv_s Z) 3 a1
  · refine dp_ck (by omega) (dp_ck hp (dp_bi (dp_eq (cf_brk hpF (by omega) hP.2.2.2.2.2.2.2.2.2) ?_)))
    rw [show r = (Z (iv_s Z) 3 a1).toNat by omega] at hG
    have hG' : so_qF (so_lo (Z (iv_p Z)) (Z (iv_s Z)) a1 (t + 1)) G := hG
    have eb : so_brk (Z (iv_p Z)) G a2 = so_brk (Z (iv_p Z)) (so_lo (Z (iv_p Z)) (Z (iv_s Z)) a1 (t + 1)) a2 := by
      unfold so_brk
      rw [hG'.2.2.1]
    rw [eb]
    obtain ⟨k3, rfl⟩ : ∃ k3, k1 = k3 + 1 := ⟨k1 - 1, by omega⟩
    have key : so_la (Z (iv_p Z)) (Z (iv_s Z)) a1 a2 (k3 + 1) t = if so_brk (Z (iv_p Z)) (so_lo (Z (iv_p Z)) (Z (iv_s Z)) a1 (t + 1)) a2 = false then so_la (Z (iv_p Z)) (Z (iv_s Z)) a1 a2 k3 (t + 1) else ((t : Int) + 1) := rfl
    refine dp_br (fun c => dp_sm ⟨k3, by omega, t + 1, G, by omega, rfl, hG', by rw [hla, key, if_pos c]⟩) (fun c => dp_sm ?_)
    have := mod G
    rw [hla, key, if_neg c] at this
    exact this
  · refine dp_no (by omega) (dp_ck hp (dp_ck (by omega) ?_))
    have hc := cf_sec (F := 55) (p := iv_p Z) (q := iv_s Z) (Z := ob_z Z 55 G) (v := Z (iv_s Z) (20 + a1.toNat) r) (Or.inr (Or.inl rfl)) hp hs (by rw [zp]; exact hP) (by rw [zp, zs]; exact hS)
    rw [zp, zs, oz_s, oz_z] at hc
    refine dp_bi (dp_eq hc (dp_sm ⟨k2 - 1, by omega, r + 1, _, by omega, rfl, (qF_sec hG).2⟩))
end pt
