/-! the tape, sheets, draws, count -/
section oe
variable {n : Nat} {Z Y : dz_Z} {P S F m m' o T H : ob_O} {a1 a2 a3 a4 e v : Int} {c : Nat}
/-- the tape alone changes -/
theorem iv_tp (h : iv_Z n Z) (hT : iv_T T m') (hf : ∀ f : Nat, f ≠ 21 → f ≠ 22 → m' f = Z 114 f) : iv_Z (n + 1) (ob_z (ob_z Z 2 T) 114 m') := by
  obtain ⟨h1, h2, h3, h4, ⟨h5, h6⟩, h7, ⟨h8, h9, h10, h11⟩, h12, h13, h14⟩ := iv_nx h
  have hs := iv_s2 h1
  have hp := iv_p2 h1
  have z : ∀ b : Nat, b ≠ 2 → b ≠ 114 → ob_z (ob_z Z 2 T) 114 m' b = Z b := fun b a b' => by rw [oz_n b', oz_n a]
  have ep : iv_p (ob_z (ob_z Z 2 T) 114 m') = iv_p Z := by unfold iv_p; rw [z 0 (by decide) (by decide)]
  have es : iv_s (ob_z (ob_z Z 2 T) 114 m') = iv_s Z := by unfold iv_s; rw [z 0 (by decide) (by decide)]
  unfold iv_Z iv
  rw [ep, es, oz_s, z 0 (by decide) (by decide), z 1 (by decide) (by decide), z (iv_p Z) (by omega) (by omega), z (iv_s Z) (by omega) (by omega), z 46 (by decide) (by decide), z 68 (by decide) (by decide), z 69 (by decide) (by decide), z 79 (by decide) (by decide), z 87 (by decide) (by decide), z 88 (by decide) (by decide), z 98 (by decide) (by decide), z 106 (by decide) (by decide), z 108 (by decide) (by decide), z 110 (by decide) (by decide), z 112 (by decide) (by decide), oz_n (show (2 : Nat) ≠ 114 by decide), oz_s, hf 45 (by decide) (by decide), hf 30 (by decide) (by decide), hf 31 (by decide) (by decide)]
  have m0 : m' 0 = Z 114 0 := hf 0 (by decide) (by decide)
  exact ⟨h1, h2, mrP_m h3 (fun f a b => hf f (by omega) (by omega)), iv_Im h4 h2 (fun j _ _ => by rw [m0]), ⟨iv_Gm h5 h2 (by decide) (hf 41 (by decide) (by decide)) (fun j _ _ => by rw [m0]), iv_Gm h6 h2 (by decide) (hf 41 (by decide) (by decide)) (fun j _ _ => by rw [m0])⟩, hT, ⟨iv_hm h8 (hf 42 (by decide) (by decide)) (hf 43 (by decide) (by decide)) (hf 44 (by decide) (by decide)), iv_hm h9 (hf 42 (by decide) (by decide)) (hf 43 (by decide) (by decide)) (hf 44 (by decide) (by decide)), iv_hm h10 (hf 42 (by decide) (by decide)) (hf 43 (by decide) (by decide)) (hf 44 (by decide) (by decide)), iv_hm h11 (hf 42 (by decide) (by decide)) (hf 43 (by decide) (by decide)) (hf 44 (by decide) (by decide))⟩, h12, h13, h14⟩
theorem op_end (h : iv_Z n Z) (c1 : dz_c a1 = a1) : dz_p (jf_O_end a1 Z) (fun q => dz_p (jf_M_end a1 q.2) (fun q' => iv_Z (n + 1) q'.2 ∧ dz_c q.1 = dz_c q'.1)) := by
  obtain ⟨t1, t2, t3⟩ := h.2.2.2.2.2.1
  have e1 : dz_c (Z 2 1 0) = Z 2 1 0 := dc_ir t1.1 (by omega)
  have bad : ¬(0 ≤ a1 ∧ a1 ≤ Z 2 1 0) → dz_p (jf_M_end a1 Z) (fun q' => iv_Z (n + 1) q'.2 ∧ dz_c (-1) = dz_c q'.1) := by
    intro hv
    unfold jf_M_end
    rw [c1, t2, e1]
    exact dp_no hv (dp_sm ⟨iv_nx h, rfl⟩)
  unfold jf_O_end
  rw [c1, e1]
  refine dp_br (fun a => dp_sm (bad (by omega))) (fun a => dp_br (fun b => ?_) (fun b => dp_sm (bad (by omega))))
  refine dp_le (dp_sm ?_)
  dsimp only
  rw [oz_u]
  have y114 : ob_z Z 2 (ob_u (Z 2) 1 0 a1) 114 = Z 114 := oz_n (by decide)
  unfold jf_M_end
  rw [y114, c1, t2, e1]
  refine dp_ck (by omega) (dp_le (dp_sm ⟨?_, e1.symm⟩))
  dsimp only
  rw [oz_u, y114]
  refine iv_tp h ⟨?_, ?_, fun i a b => ?_⟩ (fun f _ b => ou_ff b)
  · rw [ou_s]; omega
  · rw [ou_s, ou_s]
  · rw [ou_s] at b
    rw [ou_f (by decide), ou_f (by decide)]
    exact t3 i a (by omega)
theorem op_feed (h : iv_Z n Z) : dz_p (jf_O_feed a1 Z) (fun q => dz_p (jf_M_feed a1 q.2) (fun q' => iv_Z (n + 1) q'.2 ∧ dz_c q.1 = dz_c q'.1)) := by
  obtain ⟨t1, t2, t3⟩ := h.2.2.2.2.2.1
  have e1 : dz_c (Z 2 1 0 + 8) = Z 2 1 0 + 8 := dc_ir (by omega) (by omega)
  unfold jf_O_feed
  rw [e1]
  refine dp_br (fun a => ?_) (fun a => dp_sm ?_)
  · refine dp_lp (fun k s => ∃ (r : Nat) (T : ob_O), r + k = 8 ∧ s = (56 - 8 * (r : Int), ob_z Z 2 T) ∧ T 1 0 = Z 2 1 0 + r ∧ (∀ i : Int, i < Z 2 1 0 → T 0 i = Z 2 0 i) ∧ (∀ i : Int, 0 ≤ i → i < r → T 0 (Z 2 1 0 + i) = dz_b (dz_b (dz_li (dz_lur a1 (56 - 8 * i)))))) ?_ 5000 8 (56, Z) (by omega) ⟨0, Z 2, by omega, by rw [oz_i]; rfl, by omega, fun i _ => rfl, fun i a b => absurd b (by omega)⟩
    rintro k _ ⟨r, T, hr, rfl, hT1, hT2, hT3⟩
    have e2 : dz_c (56 - 8 * (r : Int)) = 56 - 8 * r := dz_ci (by omega) (by omega)
    have e3 : dz_c (Z 2 1 0 + (r : Int)) = Z 2 1 0 + r := dc_ir (by omega) (by omega)
    simp only [e2, oz_s, hT1, e3]
    by_cases hk : ¬ r = 8
    · refine dp_no (by omega) (dp_ck (by omega) (dp_le (dp_le (dp_sm ⟨k - 1, by omega, r + 1, ob_u (ob_u T 0 (Z 2 1 0 + r) (dz_b (dz_b (dz_li (dz_lur a1 (56 - 8 * (r : Int))))))) 1 0 (Z 2 1 0 + r + 1), by omega, ?_, ?_, fun i b => ?_, fun i b c => ?_⟩))))
      · simp only [oz_uz, oz_s, ou_f (show (1 : Nat) ≠ 0 by decide), hT1]
        rw [show 56 - 8 * (r : Int) + -8 = 56 - 8 * ((r + 1 : Nat) : Int) by omega]
      · rw [ou_s]; omega
      · rw [ou_f (by decide), ou_i (by omega)]; exact hT2 i b
      · rw [ou_f (by decide), ou_a]
        by_cases ci : i = r
        · rw [if_pos (by omega), ci]
        · rw [if_neg (by omega)]; exact hT3 i b (by omega)
    have hk : r = 8 := by omega
    subst hk
    refine dp_ck (by omega) (dp_sm ?_)
    show dz_p (jf_M_feed a1 (ob_z Z 2 T)) (fun q' => iv_Z (n + 1) q'.2 ∧ dz_c (Z 2 1 0 + ((8 : Nat) : Int)) = dz_c q'.1)
    have y114 : ob_z Z 2 T 114 = Z 114 := oz_n (by decide)
    have ey : ob_z Z 2 T = ob_z (ob_z Z 2 T) 114 (Z 114) := by rw [← y114]; exact oz_i.symm
    rw [ey]
    unfold jf_M_feed
    rw [oz_s, t2, e1]
    refine dp_ck a ?_
    refine dp_lp (fun k s => ∃ (r : Nat) (m : ob_O), r + k = 8 ∧ s = (56 - 8 * (r : Int), ob_z (ob_z Z 2 T) 114 m) ∧ m 22 0 = Z 2 1 0 + r ∧ (∀ i : Int, i < Z 2 1 0 → m 21 i = Z 114 21 i) ∧ (∀ i : Int, 0 ≤ i → i < r → m 21 (Z 2 1 0 + i) = dz_an (dz_li (dz_lsr a1 (56 - 8 * i))) 255) ∧ (∀ f : Nat, f ≠ 21 → f ≠ 22 → m f = Z 114 f)) ?_ 5000 8 (56, ob_z (ob_z Z 2 T) 114 (Z 114)) (by omega) ⟨0, Z 114, by omega, rfl, by rw [t2]; omega, fun i _ => rfl, fun i a b => absurd b (by omega), fun f _ _ => rfl⟩
    rintro k2 _ ⟨r, m, hr2, rfl, hm1, hm2, hm3, hm4⟩
    have e2 : dz_c (56 - 8 * (r : Int)) = 56 - 8 * r := dz_ci (by omega) (by omega)
    have e3 : dz_c (Z 2 1 0 + (r : Int)) = Z 2 1 0 + r := dc_ir (by omega) (by omega)
    simp only [e2, oz_s, hm1, e3]
    by_cases hk : ¬ r = 8
    · refine dp_no (by omega) (dp_ck (by omega) (dp_le (dp_le (dp_sm ⟨k2 - 1, by omega, r + 1, ob_u (ob_u m 21 (Z 2 1 0 + r) (dz_an (dz_li (dz_lsr a1 (56 - 8 * (r : Int)))) 255)) 22 0 (Z 2 1 0 + r + 1), by omega, ?_, ?_, fun i b => ?_, fun i b c => ?_, fun f b c => ?_⟩))))
      · simp only [oz_uz, oz_s, ou_f (show (22 : Nat) ≠ 21 by decide), hm1]
        rw [show 56 - 8 * (r : Int) + -8 = 56 - 8 * ((r + 1 : Nat) : Int) by omega]
      · rw [ou_s]; omega
      · rw [ou_f (by decide), ou_i (by omega)]; exact hm2 i b
      · rw [ou_f (by decide), ou_a]
        by_cases ci : i = r
        · rw [if_pos (by omega), ci]
        · rw [if_neg (by omega)]; exact hm3 i b (by omega)
      · rw [ou_ff c, ou_ff b]; exact hm4 f b c
    have hk : r = 8 := by omega
    subst hk
    refine dp_ck (by omega) (dp_sm ⟨?_, rfl⟩)
    refine iv_tp h ⟨by omega, by omega, fun i b c => ?_⟩ hm4
    by_cases ci : i < Z 2 1 0
    · rw [hT2 i ci, hm2 i ci]; exact t3 i b ci
    · have hb := hT3 (i - Z 2 1 0) (by omega) (by omega)
      have hm := hm3 (i - Z 2 1 0) (by omega) (by omega)
      rw [show Z 2 1 0 + (i - Z 2 1 0) = i by omega] at hb hm
      rw [hb, hm]
      have hi : i - Z 2 1 0 = 0 ∨ i - Z 2 1 0 = 1 ∨ i - Z 2 1 0 = 2 ∨ i - Z 2 1 0 = 3 ∨ i - Z 2 1 0 = 4 ∨ i - Z 2 1 0 = 5 ∨ i - Z 2 1 0 = 6 ∨ i - Z 2 1 0 = 7 := by omega
      rcases hi with hi | hi | hi | hi | hi | hi | hi | hi <;> rw [hi]
      · exact bf_by a1 56 56 (by decide) (by decide) (by decide)
      · exact bf_by a1 48 48 (by decide) (by decide) (by decide)
      · exact bf_by a1 40 40 (by decide) (by decide) (by decide)
      · exact bf_by a1 32 32 (by decide) (by decide) (by decide)
      · exact bf_by a1 24 24 (by decide) (by decide) (by decide)
      · exact bf_by a1 16 16 (by decide) (by decide) (by decide)
      · exact bf_by a1 8 8 (by decide) (by decide) (by decide)
      · exact bf_by a1 0 0 (by decide) (by decide) (by decide)
  · dsimp only
    unfold jf_M_feed
    rw [t2, e1]
    exact dp_no a (dp_sm ⟨iv_nx h, rfl⟩)
/-- which sheet -/
theorem sh_is (c1 : dz_c a1 = a1) : jf_O_isSheet a1 = some (decide (0 ≤ a1 ∧ a1 < 4)) := by
  unfold jf_O_isSheet
  rw [c1]
  by_cases a : a1 < 0
  · rw [if_pos a, decide_eq_false (by omega)]
  · rw [if_neg a]
    by_cases b : 4 ≤ a1
    · rw [if_pos b, decide_eq_false (by omega)]
    · rw [if_neg b, decide_eq_true (by omega)]
theorem ln_is (c1 : dz_c a1 = a1) : jf_O_isLane a1 = some (decide (0 ≤ a1 ∧ a1 < 3)) := by
  unfold jf_O_isLane
  rw [c1]
  by_cases a : a1 < 0
  · rw [if_pos a, decide_eq_false (by omega)]
  · rw [if_neg a]
    by_cases b : 3 ≤ a1
    · rw [if_pos b, decide_eq_false (by omega)]
    · rw [if_neg b, decide_eq_true (by omega)]
theorem iv_sh (h : iv n Z m) (ha : 0 ≤ a1 ∧ a1 < 4) : iv_h (Z (106 + 2 * a1.toNat)) m a1 := by
  have h8 := h.2.2.2.2.2.2.1
  have : a1 = 0 ∨ a1 = 1 ∨ a1 = 2 ∨ a1 = 3 := by omega
  rcases this with rfl | rfl | rfl | rfl
  · exact h8.1
  · exact h8.2.1
  · exact h8.2.2.1
  · exact h8.2.2.2
/-- a sheet alone changes -/
theorem iv_st (h : iv_Z n Z) (ha : 0 ≤ a1 ∧ a1 < 4) (hH : iv_h H m' a1) (hf : ∀ f : Nat, f ≠ 42 → f ≠ 43 → f ≠ 44 → m' f = Z 114 f) (ho : ∀ k : Int, 0 ≤ k → k < 4 → k ≠ a1 → m' 42 k = Z 114 42 k ∧ m' 43 k = Z 114 43 k ∧ ∀ i : Int, 0 ≤ i → i < 40 → m' 44 (40 * k + i) = Z 114 44 (40 * k + i)) : iv_Z (n + 1) (ob_z (ob_z Z (106 + 2 * a1.toNat) H) 114 m') := by
  obtain ⟨h1, h2, h3, h4, ⟨h5, h6⟩, h7, h8, h12, h13, h14⟩ := iv_nx h
  have hs := iv_s2 h1
  have hp := iv_p2 h1
  have z : ∀ b : Nat, b < 106 → ob_z (ob_z Z (106 + 2 * a1.toNat) H) 114 m' b = Z b := fun b a => by rw [oz_n (by omega), oz_n (by omega)]
  have ep : iv_p (ob_z (ob_z Z (106 + 2 * a1.toNat) H) 114 m') = iv_p Z := by unfold iv_p; rw [z 0 (by decide)]
  have es : iv_s (ob_z (ob_z Z (106 + 2 * a1.toNat) H) 114 m') = iv_s Z := by unfold iv_s; rw [z 0 (by decide)]
  have sh : ∀ k : Int, 0 ≤ k → k < 4 → iv_h (Z (106 + 2 * k.toNat)) (Z 114) k → iv_h (ob_z (ob_z Z (106 + 2 * a1.toNat) H) 114 m' (106 + 2 * k.toNat)) m' k := by
    intro k k0 k4 hk
    by_cases e : k = a1
    · subst e
      rw [oz_n (by omega), oz_s]
      exact hH
    · rw [oz_n (by omega), oz_n (by omega)]
      obtain ⟨o1, o2, o3⟩ := ho k k0 k4 e
      unfold iv_h
      rw [o1, o2]
      rcases hk with hk | hk
      · exact Or.inl hk
      · exact Or.inr ⟨hk.1, hk.2.1, hk.2.2.1, hk.2.2.2.1, fun i a b => by rw [o3 i a b]; exact hk.2.2.2.2 i a b⟩
  unfold iv_Z iv
  rw [ep, es, oz_s, z 0 (by decide), z 1 (by decide), z (iv_p Z) (by omega), z (iv_s Z) (by omega), z 46 (by decide), z 68 (by decide), z 69 (by decide), z 79 (by decide), z 87 (by decide), z 88 (by decide), z 98 (by decide), z 2 (by decide), hf 45 (by decide) (by decide) (by decide), hf 30 (by decide) (by decide) (by decide), hf 31 (by decide) (by decide) (by decide)]
  have m0 : m' 0 = Z 114 0 := hf 0 (by decide) (by decide) (by decide)
  have m41 := hf 41 (by decide) (by decide) (by decide)
  exact ⟨h1, h2, mrP_m h3 (fun f a b => hf f (by omega) (by omega) (by omega)), iv_Im h4 h2 (fun j _ _ => by rw [m0]), ⟨iv_Gm h5 h2 (by decide) m41 (fun j _ _ => by rw [m0]), iv_Gm h6 h2 (by decide) m41 (fun j _ _ => by rw [m0])⟩, iv_Tm h7 (hf 21 (by decide) (by decide) (by decide)) (hf 22 (by decide) (by decide) (by decide)), ⟨sh 0 (by decide) (by decide) h8.1, sh 1 (by decide) (by decide) h8.2.1, sh 2 (by decide) (by decide) h8.2.2.1, sh 3 (by decide) (by decide) h8.2.2.2⟩, h12, h13, h14⟩
theorem op_sheet (h : iv_Z n Z) (c1 : dz_c a1 = a1) (c2 : dz_c a2 = a2) (c3 : dz_c a3 = a3) : dz_p (jf_O_sheet a1 a2 a3 Z) (fun q => dz_p (jf_M_sheet a1 a2 a3 q.2) (fun q' => iv_Z (n + 1) q'.2 ∧ dz_c q.1 = dz_c q'.1)) := by
  unfold jf_O_sheet
  refine dp_bi (dp_eq (sh_is c1) ?_)
  simp only [decide_eq_false_iff_not]
  refine dp_br (fun a => dp_sm ?_) (fun a => ?_)
  · dsimp only
    unfold jf_M_sheet
    rw [c1, c2, c3]
    exact dp_ck (by omega) (dp_sm ⟨iv_nx h, rfl⟩)
  refine dp_bi (dp_eq (ln_is c2) ?_)
  simp only [decide_eq_false_iff_not]
  refine dp_br (fun b => dp_sm ?_) (fun b => ?_)
  · dsimp only
    unfold jf_M_sheet
    rw [c1, c2, c3]
    exact dp_no (by omega) (dp_ck (by omega) (dp_sm ⟨iv_nx h, rfl⟩))
  rw [c3, c1]
  refine dp_br (fun c => ?_) (fun c => dp_sm ?_)
  · refine dp_br (fun d => ?_) (fun d => dp_sm ?_)
    · have hre : jf_H_renew (106 + 2 * a1.toNat) a2 a3 Z = some (ob_z Z (106 + 2 * a1.toNat) (ob_u (ob_u (ob_f (Z (106 + 2 * a1.toNat)) 0 (fun _ => 0)) 1 0 a2) 2 0 a3)) := by
        unfold jf_H_renew
        simp only [dz_a, oz_f, oz_u, oz_s, oz_z]
      refine dp_ck (by omega) (dp_bi (dp_eq hre (dp_sm ?_)))
      dsimp only
      generalize hH : ob_u (ob_u (ob_f (Z (106 + 2 * a1.toNat)) 0 (fun _ => 0)) 1 0 a2) 2 0 a3 = H
      have y114 : ob_z Z (106 + 2 * a1.toNat) H 114 = Z 114 := oz_n (by omega)
      have ey : ob_z Z (106 + 2 * a1.toNat) H = ob_z (ob_z Z (106 + 2 * a1.toNat) H) 114 (Z 114) := by rw [← y114]; exact oz_i.symm
      rw [ey]
      unfold jf_M_sheet
      rw [c1, c2, c3]
      refine dp_no (by omega) (dp_no (by omega) (dp_ck c (dp_ck d (dp_ck (by omega) (dp_le (dp_le ?_))))))
      simp only [oz_uz]
      refine dp_lp (fun k s => ∃ (r : Nat) (m : ob_O), r + k = 40 ∧ s = ((r : Int), ob_z (ob_z Z (106 + 2 * a1.toNat) H) 114 m) ∧ m 42 = ob_u (Z 114) 42 a1 a2 42 ∧ m 43 = ob_u (Z 114) 43 a1 a3 43 ∧ (∀ i : Int, 0 ≤ i → i < r → m 44 (40 * a1 + i) = 0) ∧ (∀ j : Int, (j < 40 * a1 ∨ 40 * a1 + 40 ≤ j) → m 44 j = Z 114 44 j) ∧ (∀ f : Nat, f ≠ 42 → f ≠ 43 → f ≠ 44 → m f = Z 114 f)) ?_ 5000 40 (0, ob_z (ob_z Z (106 + 2 * a1.toNat) H) 114 (ob_u (ob_u (Z 114) 42 a1 a2) 43 a1 a3)) (by omega) ⟨0, _, by omega, rfl, ?_, ?_, fun i x y => absurd y (by omega), fun j _ => ?_, fun f x y _ => ?_⟩
      · rintro k _ ⟨r, m, hr, rfl, hm1, hm2, hm3, hm4, hm5⟩
        have er : dz_c (r : Int) = r := dc_ir (by omega) (by omega)
        have er2 : dz_c (40 * a1 + (r : Int)) = 40 * a1 + r := dc_ir (by omega) (by omega)
        simp only [er, er2]
        by_cases hk : r = 40
        · subst hk
          refine dp_ck (by omega) (dp_sm ⟨?_, rfl⟩)
          refine iv_st h (by omega) ?_ hm5 (fun k k0 k4 ke => ?_)
          · unfold iv_h
            rw [hm1, hm2, ou_s, ou_s, ← hH, ou_s, ou_f (f := 2) (f' := 1) (by decide), ou_s, ou_ff (f := 2) (f' := 0) (by decide), ou_ff (f := 1) (f' := 0) (by decide), of_s]
            exact Or.inr ⟨by omega, rfl, by omega, rfl, fun i x y => ⟨by show (-2147483648 : Int) ≤ 0 ∧ (0 : Int) ≤ 2147483647; decide, hm3 i x y⟩⟩
          · rw [hm1, hm2, ou_i ke, ou_i ke]
            exact ⟨rfl, rfl, fun i x y => hm4 _ (by omega)⟩
        · refine dp_no (by omega) (dp_ck (by omega) (dp_le (dp_sm ⟨k - 1, by omega, r + 1, ob_u m 44 (40 * a1 + r) 0, by omega, ?_, ?_, ?_, fun i x y => ?_, fun j x => ?_, fun f x y z => ?_⟩)))
          · rw [oz_uz]
            rfl
          · rw [ou_ff (by decide)]; exact hm1
          · rw [ou_ff (by decide)]; exact hm2
          · rw [ou_a]
            split
            · rfl
            · exact hm3 i x (by omega)
          · rw [ou_i (by omega)]; exact hm4 j x
          · rw [ou_ff z]; exact hm5 f x y z
      · rw [ou_ff (by decide)]
      · rw [ou_fn, ou_ff (by decide), ou_fn]
      · rw [ou_f (by decide), ou_f (by decide)]
      · rw [ou_ff y, ou_ff x]
    · dsimp only
      unfold jf_M_sheet
      rw [c1, c2, c3]
      exact dp_no (by omega) (dp_no (by omega) (dp_ck c (dp_no d (dp_sm ⟨iv_nx h, rfl⟩))))
  · dsimp only
    unfold jf_M_sheet
    rw [c1, c2, c3]
    exact dp_no (by omega) (dp_no (by omega) (dp_no c (dp_sm ⟨iv_nx h, rfl⟩)))
theorem hf_at (hH : iv_h H m a1) {k : Nat} (hk : Z k = H) {la i : Int} (cl : dz_c la = la) : jf_H_faultAt k la i Z = some (if H 2 0 = -1 then 1 else if la ≠ H 1 0 then 3 else if dz_c i < 0 ∨ H 2 0 ≤ dz_c i then 2 else 0) := by
  unfold jf_H_faultAt jf_H_isNothing
  rw [hk, cl]
  rcases hH with hH | hH
  · rw [hH.1, if_pos rfl, if_neg (by decide)]
    rfl
  · have e2 : dz_c (H 2 0) = H 2 0 := dc_ir (by omega) (by omega)
    have e1 : dz_c (H 1 0) = H 1 0 := dc_ir (by omega) (by omega)
    rw [e1, e2, if_pos (show H 2 0 ≠ -1 by omega), if_neg (show ¬ H 2 0 = -1 by omega)]
    show (if la = H 1 0 then (if dz_c i < 0 then some 2 else if dz_c i < H 2 0 then some 0 else some 2) else some 3) = _
    by_cases a : la = H 1 0
    · rw [if_pos a, if_neg (show ¬ la ≠ H 1 0 by omega)]
      by_cases b : dz_c i < 0
      · rw [if_pos b, if_pos (Or.inl b)]
      · rw [if_neg b]
        by_cases c : dz_c i < H 2 0
        · rw [if_pos c, if_neg (by omega)]
        · rw [if_neg c, if_pos (by omega)]
    · rw [if_neg a, if_pos a]
theorem op_lay (h : iv_Z n Z) (c1 : dz_c a1 = a1) (c2 : dz_c a2 = a2) (c3 : dz_c a3 = a3) : dz_p (jf_O_lay a1 a2 a3 Z) (fun q => dz_p (jf_M_lay a1 a2 a3 q.2) (fun q' => iv_Z (n + 1) q'.2 ∧ dz_c q.1 = dz_c q'.1)) := by
  unfold jf_O_lay
  refine dp_bi (dp_eq (sh_is c1) ?_)
  simp only [decide_eq_true_eq]
  refine dp_br (fun a => ?_) (fun a => dp_sm ?_)
  · rw [c1]
    refine dp_ck a ?_
    have hH := iv_sh h a
    generalize hZH : Z (106 + 2 * a1.toNat) = H at hH
    have c1H : H 2 0 ≠ -1 → dz_c (H 1 0) = H 1 0 := fun q => by
      rcases hH with x | x
      · exact absurd x.1 q
      · exact dc_ir (by omega) (by omega)
    have hfa : jf_H_faultAt (106 + 2 * a1.toNat) (H 1 0) a2 Z = some (if H 2 0 = -1 then 1 else if a2 < 0 ∨ H 2 0 ≤ a2 then 2 else 0) := by
      by_cases q : H 2 0 = -1
      · unfold jf_H_faultAt jf_H_isNothing
        rw [hZH, q, if_neg (by decide), if_pos rfl]
        rfl
      · rw [hf_at hH hZH (c1H q), c2, if_neg q, if_neg q, if_neg (show ¬ H 1 0 ≠ H 1 0 by omega)]
    refine dp_bi (dp_eq hfa ?_)
    by_cases q : H 2 0 = -1
    · rw [if_pos q]
      refine dp_no (by decide) (dp_sm ?_)
      have hm : Z 114 42 a1 = -4 := by
        rcases hH with x | x
        · exact x.2
        · omega
      dsimp only
      unfold jf_M_lay
      rw [c1, c2, hm]
      exact dp_ck (by omega) (dp_ck (by omega) (dp_no (by decide) (dp_sm ⟨iv_nx h, rfl⟩)))
    · rw [if_neg q]
      obtain ⟨g1, g2, g3, g4, g5⟩ := hH.resolve_left (fun x => q x.1)
      have e42 : dz_c (H 1 0) = H 1 0 := c1H q
      have e43 : dz_c (H 2 0 - 1) = H 2 0 - 1 := dz_ci (by omega) (by omega)
      by_cases w : a2 < 0 ∨ H 2 0 ≤ a2
      · rw [if_pos w]
        refine dp_no (by decide) (dp_sm ?_)
        dsimp only
        unfold jf_M_lay
        rw [c1, c2, g2, e42, g4, e43]
        exact dp_ck (by omega) (dp_ck (by omega) (dp_ck (by omega) (dp_no (by omega) (dp_sm ⟨iv_nx h, rfl⟩))))
      · rw [if_neg w]
        refine dp_ck (by decide) ?_
        have e40 : dz_c (40 * a1 + a2) = 40 * a1 + a2 := dc_ir (by omega) (by omega)
        have fin : ∀ x : Int, (-2147483648 ≤ x ∧ x ≤ 2147483647) → iv_Z (n + 1) (ob_z (ob_z Z (106 + 2 * a1.toNat) (ob_u H 0 a2 x)) 114 (ob_u (Z 114) 44 (40 * a1 + a2) x)) := by
          intro x hx
          refine iv_st h a ?_ (fun f x y z => ou_ff z) (fun k k0 k4 ke => ?_)
          · unfold iv_h
            rw [ou_f (f' := 2) (by decide), ou_f (f' := 1) (by decide), ou_f (f' := 42) (by decide), ou_f (f' := 43) (by decide)]
            refine Or.inr ⟨g1, g2, g3, g4, fun i y z => ?_⟩
            rw [ou_a, ou_a]
            by_cases ci : i = a2
            · rw [if_pos ci, if_pos (by omega)]; exact ⟨hx, rfl⟩
            · rw [if_neg ci, if_neg (by omega)]; exact g5 i y z
          · rw [ou_f (by decide), ou_f (by decide)]
            exact ⟨rfl, rfl, fun i y z => ou_i (by omega)⟩
        have mod : ∀ (x y : Int), (-2147483648 ≤ x ∧ x ≤ 2147483647) → y = (if H 1 0 = 0 then dz_b a3 else if H 1 0 = 1 then dz_s a3 else a3) → x = y → dz_p (jf_M_lay a1 a2 a3 (ob_z Z (106 + 2 * a1.toNat) (ob_u H 0 a2 x))) (fun q' => iv_Z (n + 1) q'.2 ∧ dz_c 1 = dz_c q'.1) := by
          intro x y hx hy hxy
          have y114 : ob_z Z (106 + 2 * a1.toNat) (ob_u H 0 a2 x) 114 = Z 114 := oz_n (by omega)
          unfold jf_M_lay
          rw [c1, c2, y114, g2, e42, g4, e43, e40, bs_24, bs_16]
          refine dp_ck (by omega) (dp_ck (by omega) (dp_ck (by omega) (dp_ck (by omega) ?_)))
          simp only [oz_u, y114]
          have f1 := fin x hx
          rw [hxy, hy] at f1
          rw [hxy, hy]
          refine dp_br (fun k0 => dp_br (fun k1 => dp_ck (by omega) (dp_le (dp_sm ⟨?_, rfl⟩))) (fun k1 => dp_ck (by omega) (dp_le (dp_sm ⟨?_, rfl⟩)))) (fun k0 => dp_ck (by omega) (dp_le (dp_sm ⟨?_, rfl⟩)))
          · rw [if_neg k0, if_neg k1] at f1 ⊢; exact f1
          · rw [if_neg k0, if_pos (by omega)] at f1 ⊢; exact f1
          · rw [if_pos (by omega)] at f1 ⊢; exact f1
        unfold jf_H_put
        rw [hZH, e42, c2]
        refine dp_bi ?_
        have hz : ∀ x : Int, dz_u Z (106 + 2 * a1.toNat) 0 a2 x = ob_z Z (106 + 2 * a1.toNat) (ob_u H 0 a2 x) := fun x => by rw [oz_u, hZH]
        simp only [hz]
        refine dp_br (fun k0 => dp_br (fun k1 => dp_ck (by omega) (dp_le (dp_sm (dp_sm ?_)))) (fun k1 => dp_ck (by omega) (dp_le (dp_sm (dp_sm ?_))))) (fun k0 => dp_ck (by omega) (dp_le (dp_sm (dp_sm ?_))))
        · exact mod a3 _ (by rw [← c3]; exact dz_cb a3) rfl (by rw [if_neg k0, if_neg k1])
        · refine mod (dz_s a3) _ ?_ rfl (by rw [if_neg k0, if_pos (by omega)])
          rw [bb_s, Int.bmod_def]; split <;> omega
        · refine mod (dz_b a3) _ ?_ rfl (by rw [if_pos (by omega)])
          rw [bb_b, Int.bmod_def]; split <;> omega
  · dsimp only
    unfold jf_M_lay
    rw [c1]
    exact dp_no (by omega) (dp_sm ⟨iv_nx h, rfl⟩)
end oe
