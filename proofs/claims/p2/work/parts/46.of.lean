/-! images -/
section og
variable {n : Nat} {Z Y : dz_Z} {P S S' F F' m m' o : ob_O} {a1 a2 e e' v : Int} {c d : Nat}
/-- two setups that nobody can tell apart -/
def so_qS (S S' : ob_O) : Prop := S' 0 = S 0 ∧ S' 1 = S 1 ∧ S' 2 = S 2 ∧ S' 3 = S 3 ∧ S' 5 = S 5 ∧ S' 20 = S 20 ∧ S' 21 = S 21 ∧ S' 22 = S 22 ∧ S' 6 0 = S 6 0
def so_qF (F F' : ob_O) : Prop := F' 0 = F 0 ∧ F' 1 = F 1 ∧ F' 2 = F 2 ∧ F' 3 = F 3 ∧ F' 4 = F 4 ∧ F' 5 0 = F 5 0 ∧ F' 6 0 = F 6 0 ∧ F' 7 0 = F 7 0 ∧ F' 8 0 = F 8 0 ∧ F' 9 0 = F 9 0
theorem qS_r (h : so_qS S S') {w : Int} (hw : 0 ≤ w ∧ w < 3) : S' (20 + w.toNat) = S (20 + w.toNat) := by
  have : w = 0 ∨ w = 1 ∨ w = 2 := by omega
  rcases this with rfl | rfl | rfl
  · exact h.2.2.2.2.2.1
  · exact h.2.2.2.2.2.2.1
  · exact h.2.2.2.2.2.2.2.1
theorem qS_S (h : so_qS S S') (hP : so_P P) (hS : so_S P S) : so_S P S' := by
  have h10 := hP.2.2.2.2.2.2.1
  obtain ⟨q0, q1, q2, q3, q5, -, -, -, q6⟩ := id h
  unfold so_S
  rw [q0, q1, q2, q3, q5, q6]
  refine ⟨hS.1, hS.2.1, hS.2.2.1, fun w a b => ?_, hS.2.2.2.2.1, hS.2.2.2.2.2⟩
  rw [qS_r h (by omega)]
  exact hS.2.2.2.1 w a b
theorem qS_R (h : so_qS S S') (hP : so_P P) (hS : so_S P S) (rS : mr_S e P S m) (hj : ∀ x : Int, 0 ≤ x → x < 86 → m' 0 (e' + x) = m 0 (e + x)) : mr_S e' P S' m' := by
  have h3 := hP.2.2.1
  have h6 := hP.2.2.2.2.1
  have h10 := hP.2.2.2.2.2.2.1
  have hs6 := hS.2.2.2.2.1
  obtain ⟨q0, q1, q2, q3, q5, -, -, -, q6⟩ := id h
  unfold mr_S mr_W
  rw [q0, q1, q2, q3, q5, q6]
  refine ⟨⟨fun i a b => ?_, fun i a b => ?_, fun i a b => ?_⟩, fun i a b => ?_, fun w a b => ?_, ?_, fun i a b => ?_⟩
  · rw [hj _ (by omega) (by omega)]; exact rS.1.1 i a b
  · rw [hj _ (by omega) (by omega)]; exact rS.1.2.1 i a b
  · rw [hj _ (by omega) (by omega), hj _ (by omega) (by omega), hj _ (by omega) (by omega)]; exact rS.1.2.2 i a b
  · rw [hj _ (by omega) (by omega), hj _ (by omega) (by omega)]; exact rS.2.1 i a b
  · have hl := (hS.2.2.2.1 w a b).1
    refine ⟨?_, fun i x y => ?_⟩
    · rw [hj _ (by omega) (by omega)]; exact (rS.2.2.1 w a b).1
    · rw [hj _ (by omega) (by omega), qS_r h (by omega)]; exact (rS.2.2.1 w a b).2 i x y
  · rw [hj _ (by omega) (by omega)]; exact rS.2.2.2.1
  · rw [hj _ (by omega) (by omega)]; exact rS.2.2.2.2 i a b
theorem qF_B (h : so_qF F F') {B H : Int} (hB : so_B B H F) : so_B B H F' := by
  obtain ⟨q0, q1, q2, q3, -⟩ := h
  unfold so_B
  rw [q0, q1, q2, q3]
  exact hB
theorem qF_R (h : so_qF F F') (rF : mr_F e P F m) (hj : ∀ x : Int, 86 ≤ x → x < 138 → m' 0 (e' + x) = m 0 (e + x)) : mr_F e' P F' m' := by
  obtain ⟨q0, q1, q2, q3, q4, q5, q6, q7, q8, q9⟩ := h
  unfold mr_F
  rw [q0, q1, q2, q3, q4, q5, q6, q7, q8]
  have g : ∀ x i : Int, 86 ≤ x + i → x + i < 138 → m' 0 (e' + x + i) = m 0 (e + x + i) := fun x i a b => by rw [Int.add_assoc, hj _ a b, Int.add_assoc]
  refine ⟨fun i a b => ?_, ?_, ?_, ?_, ?_⟩
  · rw [g 86 i (by omega) (by omega), g 94 i (by omega) (by omega), g 102 i (by omega) (by omega), g 110 i (by omega) (by omega), g 126 i (by omega) (by omega), g 118 i (by omega) (by omega)]
    exact rF.1 i a b
  · rw [hj _ (by omega) (by omega)]; exact rF.2.1
  · rw [hj _ (by omega) (by omega)]; exact rF.2.2.1
  · rw [hj _ (by omega) (by omega)]; exact rF.2.2.2.1
  · rw [hj _ (by omega) (by omega)]; exact rF.2.2.2.2
theorem cp_S (hcd : d ≠ c) {K : dz_Z → Prop} (k : ∀ S' : ob_O, so_qS (Z d) S' → K (ob_z Z c S')) : dz_p (jf_S_copyFrom c d Z) K := by
  unfold jf_S_copyFrom
  refine dp_le (dp_le (dp_le (dp_le ?_)))
  simp only [oz_f, oz_s, oz_n hcd, oz_z]
  refine dp_lp (fun k s => ∃ (r : Nat) (S' : ob_O), r + k = 3 ∧ s = ((r : Int), ob_z Z c S') ∧ S' 0 = Z d 0 ∧ S' 1 = Z d 1 ∧ S' 2 = Z d 2 ∧ S' 3 = Z d 3 ∧ (∀ w : Nat, w < r → S' (20 + w) = Z d (20 + w))) ?_ 5000 3 (0, ob_z Z c (ob_f (ob_f (ob_f (ob_f (Z c) 0 (Z d 0)) 1 (Z d 1)) 2 (Z d 2)) 3 (Z d 3))) (by omega) ⟨0, _, by omega, rfl, ?_, ?_, ?_, ?_, fun w hw => absurd hw (by omega)⟩
  · rintro k1 _ ⟨r, S', hr, rfl, h0, h1, h2, h3, hw⟩
    have er : dz_c (r : Int) = r := dc_ir (by omega) (by omega)
    simp only [er, oz_f, oz_s, oz_n hcd, oz_z, oz_u, Int.toNat_natCast]
    by_cases hk : r = 3
    · subst hk
      refine dp_ck (by omega) (dp_le (dp_le (dp_sm ?_)))
      simp only [oz_s, oz_n hcd, oz_z]
      refine k _ ⟨?_, ?_, ?_, ?_, ?_, ?_, ?_, ?_, ?_⟩
      · rw [ou_ff (by decide), of_n (by decide), h0]
      · rw [ou_ff (by decide), of_n (by decide), h1]
      · rw [ou_ff (by decide), of_n (by decide), h2]
      · rw [ou_ff (by decide), of_n (by decide), h3]
      · rw [ou_ff (by decide), of_s]
      · rw [ou_ff (by decide), of_n (by decide)]; exact hw 0 (by omega)
      · rw [ou_ff (by decide), of_n (by decide)]; exact hw 1 (by omega)
      · rw [ou_ff (by decide), of_n (by decide)]; exact hw 2 (by omega)
      · rw [ou_s]
    · refine dp_no (by omega) (dp_ck (by omega) (dp_le (dp_sm ⟨k1 - 1, by omega, r + 1, ob_f S' (20 + r) (Z d (20 + r)), by omega, rfl, ?_, ?_, ?_, ?_, fun w hw' => ?_⟩)))
      · rw [of_n (by omega), h0]
      · rw [of_n (by omega), h1]
      · rw [of_n (by omega), h2]
      · rw [of_n (by omega), h3]
      · by_cases e : w = r
        · subst e; rw [of_s]
        · rw [of_n (by omega)]; exact hw w (by omega)
  · rw [of_n (by decide), of_n (by decide), of_n (by decide), of_s]
  · rw [of_n (by decide), of_n (by decide), of_s]
  · rw [of_n (by decide), of_s]
  · rw [of_s]
theorem cp_F (hcd : d ≠ c) {K : dz_Z → Prop} (k : ∀ F' : ob_O, so_qF (Z d) F' → K (ob_z Z c F')) : dz_p (jf_F_copyFrom c d Z) K := by
  unfold jf_F_copyFrom
  refine dp_le (dp_le (dp_le (dp_le (dp_le (dp_le (dp_le (dp_le (dp_le (dp_le (dp_sm ?_))))))))))
  simp only [oz_f, oz_u, oz_s, oz_n hcd, oz_z]
  refine k _ ⟨?_, ?_, ?_, ?_, ?_, ?_, ?_, ?_, ?_, ?_⟩
  · rw [ou_ff (by decide), ou_ff (by decide), ou_ff (by decide), ou_ff (by decide), ou_ff (by decide), of_n (by decide), of_n (by decide), of_n (by decide), of_n (by decide), of_s]
  · rw [ou_ff (by decide), ou_ff (by decide), ou_ff (by decide), ou_ff (by decide), ou_ff (by decide), of_n (by decide), of_n (by decide), of_n (by decide), of_s]
  · rw [ou_ff (by decide), ou_ff (by decide), ou_ff (by decide), ou_ff (by decide), ou_ff (by decide), of_n (by decide), of_n (by decide), of_s]
  · rw [ou_ff (by decide), ou_ff (by decide), ou_ff (by decide), ou_ff (by decide), ou_ff (by decide), of_n (by decide), of_s]
  · rw [ou_ff (by decide), ou_ff (by decide), ou_ff (by decide), ou_ff (by decide), ou_ff (by decide), of_s]
  · rw [ou_f (by decide), ou_f (by decide), ou_f (by decide), ou_f (by decide), ou_s]
  · rw [ou_f (by decide), ou_f (by decide), ou_f (by decide), ou_s]
  · rw [ou_f (by decide), ou_f (by decide), ou_s]
  · rw [ou_f (by decide), ou_s]
  · rw [ou_s]
theorem cp_M (h0 : 0 ≤ e ∧ e ≤ 560) (h1 : 0 ≤ e' ∧ e' ≤ 560) (hd : e + 140 ≤ e' ∨ e' + 140 ≤ e) {K : dz_Z → Prop} (k : ∀ m' : ob_O, (∀ x : Int, 0 ≤ x → x < 140 → m' 0 (e' + x) = m 0 (e + x)) → (∀ j : Int, (j < e' ∨ e' + 140 ≤ j) → m' 0 j = m 0 j) → (∀ f : Nat, f ≠ 0 → m' f = m f) → K (ob_z Y 114 m')) : dz_p (jf_M_copies e e' (ob_z Y 114 m)) K := by
  unfold jf_M_copies
  refine dp_lp (fun k s => ∃ (r : Nat) (m' : ob_O), r + k = 140 ∧ s = ((r : Int), ob_z Y 114 m') ∧ (∀ x : Int, 0 ≤ x → x < r → m' 0 (e' + x) = m 0 (e + x)) ∧ (∀ j : Int, (j < e' ∨ e' + r ≤ j) → m' 0 j = m 0 j) ∧ (∀ f : Nat, f ≠ 0 → m' f = m f)) ?_ 5000 140 (0, ob_z Y 114 m) (by omega) ⟨0, m, by omega, rfl, fun x a b => absurd b (by omega), fun j _ => rfl, fun f _ => rfl⟩
  rintro k1 _ ⟨r, m', hr, rfl, g1, g2, g3⟩
  have er : dz_c (r : Int) = r := dc_ir (by omega) (by omega)
  have er2 : dz_c (e + (r : Int)) = e + r := dc_ir (by omega) (by omega)
  have er3 : dz_c (e' + (r : Int)) = e' + r := dc_ir (by omega) (by omega)
  simp only [er, er2, er3, oz_s]
  by_cases hk : r = 140
  · subst hk
    exact dp_ck (by omega) (dp_sm (k m' g1 g2 g3))
  · refine dp_no (by omega) (dp_ck (by omega) (dp_ck (by omega) (dp_le (dp_sm ⟨k1 - 1, by omega, r + 1, ob_u m' 0 (e' + r) (m' 0 (e + r)), by omega, ?_, fun x a b => ?_, fun j a => ?_, fun f a => ?_⟩))))
    · rw [oz_uz]
      rfl
    · rw [ou_a]
      by_cases c : x = r
      · rw [if_pos (by omega), c, g2 _ (by omega)]
      · rw [if_neg (by omega)]; exact g1 x a (by omega)
    · rw [ou_i (by omega)]; exact g2 j (by omega)
    · rw [ou_ff a]; exact g3 f a
theorem im_is (c1 : dz_c a1 = a1) : jf_O_isImage a1 = some (decide (0 ≤ a1 ∧ a1 < 2)) := by
  unfold jf_O_isImage
  rw [c1]
  by_cases a : a1 < 0
  · rw [if_pos a, decide_eq_false (by omega)]
  · rw [if_neg a]
    by_cases b : 2 ≤ a1
    · rw [if_pos b, decide_eq_false (by omega)]
    · rw [if_neg b, decide_eq_true (by omega)]
theorem iv_im (h : iv n Z m) (ha : 0 ≤ a1 ∧ a1 < 2) : iv_G n (Z (iv_p Z)) (Z (68 + 19 * a1.toNat)) (Z (69 + 19 * a1.toNat)) (Z (79 + 19 * a1.toNat)) m a1.toNat := by
  have hg := h.2.2.2.2.1
  have : a1 = 0 ∨ a1 = 1 := by omega
  rcases this with rfl | rfl
  · exact hg.1
  · exact hg.2
theorem op_back (h : iv_Z n Z) (c1 : dz_c a1 = a1) : dz_p (jf_O_back a1 Z) (fun q => dz_p (jf_M_back a1 q.2) (fun q' => iv_Z (n + 1) q'.2 ∧ dz_c q.1 = dz_c q'.1)) := by
  have hs := iv_isS h.1
  have hs2 := iv_s2 h.1
  have hP := h.2.1
  unfold jf_O_back
  refine dp_bi (dp_eq (im_is c1) ?_)
  simp only [decide_eq_true_eq, c1, show (Z 0 3 0).toNat = iv_s Z from rfl]
  refine dp_br (fun a => dp_ck a ?_) (fun a => dp_sm ?_)
  · have hG := iv_im h a
    have e41 : dz_c (Z 114 41 a1) = Z 114 41 a1 := by
      rcases hG.2 with x | x
      · rw [Int.toNat_of_nonneg a.1] at x; rw [x]; decide
      · have := x.1; rw [Int.toNat_of_nonneg a.1] at this; rw [this]; decide
    have hI : Z (68 + 19 * a1.toNat) 2 0 = Z 114 41 a1 := by rw [hG.1, Int.toNat_of_nonneg a.1]
    rw [hI, e41]
    refine dp_br (fun b => dp_ck hs ?_) (fun b => dp_sm ?_)
    · have hg : iv_I n (140 * (a1 + 1)) (Z (iv_p Z)) (Z (69 + 19 * a1.toNat)) (Z (79 + 19 * a1.toNat)) (Z 114) := by
        rcases hG.2 with x | x
        · rw [Int.toNat_of_nonneg a.1] at x; exact absurd x b
        · have := x.2; rw [Int.toNat_of_nonneg a.1] at this; exact this
      obtain ⟨gS, gR, gB, gF⟩ := hg
      refine dp_bi (cp_S (by omega) (fun S' qS => ?_))
      refine dp_bi (cp_F (by omega) (fun F' qF => dp_sm ?_))
      rw [show 68 + 19 * a1.toNat + 1 = 69 + 19 * a1.toNat by omega] at qS
      rw [show 68 + 19 * a1.toNat + 11 = 79 + 19 * a1.toNat by omega, oz_n (by omega)] at qF
      dsimp only
      have y114 : ob_z (ob_z Z (iv_s Z) S') 46 F' 114 = Z 114 := by rw [oz_n (by decide), oz_n (by omega)]
      have ey : ob_z (ob_z Z (iv_s Z) S') 46 F' = ob_z (ob_z (ob_z Z (iv_s Z) S') 46 F') 114 (Z 114) := by rw [← y114]; exact oz_i.symm
      rw [ey]
      unfold jf_M_back
      rw [c1, oz_s, e41]
      refine dp_ck (by omega) (dp_ck (by omega) (dp_ck b (dp_bi (cp_M (by omega) (by omega) (by omega) (fun m' g1 g2 g3 => dp_sm ⟨?_, ?_⟩)))))
      · dsimp only
        refine iv_fin h (fun b h46 _ _ _ h114 h5 => by rw [oz_n h114, oz_n h46, oz_n h5]) ?_ ?_ ?_
        · rw [oz_s, oz_n (show iv_s Z ≠ 114 by omega), oz_n (show iv_s Z ≠ 46 by omega), oz_s, oz_n (show (46 : Nat) ≠ 114 by decide), oz_s]
          exact ⟨qS_S qS hP gS, qS_R qS hP gS gR (fun x c d => g1 x c (by omega)), sB_m (qF_B qF gB) (by omega) (by omega), qF_R qF gF (fun x c d => g1 x (by omega) (by omega))⟩
        · intro f a _; rw [oz_s, g3 f a]
        · intro j a b; rw [oz_s, g2 j (by omega)]
      · dsimp only
        have := gF.2.1
        rw [oz_s, oz_n (show (46 : Nat) ≠ 114 by decide), oz_s, show (134 : Int) = 0 + 134 by rfl, g1 134 (by decide) (by decide), this, qF.2.2.2.2.2.1]
    · dsimp only
      unfold jf_M_back
      rw [c1, e41]
      exact dp_ck (by omega) (dp_ck (by omega) (dp_no b (dp_sm ⟨iv_nx h, rfl⟩)))
  · dsimp only
    unfold jf_M_back
    rw [c1]
    exact dp_no (by omega) (dp_sm ⟨iv_nx h, rfl⟩)
theorem op_keep (h : iv_Z n Z) (c1 : dz_c a1 = a1) : dz_p (jf_O_keep a1 Z) (fun q => dz_p (jf_M_keep a1 q.2) (fun q' => iv_Z (n + 1) q'.2 ∧ dz_c q.1 = dz_c q'.1)) := by
  have hs := iv_isS h.1
  have hs2 := iv_s2 h.1
  have hp2 := iv_p2 h.1
  have hP := h.2.1
  obtain ⟨hS, rS, hB, rF⟩ := h.2.2.2.1
  unfold jf_O_keep
  refine dp_bi (dp_eq (im_is c1) ?_)
  simp only [decide_eq_true_eq, c1]
  refine dp_br (fun a => dp_ck a ?_) (fun a => dp_sm ?_)
  · have hG := iv_im h a
    have e41 : dz_c (Z 114 41 a1) = Z 114 41 a1 := by
      rcases hG.2 with x | x
      · rw [Int.toNat_of_nonneg a.1] at x; rw [x]; decide
      · have := x.1; rw [Int.toNat_of_nonneg a.1] at this; rw [this]; decide
    have hI : Z (68 + 19 * a1.toNat) 2 0 = Z 114 41 a1 := by rw [hG.1, Int.toNat_of_nonneg a.1]
    rw [hI, e41]
    refine dp_bi ?_
    have main : ∀ q5 : Int, q5 = (if Z 114 41 a1 = 0 then 0 else 1) → dz_p (dz_a (dz_u Z (68 + 19 * a1.toNat) 2 0 1) fun Z6 => if hz_isS (Z6 0 3 0).toNat then Option.bind (jf_S_copyFrom (68 + 19 * a1.toNat + 1) ((Z6 0 3 0).toNat) Z6) fun q8 => Option.bind (jf_F_copyFrom (68 + 19 * a1.toNat + 11) 46 q8) fun q9 => some (q5, q9) else none) (fun q => dz_p (jf_M_keep a1 q.2) (fun q' => iv_Z (n + 1) q'.2 ∧ dz_c q.1 = dz_c q'.1)) := by
      intro q5 hq5
      refine dp_le ?_
      simp only [oz_u]
      have z0 : ob_z Z (68 + 19 * a1.toNat) (ob_u (Z (68 + 19 * a1.toNat)) 2 0 1) 0 = Z 0 := oz_n (by omega)
      rw [z0]
      show dz_p (if hz_isS (iv_s Z) then _ else none) _
      refine dp_ck hs (dp_bi (cp_S (by show iv_s Z ≠ _; omega) (fun S' qS => ?_)))
      refine dp_bi (cp_F (by omega) (fun F' qF => dp_sm ?_))
      rw [show (Z 0 3 0).toNat = iv_s Z from rfl, oz_n (by omega)] at qS
      rw [oz_n (by omega), oz_n (by omega)] at qF
      dsimp only
      generalize hI' : ob_u (Z (68 + 19 * a1.toNat)) 2 0 1 = I'
      have hI2 : I' 2 0 = 1 := by rw [← hI', ou_s]
      have y114 : ob_z (ob_z (ob_z Z (68 + 19 * a1.toNat) I') (68 + 19 * a1.toNat + 1) S') (68 + 19 * a1.toNat + 11) F' 114 = Z 114 := by rw [oz_n (by omega), oz_n (by omega), oz_n (by omega)]
      have ey : ob_z (ob_z (ob_z Z (68 + 19 * a1.toNat) I') (68 + 19 * a1.toNat + 1) S') (68 + 19 * a1.toNat + 11) F' = ob_z (ob_z (ob_z (ob_z Z (68 + 19 * a1.toNat) I') (68 + 19 * a1.toNat + 1) S') (68 + 19 * a1.toNat + 11) F') 114 (Z 114) := by rw [← y114]; exact oz_i.symm
      rw [ey]
      unfold jf_M_keep
      rw [c1]
      refine dp_ck (by omega) (dp_bi (cp_M (by omega) (by omega) (by omega) (fun m' g1 g2 g3 => dp_ck (by omega) (dp_bi ?_))))
      rw [oz_s, g3 41 (by decide), e41]
      have fin : iv_Z (n + 1) (ob_z (ob_z (ob_z (ob_z Z (68 + 19 * a1.toNat) I') (68 + 19 * a1.toNat + 1) S') (68 + 19 * a1.toNat + 11) F') 114 (ob_u m' 41 a1 1)) := by
        have z : ∀ b : Nat, b ≠ 68 + 19 * a1.toNat → b ≠ 69 + 19 * a1.toNat → b ≠ 79 + 19 * a1.toNat → b ≠ 114 → ob_z (ob_z (ob_z (ob_z Z (68 + 19 * a1.toNat) I') (68 + 19 * a1.toNat + 1) S') (68 + 19 * a1.toNat + 11) F') 114 (ob_u m' 41 a1 1) b = Z b := fun b x y w u => by rw [oz_n u, oz_n (by omega), oz_n (by omega), oz_n x]
        obtain ⟨h1, h2, h3, h4, ⟨h5, h6⟩, h7, ⟨h8, h9, h10, h11⟩, h12, h13, h14⟩ := iv_nx h
        have ep : iv_p (ob_z (ob_z (ob_z (ob_z Z (68 + 19 * a1.toNat) I') (68 + 19 * a1.toNat + 1) S') (68 + 19 * a1.toNat + 11) F') 114 (ob_u m' 41 a1 1)) = iv_p Z := by unfold iv_p; rw [z 0 (by omega) (by omega) (by omega) (by omega)]
        have es : iv_s (ob_z (ob_z (ob_z (ob_z Z (68 + 19 * a1.toNat) I') (68 + 19 * a1.toNat + 1) S') (68 + 19 * a1.toNat + 11) F') 114 (ob_u m' 41 a1 1)) = iv_s Z := by unfold iv_s; rw [z 0 (by omega) (by omega) (by omega) (by omega)]
        have mf : ∀ f : Nat, f ≠ 0 → f ≠ 41 → ob_u m' 41 a1 1 f = Z 114 f := fun f x y => by rw [ou_ff y, g3 f x]
        have mj : ∀ j : Int, ob_u m' 41 a1 1 0 j = m' 0 j := fun j => ou_f (by decide)
        have im : ∀ k : Nat, k < 2 → iv_G (n + 1) (Z (iv_p Z)) (Z (68 + 19 * k)) (Z (69 + 19 * k)) (Z (79 + 19 * k)) (Z 114) k → iv_G (n + 1) (Z (iv_p Z)) (ob_z (ob_z (ob_z (ob_z Z (68 + 19 * a1.toNat) I') (68 + 19 * a1.toNat + 1) S') (68 + 19 * a1.toNat + 11) F') 114 (ob_u m' 41 a1 1) (68 + 19 * k)) (ob_z (ob_z (ob_z (ob_z Z (68 + 19 * a1.toNat) I') (68 + 19 * a1.toNat + 1) S') (68 + 19 * a1.toNat + 11) F') 114 (ob_u m' 41 a1 1) (69 + 19 * k)) (ob_z (ob_z (ob_z (ob_z Z (68 + 19 * a1.toNat) I') (68 + 19 * a1.toNat + 1) S') (68 + 19 * a1.toNat + 11) F') 114 (ob_u m' 41 a1 1) (79 + 19 * k)) (ob_u m' 41 a1 1) k := by
          intro k hk hg
          by_cases e : k = a1.toNat
          · subst e
            rw [oz_n (b := 114) (by omega), oz_n (c := 68 + 19 * a1.toNat) (by omega), oz_n (c := 68 + 19 * a1.toNat) (by omega), oz_s, oz_n (b := 114) (c := 69 + 19 * a1.toNat) (by omega), oz_n (c := 69 + 19 * a1.toNat) (by omega), show ob_z (ob_z Z (68 + 19 * a1.toNat) I') (68 + 19 * a1.toNat + 1) S' (69 + 19 * a1.toNat) = S' from by rw [show 69 + 19 * a1.toNat = 68 + 19 * a1.toNat + 1 by omega, oz_s], oz_n (b := 114) (c := 79 + 19 * a1.toNat) (by omega), show ob_z (ob_z (ob_z Z (68 + 19 * a1.toNat) I') (68 + 19 * a1.toNat + 1) S') (68 + 19 * a1.toNat + 11) F' (79 + 19 * a1.toNat) = F' from by rw [show 79 + 19 * a1.toNat = 68 + 19 * a1.toNat + 11 by omega, oz_s]]
            have em : ob_u m' 41 a1 1 41 (a1.toNat : Int) = 1 := by rw [Int.toNat_of_nonneg a.1, ou_s]
            refine ⟨by rw [em, hI2], Or.inr ⟨em, ?_⟩⟩
            rw [Int.toNat_of_nonneg a.1]
            refine ⟨qS_S qS hP hS, qS_R qS hP hS rS (fun x c d => by rw [mj]; exact g1 x c (by omega)), qF_B qF (sB_m hB (by omega) (by omega)), qF_R qF rF (fun x c d => by rw [mj]; exact g1 x (by omega) (by omega))⟩
          · rw [z _ (by omega) (by omega) (by omega) (by omega), z _ (by omega) (by omega) (by omega) (by omega), z _ (by omega) (by omega) (by omega) (by omega)]
            have e41' : ob_u m' 41 a1 1 41 (k : Int) = Z 114 41 k := by rw [ou_i (by omega), g3 41 (by decide)]
            unfold iv_G
            rw [e41']
            refine ⟨hg.1, ?_⟩
            rcases hg.2 with x | x
            · exact Or.inl x
            · exact Or.inr ⟨x.1, iv_Im x.2 hP (fun j c d => by rw [mj]; exact g2 j (by omega))⟩
        unfold iv_Z iv
        rw [ep, es, oz_s, z 0 (by omega) (by omega) (by omega) (by omega), z 1 (by omega) (by omega) (by omega) (by omega), z (iv_p Z) (by omega) (by omega) (by omega) (by omega), z (iv_s Z) (by omega) (by omega) (by omega) (by omega), z 46 (by omega) (by omega) (by omega) (by omega), z 2 (by omega) (by omega) (by omega) (by omega), z 106 (by omega) (by omega) (by omega) (by omega), z 108 (by omega) (by omega) (by omega) (by omega), z 110 (by omega) (by omega) (by omega) (by omega), z 112 (by omega) (by omega) (by omega) (by omega), mf 45 (by decide) (by decide), mf 30 (by decide) (by decide), mf 31 (by decide) (by decide)]
        exact ⟨h1, h2, mrP_m h3 (fun f a b => mf f (by omega) (by omega)), iv_Im h4 h2 (fun j c d => by rw [mj]; exact g2 j (by omega)), ⟨im 0 (by decide) h5, im 1 (by decide) h6⟩, iv_Tm h7 (mf 21 (by decide) (by decide)) (mf 22 (by decide) (by decide)), ⟨iv_hm h8 (mf 42 (by decide) (by decide)) (mf 43 (by decide) (by decide)) (mf 44 (by decide) (by decide)), iv_hm h9 (mf 42 (by decide) (by decide)) (mf 43 (by decide) (by decide)) (mf 44 (by decide) (by decide)), iv_hm h10 (mf 42 (by decide) (by decide)) (mf 43 (by decide) (by decide)) (mf 44 (by decide) (by decide)), iv_hm h11 (mf 42 (by decide) (by decide)) (mf 43 (by decide) (by decide)) (mf 44 (by decide) (by decide))⟩, h12, h13, h14⟩
      by_cases b : Z 114 41 a1 = 0
      · rw [if_pos b] at hq5
        subst hq5
        refine dp_ck b (dp_sm (dp_le (dp_sm ⟨?_, rfl⟩)))
        rw [oz_uz]
        exact fin
      · rw [if_neg b] at hq5
        subst hq5
        refine dp_no b (dp_sm (dp_le (dp_sm ⟨?_, rfl⟩)))
        rw [oz_uz]
        exact fin
    by_cases b : Z 114 41 a1 = 0
    · exact dp_ck b (dp_sm (main 0 (by rw [if_pos b])))
    · exact dp_no b (dp_sm (main 1 (by rw [if_neg b])))
  · dsimp only
    unfold jf_M_keep
    rw [c1]
    exact dp_no (by omega) (dp_sm ⟨iv_nx h, rfl⟩)
end og
