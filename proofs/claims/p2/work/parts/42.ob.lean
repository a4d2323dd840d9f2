/-! calls that set something on the current page -/
section ob
variable {n : Nat} {Z Y W : dz_Z} {P S F m m' : ob_O} {a1 a2 a3 a4 v g : Int}
theorem iv_fin (h : iv_Z n Z) (hW : ∀ b : Nat, b ≠ 46 → b ≠ 54 → b ≠ 55 → b ≠ 65 → b ≠ 114 → b ≠ iv_s Z → W b = Z b) (hI : iv_I (n + 1) 0 (Z (iv_p Z)) (W (iv_s Z)) (W 46) (W 114)) (hf : ∀ f : Nat, f ≠ 0 → (f < 32 ∨ 40 < f) → W 114 f = Z 114 f) (hj : ∀ j : Int, 140 ≤ j → j < 420 → W 114 0 j = Z 114 0 j) : iv_Z (n + 1) W := iv_pg h (by omega) hW hI hf hj
theorem iv_nx (h : iv_Z n Z) : iv_Z (n + 1) Z := iv_n h (by omega)
/-- the memory behind a call of the class that changes the setup, and one of the reference -/
theorem W_s {s : Nat} (hs : s = 36 ∨ s = 15) : ob_z (ob_z Z s S) 114 m s = S ∧ ob_z (ob_z Z s S) 114 m 46 = Z 46 ∧ ob_z (ob_z Z s S) 114 m 114 = m ∧ (∀ b : Nat, b ≠ 46 → b ≠ 54 → b ≠ 55 → b ≠ 65 → b ≠ 114 → b ≠ s → ob_z (ob_z Z s S) 114 m b = Z b) := by
  refine ⟨?_, ?_, oz_s, fun b _ _ _ _ h1 h2 => ?_⟩
  · rw [oz_n (by omega), oz_s]
  · rw [oz_n (by omega), oz_n (by omega)]
  · rw [oz_n h1, oz_n h2]
theorem so_S_peg (h : so_S P S) (hv : 0 ≤ v ∧ v ≤ 2) : so_S P (ob_u S 0 g v) := by
  refine ⟨fun i a b => ?_, ?_, ?_, ?_, ?_, ?_⟩
  · rw [ou_a]
    split
    · exact hv
    · exact h.1 i a b
  · rw [ou_ff (by decide)]; exact h.2.1
  · rw [ou_ff (by decide)]; exact h.2.2.1
  · intro w a b
    rw [ou_ff (by decide), ou_ff (by omega)]; exact h.2.2.2.1 w a b
  · rw [ou_f (by decide)]; exact h.2.2.2.2.1
  · intro i a b
    rw [ou_f (by decide)] at b
    rw [ou_f (by decide)]
    exact h.2.2.2.2.2 i a b
theorem mr_S_peg (hP : so_P P) (hS : so_S P S) (h : mr_S 0 P S m) (hg : 0 ≤ g ∧ g < P 3 0) : mr_S 0 P (ob_u S 0 g v) (ob_u m 0 g v) := by
  have h3 := hP.2.2.1
  have h6 := hP.2.2.2.2.1
  have h10 := hP.2.2.2.2.2.2.1
  have hs6 := hS.2.2.2.2.1
  refine ⟨⟨fun i a b => ?_, fun i a b => ?_, fun i a b => ?_⟩, fun i a b => ?_, fun w a b => ?_, ?_, fun i a b => ?_⟩
  · rw [ou_a, ou_a, h.1.1 i a b]
    by_cases c : i = g
    · rw [if_pos (by omega), if_pos c]
    · rw [if_neg (by omega), if_neg c]
  · rw [ou_i (by omega), ou_f (by decide)]; exact h.1.2.1 i a b
  · rw [ou_i (by omega), ou_i (by omega), ou_i (by omega), ou_f (by decide)]; exact h.1.2.2 i a b
  · rw [ou_i (by omega), ou_i (by omega), ou_f (by decide)]; exact h.2.1 i a b
  · have hl := (hS.2.2.2.1 w a b).1
    rw [ou_i (by omega), ou_f (by decide)]
    refine ⟨(h.2.2.1 w a b).1, fun i c d => ?_⟩
    rw [ou_i (by omega), ou_f (by omega)]; exact (h.2.2.1 w a b).2 i c d
  · rw [ou_i (by omega), ou_f (by decide)]; exact h.2.2.2.1
  · rw [ou_f (by decide)] at b
    rw [ou_i (by omega), ou_f (by decide)]; exact h.2.2.2.2 i a b
theorem so_S_blk (h : so_S P S) (hv : v = 0 ∨ v = 1) : so_S P (ob_u S 1 g v) := by
  refine ⟨?_, fun i a b => ?_, ?_, ?_, ?_, ?_⟩
  · rw [ou_ff (by decide)]; exact h.1
  · rw [ou_a]
    split
    · exact hv
    · exact h.2.1 i a b
  · rw [ou_ff (by decide)]; exact h.2.2.1
  · intro w a b
    rw [ou_ff (by decide), ou_ff (by omega)]; exact h.2.2.2.1 w a b
  · rw [ou_f (by decide)]; exact h.2.2.2.2.1
  · intro i a b
    rw [ou_f (by decide)] at b
    rw [ou_f (by decide)]
    exact h.2.2.2.2.2 i a b
theorem mr_S_blk (hP : so_P P) (hS : so_S P S) (h : mr_S 0 P S m) (hg : 0 ≤ g ∧ g < 5) : mr_S 0 P (ob_u S 1 g v) (ob_u m 0 (5 + g) v) := by
  have h3 := hP.2.2.1
  have h6 := hP.2.2.2.2.1
  have h10 := hP.2.2.2.2.2.2.1
  have hs6 := hS.2.2.2.2.1
  refine ⟨⟨fun i a b => ?_, fun i a b => ?_, fun i a b => ?_⟩, fun i a b => ?_, fun w a b => ?_, ?_, fun i a b => ?_⟩
  · rw [ou_i (by omega), ou_f (by decide)]; exact h.1.1 i a b
  · rw [ou_a, ou_a, h.1.2.1 i a b]
    by_cases c : i = g
    · rw [if_pos (by omega), if_pos c]
    · rw [if_neg (by omega), if_neg c]
  · rw [ou_i (by omega), ou_i (by omega), ou_i (by omega), ou_f (by decide)]; exact h.1.2.2 i a b
  · rw [ou_i (by omega), ou_i (by omega), ou_f (by decide)]; exact h.2.1 i a b
  · have hl := (hS.2.2.2.1 w a b).1
    rw [ou_i (by omega), ou_f (by decide)]
    refine ⟨(h.2.2.1 w a b).1, fun i c d => ?_⟩
    rw [ou_i (by omega), ou_f (by omega)]; exact (h.2.2.1 w a b).2 i c d
  · rw [ou_i (by omega), ou_f (by decide)]; exact h.2.2.2.1
  · rw [ou_f (by decide)] at b
    rw [ou_i (by omega), ou_f (by decide)]; exact h.2.2.2.2 i a b
theorem op_peg (h : iv_Z n Z) (c1 : dz_c a1 = a1) (c2 : dz_c a2 = a2) : dz_p (jf_O_peg a1 a2 Z) (fun q => dz_p (jf_M_peg a1 a2 q.2) (fun q' => iv_Z (n + 1) q'.2 ∧ dz_c q.1 = dz_c q'.1)) := by
  have hs := iv_isS h.1
  have hs2 := iv_s2 h.1
  have h3 := h.2.1.2.2.1
  have rP := h.2.2.1
  obtain ⟨hS, rS, hB, rF⟩ := h.2.2.2.1
  unfold jf_O_peg jf_M_peg
  refine dp_bi (dp_eq (oi_gO h c1) ?_)
  simp only [show (Z 0 3 0).toNat = iv_s Z from rfl, c1, c2, decide_eq_false_iff_not, Int.zero_add]
  refine dp_br (fun hg => dp_sm ?_) (fun hg => ?_)
  · refine dp_bi (dp_eq (oi_gM h.2.1 rP rfl c1) ?_)
    simp only [decide_eq_false_iff_not]
    exact dp_ck hg (dp_sm ⟨iv_nx h, rfl⟩)
  have hg' : 0 ≤ a1 ∧ a1 < Z (iv_p Z) 3 0 := by omega
  have bad : ¬(0 ≤ a2 ∧ a2 ≤ 2) → dz_p (jf_M_peg a1 a2 Z) (fun q' => iv_Z (n + 1) q'.2 ∧ dz_c (-1) = dz_c q'.1) := by
    intro hv
    unfold jf_M_peg
    refine dp_bi (dp_eq (oi_gM h.2.1 rP rfl c1) ?_)
    simp only [decide_eq_false_iff_not, c2]
    exact dp_no hg (dp_no hv (dp_sm ⟨iv_nx h, rfl⟩))
  unfold jf_M_peg at bad
  simp only [c1, c2, Int.zero_add] at bad
  refine dp_br (fun a => dp_sm (bad (by omega))) (fun a => dp_br (fun b => ?_) (fun b => dp_sm (bad (by omega))))
  refine dp_ck hs (dp_ck (by omega) (dp_le (dp_sm ?_)))
  rw [oz_u]
  have y114 : ob_z Z (iv_s Z) (ob_u (Z (iv_s Z)) 0 a1 a2) 114 = Z 114 := oz_n (by omega)
  refine dp_bi (dp_eq (oi_gM h.2.1 rP y114 c1) ?_)
  simp only [decide_eq_false_iff_not]
  refine dp_no hg (dp_ck (by omega) (dp_ck (by omega) (dp_le (dp_sm ?_))))
  simp only [oz_u, y114]
  obtain ⟨w1, w2, w3, w4⟩ := W_s (Z := Z) (S := ob_u (Z (iv_s Z)) 0 a1 a2) (m := ob_u (Z 114) 0 a1 a2) hs2
  refine ⟨iv_fin h w4 ?_ ?_ ?_, ?_⟩
  · rw [w1, w2, w3]
    exact ⟨so_S_peg hS (by omega), mr_S_peg h.2.1 hS rS hg', sB_m hB (by omega) (by omega), mrF_m rF (fun j _ _ => ou_i (by omega))⟩
  · intro f a _; rw [w3, ou_ff a]
  · intro j a b; rw [w3, ou_i (by omega)]
  · have := rS.1.1 a1 hg'.1 hg'.2
    rw [Int.zero_add] at this
    rw [this]
theorem op_block (h : iv_Z n Z) (c1 : dz_c a1 = a1) : dz_p (jf_O_block a1 a2 Z) (fun q => dz_p (jf_M_block a1 a2 q.2) (fun q' => iv_Z (n + 1) q'.2 ∧ dz_c q.1 = dz_c q'.1)) := by
  have hs := iv_isS h.1
  have hs2 := iv_s2 h.1
  have h3 := h.2.1.2.2.1
  have rP := h.2.2.1
  obtain ⟨hS, rS, hB, rF⟩ := h.2.2.2.1
  unfold jf_O_block jf_M_block
  refine dp_bi (dp_eq (oi_gO h c1) ?_)
  simp only [show (Z 0 3 0).toNat = iv_s Z from rfl, c1, decide_eq_true_eq]
  refine dp_br (fun hg => ?_) (fun hg => dp_sm ?_)
  · have e5 : dz_c (5 + a1) = 5 + a1 := dc_ir (by omega) (by omega)
    have fin : ∀ x : Int, (x = 0 ∨ x = 1) → iv_Z (n + 1) (ob_z (ob_z Z (iv_s Z) (ob_u (Z (iv_s Z)) 1 a1 x)) 114 (ob_u (Z 114) 0 (5 + a1) x)) := by
      intro x hx
      obtain ⟨w1, w2, w3, w4⟩ := W_s (Z := Z) (S := ob_u (Z (iv_s Z)) 1 a1 x) (m := ob_u (Z 114) 0 (5 + a1) x) hs2
      refine iv_fin h w4 ?_ ?_ ?_
      · rw [w1, w2, w3]
        exact ⟨so_S_blk hS hx, mr_S_blk h.2.1 hS rS (by omega), sB_m hB (by omega) (by omega), mrF_m rF (fun j _ _ => ou_i (by omega))⟩
      · intro f a _; rw [w3, ou_ff a]
      · intro j a b; rw [w3, ou_i (by omega)]
    have hw := rS.1.2.1 a1 hg.1 (by omega)
    rw [Int.zero_add] at hw
    rw [e5]
    refine dp_ck hs (dp_ck (by omega) (dp_br (fun a => dp_le (dp_sm ?_)) (fun a => dp_le (dp_sm ?_))))
    · have y114 : ob_z Z (iv_s Z) (ob_u (Z (iv_s Z)) 1 a1 0) 114 = Z 114 := oz_n (by omega)
      rw [oz_u]
      refine dp_bi (dp_eq (oi_gM h.2.1 rP y114 c1) ?_)
      simp only [decide_eq_true_eq]
      refine dp_ck hg (dp_ck (by omega) (dp_ck a (dp_le (dp_sm ?_))))
      simp only [oz_u, y114]
      exact ⟨fin 0 (Or.inl rfl), by rw [hw]⟩
    · have y114 : ob_z Z (iv_s Z) (ob_u (Z (iv_s Z)) 1 a1 1) 114 = Z 114 := oz_n (by omega)
      rw [oz_u]
      refine dp_bi (dp_eq (oi_gM h.2.1 rP y114 c1) ?_)
      simp only [decide_eq_true_eq]
      refine dp_ck hg (dp_ck (by omega) (dp_no a (dp_le (dp_sm ?_))))
      simp only [oz_u, y114]
      exact ⟨fin 1 (Or.inr rfl), by rw [hw]⟩
  · refine dp_bi (dp_eq (oi_gM h.2.1 rP rfl c1) ?_)
    simp only [decide_eq_true_eq]
    exact dp_no hg (dp_sm ⟨iv_nx h, rfl⟩)
theorem op_rain (h : iv_Z n Z) (hn : n < 512) (c1 : dz_c a1 = a1) : dz_p (jf_O_rain a1 Z) (fun q => dz_p (jf_M_rain a1 q.2) (fun q' => iv_Z (n + 1) q'.2 ∧ dz_c q.1 = dz_c q'.1)) := by
  have hp := iv_isP h.1
  have hs := iv_isS h.1
  have hs2 := iv_s2 h.1
  have rP := h.2.2.1
  obtain ⟨hS, rS, hB, rF⟩ := h.2.2.2.1
  have hr : jf_O_isRain a1 = some (decide (0 ≤ a1 ∧ a1 ≤ 9)) := by
    unfold jf_O_isRain
    rw [c1]
    by_cases a : a1 < 0
    · rw [if_pos a, decide_eq_false (by omega)]
    · rw [if_neg a]
      by_cases b : 9 < a1
      · rw [if_pos b, decide_eq_false (by omega)]
      · rw [if_neg b, decide_eq_true (by omega)]
  unfold jf_O_rain jf_M_rain
  refine dp_bi (dp_eq hr ?_)
  simp only [show (Z 0 3 0).toNat = iv_s Z from rfl, show (Z 0 2 0).toNat = iv_p Z from rfl, c1, decide_eq_true_eq]
  refine dp_br (fun hv => ?_) (fun hv => dp_sm (dp_ck hv (dp_sm ⟨iv_nx h, rfl⟩)))
  refine dp_ck hp (dp_ck hs (dp_bi (dp_eq (cf_sec (Or.inl rfl) hp hs h.2.1 hS) (dp_sm ?_))))
  refine dp_no (by omega) ?_
  have hsec := sc_sec (v := a1) h.2.1 hS hv hB (by omega)
  generalize hx : so_sec (Z (iv_p Z)) (Z (iv_s Z)) a1 (Z 46) = x at hsec
  have y114 : ob_z Z 46 x.2 114 = Z 114 := oz_n (by decide)
  have ey : ob_z Z 46 x.2 = ob_z (ob_z Z 46 x.2) 114 (Z 114) := by rw [← y114]; exact oz_i.symm
  rw [ey]
  refine dp_bi (mf_sec (e := 0) (Or.inl rfl) h.2.1 hS hv hB (by omega) (by omega) rP rS.1 rF (fun m' hF hf hj => dp_sm ?_))
  rw [hx] at hF ⊢
  dsimp only
  refine ⟨iv_fin h (fun b h46 _ _ _ h114 _ => by rw [oz_n h114, oz_n h46]) ?_ ?_ ?_, rfl⟩
  · rw [oz_s, oz_n (show iv_s Z ≠ 114 by omega), oz_n (show iv_s Z ≠ 46 by omega), oz_n (show (46 : Nat) ≠ 114 by decide), oz_s]
    exact ⟨hS, mrS_m rS h.2.1 hS (fun j _ _ => hj j (by omega)), sB_m hsec.1 (by omega) (by omega), hF⟩
  · intro f a b; rw [oz_s, hf f a (by omega) (by omega) (by omega)]
  · intro j a b; rw [oz_s, hj j (by omega)]
theorem so_S_cup {s k : Int} (h : so_S P S) (hk : k = 0 ∨ k = 5) : so_S P (ob_u S 2 s k) := by
  refine ⟨?_, ?_, fun i a b => ?_, ?_, ?_, ?_⟩
  · rw [ou_ff (by decide)]; exact h.1
  · rw [ou_ff (by decide)]; exact h.2.1
  · rw [ou_a]
    split
    · exact ⟨by omega, fun q => by omega, fun q => by omega⟩
    · exact h.2.2.1 i a b
  · intro w a b
    rw [ou_ff (by decide), ou_ff (by omega)]; exact h.2.2.2.1 w a b
  · rw [ou_f (by decide)]; exact h.2.2.2.2.1
  · intro i a b
    rw [ou_f (by decide)] at b
    rw [ou_f (by decide)]
    exact h.2.2.2.2.2 i a b
theorem op_cup (h : iv_Z n Z) (c1 : dz_c a1 = a1) (c2 : dz_c a2 = a2) : dz_p (jf_O_cup a1 a2 Z) (fun q => dz_p (jf_M_cup a1 a2 q.2) (fun q' => iv_Z (n + 1) q'.2 ∧ dz_c q.1 = dz_c q'.1)) := by
  have hs := iv_isS h.1
  have hs2 := iv_s2 h.1
  have hP := h.2.1
  have h3 := h.2.1.2.2.1
  have h6 := h.2.1.2.2.2.2.1
  have h10 := h.2.1.2.2.2.2.2.2.1
  have rP := h.2.2.1
  obtain ⟨hS, rS, hB, rF⟩ := h.2.2.2.1
  have hs6 := hS.2.2.2.2.1
  unfold jf_O_cup jf_M_cup
  refine dp_bi (dp_eq (oi_sO h c1) ?_)
  simp only [show (Z 0 3 0).toNat = iv_s Z from rfl, c1, c2, decide_eq_false_iff_not]
  refine dp_br (fun hg => dp_sm ?_) (fun hg => ?_)
  · refine dp_bi (dp_eq (oi_sM h.2.1 rP rfl c1) ?_)
    simp only [decide_eq_false_iff_not]
    exact dp_ck hg (dp_sm ⟨iv_nx h, rfl⟩)
  have hg' : 0 ≤ a1 ∧ a1 < Z (iv_p Z) 6 0 := by omega
  have e10 : dz_c (10 + a1) = 10 + a1 := dc_ir (by omega) (by omega)
  have e18 : dz_c (18 + a1) = 18 + a1 := dc_ir (by omega) (by omega)
  have e26 : dz_c (26 + a1) = 26 + a1 := dc_ir (by omega) (by omega)
  have e86 : dz_c (86 + a1) = 86 + a1 := dc_ir (by omega) (by omega)
  have e94 : dz_c (94 + a1) = 94 + a1 := dc_ir (by omega) (by omega)
  have rf := rF.1 a1 hg'.1 (by omega)
  have rk := rS.1.2.2 a1 hg'.1 hg'.2
  simp only [Int.zero_add] at rf rk
  have r7 := rF.2.2.2.1
  rw [Int.zero_add] at r7
  have hemp : jf_F_emptyCup 46 a1 (ob_z Z (iv_s Z) (ob_u (Z (iv_s Z)) 2 a1 a2)) = some (ob_z (ob_z Z (iv_s Z) (ob_u (Z (iv_s Z)) 2 a1 a2)) 46 (ob_u (ob_u (ob_u (Z 46) 7 0 (Z 46 7 0 + Z 46 0 a1)) 0 a1 0) 1 a1 0)) := by
    have z46 : ob_z Z (iv_s Z) (ob_u (Z (iv_s Z)) 2 a1 a2) 46 = Z 46 := oz_n (by omega)
    unfold jf_F_emptyCup
    rw [c1, if_pos (by omega)]
    simp only [dz_a, oz_u, oz_s, oz_z, z46]
  have hmc : (a2 = 0 ∨ a2 = 5) → ∀ Y : dz_Z, Y 114 = Z 114 → dz_p (if 0 ≤ 10 + a1 ∧ 10 + a1 < 700 then dz_a (dz_u Y 114 0 (10 + a1) a2) fun Z5 => if 0 ≤ 18 + a1 ∧ 18 + a1 < 700 then dz_a (dz_u Z5 114 0 (18 + a1) 0) fun Z7 => if 0 ≤ 26 + a1 ∧ 26 + a1 < 700 then dz_a (dz_u Z7 114 0 (26 + a1) (-4)) fun Z9 => if 0 ≤ 86 + a1 ∧ 86 + a1 < 700 then dz_a (dz_u Z9 114 0 136 ((Z9 114 0 136) + (Z9 114 0 (86 + a1)))) fun Z11 => dz_a (dz_u Z11 114 0 (86 + a1) 0) fun Z12 => if 0 ≤ 94 + a1 ∧ 94 + a1 < 700 then dz_a (dz_u Z12 114 0 (94 + a1) 0) fun Z14 => some (Y 114 0 (10 + a1), Z14) else none else none else none else none else none) (fun q' => q' = (Z (iv_s Z) 2 a1, ob_z Y 114 (ob_u (ob_u (ob_u (ob_u (ob_u (ob_u (Z 114) 0 (10 + a1) a2) 0 (18 + a1) 0) 0 (26 + a1) (-4)) 0 136 (Z 46 7 0 + Z 46 0 a1)) 0 (86 + a1) 0) 0 (94 + a1) 0))) := by
    intro _ Y hY
    refine dp_ck (by omega) (dp_le (dp_ck (by omega) (dp_le (dp_ck (by omega) (dp_le (dp_ck (by omega) (dp_le (dp_le (dp_ck (by omega) (dp_le (dp_sm ?_)))))))))))
    simp only [oz_u, oz_s, oz_z, hY]
    rw [rk.1, show ob_u (ob_u (ob_u (Z 114) 0 (10 + a1) a2) 0 (18 + a1) 0) 0 (26 + a1) (-4) 0 136 = Z 46 7 0 from by rw [ou_i (by omega), ou_i (by omega), ou_i (by omega)]; exact r7, show ob_u (ob_u (ob_u (Z 114) 0 (10 + a1) a2) 0 (18 + a1) 0) 0 (26 + a1) (-4) 0 (86 + a1) = Z 46 0 a1 from by rw [ou_i (by omega), ou_i (by omega), ou_i (by omega)]; exact rf.1]
  have fin : (a2 = 0 ∨ a2 = 5) → iv_Z (n + 1) (ob_z (ob_z (ob_z Z (iv_s Z) (ob_u (Z (iv_s Z)) 2 a1 a2)) 46 (ob_u (ob_u (ob_u (Z 46) 7 0 (Z 46 7 0 + Z 46 0 a1)) 0 a1 0) 1 a1 0)) 114 (ob_u (ob_u (ob_u (ob_u (ob_u (ob_u (Z 114) 0 (10 + a1) a2) 0 (18 + a1) 0) 0 (26 + a1) (-4)) 0 136 (Z 46 7 0 + Z 46 0 a1)) 0 (86 + a1) 0) 0 (94 + a1) 0)) := by
    intro hk
    refine iv_fin h (fun b h46 _ _ _ h114 h5 => by rw [oz_n h114, oz_n h46, oz_n h5]) ?_ ?_ ?_
    · rw [oz_s, oz_n (show iv_s Z ≠ 114 by omega), oz_n (show iv_s Z ≠ 46 by omega), oz_s, oz_n (show (46 : Nat) ≠ 114 by decide), oz_s]
      refine ⟨so_S_cup hS hk, ⟨⟨fun i a b => ?_, fun i a b => ?_, fun i a b => ?_⟩, fun i a b => ?_, fun w a b => ?_, ?_, fun i a b => ?_⟩, ?_, ⟨fun i a b => ?_, ?_, ?_, ?_, ?_⟩⟩
      · rw [ou_i (by omega), ou_i (by omega), ou_i (by omega), ou_i (by omega), ou_i (by omega), ou_i (by omega), ou_f (by decide)]; exact rS.1.1 i a b
      · rw [ou_i (by omega), ou_i (by omega), ou_i (by omega), ou_i (by omega), ou_i (by omega), ou_i (by omega), ou_f (by decide)]; exact rS.1.2.1 i a b
      · have r := rS.1.2.2 i a b
        simp only [Int.zero_add] at r ⊢
        by_cases c : i = a1
        · subst c
          rw [ou_i (by omega), ou_i (by omega), ou_i (by omega), ou_i (by omega), ou_i (by omega), ou_s, ou_s]
          exact ⟨rfl, fun q => by omega, fun q => by omega⟩
        · rw [ou_i (i' := 10 + i) (by omega), ou_i (i' := 10 + i) (by omega), ou_i (i' := 10 + i) (by omega), ou_i (i' := 10 + i) (by omega), ou_i (i' := 10 + i) (by omega), ou_i (i' := 10 + i) (by omega), ou_i (i' := 18 + i) (by omega), ou_i (i' := 18 + i) (by omega), ou_i (i' := 18 + i) (by omega), ou_i (i' := 18 + i) (by omega), ou_i (i' := 18 + i) (by omega), ou_i (i' := 18 + i) (by omega), ou_i (i' := 26 + i) (by omega), ou_i (i' := 26 + i) (by omega), ou_i (i' := 26 + i) (by omega), ou_i (i' := 26 + i) (by omega), ou_i (i' := 26 + i) (by omega), ou_i (i' := 26 + i) (by omega), ou_i (f := 2) c]
          exact r
      · have r := rS.2.1 i a b
        simp only [Int.zero_add] at r ⊢
        by_cases c : i = a1
        · subst c
          refine ⟨fun _ => ?_, fun _ => ?_⟩
          · rw [ou_i (by omega), ou_i (by omega), ou_i (by omega), ou_i (by omega), ou_s]
          · rw [ou_i (by omega), ou_i (by omega), ou_i (by omega), ou_s]
        · rw [ou_i (i' := 18 + i) (by omega), ou_i (i' := 18 + i) (by omega), ou_i (i' := 18 + i) (by omega), ou_i (i' := 18 + i) (by omega), ou_i (i' := 18 + i) (by omega), ou_i (i' := 18 + i) (by omega), ou_i (i' := 26 + i) (by omega), ou_i (i' := 26 + i) (by omega), ou_i (i' := 26 + i) (by omega), ou_i (i' := 26 + i) (by omega), ou_i (i' := 26 + i) (by omega), ou_i (i' := 26 + i) (by omega), ou_i (f := 2) c]
          exact r
      · have hl := (hS.2.2.2.1 w a b).1
        rw [ou_f (f' := 3) (by decide)]
        refine ⟨?_, fun i c d => ?_⟩
        · rw [ou_i (by omega), ou_i (by omega), ou_i (by omega), ou_i (by omega), ou_i (by omega), ou_i (by omega)]; exact (rS.2.2.1 w a b).1
        · rw [ou_i (by omega), ou_i (by omega), ou_i (by omega), ou_i (by omega), ou_i (by omega), ou_i (by omega), ou_f (by omega)]; exact (rS.2.2.1 w a b).2 i c d
      · rw [ou_i (by omega), ou_i (by omega), ou_i (by omega), ou_i (by omega), ou_i (by omega), ou_i (by omega), ou_f (by decide)]; exact rS.2.2.2.1
      · rw [ou_f (by decide)] at b
        rw [ou_i (by omega), ou_i (by omega), ou_i (by omega), ou_i (by omega), ou_i (by omega), ou_i (by omega), ou_f (by decide)]; exact rS.2.2.2.2 i a b
      · refine ⟨fun i a b => ?_, ?_⟩
        · have hb := hB.1 i a b
          rw [ou_f (f' := 0) (by decide), ou_a, ou_f (f' := 0) (by decide), ou_f (f' := 3) (by decide), ou_f (f' := 3) (by decide), ou_f (f' := 3) (by decide), ou_a, ou_f (f' := 1) (by decide), ou_f (f' := 1) (by decide), ou_f (f' := 2) (by decide), ou_f (f' := 2) (by decide), ou_f (f' := 2) (by decide)]
          refine ⟨?_, hb.2.1, ?_, hb.2.2.2.1, by omega⟩
          · split
            · omega
            · exact hb.1
          · split
            · omega
            · exact hb.2.2.1
        · rw [ou_ff (show (0 : Nat) ≠ 1 by decide), ou_fn, ou_ff (show (0 : Nat) ≠ 7 by decide), ou_ff (show (3 : Nat) ≠ 1 by decide), ou_ff (show (3 : Nat) ≠ 0 by decide), ou_ff (show (3 : Nat) ≠ 7 by decide), sm_u, if_pos (by omega)]
          have hb := hB.1 a1 hg'.1 (by omega)
          have := hB.2
          omega
      · have r := rF.1 i a b
        simp only [Int.zero_add] at r ⊢
        rw [ou_f (o := ob_u (ob_u (Z 46) 7 0 _) 0 a1 0) (f' := 0) (by decide), ou_a (f := 0) (i' := i), ou_f (f := 7) (f' := 0) (by decide), ou_a (f := 1) (i' := i), ou_f (f := 0) (f' := 1) (by decide), ou_f (f := 7) (f' := 1) (by decide), ou_f (f := 1) (f' := 2) (by decide), ou_f (f := 0) (f' := 2) (by decide), ou_f (f := 7) (f' := 2) (by decide), ou_f (f := 1) (f' := 3) (by decide), ou_f (f := 0) (f' := 3) (by decide), ou_f (f := 7) (f' := 3) (by decide), ou_f (f := 1) (f' := 4) (by decide), ou_f (f := 0) (f' := 4) (by decide), ou_f (f := 7) (f' := 4) (by decide)]
        refine ⟨?_, ?_, ?_, ?_, ?_, ?_, r.2.2.2.2.2.2⟩
        · rw [ou_i (by omega), ou_a]
          by_cases c : i = a1
          · rw [if_pos (by omega), if_pos c]
          · rw [if_neg (by omega), if_neg c, ou_i (by omega), ou_i (by omega), ou_i (by omega), ou_i (by omega)]; exact r.1
        · rw [ou_a]
          by_cases c : i = a1
          · rw [if_pos (by omega), if_pos c]
          · rw [if_neg (by omega), if_neg c, ou_i (by omega), ou_i (by omega), ou_i (by omega), ou_i (by omega), ou_i (by omega)]; exact r.2.1
        · rw [ou_i (by omega), ou_i (by omega), ou_i (by omega), ou_i (by omega), ou_i (by omega), ou_i (by omega)]; exact r.2.2.1
        · rw [ou_i (by omega), ou_i (by omega), ou_i (by omega), ou_i (by omega), ou_i (by omega), ou_i (by omega)]; exact r.2.2.2.1
        · rw [ou_i (by omega), ou_i (by omega), ou_i (by omega), ou_i (by omega), ou_i (by omega), ou_i (by omega)]; exact r.2.2.2.2.1
        · rw [ou_i (by omega), ou_i (by omega), ou_i (by omega), ou_i (by omega), ou_i (by omega), ou_i (by omega)]; exact r.2.2.2.2.2.1
      · rw [ou_i (by omega), ou_i (by omega), ou_i (by omega), ou_i (by omega), ou_i (by omega), ou_i (by omega), ou_f (by decide), ou_f (by decide), ou_f (by decide)]; exact rF.2.1
      · rw [ou_i (by omega), ou_i (by omega), ou_i (by omega), ou_i (by omega), ou_i (by omega), ou_i (by omega), ou_f (by decide), ou_f (by decide), ou_f (by decide)]; exact rF.2.2.1
      · rw [ou_i (by omega), ou_i (by omega), Int.zero_add, ou_s, ou_f (by decide), ou_f (by decide), ou_s]
      · rw [ou_i (by omega), ou_i (by omega), ou_i (by omega), ou_i (by omega), ou_i (by omega), ou_i (by omega), ou_f (by decide), ou_f (by decide), ou_f (by decide)]; exact rF.2.2.2.2
    · intro f a _; rw [oz_s, ou_ff a, ou_ff a, ou_ff a, ou_ff a, ou_ff a, ou_ff a]
    · intro j a b; rw [oz_s, ou_i (by omega), ou_i (by omega), ou_i (by omega), ou_i (by omega), ou_i (by omega), ou_i (by omega)]
  have y114 : ob_z (ob_z Z (iv_s Z) (ob_u (Z (iv_s Z)) 2 a1 a2)) 46 (ob_u (ob_u (ob_u (Z 46) 7 0 (Z 46 7 0 + Z 46 0 a1)) 0 a1 0) 1 a1 0) 114 = Z 114 := by rw [oz_n (by decide), oz_n (by omega)]
  simp only [oz_u, e10, e18, e26, e86, e94] at hmc ⊢
  refine dp_br (fun a => ?_) (fun a => dp_br (fun b => ?_) (fun b => dp_sm ?_))
  · refine dp_ck hs (dp_ck (by omega) (dp_le (dp_bi (dp_eq hemp (dp_sm ?_)))))
    refine dp_bi (dp_eq (oi_sM h.2.1 rP y114 c1) ?_)
    simp only [decide_eq_false_iff_not]
    refine dp_no hg (dp_ck a (dz_pm (hmc (Or.inl a) _ y114) (fun q' hq => ?_)))
    rw [hq]
    exact ⟨fin (Or.inl a), rfl⟩
  · refine dp_ck hs (dp_ck (by omega) (dp_le (dp_bi (dp_eq hemp (dp_sm ?_)))))
    refine dp_bi (dp_eq (oi_sM h.2.1 rP y114 c1) ?_)
    simp only [decide_eq_false_iff_not]
    refine dp_no hg (dp_no a (dp_ck b (dz_pm (hmc (Or.inr b) _ y114) (fun q' hq => ?_))))
    rw [hq]
    exact ⟨fin (Or.inr b), rfl⟩
  · refine dp_bi (dp_eq (oi_sM h.2.1 rP rfl c1) ?_)
    simp only [decide_eq_false_iff_not]
    exact dp_no hg (dp_no a (dp_no b (dp_sm ⟨iv_nx h, rfl⟩)))
end ob
