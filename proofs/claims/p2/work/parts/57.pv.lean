/-! best, fewest, all, quiet -/
def so_fs (P S : ob_O) : Nat → Int
  | 0 => 0
  | w + 1 => so_fs P S w + so_far P S w 12
def so_da (P S : ob_O) (v : Nat) : Int := so_fs P (so_sets v (P 3 0).toNat S) (P 10 0).toNat
def so_fe (far : Int) (d u : Nat → Int) : Nat → Int × Int
  | 0 => (-4, 0)
  | v + 1 => if (so_fe far d u v).1 = -4 then (if d v ≠ far then so_fe far d u v else ((v : Int), u v)) else if (so_fe far d u v).2 ≤ u v then so_fe far d u v else if d v ≠ far then so_fe far d u v else ((v : Int), u v)
section pv
variable {n G N : Nat} {P S o m m0 m' : ob_O} {w d u a1 a2 now far : Int} {v : Nat} {Z Y Z' W : dz_Z} {x : Nat → Int} {ok : Nat → Bool} {dd uu : Nat → Int}
theorem fs_b (hP : so_P P) (hS : so_S P S) : ∀ w : Nat, (w : Int) ≤ P 10 0 → 0 ≤ so_fs P S w ∧ so_fs P S w ≤ 96 * w
  | 0, _ => ⟨Int.le_refl _, Int.le_refl _⟩
  | w + 1, hw => by
    have h1 := fs_b hP hS w (by omega)
    have h2 := far_b hP hS (w := w) (by omega) 12 (by omega)
    show 0 ≤ so_fs P S w + _ ∧ so_fs P S w + _ ≤ _
    omega
theorem da_b (hP : so_P P) (hS : so_S P S) (v : Nat) (hv : v ≤ 1000) : 0 ≤ so_da P S v ∧ so_da P S v ≤ 288 := by
  have h10 := hP.2.2.2.2.2.2.1
  have := fs_b hP (st_S (v := v) hP hS (by omega)) (P 10 0).toNat (by omega)
  unfold so_da
  omega
theorem uv_b (hP : so_P P) (v : Nat) : 0 ≤ so_uv P S v ∧ so_uv P S v ≤ 5 := by
  have h3 := hP.2.2.1
  have := un_b (v := v) (w := so_num S (P 3 0).toNat 0) (P 3 0).toNat
  unfold so_uv
  omega
theorem ch_3 : ∀ v : Nat, so_ch (fun _ => true) dd uu v 3 = v
  | 0 => rfl
  | v + 1 => by
    show (if true = false then _ else so_st (so_ch (fun _ => true) dd uu v) v (dd v) (uu v)) 3 = _
    rw [if_neg (by decide)]
    unfold so_st
    rw [if_pos rfl, ch_3 v]
    omega
/-- the least distance -/
theorem ch_m : ∀ (N : Nat), 1 ≤ N → ∀ v : Nat, v < N → so_ch (fun _ => true) dd uu N 1 ≤ dd v ∧ (1 ≤ v → so_ch (fun _ => true) dd uu N 1 ≤ so_ch (fun _ => true) dd uu v 1)
  | 0, h, _, _ => absurd h (by omega)
  | N + 1, _, v, hv => by
    have key : so_ch (fun _ => true) dd uu (N + 1) 1 = so_st (so_ch (fun _ => true) dd uu N) N (dd N) (uu N) 1 := by
      show (if true = false then _ else so_st (so_ch (fun _ => true) dd uu N) N (dd N) (uu N)) 1 = _
      rw [if_neg (by decide)]
    have e3 := ch_3 (dd := dd) (uu := uu) N
    rw [key]
    unfold so_st
    rw [if_neg (by decide), e3]
    by_cases h0 : N = 0
    · subst h0
      rw [if_pos (show ((0 : Nat) : Int) = 0 ∨ dd 0 < so_ch (fun _ => true) dd uu 0 1 from Or.inl rfl)]
      have : v = 0 := by omega
      subst this
      exact ⟨Int.le_refl _, fun q => absurd q (by omega)⟩
    · by_cases c : dd N < so_ch (fun _ => true) dd uu N 1
      · rw [if_pos (Or.inr c)]
        show dd N ≤ dd v ∧ (1 ≤ v → dd N ≤ _)
        by_cases e : v = N
        · subst e
          exact ⟨Int.le_refl _, fun _ => by omega⟩
        · have := ch_m N (by omega) v (by omega)
          exact ⟨by omega, fun q => by have := this.2 q; omega⟩
      · rw [if_neg (by omega)]
        have e : (if dd N = so_ch (fun _ => true) dd uu N 1 then (if (1 : Nat) = 2 then so_ch (fun _ => true) dd uu N 2 + 1 else if uu N < so_ch (fun _ => true) dd uu N 5 then (if (1 : Nat) = 4 then (N : Int) else if (1 : Nat) = 5 then uu N else so_ch (fun _ => true) dd uu N 1) else so_ch (fun _ => true) dd uu N 1) else so_ch (fun _ => true) dd uu N 1) = so_ch (fun _ => true) dd uu N 1 := by
          rw [if_neg (show ¬(1 : Nat) = 2 by decide), if_neg (show ¬(1 : Nat) = 4 by decide), if_neg (show ¬(1 : Nat) = 5 by decide)]
          split
          · split <;> rfl
          · rfl
        rw [e]
        by_cases e : v = N
        · subst e
          exact ⟨by omega, fun _ => Int.le_refl _⟩
        · exact ch_m N (by omega) v (by omega)
/-- the fewest changes: found on the way, or afterwards -/
theorem fe_ch (hN : 1 ≤ N) (hu : ∀ i, 0 ≤ uu i) : ∀ v : Nat, v ≤ N → so_fe (so_ch (fun _ => true) dd uu N 1) dd uu v = if 1 ≤ v ∧ so_ch (fun _ => true) dd uu v 1 = so_ch (fun _ => true) dd uu N 1 then (so_ch (fun _ => true) dd uu v 4, so_ch (fun _ => true) dd uu v 5) else (-4, 0)
  | 0, _ => by rw [if_neg (by omega)]; rfl
  | v + 1, hv => by
    have ih := fe_ch hN hu v (by omega)
    have hm := ch_m (dd := dd) (uu := uu) N hN v (by omega)
    have e3 := ch_3 (dd := dd) (uu := uu) v
    have key : so_ch (fun _ => true) dd uu (v + 1) = so_st (so_ch (fun _ => true) dd uu v) v (dd v) (uu v) := by
      show (if true = false then _ else so_st (so_ch (fun _ => true) dd uu v) v (dd v) (uu v)) = _
      rw [if_neg (by decide)]
    have kf : so_fe (so_ch (fun _ => true) dd uu N 1) dd uu (v + 1) = if (so_fe (so_ch (fun _ => true) dd uu N 1) dd uu v).1 = -4 then (if dd v ≠ so_ch (fun _ => true) dd uu N 1 then so_fe (so_ch (fun _ => true) dd uu N 1) dd uu v else ((v : Int), uu v)) else if (so_fe (so_ch (fun _ => true) dd uu N 1) dd uu v).2 ≤ uu v then so_fe (so_ch (fun _ => true) dd uu N 1) dd uu v else if dd v ≠ so_ch (fun _ => true) dd uu N 1 then so_fe (so_ch (fun _ => true) dd uu N 1) dd uu v else ((v : Int), uu v) := rfl
    have h4 : 1 ≤ v → 0 ≤ so_ch (fun _ => true) dd uu v 4 := fun _ => by
      have : ∀ v : Nat, 0 ≤ so_ch (fun _ => true) dd uu v 4 := by
        intro v
        induction v with
        | zero => exact Int.le_refl _
        | succ v ih =>
          have key : so_ch (fun _ => true) dd uu (v + 1) = so_st (so_ch (fun _ => true) dd uu v) v (dd v) (uu v) := by
            show (if true = false then _ else so_st (so_ch (fun _ => true) dd uu v) v (dd v) (uu v)) = _
            rw [if_neg (by decide)]
          rw [key]
          unfold so_st
          repeat' split
          all_goals omega
      exact this v
    rw [kf, ih, key]
    generalize so_ch (fun _ => true) dd uu N 1 = F at *
    generalize so_ch (fun _ => true) dd uu v = x at *
    have s1 : so_st x v (dd v) (uu v) 1 = if x 3 = 0 ∨ dd v < x 1 then dd v else x 1 := by
      unfold so_st
      simp
    have s4 : so_st x v (dd v) (uu v) 4 = if x 3 = 0 ∨ dd v < x 1 then (v : Int) else if dd v = x 1 ∧ uu v < x 5 then (v : Int) else x 4 := by
      unfold so_st
      by_cases c : x 3 = 0 ∨ dd v < x 1
      · simp [c]
      · by_cases c1 : dd v = x 1
        · by_cases c2 : uu v < x 5 <;> simp [c, c1, c2]
        · simp [c, c1]
    have s5 : so_st x v (dd v) (uu v) 5 = if x 3 = 0 ∨ dd v < x 1 then uu v else if dd v = x 1 ∧ uu v < x 5 then uu v else x 5 := by
      unfold so_st
      by_cases c : x 3 = 0 ∨ dd v < x 1
      · simp [c]
      · by_cases c1 : dd v = x 1
        · by_cases c2 : uu v < x 5 <;> simp [c, c1, c2]
        · simp [c, c1]
    rw [s1, s4, s5, e3]
    by_cases c0 : (v : Int) = 0 ∨ dd v < x 1
    · rw [if_pos c0, if_pos c0, if_pos c0]
      rw [if_neg (show ¬(1 ≤ v ∧ x 1 = F) from fun q => by have := hm.2 q.1; omega)]
      rw [if_pos rfl]
      by_cases c1 : dd v = F
      · rw [if_neg (by omega), if_pos (by omega)]
      · rw [if_pos (by omega), if_neg (by omega)]
    · rw [if_neg c0, if_neg c0, if_neg c0]
      by_cases cF : x 1 = F
      · rw [if_pos (show 1 ≤ v ∧ x 1 = F by omega), if_pos (show 1 ≤ v + 1 ∧ x 1 = F by omega)]
        have := h4 (by omega)
        rw [if_neg (show ¬(x 4, x 5).1 = -4 by show ¬ x 4 = -4; omega)]
        by_cases c5 : x 5 ≤ uu v
        · rw [if_pos (show (x 4, x 5).2 ≤ uu v from c5), if_neg (by omega), if_neg (by omega)]
        · rw [if_neg (show ¬(x 4, x 5).2 ≤ uu v from c5)]
          by_cases c1 : dd v = F
          · rw [if_neg (by omega), if_pos (by omega), if_pos (by omega)]
          · rw [if_pos (by omega), if_neg (by omega), if_neg (by omega)]
      · rw [if_neg (show ¬(1 ≤ v ∧ x 1 = F) from fun q => cF q.2), if_neg (show ¬(1 ≤ v + 1 ∧ x 1 = F) from fun q => cF q.2), if_pos rfl, if_pos (by have := hm.2 (by omega); omega)]
theorem ov_t : so_ov P S w 0 = fun _ => true := by
  funext v
  unfold so_ov
  simp
/-- the class goes through the settings for a shower -/
theorem ch_cls (h : iv_Z n Z) (hw : 0 ≤ w ∧ w < Z (iv_p Z) 10 0) (cw : dz_c w = w) (ca : dz_c a2 = a2) {K : dz_Z → Prop} (k : ∀ Z' : dz_Z, (∀ b : Nat, b ≠ 54 → b ≠ 55 → b ≠ 65 → Z' b = Z b) → so_ro (so_ch (so_ov (Z (iv_p Z)) (Z (iv_s Z)) w a2) (so_dw (Z (iv_p Z)) (Z (iv_s Z)) w) (so_uv (Z (iv_p Z)) (Z (iv_s Z))) (so_pw (Z (iv_p Z) 3 0).toNat).toNat) (Z' 65) → K Z') : dz_p (jf_O_chooseForShower w a2 Z) K := by
  have hr := h.1
  have hp := iv_isP h.1
  have hs := iv_isS h.1
  have hs2 := iv_s2 h.1
  have hP := h.2.1
  have h3 := hP.2.2.1
  have hS := h.2.2.2.1.1
  have hpw := so_pw_b (G := (Z (iv_p Z) 3 0).toNat) (by omega)
  have e3 : dz_c (Z (iv_p Z) 3 0) = Z (iv_p Z) 3 0 := dc_ir h3.1 (by omega)
  have epw : dz_c (so_pw (Z (iv_p Z) 3 0).toNat) = so_pw (Z (iv_p Z) 3 0).toNat := dc_ir (by omega) (by omega)
  unfold jf_O_chooseForShower
  simp only [show (Z 0 3 0).toNat = iv_s Z from rfl, show (Z 0 2 0).toNat = iv_p Z from rfl]
  refine dp_ck hs (dp_ck hp (dp_bi (dp_eq (st_ncls h3) (dp_bi (dp_eq (st_mcls h) (dp_bi (cI_b hr h3.1 (fun Z1 i1 => ?_))))))))
  rw [epw, ca]
  generalize hN : so_pw (Z (iv_p Z) 3 0).toNat = pw at *
  refine dp_lp (fun k q => ∃ (v : Nat) (Z' : dz_Z), v + k = pw.toNat ∧ q = ((v : Int), Z') ∧ so_cI Z (so_ch (so_ov (Z (iv_p Z)) (Z (iv_s Z)) w a2) (so_dw (Z (iv_p Z)) (Z (iv_s Z)) w) (so_uv (Z (iv_p Z)) (Z (iv_s Z))) v) Z') ?_ 5000 pw.toNat (0, Z1) (by omega) ⟨0, Z1, by omega, rfl, i1⟩
  rintro k1 _ ⟨v, Z', hv, rfl, hc⟩
  obtain ⟨z0, z1, zp⟩ := cI_0 hr hc
  have ev : dz_c (v : Int) = v := dc_ir (by omega) (by omega)
  simp only [z0, show (Z 0 3 0).toNat = iv_s Z from rfl, show (Z 0 2 0).toNat = iv_p Z from rfl, zp, ev]
  by_cases hk : v = pw.toNat
  · refine dp_ck (by omega) (dp_ck hs (dp_ck hp (dp_bi (dp_eq (st_cls e3 h3) (dp_sm (k _ (cI_e hr hP hS hc) ?_))))))
    rw [oz_n (by omega), ← hk]
    exact hc.2.2.1
  · refine dp_no (by omega) (dp_ck hs (dp_ck hp (dp_bi (dp_eq (st_cls e3 h3) ?_))))
    obtain ⟨es, hc2⟩ := cI_s (v := v) hr hc
    rw [es]
    have ws : ob_z Z' (iv_s Z) (so_sets v (Z (iv_p Z) 3 0).toNat (Z (iv_s Z))) (iv_s Z) = so_sets v (Z (iv_p Z) 3 0).toNat (Z (iv_s Z)) := oz_s
    generalize hW : ob_z Z' (iv_s Z) (so_sets v (Z (iv_p Z) 3 0).toNat (Z (iv_s Z))) = W at *
    obtain ⟨w0, w1, wp⟩ := cI_0 hr hc2
    simp only [w0, show (Z 0 3 0).toNat = iv_s Z from rfl, show (Z 0 2 0).toNat = iv_p Z from rfl]
    have hSv := st_S (v := v) hP hS (by omega)
    refine dp_ck hp (dp_ck hs (dp_bi (tr_cls (by rw [w0, w1]; exact hr) (by unfold iv_p; rw [w0]) (by unfold iv_s; rw [w0]) wp ws hP hSv hw cw (fun W' hb hf hwk => ?_))))
    have hc3 := cI_t hr hc2 hb
    obtain ⟨v0, v1, vp⟩ := cI_0 hr hc3
    simp only [v0, show (Z 0 3 0).toNat = iv_s Z from rfl, show (Z 0 2 0).toNat = iv_p Z from rfl]
    have hdw := dw_b hP hS hw v (by omega)
    have hcb := ch_b (ok := so_ov (Z (iv_p Z)) (Z (iv_s Z)) w a2) (dd := so_dw (Z (iv_p Z)) (Z (iv_s Z)) w) (uu := so_uv (Z (iv_p Z)) (Z (iv_s Z))) v (fun i hi => by have := dw_b hP hS hw i (by omega); omega) (fun i hi => uv_b hP i)
    have key : so_ch (so_ov (Z (iv_p Z)) (Z (iv_s Z)) w a2) (so_dw (Z (iv_p Z)) (Z (iv_s Z)) w) (so_uv (Z (iv_p Z)) (Z (iv_s Z))) (v + 1) = if so_ov (Z (iv_p Z)) (Z (iv_s Z)) w a2 v = false then so_ch (so_ov (Z (iv_p Z)) (Z (iv_s Z)) w a2) (so_dw (Z (iv_p Z)) (Z (iv_s Z)) w) (so_uv (Z (iv_p Z)) (Z (iv_s Z))) v else so_st (so_ch (so_ov (Z (iv_p Z)) (Z (iv_s Z)) w a2) (so_dw (Z (iv_p Z)) (Z (iv_s Z)) w) (so_uv (Z (iv_p Z)) (Z (iv_s Z))) v) v (so_dw (Z (iv_p Z)) (Z (iv_s Z)) w v) (so_uv (Z (iv_p Z)) (Z (iv_s Z)) v) := rfl
    have okd : so_ov (Z (iv_p Z)) (Z (iv_s Z)) w a2 v = decide (a2 = 0 ∨ dz_c (so_wv (Z (iv_p Z)) (Z (iv_s Z)) w v) = 0) := rfl
    have go : so_ov (Z (iv_p Z)) (Z (iv_s Z)) w a2 v = true → ∀ Z2 : dz_Z, so_cI Z (so_st (so_ch (so_ov (Z (iv_p Z)) (Z (iv_s Z)) w a2) (so_dw (Z (iv_p Z)) (Z (iv_s Z)) w) (so_uv (Z (iv_p Z)) (Z (iv_s Z))) v) v (so_dw (Z (iv_p Z)) (Z (iv_s Z)) w v) (so_un v (so_num (Z (iv_s Z)) (Z (iv_p Z) 3 0).toNat 0) (Z (iv_p Z) 3 0).toNat)) Z2 → so_cI Z (so_ch (so_ov (Z (iv_p Z)) (Z (iv_s Z)) w a2) (so_dw (Z (iv_p Z)) (Z (iv_s Z)) w) (so_uv (Z (iv_p Z)) (Z (iv_s Z))) (v + 1)) Z2 := by
      intro ho Z2 h2
      rw [key, if_neg (by rw [ho]; decide)]
      exact h2
    refine dp_br (fun a => dp_ck hs (dp_bi (dp_eq hf (dp_bi (cI_o hr hP hS hc3 (by omega) (show 0 ≤ so_dw (Z (iv_p Z)) (Z (iv_s Z)) w v ∧ so_dw (Z (iv_p Z)) (Z (iv_s Z)) w v ≤ 300 by omega) (fun f => by have := hcb f; omega) (fun Z2 hc4 => dp_sm ⟨k1 - 1, by omega, v + 1, Z2, by omega, rfl, go ?_ Z2 hc4⟩)))))) (fun a => dp_ck hp (dp_bi (dp_eq hwk (dp_br (fun b => dp_sm ⟨k1 - 1, by omega, v + 1, W', by omega, rfl, ?_⟩) (fun b => dp_ck hs (dp_bi (dp_eq hf (dp_bi (cI_o hr hP hS hc3 (by omega) (show 0 ≤ so_dw (Z (iv_p Z)) (Z (iv_s Z)) w v ∧ so_dw (Z (iv_p Z)) (Z (iv_s Z)) w v ≤ 300 by omega) (fun f => by have := hcb f; omega) (fun Z2 hc4 => dp_sm ⟨k1 - 1, by omega, v + 1, Z2, by omega, rfl, go ?_ Z2 hc4⟩))))))))))
    · rw [okd, decide_eq_true (Or.inl a)]
    · have b' : ¬ dz_c (so_wv (Z (iv_p Z)) (Z (iv_s Z)) w v) = 0 := b
      rw [key, okd, decide_eq_false (fun q => by rcases q with q | q; exact a q; exact b' q), if_pos rfl]
      exact hc3
    · have b' : ¬ ¬ dz_c (so_wv (Z (iv_p Z)) (Z (iv_s Z)) w v) = 0 := b
      rw [okd, decide_eq_true (Or.inr (by omega))]
end pv
