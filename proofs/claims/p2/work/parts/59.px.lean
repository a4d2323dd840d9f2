/-! best, fewest, all, quiet: both sides -/
section px
variable {n G N : Nat} {P S o m m0 m' : ob_O} {w d u a1 a2 now far : Int} {v : Nat} {Z Y Z' W : dz_Z} {x : Nat → Int} {ok : Nat → Bool} {dd uu : Nat → Int}
theorem iv_t2 (h : iv_Z n Z) (hb : ∀ b : Nat, b ≠ 54 → b ≠ 55 → b ≠ 65 → W b = Z b) (hj : ∀ j : Int, j < 420 → m' 0 j = Z 114 0 j) (hf : ∀ f : Nat, f ≠ 0 → (f < 32 ∨ 40 < f) → m' f = Z 114 f) : iv_Z (n + 1) (ob_z W 114 m') := by
  have hs2 := iv_s2 h.1
  refine iv_fin h (fun b _ h54 h55 h65 h114 _ => by rw [oz_n h114, hb b h54 h55 h65]) ?_ (fun f a b => by rw [oz_s]; exact hf f a b) (fun j a b => by rw [oz_s]; exact hj j b)
  rw [oz_s, oz_n (show iv_s Z ≠ 114 by omega), oz_n (show (46 : Nat) ≠ 114 by decide), hb _ (by omega) (by omega) (by omega), hb 46 (by decide) (by decide) (by decide)]
  exact iv_In (iv_Im h.2.2.2.1 h.2.1 (fun j a b => hj j (by omega))) (by omega)
theorem ey_t2 (hb : ∀ b : Nat, b ≠ 54 → b ≠ 55 → b ≠ 65 → W b = Z b) : W = ob_z W 114 (Z 114) := by
  rw [← hb 114 (by decide) (by decide) (by decide)]
  exact oz_i.symm
theorem op_best (h : iv_Z n Z) (c1 : dz_c a1 = a1) (c2 : dz_c a2 = a2) : dz_p (jf_O_best a1 a2 Z) (fun q => dz_p (jf_M_best a1 a2 q.2) (fun q' => iv_Z (n + 1) q'.2 ∧ dz_c q.1 = dz_c q'.1)) := by
  have hP := h.2.1
  have h3 := hP.2.2.1
  have rP := h.2.2.1
  obtain ⟨hS, rS, hB, rF⟩ := h.2.2.2.1
  have hpw := so_pw_b (G := (Z (iv_p Z) 3 0).toNat) (by omega)
  unfold jf_O_best
  refine dp_bi (dp_eq (oi_wO h c1) ?_)
  simp only [decide_eq_false_iff_not, c2]
  refine dp_br (fun a => dp_sm ?_) (fun a => ?_)
  · dsimp only
    unfold jf_M_best
    refine dp_bi (dp_eq (oi_wM h.2.1 rP rfl c1) ?_)
    simp only [decide_eq_false_iff_not]
    exact dp_ck a (dp_sm ⟨iv_nx h, rfl⟩)
  have ha : 0 ≤ a1 ∧ a1 < Z (iv_p Z) 10 0 := by omega
  have bad : ¬(0 ≤ a2 ∧ a2 ≤ 2) → dz_p (jf_M_best a1 a2 Z) (fun q' => iv_Z (n + 1) q'.2 ∧ dz_c (-1) = dz_c q'.1) := by
    intro hv
    unfold jf_M_best
    refine dp_bi (dp_eq (oi_wM h.2.1 rP rfl c1) ?_)
    simp only [decide_eq_false_iff_not, c2]
    exact dp_no a (dp_no hv (dp_sm ⟨iv_nx h, rfl⟩))
  refine dp_br (fun b => dp_sm (bad (by omega))) (fun b => dp_br (fun c => ?_) (fun c => dp_sm (bad (by omega))))
  refine dp_bi (ch_cls h ha c1 (by decide) (fun W hb hro => ?_))
  rw [ov_t] at hro
  obtain ⟨r0, r1, r2, r4, r5⟩ := hro.2 (by rw [ch_3]; omega)
  have mod : ∀ y : Int, y = (if a2 = 0 then W 65 0 0 else if a2 = 1 then W 65 1 0 else W 65 2 0) → dz_p (jf_M_best a1 a2 W) (fun q' => iv_Z (n + 1) q'.2 ∧ dz_c y = dz_c q'.1) := by
    intro y hy
    rw [r0, r1, r2] at hy
    rw [ey_t2 hb]
    unfold jf_M_best
    refine dp_bi (dp_eq (oi_wM (m := Z 114) h.2.1 rP oz_s c1) ?_)
    simp only [decide_eq_false_iff_not, c2]
    refine dp_no a (dp_ck (by omega) (dp_bi (lb_ref hP hS rP rS ha (fun m' hj hf h38 h39 h40 => ?_))))
    have fin := iv_t2 h hb hj hf
    rw [oz_s, h38, h39, h40]
    refine dp_br (fun e => dp_br (fun f => dp_sm ⟨fin, ?_⟩) (fun f => dp_sm ⟨fin, ?_⟩)) (fun e => dp_sm ⟨fin, ?_⟩)
    · rw [hy, if_neg e, if_neg f]
    · rw [hy, if_neg e, if_pos (by omega)]
    · rw [hy, if_pos (by omega)]
  refine dp_br (fun e => dp_sm (mod _ (by rw [if_pos e]))) (fun e => dp_br (fun f => dp_sm (mod _ (by rw [if_neg e, if_pos f]))) (fun f => dp_sm (mod _ (by rw [if_neg e, if_neg f]))))
theorem fe_b (hu : ∀ i, 0 ≤ uu i ∧ uu i ≤ 5) : ∀ v : Nat, (-4 ≤ (so_fe far dd uu v).1 ∧ (so_fe far dd uu v).1 ≤ v) ∧ 0 ≤ (so_fe far dd uu v).2 ∧ (so_fe far dd uu v).2 ≤ 5
  | 0 => by show (-4 ≤ (-4 : Int) ∧ (-4 : Int) ≤ (0 : Nat)) ∧ (0 : Int) ≤ 0 ∧ (0 : Int) ≤ 5; omega
  | v + 1 => by
    have ih := fe_b hu v
    have := hu v
    have kf : so_fe far dd uu (v + 1) = if (so_fe far dd uu v).1 = -4 then (if dd v ≠ far then so_fe far dd uu v else ((v : Int), uu v)) else if (so_fe far dd uu v).2 ≤ uu v then so_fe far dd uu v else if dd v ≠ far then so_fe far dd uu v else ((v : Int), uu v) := rfl
    rw [kf]
    have t : (-4 ≤ ((v : Int), uu v).1 ∧ ((v : Int), uu v).1 ≤ (v + 1 : Nat)) ∧ 0 ≤ ((v : Int), uu v).2 ∧ ((v : Int), uu v).2 ≤ 5 := by dsimp only; omega
    repeat' split
    all_goals first | exact t | omega
theorem op_fewest (h : iv_Z n Z) (c1 : dz_c a1 = a1) (c2 : dz_c a2 = a2) : dz_p (jf_O_fewest a1 a2 Z) (fun q => dz_p (jf_M_fewest a1 a2 q.2) (fun q' => iv_Z (n + 1) q'.2 ∧ dz_c q.1 = dz_c q'.1)) := by
  have hP := h.2.1
  have h3 := hP.2.2.1
  have rP := h.2.2.1
  obtain ⟨hS, rS, hB, rF⟩ := h.2.2.2.1
  have hpw := so_pw_b (G := (Z (iv_p Z) 3 0).toNat) (by omega)
  have epw : dz_c (so_pw (Z (iv_p Z) 3 0).toNat) = so_pw (Z (iv_p Z) 3 0).toNat := dc_ir (by omega) (by omega)
  have hin := st_inv (S := Z (iv_s Z)) (G := (Z (iv_p Z) 3 0).toNat) (by omega) (fun g a b => hS.1 g a (by omega))
  unfold jf_O_fewest
  refine dp_bi (dp_eq (oi_wO h c1) ?_)
  simp only [decide_eq_false_iff_not, c2]
  refine dp_br (fun a => dp_sm ?_) (fun a => ?_)
  · dsimp only
    unfold jf_M_fewest
    refine dp_bi (dp_eq (oi_wM h.2.1 rP rfl c1) ?_)
    simp only [decide_eq_false_iff_not]
    exact dp_ck a (dp_sm ⟨iv_nx h, rfl⟩)
  have ha : 0 ≤ a1 ∧ a1 < Z (iv_p Z) 10 0 := by omega
  have bad : ¬(0 ≤ a2 ∧ a2 ≤ 1) → dz_p (jf_M_fewest a1 a2 Z) (fun q' => iv_Z (n + 1) q'.2 ∧ dz_c (-1) = dz_c q'.1) := by
    intro hv
    unfold jf_M_fewest
    refine dp_bi (dp_eq (oi_wM h.2.1 rP rfl c1) ?_)
    simp only [decide_eq_false_iff_not, c2]
    exact dp_no a (dp_no hv (dp_sm ⟨iv_nx h, rfl⟩))
  refine dp_br (fun b => dp_sm (bad (by omega))) (fun b => dp_br (fun c => ?_) (fun c => dp_sm (bad (by omega))))
  refine dp_bi (ch_cls h ha c1 (by decide) (fun W hb hro => ?_))
  rw [ov_t] at hro
  obtain ⟨r0, r1, r2, r4, r5⟩ := hro.2 (by rw [ch_3]; omega)
  have mod : ∀ y : Int, y = (if a2 ≠ 0 then W 65 5 0 else W 65 4 0) → dz_p (jf_M_fewest a1 a2 W) (fun q' => iv_Z (n + 1) q'.2 ∧ dz_c y = dz_c q'.1) := by
    intro y hy
    rw [r4, r5] at hy
    rw [ey_t2 hb]
    unfold jf_M_fewest
    refine dp_bi (dp_eq (oi_wM (m := Z 114) h.2.1 rP oz_s c1) ?_)
    simp only [decide_eq_false_iff_not, c2]
    refine dp_no a (dp_ck (by omega) (dp_bi (lb_ref hP hS rP rS ha (fun m1 hj hf h38 h39 h40 => ?_))))
    refine dp_bi (dp_eq (st_nref (S := Z (iv_s Z)) (P := Z (iv_p Z)) (by rw [hf 2 (by decide) (by decide)]; exact rP.2.2.1) h3 (fun g c d => by rw [hj g (by omega)]; have := rS.1.1 g c d; rw [Int.zero_add] at this; exact this)) ?_)
    have hI1 : so_mI (Z (iv_p Z)) (Z 114) m1 := ⟨fun j a _ => hj j a, hf⟩
    have hfe := fe_ch (N := (so_pw (Z (iv_p Z) 3 0).toNat).toNat) (dd := so_dw (Z (iv_p Z)) (Z (iv_s Z)) a1) (uu := so_uv (Z (iv_p Z)) (Z (iv_s Z))) (by omega) (fun i => (uv_b hP i).1) (so_pw (Z (iv_p Z) 3 0).toNat).toNat (Nat.le_refl _)
    rw [if_pos ⟨by omega, rfl⟩] at hfe
    have fb0 := fun far v => fe_b (far := far) (dd := so_dw (Z (iv_p Z)) (Z (iv_s Z)) a1) (uu := so_uv (Z (iv_p Z)) (Z (iv_s Z))) (fun i => uv_b hP i) v
    have hcb := ch_b (ok := fun _ => true) (dd := so_dw (Z (iv_p Z)) (Z (iv_s Z)) a1) (uu := so_uv (Z (iv_p Z)) (Z (iv_s Z))) (so_pw (Z (iv_p Z) 3 0).toNat).toNat (fun i hi => by have := dw_b hP hS ha i (by omega); omega) (fun i hi => uv_b hP i) 1
    generalize so_ch (fun _ => true) (so_dw (Z (iv_p Z)) (Z (iv_s Z)) a1) (so_uv (Z (iv_p Z)) (Z (iv_s Z))) (so_pw (Z (iv_p Z) 3 0).toNat).toNat = X at *
    refine dp_lp (fun k q => ∃ (v : Nat) (m : ob_O), v + k = (so_pw (Z (iv_p Z) 3 0).toNat).toNat ∧ q = ((so_fe (X 1) (so_dw (Z (iv_p Z)) (Z (iv_s Z)) a1) (so_uv (Z (iv_p Z)) (Z (iv_s Z))) v).1, (so_fe (X 1) (so_dw (Z (iv_p Z)) (Z (iv_s Z)) a1) (so_uv (Z (iv_p Z)) (Z (iv_s Z))) v).2, (v : Int), ob_z W 114 m) ∧ so_mI (Z (iv_p Z)) (Z 114) m ∧ m 39 0 = X 1) ?_ 5000 (so_pw (Z (iv_p Z) 3 0).toNat).toNat (-4, 0, 0, ob_z W 114 m1) (by omega) ⟨0, m1, by omega, rfl, hI1, h39⟩
    rintro k1 _ ⟨v, m, hv, rfl, hI, m39⟩
    have ev : dz_c (v : Int) = v := dc_ir (by omega) (by omega)
    have m2 : m 2 0 = Z (iv_p Z) 3 0 := by rw [hI.2 2 (by decide) (by decide)]; exact rP.2.2.1
    dsimp only
    refine dp_bi (dp_eq (st_mref (m := m) (P := Z (iv_p Z)) m2 h3 oz_s) ?_)
    rw [epw, ev]
    by_cases hk : v = (so_pw (Z (iv_p Z) 3 0).toNat).toNat
    · have hV := mV_s hI (so_num (Z (iv_s Z)) (Z (iv_p Z) 3 0).toNat 0)
      have fin := iv_t2 h hb (mV_e hP hS rS hV) hV.2
      refine dp_ck (by omega) (dp_bi (dp_eq (st_ref m2 h3) (dp_br (fun e => dp_sm ⟨fin, ?_⟩) (fun e => dp_sm ⟨fin, ?_⟩))))
      · rw [hy, if_pos e]
        show _ = dz_c (so_fe (X 1) (so_dw (Z (iv_p Z)) (Z (iv_s Z)) a1) (so_uv (Z (iv_p Z)) (Z (iv_s Z))) v).2
        rw [hk, hfe]
      · rw [hy, if_neg e]
        show _ = dz_c (so_fe (X 1) (so_dw (Z (iv_p Z)) (Z (iv_s Z)) a1) (so_uv (Z (iv_p Z)) (Z (iv_s Z))) v).1
        rw [hk, hfe]
    · have hV := mV_s hI v
      have fb := fb0 (X 1) v
      have hub := uv_b (S := Z (iv_s Z)) hP v
      have hdw := dw_b hP hS ha v (by omega)
      have e1 : dz_c (so_fe (X 1) (so_dw (Z (iv_p Z)) (Z (iv_s Z)) a1) (so_uv (Z (iv_p Z)) (Z (iv_s Z))) v).1 = (so_fe (X 1) (so_dw (Z (iv_p Z)) (Z (iv_s Z)) a1) (so_uv (Z (iv_p Z)) (Z (iv_s Z))) v).1 := dz_ci (by omega) (by omega)
      have e2 : dz_c (so_fe (X 1) (so_dw (Z (iv_p Z)) (Z (iv_s Z)) a1) (so_uv (Z (iv_p Z)) (Z (iv_s Z))) v).2 = (so_fe (X 1) (so_dw (Z (iv_p Z)) (Z (iv_s Z)) a1) (so_uv (Z (iv_p Z)) (Z (iv_s Z))) v).2 := dz_ci (by omega) (by omega)
      have eu : dz_c (so_uv (Z (iv_p Z)) (Z (iv_s Z)) v) = so_uv (Z (iv_p Z)) (Z (iv_s Z)) v := dz_ci (by omega) (by omega)
      have ed : dz_c (so_dw (Z (iv_p Z)) (Z (iv_s Z)) a1 v) = so_dw (Z (iv_p Z)) (Z (iv_s Z)) a1 v := dz_ci (by omega) (by omega)
      have eX : dz_c (X 1) = X 1 := dz_ci (by omega) (by omega)
      have kf : so_fe (X 1) (so_dw (Z (iv_p Z)) (Z (iv_s Z)) a1) (so_uv (Z (iv_p Z)) (Z (iv_s Z))) (v + 1) = if (so_fe (X 1) (so_dw (Z (iv_p Z)) (Z (iv_s Z)) a1) (so_uv (Z (iv_p Z)) (Z (iv_s Z))) v).1 = -4 then (if so_dw (Z (iv_p Z)) (Z (iv_s Z)) a1 v ≠ X 1 then so_fe (X 1) (so_dw (Z (iv_p Z)) (Z (iv_s Z)) a1) (so_uv (Z (iv_p Z)) (Z (iv_s Z))) v else ((v : Int), so_uv (Z (iv_p Z)) (Z (iv_s Z)) v)) else if (so_fe (X 1) (so_dw (Z (iv_p Z)) (Z (iv_s Z)) a1) (so_uv (Z (iv_p Z)) (Z (iv_s Z))) v).2 ≤ so_uv (Z (iv_p Z)) (Z (iv_s Z)) v then so_fe (X 1) (so_dw (Z (iv_p Z)) (Z (iv_s Z)) a1) (so_uv (Z (iv_p Z)) (Z (iv_s Z))) v else if so_dw (Z (iv_p Z)) (Z (iv_s Z)) a1 v ≠ X 1 then so_fe (X 1) (so_dw (Z (iv_p Z)) (Z (iv_s Z)) a1) (so_uv (Z (iv_p Z)) (Z (iv_s Z))) v else ((v : Int), so_uv (Z (iv_p Z)) (Z (iv_s Z)) v) := rfl
      refine dp_no (by omega) (dp_bi (dp_eq (st_ref m2 h3) (dp_bi (dp_eq (un_ref (G := (Z (iv_p Z) 3 0).toNat) (by rw [st_f (by decide), m2]; omega) (by omega) (by omega) (by omega)) ?_))))
      have try1 : ∀ Q : Int × dz_Z → Prop, (∀ m' : ob_O, so_mI (Z (iv_p Z)) (Z 114) m' → m' 39 0 = X 1 → Q (so_dw (Z (iv_p Z)) (Z (iv_s Z)) a1 v, ob_z W 114 m')) → dz_p (jf_M_farOf a1 (ob_z W 114 (so_sets v (Z (iv_p Z) 3 0).toNat m))) Q := fun Q hQ => fr_ref hP (st_S (v := v) hP hS (by omega)) (mV_P hV rP) (mV_V (by omega) hP hS rS hV) ha (fun m' g1 g2 => hQ m' (mV_I (mV_t hV g1 g2)) (by rw [g2 39 (by decide) (by decide), st_f (by decide), m39]))
      show dz_p (if dz_c (so_fe (X 1) (so_dw (Z (iv_p Z)) (Z (iv_s Z)) a1) (so_uv (Z (iv_p Z)) (Z (iv_s Z))) v).1 = -4 then _ else if dz_c (so_fe (X 1) (so_dw (Z (iv_p Z)) (Z (iv_s Z)) a1) (so_uv (Z (iv_p Z)) (Z (iv_s Z))) v).2 ≤ dz_c (so_uv (Z (iv_p Z)) (Z (iv_s Z)) v) then _ else _) _
      rw [e1, e2, eu]
      refine dp_br (fun e => dp_bi (try1 _ (fun m' i1 i2 => ?_))) (fun e => dp_br (fun f => dp_sm ⟨k1 - 1, by omega, v + 1, _, by omega, by rw [kf, if_neg e, if_pos f]; rfl, mV_I hV, by rw [st_f (by decide), m39]⟩) (fun f => dp_bi (try1 _ (fun m' i1 i2 => ?_))))
      · dsimp only
        simp only [oz_s, i2, ed, eX]
        refine dp_br (fun g => dp_sm ⟨k1 - 1, by omega, v + 1, m', by omega, by rw [kf, if_pos e, if_pos g]; rfl, i1, i2⟩) (fun g => dp_sm ⟨k1 - 1, by omega, v + 1, m', by omega, by rw [kf, if_pos e, if_neg g]; rfl, i1, i2⟩)
      · dsimp only
        simp only [oz_s, i2, ed, eX]
        refine dp_br (fun g => dp_sm ⟨k1 - 1, by omega, v + 1, m', by omega, by rw [kf, if_neg e, if_neg f, if_pos g]; rfl, i1, i2⟩) (fun g => dp_sm ⟨k1 - 1, by omega, v + 1, m', by omega, by rw [kf, if_neg e, if_neg f, if_neg g]; rfl, i1, i2⟩)
  refine dp_br (fun e => dp_sm (mod _ (by rw [if_pos e]))) (fun e => dp_sm (mod _ (by rw [if_neg e])))
theorem op_all (h : iv_Z n Z) (c1 : dz_c a1 = a1) : dz_p (jf_O_all a1 Z) (fun q => dz_p (jf_M_all a1 q.2) (fun q' => iv_Z (n + 1) q'.2 ∧ dz_c q.1 = dz_c q'.1)) := by
  have hp := iv_isP h.1
  have hP := h.2.1
  have h3 := hP.2.2.1
  have h10 := hP.2.2.2.2.2.2.1
  have rP := h.2.2.1
  obtain ⟨hS, rS, hB, rF⟩ := h.2.2.2.1
  have hpw := so_pw_b (G := (Z (iv_p Z) 3 0).toNat) (by omega)
  have epw : dz_c (so_pw (Z (iv_p Z) 3 0).toNat) = so_pw (Z (iv_p Z) 3 0).toNat := dc_ir (by omega) (by omega)
  have e10 : dz_c (Z (iv_p Z) 10 0) = Z (iv_p Z) 10 0 := dc_ir h10.1 (by omega)
  have m4 : Z 114 4 0 = Z (iv_p Z) 10 0 := rP.2.2.2.2.2.2.1
  have hin := st_inv (S := Z (iv_s Z)) (G := (Z (iv_p Z) 3 0).toNat) (by omega) (fun g a b => hS.1 g a (by omega))
  unfold jf_O_all
  simp only [c1, show (Z 0 2 0).toNat = iv_p Z from rfl, e10]
  have bad : ¬(0 ≤ a1 ∧ a1 ≤ 1) → dz_p (jf_M_all a1 Z) (fun q' => iv_Z (n + 1) q'.2 ∧ dz_c (-1) = dz_c q'.1) := by
    intro hv
    unfold jf_M_all
    rw [c1]
    exact dp_no hv (dp_sm ⟨iv_nx h, rfl⟩)
  refine dp_br (fun b => dp_sm (bad (by omega))) (fun b => dp_br (fun c => dp_ck hp (dp_br (fun e => ?_) (fun e => dp_sm ?_))) (fun c => dp_sm (bad (by omega))))
  rotate_left
  · dsimp only
    unfold jf_M_all
    rw [c1, m4, e10]
    exact dp_ck (by omega) (dp_no e (dp_sm ⟨iv_nx h, rfl⟩))
  refine dp_bi (ca_cls h (fun W hb hro => ?_))
  obtain ⟨r0, r1, r2, r4, r5⟩ := hro.2 (by rw [ch_3]; omega)
  have mod : ∀ y : Int, y = (if a1 ≠ 0 then W 65 1 0 else W 65 0 0) → dz_p (jf_M_all a1 W) (fun q' => iv_Z (n + 1) q'.2 ∧ dz_c y = dz_c q'.1) := by
    intro y hy
    rw [r0, r1] at hy
    rw [ey_t2 hb]
    unfold jf_M_all
    simp only [c1, oz_s, m4, e10]
    refine dp_ck (by omega) (dp_ck e (dp_bi (dp_eq (st_nref (S := Z (iv_s Z)) (P := Z (iv_p Z)) rP.2.2.1 h3 (fun g c d => by have := rS.1.1 g c d; rw [Int.zero_add] at this; exact this)) ?_)))
    refine dp_lp (fun k q => ∃ (v : Nat) (m : ob_O) (a b : Int), v + k = (so_pw (Z (iv_p Z) 3 0).toNat).toNat ∧ q = (a, b, (v : Int), ob_z W 114 m) ∧ so_mI (Z (iv_p Z)) (Z 114) m ∧ so_mb (so_ch (fun _ => true) (so_da (Z (iv_p Z)) (Z (iv_s Z))) (so_uv (Z (iv_p Z)) (Z (iv_s Z))) v) a b) ?_ 5000 (so_pw (Z (iv_p Z) 3 0).toNat).toNat (-4, 0, 0, ob_z W 114 (Z 114)) (by omega) ⟨0, Z 114, -4, 0, by omega, rfl, mI_i, Or.inl ⟨rfl, rfl⟩⟩
    rintro k1 _ ⟨v, m, a, b, hv, rfl, hI, hmb⟩
    have ev : dz_c (v : Int) = v := dc_ir (by omega) (by omega)
    have m2 : m 2 0 = Z (iv_p Z) 3 0 := by rw [hI.2 2 (by decide) (by decide)]; exact rP.2.2.1
    have e3 := ch_3 (dd := so_da (Z (iv_p Z)) (Z (iv_s Z))) (uu := so_uv (Z (iv_p Z)) (Z (iv_s Z))) v
    dsimp only
    refine dp_bi (dp_eq (st_mref (m := m) (P := Z (iv_p Z)) m2 h3 oz_s) ?_)
    rw [epw, ev]
    by_cases hk : v = (so_pw (Z (iv_p Z) 3 0).toNat).toNat
    · have hV := mV_s hI (so_num (Z (iv_s Z)) (Z (iv_p Z) 3 0).toNat 0)
      have fin := iv_t2 h hb (mV_e hP hS rS hV) hV.2
      rcases hmb with q | q
      · exact absurd q.1 (by omega)
      refine dp_ck (by omega) (dp_bi (dp_eq (st_ref m2 h3) (dp_br (fun e => dp_sm ⟨fin, ?_⟩) (fun e => dp_sm ⟨fin, ?_⟩))))
      · rw [hy, if_pos e, ← hk, ← q.2.2]
      · rw [hy, if_neg e, ← hk, ← q.2.1]
    · have hV := mV_s hI v
      have hdw := da_b hP hS v (by omega)
      have hSv := st_S (v := v) hP hS (by omega)
      have hcb := ch_b (ok := fun _ => true) (dd := so_da (Z (iv_p Z)) (Z (iv_s Z))) (uu := so_uv (Z (iv_p Z)) (Z (iv_s Z))) v (fun i hi => by have := da_b hP hS i (by omega); omega) (fun i hi => uv_b hP i)
      have key : so_ch (fun _ => true) (so_da (Z (iv_p Z)) (Z (iv_s Z))) (so_uv (Z (iv_p Z)) (Z (iv_s Z))) (v + 1) = so_st (so_ch (fun _ => true) (so_da (Z (iv_p Z)) (Z (iv_s Z))) (so_uv (Z (iv_p Z)) (Z (iv_s Z))) v) v (so_da (Z (iv_p Z)) (Z (iv_s Z)) v) (so_uv (Z (iv_p Z)) (Z (iv_s Z)) v) := by
        show (if true = false then _ else so_st (so_ch (fun _ => true) (so_da (Z (iv_p Z)) (Z (iv_s Z))) (so_uv (Z (iv_p Z)) (Z (iv_s Z))) v) v (so_da (Z (iv_p Z)) (Z (iv_s Z)) v) (so_uv (Z (iv_p Z)) (Z (iv_s Z)) v)) = _
        rw [if_neg (by decide)]
      refine dp_no (by omega) (dp_bi (dp_eq (st_ref m2 h3) ?_))
      refine dp_lp (fun k q => ∃ (t : Nat) (m' : ob_O), (t : Int) + k = Z (iv_p Z) 10 0 ∧ q = (so_fs (Z (iv_p Z)) (so_sets v (Z (iv_p Z) 3 0).toNat (Z (iv_s Z))) t, (t : Int), ob_z W 114 m') ∧ so_mV (Z (iv_p Z)) (Z 114) v m') ?_ 5000 (Z (iv_p Z) 10 0).toNat (0, 0, ob_z W 114 (so_sets v (Z (iv_p Z) 3 0).toNat m)) (by omega) ⟨0, _, by omega, rfl, hV⟩
      rintro k2 _ ⟨t, m', ht, rfl, hV2⟩
      have et : dz_c (t : Int) = t := dc_ir (by omega) (by omega)
      have m4' : m' 4 0 = Z (iv_p Z) 10 0 := by rw [hV2.2 4 (by decide) (by decide)]; exact m4
      simp only [oz_s, m4', e10, et]
      by_cases hk2 : (t : Int) = Z (iv_p Z) 10 0
      · have ef : so_fs (Z (iv_p Z)) (so_sets v (Z (iv_p Z) 3 0).toNat (Z (iv_s Z))) t = so_da (Z (iv_p Z)) (Z (iv_s Z)) v := by
          unfold so_da
          rw [show (Z (iv_p Z) 10 0).toNat = t by omega]
        rw [ef]
        have ed : dz_c (so_da (Z (iv_p Z)) (Z (iv_s Z)) v) = so_da (Z (iv_p Z)) (Z (iv_s Z)) v := dz_ci (by omega) (by omega)
        rw [ed]
        generalize so_da (Z (iv_p Z)) (Z (iv_s Z)) v = d at *
        generalize so_uv (Z (iv_p Z)) (Z (iv_s Z)) v = u at *
        generalize so_ch (fun _ => true) (so_da (Z (iv_p Z)) (Z (iv_s Z))) (so_uv (Z (iv_p Z)) (Z (iv_s Z))) v = x at *
        have b0 := hcb 0
        have b1 := hcb 1
        have s3 : so_st x v d u 3 = x 3 + 1 := by unfold so_st; rw [if_pos rfl]
        refine dp_ck (by omega) (dp_bi ?_)
        by_cases cc : x 3 = 0 ∨ d < x 1
        · have s0 : so_st x v d u 0 = v := by
            unfold so_st
            rw [if_neg (by decide), if_pos cc, if_pos rfl]
          have s1 : so_st x v d u 1 = d := by
            unfold so_st
            rw [if_neg (by decide), if_pos cc, if_neg (by decide), if_pos rfl]
          have tt : ∀ Q : Int → Prop, Q 1 → dz_p (if dz_c a = -4 then some 1 else if dz_c b ≤ d then some 0 else some 1) Q := by
            intro Q hQ
            rcases hmb with q | q
            · exact dp_ck (by rw [q.2]; decide) (dp_sm hQ)
            · refine dp_no ?_ (dp_no ?_ (dp_sm hQ))
              · rw [q.2.1, dz_ci (by omega) (by omega)]; omega
              · rw [q.2.2, dz_ci (by omega) (by omega)]; omega
          refine tt _ (dp_bi (dp_no (by decide) (dp_sm (dp_no (by decide) (dp_sm ⟨k1 - 1, by omega, v + 1, m', (v : Int), d, by omega, rfl, mV_I hV2, ?_⟩)))))
          rw [key]
          exact Or.inr ⟨by rw [s3]; omega, s0.symm, s1.symm⟩
        · have s0 : so_st x v d u 0 = x 0 := by
            unfold so_st
            rw [if_neg (by decide), if_neg cc]
            simp
          have s1 : so_st x v d u 1 = x 1 := by
            unfold so_st
            rw [if_neg (by decide), if_neg cc]
            simp
          rcases hmb with q | q
          · exact absurd (Or.inl q.1) cc
          refine dp_no (by rw [q.2.1, dz_ci (by omega) (by omega)]; omega) (dp_ck (by rw [q.2.2, dz_ci (by omega) (by omega)]; omega) (dp_sm (dp_bi (dp_ck (by decide) (dp_sm (dp_ck (by decide) (dp_sm ⟨k1 - 1, by omega, v + 1, m', a, b, by omega, rfl, mV_I hV2, ?_⟩)))))))
          rw [key]
          exact Or.inr ⟨by rw [s3]; omega, by rw [s0, q.2.1], by rw [s1, q.2.2]⟩
      · refine dp_no (by omega) (dp_bi (fr_ref hP hSv (mV_P hV2 rP) (mV_V (by omega) hP hS rS hV2) (by omega) (fun m2 g1 g2 => dp_sm ⟨k2 - 1, by omega, t + 1, m2, by omega, rfl, mV_t hV2 g1 g2⟩)))
  refine dp_br (fun e => dp_sm (mod _ (by rw [if_pos e]))) (fun e => dp_sm (mod _ (by rw [if_neg e])))
theorem op_quiet (h : iv_Z n Z) (c1 : dz_c a1 = a1) (c2 : dz_c a2 = a2) : dz_p (jf_O_quiet a1 a2 Z) (fun q => dz_p (jf_M_quiet a1 a2 q.2) (fun q' => iv_Z (n + 1) q'.2 ∧ dz_c q.1 = dz_c q'.1)) := by
  have hP := h.2.1
  have h3 := hP.2.2.1
  have rP := h.2.2.1
  obtain ⟨hS, rS, hB, rF⟩ := h.2.2.2.1
  have hpw := so_pw_b (G := (Z (iv_p Z) 3 0).toNat) (by omega)
  have epw : dz_c (so_pw (Z (iv_p Z) 3 0).toNat) = so_pw (Z (iv_p Z) 3 0).toNat := dc_ir (by omega) (by omega)
  have hin := st_inv (S := Z (iv_s Z)) (G := (Z (iv_p Z) 3 0).toNat) (by omega) (fun g a b => hS.1 g a (by omega))
  unfold jf_O_quiet
  refine dp_bi (dp_eq (oi_wO h c1) ?_)
  simp only [decide_eq_false_iff_not, c2]
  refine dp_br (fun a => dp_sm ?_) (fun a => ?_)
  · dsimp only
    unfold jf_M_quiet
    refine dp_bi (dp_eq (oi_wM h.2.1 rP rfl c1) ?_)
    simp only [decide_eq_false_iff_not]
    exact dp_ck a (dp_sm ⟨iv_nx h, rfl⟩)
  have ha : 0 ≤ a1 ∧ a1 < Z (iv_p Z) 10 0 := by omega
  have bad : ¬(0 ≤ a2 ∧ a2 ≤ 2) → dz_p (jf_M_quiet a1 a2 Z) (fun q' => iv_Z (n + 1) q'.2 ∧ dz_c (-1) = dz_c q'.1) := by
    intro hv
    unfold jf_M_quiet
    refine dp_bi (dp_eq (oi_wM h.2.1 rP rfl c1) ?_)
    simp only [decide_eq_false_iff_not, c2]
    exact dp_no a (dp_no hv (dp_sm ⟨iv_nx h, rfl⟩))
  refine dp_br (fun b => dp_sm (bad (by omega))) (fun b => dp_br (fun c => ?_) (fun c => dp_sm (bad (by omega))))
  refine dp_bi (ch_cls h ha c1 (by decide) (fun W hb hro => ?_))
  have hcN := ch_b (ok := so_ov (Z (iv_p Z)) (Z (iv_s Z)) a1 1) (dd := so_dw (Z (iv_p Z)) (Z (iv_s Z)) a1) (uu := so_uv (Z (iv_p Z)) (Z (iv_s Z))) (so_pw (Z (iv_p Z) 3 0).toNat).toNat (fun i hi => by have := dw_b hP hS ha i (by omega); omega) (fun i hi => uv_b hP i)
  generalize hX : so_ch (so_ov (Z (iv_p Z)) (Z (iv_s Z)) a1 1) (so_dw (Z (iv_p Z)) (Z (iv_s Z)) a1) (so_uv (Z (iv_p Z)) (Z (iv_s Z))) (so_pw (Z (iv_p Z) 3 0).toNat).toNat = X at *
  have n3 := hcN 3
  have eX3 : dz_c (X 3) = X 3 := dz_ci (by omega) (by omega)
  rw [hro.1, eX3]
  have mod : ∀ y : Int, y = (if a2 ≠ 2 then (if X 3 ≠ 0 then (if a2 ≠ 0 then X 1 else X 0) else -4) else X 3) → dz_p (jf_M_quiet a1 a2 W) (fun q' => iv_Z (n + 1) q'.2 ∧ dz_c y = dz_c q'.1) := by
    intro y hy
    rw [ey_t2 hb]
    unfold jf_M_quiet
    refine dp_bi (dp_eq (oi_wM (m := Z 114) h.2.1 rP oz_s c1) ?_)
    simp only [decide_eq_false_iff_not, c2]
    refine dp_no a (dp_ck (by omega) (dp_bi (dp_eq (st_nref (S := Z (iv_s Z)) (P := Z (iv_p Z)) rP.2.2.1 h3 (fun g c d => by have := rS.1.1 g c d; rw [Int.zero_add] at this; exact this)) ?_)))
    refine dp_lp (fun k q => ∃ (v : Nat) (m : ob_O) (a b : Int), v + k = (so_pw (Z (iv_p Z) 3 0).toNat).toNat ∧ q = (a, b, so_ch (so_ov (Z (iv_p Z)) (Z (iv_s Z)) a1 1) (so_dw (Z (iv_p Z)) (Z (iv_s Z)) a1) (so_uv (Z (iv_p Z)) (Z (iv_s Z))) v 3, (v : Int), ob_z W 114 m) ∧ so_mI (Z (iv_p Z)) (Z 114) m ∧ so_mb (so_ch (so_ov (Z (iv_p Z)) (Z (iv_s Z)) a1 1) (so_dw (Z (iv_p Z)) (Z (iv_s Z)) a1) (so_uv (Z (iv_p Z)) (Z (iv_s Z))) v) a b) ?_ 5000 (so_pw (Z (iv_p Z) 3 0).toNat).toNat (-4, 0, 0, 0, ob_z W 114 (Z 114)) (by omega) ⟨0, Z 114, -4, 0, by omega, rfl, mI_i, Or.inl ⟨rfl, rfl⟩⟩
    rintro k1 _ ⟨v, m, a, b, hv, rfl, hI, hmb⟩
    have ev : dz_c (v : Int) = v := dc_ir (by omega) (by omega)
    have m2 : m 2 0 = Z (iv_p Z) 3 0 := by rw [hI.2 2 (by decide) (by decide)]; exact rP.2.2.1
    dsimp only
    refine dp_bi (dp_eq (st_mref (m := m) (P := Z (iv_p Z)) m2 h3 oz_s) ?_)
    rw [epw, ev]
    by_cases hk : v = (so_pw (Z (iv_p Z) 3 0).toNat).toNat
    · have hV := mV_s hI (so_num (Z (iv_s Z)) (Z (iv_p Z) 3 0).toNat 0)
      have fin := iv_t2 h hb (mV_e hP hS rS hV) hV.2
      rw [hk, hX] at hmb
      rw [hk, hX]
      have n0 := hcN 0
      refine dp_ck (by omega) (dp_bi (dp_eq (st_ref m2 h3) (dp_br (fun e => ?_) (fun e => dp_sm ⟨fin, ?_⟩))))
      · rw [if_pos e] at hy
        rcases hmb with q | q
        · refine dp_ck (by rw [q.2]; decide) (dp_sm ⟨fin, ?_⟩)
          rw [hy, if_neg (by omega), q.2]
        · rw [if_pos q.1] at hy
          refine dp_no (by rw [q.2.1, dz_ci (by omega) (by omega)]; omega) (dp_br (fun f => dp_sm ⟨fin, ?_⟩) (fun f => dp_sm ⟨fin, ?_⟩))
          · rw [hy, if_pos f, q.2.2]
          · rw [hy, if_neg f, q.2.1]
      · rw [hy, if_neg e]
    · have hV := mV_s hI v
      have hdw := dw_b hP hS ha v (by omega)
      have hSv := st_S (v := v) hP hS (by omega)
      have hcb := ch_b (ok := so_ov (Z (iv_p Z)) (Z (iv_s Z)) a1 1) (dd := so_dw (Z (iv_p Z)) (Z (iv_s Z)) a1) (uu := so_uv (Z (iv_p Z)) (Z (iv_s Z))) v (fun i hi => by have := dw_b hP hS ha i (by omega); omega) (fun i hi => uv_b hP i)
      have key : so_ch (so_ov (Z (iv_p Z)) (Z (iv_s Z)) a1 1) (so_dw (Z (iv_p Z)) (Z (iv_s Z)) a1) (so_uv (Z (iv_p Z)) (Z (iv_s Z))) (v + 1) = if so_ov (Z (iv_p Z)) (Z (iv_s Z)) a1 1 v = false then so_ch (so_ov (Z (iv_p Z)) (Z (iv_s Z)) a1 1) (so_dw (Z (iv_p Z)) (Z (iv_s Z)) a1) (so_uv (Z (iv_p Z)) (Z (iv_s Z))) v else so_st (so_ch (so_ov (Z (iv_p Z)) (Z (iv_s Z)) a1 1) (so_dw (Z (iv_p Z)) (Z (iv_s Z)) a1) (so_uv (Z (iv_p Z)) (Z (iv_s Z))) v) v (so_dw (Z (iv_p Z)) (Z (iv_s Z)) a1 v) (so_uv (Z (iv_p Z)) (Z (iv_s Z)) v) := rfl
      have okd : so_ov (Z (iv_p Z)) (Z (iv_s Z)) a1 1 v = decide ((1 : Int) = 0 ∨ dz_c (so_wv (Z (iv_p Z)) (Z (iv_s Z)) a1 v) = 0) := rfl
      have ed : dz_c (so_dw (Z (iv_p Z)) (Z (iv_s Z)) a1 v) = so_dw (Z (iv_p Z)) (Z (iv_s Z)) a1 v := dz_ci (by omega) (by omega)
      refine dp_no (by omega) (dp_bi (dp_eq (st_ref m2 h3) (dp_bi (wk_ref hP hSv (mV_P hV rP) (mV_V (by omega) hP hS rS hV) ha (fun m' g1 g2 => dp_bi ?_)))))
      have hV2 := mV_t hV g1 g2
      show dz_p (if dz_c (so_wv (Z (iv_p Z)) (Z (iv_s Z)) a1 v) ≠ 0 then some 0 else some 1) _
      dsimp only
      by_cases cw : dz_c (so_wv (Z (iv_p Z)) (Z (iv_s Z)) a1 v) = 0
      · rw [okd, decide_eq_true (Or.inr cw), if_neg (by decide)] at key
        refine dp_no (by omega) (dp_sm (dp_bi (fr_ref hP hSv (mV_P hV2 rP) (mV_V (by omega) hP hS rS hV2) ha (fun m3 g3 g4 => dp_bi ?_))))
        have hV3 := mV_t hV2 g3 g4
        show dz_p (if dz_c 1 = 0 then some 0 else if dz_c a = -4 then some 1 else if dz_c b ≤ dz_c (so_dw (Z (iv_p Z)) (Z (iv_s Z)) a1 v) then some 0 else some 1) (fun q23 => dz_p (Option.bind (α := Int) (if dz_c q23 = 0 then (some a) else (some (v : Int))) (fun (q25 : Int) => Option.bind (α := Int) (if dz_c q23 = 0 then (some b) else (some (so_dw (Z (iv_p Z)) (Z (iv_s Z)) a1 v))) (fun (q27 : Int) => Option.bind (α := Int) (if dz_c 1 = 0 then (some 0) else (some 1)) (fun (q29 : Int) => some (Sum.inl (q25, q27, so_ch (so_ov (Z (iv_p Z)) (Z (iv_s Z)) a1 1) (so_dw (Z (iv_p Z)) (Z (iv_s Z)) a1) (so_uv (Z (iv_p Z)) (Z (iv_s Z))) v 3 + q29, (v : Int) + 1, ob_z W 114 m3)))))) _)
        rw [ed]
        generalize so_dw (Z (iv_p Z)) (Z (iv_s Z)) a1 v = d at *
        generalize so_uv (Z (iv_p Z)) (Z (iv_s Z)) v = u at *
        generalize so_ch (so_ov (Z (iv_p Z)) (Z (iv_s Z)) a1 1) (so_dw (Z (iv_p Z)) (Z (iv_s Z)) a1) (so_uv (Z (iv_p Z)) (Z (iv_s Z))) v = x at *
        have b0 := hcb 0
        have b1 := hcb 1
        have b3 := hcb 3
        have s3 : so_st x v d u 3 = x 3 + 1 := by unfold so_st; rw [if_pos rfl]
        refine dp_no (by decide) ?_
        by_cases cc : x 3 = 0 ∨ d < x 1
        · have s0 : so_st x v d u 0 = v := by
            unfold so_st
            rw [if_neg (by decide), if_pos cc, if_pos rfl]
          have s1 : so_st x v d u 1 = d := by
            unfold so_st
            rw [if_neg (by decide), if_pos cc, if_neg (by decide), if_pos rfl]
          have tt : ∀ Q : Int → Prop, Q 1 → dz_p (if dz_c a = -4 then some 1 else if dz_c b ≤ d then some 0 else some 1) Q := by
            intro Q hQ
            rcases hmb with q | q
            · exact dp_ck (by rw [q.2]; decide) (dp_sm hQ)
            · refine dp_no ?_ (dp_no ?_ (dp_sm hQ))
              · rw [q.2.1, dz_ci (by omega) (by omega)]; omega
              · rw [q.2.2, dz_ci (by omega) (by omega)]; omega
          refine tt _ (dp_bi (dp_no (by decide) (dp_sm (dp_bi (dp_no (by decide) (dp_sm (dp_bi (dp_no (by decide) (dp_sm (dp_sm ⟨k1 - 1, by omega, v + 1, m3, (v : Int), d, by omega, ?_, mV_I hV3, ?_⟩))))))))))
          · rw [key, s3]; rfl
          · rw [key]
            exact Or.inr ⟨by rw [s3]; omega, s0.symm, s1.symm⟩
        · have s0 : so_st x v d u 0 = x 0 := by
            unfold so_st
            rw [if_neg (by decide), if_neg cc]
            simp
          have s1 : so_st x v d u 1 = x 1 := by
            unfold so_st
            rw [if_neg (by decide), if_neg cc]
            simp
          rcases hmb with q | q
          · exact absurd (Or.inl q.1) cc
          refine dp_no (by rw [q.2.1, dz_ci (by omega) (by omega)]; omega) (dp_ck (by rw [q.2.2, dz_ci (by omega) (by omega)]; omega) (dp_sm (dp_bi (dp_ck (by decide) (dp_sm (dp_bi (dp_ck (by decide) (dp_sm (dp_bi (dp_no (by decide) (dp_sm (dp_sm ⟨k1 - 1, by omega, v + 1, m3, a, b, by omega, ?_, mV_I hV3, ?_⟩))))))))))))
          · rw [key, s3]; rfl
          · rw [key]
            exact Or.inr ⟨by rw [s3]; omega, by rw [s0, q.2.1], by rw [s1, q.2.2]⟩
      · rw [okd, decide_eq_false (fun q => by rcases q with q | q; exact absurd q (by decide); exact cw q), if_pos rfl] at key
        refine dp_ck cw (dp_sm (dp_bi (fr_ref hP hSv (mV_P hV2 rP) (mV_V (by omega) hP hS rS hV2) ha (fun m3 g3 g4 => dp_bi (dp_ck (by decide) (dp_sm (dp_bi (dp_ck (by decide) (dp_sm (dp_bi (dp_ck (by decide) (dp_sm (dp_bi (dp_ck (by decide) (dp_sm (dp_sm ⟨k1 - 1, by omega, v + 1, m3, a, b, by omega, ?_, mV_I (mV_t hV2 g3 g4), ?_⟩))))))))))))))))
        · rw [key, Int.add_zero]; rfl
        · rw [key]; exact hmb
  have n0 := hcN 0
  refine dp_br (fun e => dp_br (fun f => dp_br (fun g => dp_sm (mod _ ?_)) (fun g => dp_sm (mod _ ?_))) (fun f => dp_sm (mod _ ?_))) (fun e => dp_sm (mod _ ?_))
  · rw [if_pos e, if_pos f, if_pos g, (hro.2 f).2.1]
  · rw [if_pos e, if_pos f, if_neg g, (hro.2 f).1]
  · rw [if_pos e, if_neg f]
  · rw [if_neg e]
end px
