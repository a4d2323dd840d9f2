/-! all, and the reference's side of the choices -/
def so_mI (P m0 m : ob_O) : Prop := (∀ j : Int, j < 420 → (j < 0 ∨ ((P 3 0).toNat : Int) ≤ j) → m 0 j = m0 0 j) ∧ (∀ f : Nat, f ≠ 0 → (f < 32 ∨ 40 < f) → m f = m0 f)
def so_mV (P m0 : ob_O) (v : Int) (m : ob_O) : Prop := (∀ j : Int, j < 420 → m 0 j = so_sets v (P 3 0).toNat m0 0 j) ∧ (∀ f : Nat, f ≠ 0 → (f < 32 ∨ 40 < f) → m f = m0 f)
section pw
variable {n G N : Nat} {P S o m m0 m' : ob_O} {w d u a1 a2 now far : Int} {v : Nat} {Z Y Z' W : dz_Z} {x : Nat → Int} {ok : Nat → Bool} {dd uu : Nat → Int}
theorem ca_cls (h : iv_Z n Z) {K : dz_Z → Prop} (k : ∀ Z' : dz_Z, (∀ b : Nat, b ≠ 54 → b ≠ 55 → b ≠ 65 → Z' b = Z b) → so_ro (so_ch (fun _ => true) (so_da (Z (iv_p Z)) (Z (iv_s Z))) (so_uv (Z (iv_p Z)) (Z (iv_s Z))) (so_pw (Z (iv_p Z) 3 0).toNat).toNat) (Z' 65) → K Z') : dz_p (jf_O_chooseForAllShowers Z) K := by
  have hr := h.1
  have hp := iv_isP h.1
  have hs := iv_isS h.1
  have hs2 := iv_s2 h.1
  have hP := h.2.1
  have h3 := hP.2.2.1
  have h10 := hP.2.2.2.2.2.2.1
  have hS := h.2.2.2.1.1
  have hpw := so_pw_b (G := (Z (iv_p Z) 3 0).toNat) (by omega)
  have e3 : dz_c (Z (iv_p Z) 3 0) = Z (iv_p Z) 3 0 := dc_ir h3.1 (by omega)
  have e10 : dz_c (Z (iv_p Z) 10 0) = Z (iv_p Z) 10 0 := dc_ir h10.1 (by omega)
  have epw : dz_c (so_pw (Z (iv_p Z) 3 0).toNat) = so_pw (Z (iv_p Z) 3 0).toNat := dc_ir (by omega) (by omega)
  unfold jf_O_chooseForAllShowers
  simp only [show (Z 0 3 0).toNat = iv_s Z from rfl, show (Z 0 2 0).toNat = iv_p Z from rfl]
  refine dp_ck hs (dp_ck hp (dp_bi (dp_eq (st_ncls h3) (dp_bi (dp_eq (st_mcls h) (dp_bi (cI_b hr h3.1 (fun Z1 i1 => ?_))))))))
  rw [epw]
  generalize hN : so_pw (Z (iv_p Z) 3 0).toNat = pw at *
  refine dp_lp (fun k q => ∃ (v : Nat) (Z' : dz_Z), v + k = pw.toNat ∧ q = ((v : Int), Z') ∧ so_cI Z (so_ch (fun _ => true) (so_da (Z (iv_p Z)) (Z (iv_s Z))) (so_uv (Z (iv_p Z)) (Z (iv_s Z))) v) Z') ?_ 5000 pw.toNat (0, Z1) (by omega) ⟨0, Z1, by omega, rfl, i1⟩
  rintro k1 _ ⟨v, Z', hv, rfl, hc⟩
  obtain ⟨z0, z1, zp⟩ := cI_0 hr hc
  have ev : dz_c (v : Int) = v := dc_ir (by omega) (by omega)
  simp only [z0, show (Z 0 3 0).toNat = iv_s Z from rfl, show (Z 0 2 0).toNat = iv_p Z from rfl, zp, ev]
  by_cases hk : v = pw.toNat
  · refine dp_ck (by omega) (dp_ck hs (dp_ck hp (dp_bi (dp_eq (st_cls e3 h3) (dp_sm (k _ (cI_e hr hP hS hc) ?_))))))
    rw [oz_n (by omega), ← hk]
    exact hc.2.2.1
  · refine dp_no (by omega) (dp_ck hs (dp_ck hp (dp_bi (dp_eq (st_cls e3 h3) ?_))))
    obtain ⟨es, hc2⟩ := cI_s (v := v) hr hc
    rw [es]
    have ws : ob_z Z' (iv_s Z) (so_sets v (Z (iv_p Z) 3 0).toNat (Z (iv_s Z))) (iv_s Z) = so_sets v (Z (iv_p Z) 3 0).toNat (Z (iv_s Z)) := oz_s
    generalize hW : ob_z Z' (iv_s Z) (so_sets v (Z (iv_p Z) 3 0).toNat (Z (iv_s Z))) = W at *
    have hSv := st_S (v := v) hP hS (by omega)
    have hdw := da_b hP hS v (by omega)
    have hcb := ch_b (ok := fun _ => true) (dd := so_da (Z (iv_p Z)) (Z (iv_s Z))) (uu := so_uv (Z (iv_p Z)) (Z (iv_s Z))) v (fun i hi => by have := da_b hP hS i (by omega); omega) (fun i hi => uv_b hP i)
    have key : so_ch (fun _ => true) (so_da (Z (iv_p Z)) (Z (iv_s Z))) (so_uv (Z (iv_p Z)) (Z (iv_s Z))) (v + 1) = so_st (so_ch (fun _ => true) (so_da (Z (iv_p Z)) (Z (iv_s Z))) (so_uv (Z (iv_p Z)) (Z (iv_s Z))) v) v (so_da (Z (iv_p Z)) (Z (iv_s Z)) v) (so_uv (Z (iv_p Z)) (Z (iv_s Z)) v) := by
      show (if true = false then _ else so_st (so_ch (fun _ => true) (so_da (Z (iv_p Z)) (Z (iv_s Z))) (so_uv (Z (iv_p Z)) (Z (iv_s Z))) v) v (so_da (Z (iv_p Z)) (Z (iv_s Z)) v) (so_uv (Z (iv_p Z)) (Z (iv_s Z)) v)) = _
      rw [if_neg (by decide)]
    refine dp_lp (fun k q => ∃ (t : Nat) (W' : dz_Z), (t : Int) + k = Z (iv_p Z) 10 0 ∧ q = (so_fs (Z (iv_p Z)) (so_sets v (Z (iv_p Z) 3 0).toNat (Z (iv_s Z))) t, (t : Int), W') ∧ so_cI Z (so_ch (fun _ => true) (so_da (Z (iv_p Z)) (Z (iv_s Z))) (so_uv (Z (iv_p Z)) (Z (iv_s Z))) v) W' ∧ W' (iv_s Z) = so_sets v (Z (iv_p Z) 3 0).toNat (Z (iv_s Z))) ?_ 5000 (Z (iv_p Z) 10 0).toNat (0, 0, W) (by omega) ⟨0, W, by omega, rfl, hc2, ws⟩
    rintro k2 _ ⟨t, W', ht, rfl, hc3, ws'⟩
    obtain ⟨w0, w1, wp⟩ := cI_0 hr hc3
    have et : dz_c (t : Int) = t := dc_ir (by omega) (by omega)
    simp only [w0, show (Z 0 3 0).toNat = iv_s Z from rfl, show (Z 0 2 0).toNat = iv_p Z from rfl, wp, e10, et]
    refine dp_ck hp ?_
    by_cases hk2 : (t : Int) = Z (iv_p Z) 10 0
    · have ef : so_fs (Z (iv_p Z)) (so_sets v (Z (iv_p Z) 3 0).toNat (Z (iv_s Z))) t = so_da (Z (iv_p Z)) (Z (iv_s Z)) v := by
        unfold so_da
        rw [show (Z (iv_p Z) 10 0).toNat = t by omega]
      rw [ef]
      refine dp_ck (by omega) (dp_bi (cI_o hr hP hS hc3 (by omega) (by omega) (fun f => by have := hcb f; omega) (fun Z2 hc4 => dp_sm ⟨k1 - 1, by omega, v + 1, Z2, by omega, rfl, ?_⟩)))
      rw [key]
      exact hc4
    · refine dp_no (by omega) (dp_ck hs (dp_bi (tr_cls (by rw [w0, w1]; exact hr) (by unfold iv_p; rw [w0]) (by unfold iv_s; rw [w0]) wp ws' hP hSv (by omega) et (fun W2 hb hf _ => ?_))))
      have hc4 := cI_t hr hc3 hb
      obtain ⟨v0, v1, vp⟩ := cI_0 hr hc4
      simp only [v0, show (Z 0 3 0).toNat = iv_s Z from rfl, show (Z 0 2 0).toNat = iv_p Z from rfl]
      refine dp_ck hs (dp_bi (dp_eq hf (dp_sm ⟨k2 - 1, by omega, t + 1, W2, by omega, rfl, hc4, ?_⟩)))
      rw [hb _ (by omega) (by omega), ws']
theorem mV_s (h : so_mI P m0 m) (v : Int) : so_mV P m0 v (so_sets v (P 3 0).toNat m) := by
  refine ⟨fun j hj => ?_, fun f a b => by rw [st_f a, h.2 f a b]⟩
  rw [st_i, st_i]
  split
  · rfl
  · exact h.1 j hj (by omega)
theorem mV_I {v : Int} (h : so_mV P m0 v m) : so_mI P m0 m := ⟨fun j hj hi => by rw [h.1 j hj, st_i, if_neg (by omega)], h.2⟩
theorem mI_m (h : so_mI P m0 m) (h0 : m' 0 = m 0) (hf : ∀ f : Nat, f ≠ 0 → (f < 32 ∨ 40 < f) → m' f = m f) : so_mI P m0 m' := ⟨fun j a b => by rw [h0]; exact h.1 j a b, fun f a b => by rw [hf f a b, h.2 f a b]⟩
theorem mI_i : so_mI P m0 m0 := ⟨fun _ _ _ => rfl, fun _ _ _ => rfl⟩
theorem mV_t {v : Int} (h : so_mV P m0 v m) (hj : ∀ j : Int, j < 420 → m' 0 j = m 0 j) (hf : ∀ f : Nat, f ≠ 0 → (f < 32 ∨ 37 < f) → m' f = m f) : so_mV P m0 v m' := ⟨fun j a => by rw [hj j a, h.1 j a], fun f a b => by rw [hf f a (by omega), h.2 f a b]⟩
theorem mV_P {v : Int} (h : so_mV P m0 v m) (rP : mr_P P m0) : mr_P P m := mrP_m rP (fun f a b => h.2 f (by omega) (by omega))
theorem mV_V {v : Int} (hv : 0 ≤ v ∧ v ≤ 2147483647) (hP : so_P P) (hS : so_S P S) (rS : mr_S 0 P S m0) (h : so_mV P m0 v m) : mr_V P (so_sets v (P 3 0).toNat S) m := mv_m (mv_S (st_R (v := v) hP hS rS)) hP (st_S hP hS hv) (fun j a b => h.1 j (by omega))
theorem mV_e (hP : so_P P) (hS : so_S P S) (rS : mr_S 0 P S m0) (h : so_mV P m0 (so_num S (P 3 0).toNat 0) m) : ∀ j : Int, j < 420 → m 0 j = m0 0 j := by
  intro j hj
  have h3 := hP.2.2.1
  rw [h.1 j hj, st_bk (S := S) (o := m0) (by omega) (fun g a b => hS.1 g a (by omega)) (fun g a b => by have := rS.1.1 g a (by omega); rw [Int.zero_add] at this; exact this) (fun f _ => rfl) (fun i _ => rfl)]
/-- what the reference has laid down of the best -/
def so_mb (x : Nat → Int) (a b : Int) : Prop := (x 3 = 0 ∧ a = -4) ∨ (x 3 ≠ 0 ∧ a = x 0 ∧ b = x 1)
theorem lb_ref (hP : so_P P) (hS : so_S P S) (rP : mr_P P m0) (rS : mr_S 0 P S m0) (hw : 0 ≤ w ∧ w < P 10 0) {K : dz_Z → Prop} (k : ∀ m' : ob_O, (∀ j : Int, j < 420 → m' 0 j = m0 0 j) → (∀ f : Nat, f ≠ 0 → (f < 32 ∨ 40 < f) → m' f = m0 f) → m' 38 0 = so_ch (fun _ => true) (so_dw P S w) (so_uv P S) (so_pw (P 3 0).toNat).toNat 0 → m' 39 0 = so_ch (fun _ => true) (so_dw P S w) (so_uv P S) (so_pw (P 3 0).toNat).toNat 1 → m' 40 0 = so_ch (fun _ => true) (so_dw P S w) (so_uv P S) (so_pw (P 3 0).toNat).toNat 2 → K (ob_z Y 114 m')) : dz_p (jf_M_layBest w (ob_z Y 114 m0)) K := by
  have h3 := hP.2.2.1
  have hpw := so_pw_b (G := (P 3 0).toNat) (by omega)
  have epw : dz_c (so_pw (P 3 0).toNat) = so_pw (P 3 0).toNat := dc_ir (by omega) (by omega)
  have hin := st_inv (S := S) (G := (P 3 0).toNat) (by omega) (fun g a b => hS.1 g a (by omega))
  unfold jf_M_layBest
  refine dp_bi (dp_eq (st_nref (S := S) rP.2.2.1 h3 (fun g c d => by have := rS.1.1 g c d; rw [Int.zero_add] at this; exact this)) (dp_le (dp_le ?_)))
  simp only [oz_uz]
  refine dp_lp (fun k q => ∃ (v : Nat) (m : ob_O), v + k = (so_pw (P 3 0).toNat).toNat ∧ q = ((v : Int), ob_z Y 114 m) ∧ so_mI P m0 m ∧ so_mb (so_ch (fun _ => true) (so_dw P S w) (so_uv P S) v) (m 38 0) (m 39 0) ∧ (so_ch (fun _ => true) (so_dw P S w) (so_uv P S) v 3 ≠ 0 → m 40 0 = so_ch (fun _ => true) (so_dw P S w) (so_uv P S) v 2)) ?_ 5000 (so_pw (P 3 0).toNat).toNat (0, ob_z Y 114 (ob_u (ob_u m0 38 0 (-4)) 39 0 0)) (by omega) ⟨0, _, by omega, rfl, mI_m mI_i (by rw [ou_ff (by decide), ou_ff (by decide)]) (fun f a b => by rw [ou_ff (by omega), ou_ff (by omega)]), Or.inl ⟨rfl, by rw [ou_f (by decide), ou_s]⟩, fun q => absurd rfl q⟩
  rintro k1 _ ⟨v, m, hv, rfl, hI, hb, h40⟩
  have ev : dz_c (v : Int) = v := dc_ir (by omega) (by omega)
  have e3 := ch_3 (dd := so_dw P S w) (uu := so_uv P S) v
  dsimp only
  refine dp_bi (dp_eq (st_mref (m := m) (P := P) (by rw [hI.2 2 (by decide) (by decide)]; exact rP.2.2.1) h3 oz_s) ?_)
  rw [epw, ev]
  have m2 : m 2 0 = P 3 0 := by rw [hI.2 2 (by decide) (by decide)]; exact rP.2.2.1
  by_cases hk : v = (so_pw (P 3 0).toNat).toNat
  · have hV := mV_s hI (so_num S (P 3 0).toNat 0)
    refine dp_ck (by omega) (dp_bi (dp_eq (st_ref m2 h3) (dp_sm (k _ (mV_e hP hS rS hV) hV.2 ?_ ?_ ?_))))
    · rw [st_f (by decide), ← hk]
      rcases hb with b | b
      · exact absurd b.1 (by omega)
      · exact b.2.1
    · rw [st_f (by decide), ← hk]
      rcases hb with b | b
      · exact absurd b.1 (by omega)
      · exact b.2.2
    · rw [st_f (by decide), ← hk]
      exact h40 (by omega)
  · have hV := mV_s hI v
    refine dp_no (by omega) (dp_bi (dp_eq (st_ref m2 h3) (dp_bi (fr_ref hP (st_S (v := v) hP hS (by omega)) (mV_P hV rP) (mV_V (by omega) hP hS rS hV) hw (fun m' g1 g2 => ?_)))))
    have hV2 := mV_t hV g1 g2
    have hI2 := mV_I hV2
    have hdw := dw_b hP hS hw v (by omega)
    have hcb := ch_b (ok := fun _ => true) (dd := so_dw P S w) (uu := so_uv P S) v (fun i hi => by have := dw_b hP hS hw i (by omega); omega) (fun i hi => uv_b hP i)
    have key : so_ch (fun _ => true) (so_dw P S w) (so_uv P S) (v + 1) = so_st (so_ch (fun _ => true) (so_dw P S w) (so_uv P S) v) v (so_dw P S w v) (so_uv P S v) := by
      show (if true = false then _ else so_st (so_ch (fun _ => true) (so_dw P S w) (so_uv P S) v) v (so_dw P S w v) (so_uv P S v)) = _
      rw [if_neg (by decide)]
    have q38 : m' 38 0 = m 38 0 := by rw [g2 38 (by decide) (by decide), st_f (by decide)]
    have q39 : m' 39 0 = m 39 0 := by rw [g2 39 (by decide) (by decide), st_f (by decide)]
    have q40 : m' 40 0 = m 40 0 := by rw [g2 40 (by decide) (by decide), st_f (by decide)]
    show dz_p (Option.bind (α := Int) (if dz_c (ob_z Y 114 m' 114 38 0) = (-4) then (some 1) else (if dz_c (ob_z Y 114 m' 114 39 0) ≤ dz_c (so_dw P S w v) then (if dz_c (so_dw P S w v) ≠ dz_c (ob_z Y 114 m' 114 39 0) then (some (ob_z Y 114 m' 114 40 0)) else (some ((ob_z Y 114 m' 114 40 0) + 1))) else (some 1))) (fun (q14 : Int) => dz_a (dz_u (ob_z Y 114 m') 114 40 0 q14) fun Z15 => if dz_c (Z15 114 38 0) = (-4) then (dz_a (dz_u Z15 114 38 0 (v : Int)) fun Z17 => dz_a (dz_u Z17 114 39 0 (so_dw P S w v)) fun Z18 => some (Sum.inl ((v : Int) + 1, Z18))) else (if dz_c (Z15 114 39 0) ≤ dz_c (so_dw P S w v) then (some (Sum.inl ((v : Int) + 1, Z15))) else (dz_a (dz_u Z15 114 38 0 (v : Int)) fun Z20 => dz_a (dz_u Z20 114 39 0 (so_dw P S w v)) fun Z21 => some (Sum.inl ((v : Int) + 1, Z21)))))) _
    simp only [dz_a, oz_uz, oz_s, ou_f (show (38 : Nat) ≠ 40 by decide), ou_f (show (39 : Nat) ≠ 40 by decide), q38, q39, q40]
    generalize so_dw P S w v = d at *
    generalize so_uv P S v = u at *
    generalize so_ch (fun _ => true) (so_dw P S w) (so_uv P S) v = x at *
    have ed : dz_c d = d := dc_ir (by omega) (by omega)
    rw [ed]
    have b0 := hcb 0
    have b1 := hcb 1
    have fi : ∀ q : Int, so_mI P m0 (ob_u (ob_u (ob_u m' 40 0 q) 38 0 v) 39 0 d) := fun q => mI_m hI2 (by rw [ou_ff (by decide), ou_ff (by decide), ou_ff (by decide)]) (fun f a b => by rw [ou_ff (by omega), ou_ff (by omega), ou_ff (by omega)])
    have fi2 : ∀ q : Int, so_mI P m0 (ob_u m' 40 0 q) := fun q => mI_m hI2 (by rw [ou_ff (by decide)]) (fun f a b => by rw [ou_ff (by omega)])
    have u38 : ∀ q : Int, ob_u (ob_u (ob_u m' 40 0 q) 38 0 v) 39 0 d 38 0 = v := fun q => by rw [ou_f (by decide), ou_s]
    have u39 : ∀ q : Int, ob_u (ob_u (ob_u m' 40 0 q) 38 0 v) 39 0 d 39 0 = d := fun q => ou_s
    have u40 : ∀ q : Int, ob_u (ob_u (ob_u m' 40 0 q) 38 0 v) 39 0 d 40 0 = q := fun q => by rw [ou_f (by decide), ou_f (by decide), ou_s]
    have y38 : ∀ q : Int, ob_u m' 40 0 q 38 0 = m 38 0 := fun q => by rw [ou_f (by decide), q38]
    have y39 : ∀ q : Int, ob_u m' 40 0 q 39 0 = m 39 0 := fun q => by rw [ou_f (by decide), q39]
    rcases hb with b | b
    · rw [b.2]
      have s : ∀ f : Nat, so_st x v d u f = if f = 3 then x 3 + 1 else (if f = 0 then (v : Int) else if f = 1 then d else if f = 2 then 1 else if f = 4 then (v : Int) else u) := fun f => by
        unfold so_st
        rw [if_pos (Or.inl b.1)]
      refine dp_bi (dp_ck (by decide) (dp_sm (dp_ck (by decide) (dp_sm ⟨k1 - 1, by omega, v + 1, _, by omega, rfl, fi 1, Or.inr ⟨?_, ?_, ?_⟩, fun _ => ?_⟩))))
      · rw [key, s, if_pos rfl]; omega
      · rw [u38, key, s]; rfl
      · rw [u39, key, s]; rfl
      · rw [u40, key, s]; rfl
    · have h40' := h40 b.1
      have e0 : dz_c (x 0) = x 0 := dc_ir (by omega) (by omega)
      have e1 : dz_c (x 1) = x 1 := dc_ir (by omega) (by omega)
      rw [b.2.1, b.2.2, e0, e1, h40']
      by_cases c : d < x 1
      · have s : ∀ f : Nat, so_st x v d u f = if f = 3 then x 3 + 1 else (if f = 0 then (v : Int) else if f = 1 then d else if f = 2 then 1 else if f = 4 then (v : Int) else u) := fun f => by
          unfold so_st
          rw [if_pos (Or.inr c)]
        refine dp_bi (dp_no (by omega) (dp_no (by omega) (dp_sm (dp_no (by omega) (dp_no (by omega) (dp_sm ⟨k1 - 1, by omega, v + 1, _, by omega, rfl, fi 1, Or.inr ⟨?_, ?_, ?_⟩, fun _ => ?_⟩))))))
        · rw [key, s, if_pos rfl]; omega
        · rw [u38, key, s]; rfl
        · rw [u39, key, s]; rfl
        · rw [u40, key, s]; rfl
      · have s : ∀ f : Nat, so_st x v d u f = if f = 3 then x 3 + 1 else if d = x 1 then (if f = 2 then x 2 + 1 else if u < x 5 then (if f = 4 then (v : Int) else if f = 5 then u else x f) else x f) else x f := fun f => by
          unfold so_st
          rw [if_neg (show ¬(x 3 = 0 ∨ d < x 1) by omega)]
        have s0 : so_st x v d u 0 = x 0 := by rw [s]; simp
        have s1 : so_st x v d u 1 = x 1 := by rw [s]; simp
        refine dp_bi (dp_no (by omega) (dp_ck (by omega) (dp_br (fun c2 => dp_sm (dp_no (by omega) (dp_ck (by omega) (dp_sm ⟨k1 - 1, by omega, v + 1, _, by omega, rfl, fi2 _, Or.inr ⟨?_, ?_, ?_⟩, fun _ => ?_⟩)))) (fun c2 => dp_sm (dp_no (by omega) (dp_ck (by omega) (dp_sm ⟨k1 - 1, by omega, v + 1, _, by omega, rfl, fi2 _, Or.inr ⟨?_, ?_, ?_⟩, fun _ => ?_⟩)))))))
        · rw [key, s, if_pos rfl]; omega
        · rw [y38, key, s0, b.2.1]
        · rw [y39, key, s1, b.2.2]
        · rw [ou_s, key, s, if_neg (by decide), if_neg c2]
        · rw [key, s, if_pos rfl]; omega
        · rw [y38, key, s0, b.2.1]
        · rw [y39, key, s1, b.2.2]
        · rw [ou_s, key, s, if_neg (by decide), if_pos (by omega), if_pos rfl]
end pw
