section uc
variable {Z W Y : dz_Z} {p s n : Nat} {R R' P S T m m' m1 m2 mt : ob_O} {x : Int}
theorem zf_114 (hp : p = 25 ∨ p = 4) (hs : s = 36 ∨ s = 15) : ob_z (so_zf Z p s R P S) 114 (Z 114) = so_zf Z p s R P S := by
  have : so_zf Z p s R P S 114 = Z 114 := zf_b (by decide) (by decide) (by decide) (by omega) (by omega)
  rw [← this, oz_i]
theorem op_organ (h : iv_Z n Z) : dz_p (jf_O_organ Z) (fun q => dz_p (jf_M_organ q.2) (fun q' => iv_Z (n + 1) q'.2 ∧ dz_c q.1 = dz_c q'.1)) := by
  have hR := h.1
  have h7 := h.2.2.2.2.2.1
  have h30 := h.2.2.2.2.2.2.2.2.1
  have h31 := h.2.2.2.2.2.2.2.2.2
  obtain ⟨p, hp⟩ : ∃ p, p = (Z 1 1 0).toNat := ⟨_, rfl⟩
  obtain ⟨s, hs⟩ : ∃ s, s = (Z 1 2 0).toNat := ⟨_, rfl⟩
  have hp2 : p = 25 ∨ p = 4 := by unfold iv_R at hR; omega
  have hs2 : s = 36 ∨ s = 15 := by unfold iv_R at hR; omega
  have hT : so_tp (Z 2) := ⟨h7.1, fun i a b => (h7.2.2 i a b).1⟩
  have htm : so_tm (Z 2) (Z 114) := ⟨h7.2.1, fun i a b => (h7.2.2 i a b).2⟩
  -- the page is cleared, the first token looked at
  generalize hC : so_cl (so_mz (Z 114)) 140 = C
  have cf : ∀ f : Nat, f ≠ 11 → f ≠ 16 → C f = so_mz (Z 114) f := fun f a b => by rw [← hC, cl_f a b]
  have zf : ∀ f : Nat, f ≠ 24 → f ≠ 26 → f ≠ 20 → f ≠ 17 → f ≠ 18 → f ≠ 19 → so_mz (Z 114) f = Z 114 f := fun f a1 a2 a3 a4 a5 a6 => by unfold so_mz; rw [ou_ff a6, ou_ff a5, ou_ff a4, ou_ff a3, ou_ff a2, ou_ff a1]
  have c24 : C 24 0 = 0 := by rw [cf 24 (by decide) (by decide)]; unfold so_mz; rw [ou_f (by decide), ou_f (by decide), ou_f (by decide), ou_f (by decide), ou_f (by decide), ou_s]
  have c26 : C 26 0 = 0 := by rw [cf 26 (by decide) (by decide)]; unfold so_mz; rw [ou_f (by decide), ou_f (by decide), ou_f (by decide), ou_f (by decide), ou_s]
  have c20 : C 20 0 = 0 := by rw [cf 20 (by decide) (by decide)]; unfold so_mz; rw [ou_f (by decide), ou_f (by decide), ou_f (by decide), ou_s]
  have c17 : C 17 0 = 0 := by rw [cf 17 (by decide) (by decide)]; unfold so_mz; rw [ou_f (by decide), ou_f (by decide), ou_s]
  have c18 : C 18 0 = -1 := by rw [cf 18 (by decide) (by decide)]; unfold so_mz; rw [ou_f (by decide), ou_s]
  have c19 : C 19 0 = -1 := by rw [cf 19 (by decide) (by decide)]; unfold so_mz; rw [ou_s]
  have ctm : so_tm (Z 2) C := tm_m htm (by rw [cf 21 (by decide) (by decide), zf 21 (by decide) (by decide) (by decide) (by decide) (by decide) (by decide)]) (by rw [cf 22 (by decide) (by decide), zf 22 (by decide) (by decide) (by decide) (by decide) (by decide) (by decide)])
  obtain ⟨st, e, k, ht⟩ := tk_ex (T := Z 2) (a := 0) hT (by have := hT.1; omega)
  obtain ⟨m1, s1, s2, s3⟩ := st_eq hT ctm c24 c26 ht
  have hke : ke (Z 114) m1 := fun f q => by rw [s3 f (by omega), cf f (by omega) (by omega), zf f (by omega) (by omega) (by omega) (by omega) (by omega) (by omega)]
  have hmo : ∀ Y, jf_M_organ (ob_z Y 114 (Z 114)) = so_wr (dz_lp so_ob (5000 - 0) (((0 : Nat) : Int), ob_z Y 114 m1)) := by
    intro Y
    rw [mo_eq, hC, s1, Option.bind_some]
    rfl
  have hR1 : ((Z 1) 1 0).toNat = p := hp.symm
  have hR2 : ((Z 1) 2 0).toNat = s := hs.symm
  have hsf : so_sf (Z 2) m1 := by
    refine ⟨tm_m ctm (s3 21 (by decide)) (s3 22 (by decide)), ?_, ?_, ?_⟩
    · rw [s3 30 (by decide), cf 30 (by decide) (by decide), zf 30 (by decide) (by decide) (by decide) (by decide) (by decide) (by decide)]; exact h30
    · rw [s3 31 (by decide), cf 31 (by decide) (by decide), zf 31 (by decide) (by decide) (by decide) (by decide) (by decide) (by decide)]; exact h31
    · have a1 := s2.2.1
      have a2 := s2.2.2.1
      have a3 := s2.1.1
      omega
  unfold jf_O_organ
  have hbg := bg_cls (Z := Z) (P := Z p) (S := Z s) hp2 hs2 hR1 hR2
  rw [rk_i hp2 hs2] at hbg
  refine dp_bi (dp_eq hbg ?_)
  refine dp_lp (fun k q => ∃ (i : Nat) (R' P' S' m' : ob_O) (a : Int), i + k = 160 ∧ 2 * (i : Int) ≤ a ∧ q = ((i : Int), rk Z p s R' P' S') ∧ (∀ Y, jf_M_organ (ob_z Y 114 (Z 114)) = so_wr (dz_lp so_ob (5000 - i) ((i : Int), ob_z Y 114 m'))) ∧ tkL (Z 2) R' m' a ∧ rg_A R' P' S' m' ∧ kp3 (Z 1) R' ∧ ke (Z 114) m') ?_ 5000 160 _ (by omega) ⟨0, _, _, _, m1, 0, by omega, by omega, rfl, hmo, ⟨ou_s, ?_, ⟨st, e, k, s2⟩, hsf⟩, ?_, ?_, hke⟩
  · rintro j _ ⟨i, R1, P1, S1, m', a, hij, hia, rfl, heq, hL, hr, hk3, hk⟩
    have ei : dz_c (i : Int) = i := dz_ci (by omega) (by omega)
    have R11 : (R1 1 0).toNat = p := by rw [hk3 1 (by decide)]; exact hR1
    have R12 : (R1 2 0).toNat = s := by rw [hk3 2 (by decide)]; exact hR2
    obtain ⟨q, hq⟩ : ∃ q, 5000 - i = q + 2 := ⟨4998 - i, by omega⟩
    rw [hq] at heq
    simp only [ei]
    refine dp_no (by omega) ?_
    have hc := hr.1
    have b18 := hr.2.2.2.2.2.2.2.2.2.1.1
    have b19 := hr.2.2.2.2.2.2.2.2.2.2.1
    -- a fault: both answer with its place
    have bad : ∀ (R2 P2 S2 m2 : ob_O), (∀ Y, jf_M_organ (ob_z Y 114 (Z 114)) = some (-10 - m2 25 0, ob_z Y 114 (ob_u (ob_u m2 22 0 0) 23 0 (m2 24 0)))) → tkF (Z 2) R2 m2 → kp3 (Z 1) R2 → ke (Z 114) m2 → dz_p (dz_a (dz_u (rk Z p s R2 P2 S2) 2 1 0 0) fun Z10 => dz_a (dz_u Z10 0 9 0 (Z10 1 3 0)) fun Z11 => if dz_c (Z11 0 9 0) = 0 then (Option.bind (jf_O_takeWhatWasRead Z11) fun q13 => some (Sum.inr ((i : Int), q13))) else (some (Sum.inr ((-10) - (Z11 1 4 0), Z11)))) (Sum.elim (fun s' : Int × dz_Z => ∃ k' : Nat, k' < j ∧ ∃ (i : Nat) (R' P' S' m' : ob_O) (a : Int), i + k' = 160 ∧ 2 * (i : Int) ≤ a ∧ s' = ((i : Int), rk Z p s R' P' S') ∧ (∀ Y, jf_M_organ (ob_z Y 114 (Z 114)) = so_wr (dz_lp so_ob (5000 - i) ((i : Int), ob_z Y 114 m'))) ∧ tkL (Z 2) R' m' a ∧ rg_A R' P' S' m' ∧ kp3 (Z 1) R' ∧ ke (Z 114) m') (fun q => dz_p (jf_M_organ q.2) (fun q' => iv_Z (n + 1) q'.2 ∧ dz_c q.1 = dz_c q'.1))) := by
      intro R2 P2 S2 m2 he hF k2 k3
      have e31 : dz_u (rk Z p s R2 P2 S2) 2 1 0 0 1 = R2 := by rw [oz_u, oz_n (by decide), rk_1]
      refine dp_le (dp_le ?_)
      rw [e31]
      show dz_p (if dz_c (so_zf Z p s R2 P2 S2 0 9 0) = 0 then _ else _) _
      have hf := hF.1
      rw [zf_9, dz_ci (x := R2 3 0) (by omega) (by omega)]
      refine dp_no (by omega) (dp_sm ?_)
      show dz_p (jf_M_organ (so_zf Z p s R2 P2 S2)) (fun q' => iv_Z (n + 1) q'.2 ∧ dz_c (-10 - so_zf Z p s R2 P2 S2 1 4 0) = dz_c q'.1)
      have he' := he (so_zf Z p s R2 P2 S2)
      rw [zf_114 hp2 hs2] at he'
      refine dp_eq he' ⟨oF h hp hs k2 k3, ?_⟩
      rw [zf_1, hF.2.2.1]
    refine dp_bi (lk_line hp2 hs2 hT rfl R11 R12 hL hr (fun R2 P2 S2 m2 b x1 x2 x3 x4 x5 x6 x7 => ?_) (fun R2 P2 S2 m2 x1 x2 x3 x5 x7 => ?_) (fun R2 x3 x5 => ?_) (fun R2 x1 x2 x3 x4 x5 x6 => ?_) (fun R2 m2 x1 x2 x3 x4 x5 x6 x7 => ?_))
    · have hb : b ≤ 320 := by
        obtain ⟨_, _, _, y⟩ := x3.2.2.1
        have := y.1.1
        have := hT.1
        omega
      refine dp_no (by intro q; cases q) (dp_sm ⟨j - 1, by omega, i + 1, R2, P2, S2, m2, b, by omega, by omega, rfl, fun Y => ?_, x3, x6, fun f y => by rw [x5 f y, hk3 f y], ke_t hk x7⟩)
      rw [heq Y, show 5000 - (i + 1) = q + 1 by omega]
      exact congrArg so_wr (lp_l (n := q + 1) (ob_l x1.1 x1.2 x2))
    · refine dp_ck rfl (bad R2 P2 S2 m2 (fun Y => ?_) x3 (fun f y => by rw [x5 f y, hk3 f y]) (ke_t hk x7))
      rw [heq Y]
      exact congrArg so_wr ((lp_l (n := q + 1) (ob_l x1.1 x1.2 x2)).trans (lp_r (n := q) (ob_b x3.2.1)))
    · refine dp_ck rfl (bad R2 P1 S1 m' (fun Y => ?_) x3 (fun f y => by rw [x5 f y, hk3 f y]) hk)
      rw [heq Y]
      exact congrArg so_wr (lp_r (n := q + 1) (ob_b x3.2.1))
    · -- the text is taken
      refine dp_ck rfl ?_
      have e31 : dz_u (rk Z p s R2 P1 S1) 2 1 0 0 1 = R2 := by rw [oz_u, oz_n (by decide), rk_1]
      refine dp_le (dp_le ?_)
      rw [e31]
      show dz_p (if dz_c (so_zf Z p s R2 P1 S1 0 9 0) = 0 then (Option.bind (jf_O_takeWhatWasRead (so_zf Z p s R2 P1 S1)) fun q13 => some (Sum.inr ((i : Int), q13))) else _) _
      have k2 : kp3 (Z 1) R2 := fun f y => by rw [x6 f (Or.inl y), hk3 f y]
      rw [zf_9, x5]
      refine dp_ck (by decide) (dp_bi (dz_pm (tw_cls ?_) (fun V hV => dp_sm ?_)))
      · unfold iv_R at hR ⊢
        rw [zf_1, zf_0 hp2 hs2 (by decide), zf_0 hp2 hs2 (by decide), k2 1 (by decide), k2 2 (by decide)]
        exact hR
      · show dz_p (jf_M_organ V) (fun q' => iv_Z (n + 1) q'.2 ∧ dz_c (i : Int) = dz_c q'.1)
        have v114 : ob_z V 114 (Z 114) = V := by
          have : V 114 = Z 114 := by rw [hV.2.2.2.2.2.2.2.2 114 (by decide) (by decide) (by decide) (by decide) (by decide), zf_b (by decide) (by decide) (by decide) (by omega) (by omega)]
          rw [← this, oz_i]
        have he := heq V
        rw [v114] at he
        rw [he, lp_u, ob_e x1 x2 b18 b19 (by rw [hc.2.1.1]; exact hc.2.1.2) (by rw [hc.2.2.1.1]; exact hc.2.2.1.2) (by rw [hc.2.1.1]; exact x3) (by rw [hc.2.2.1.1]; exact x4)]
        obtain ⟨_, t1, mt, rfl, t2⟩ := tk_ref (Y := V) (m := ob_u (ob_u m' 22 0 0) 23 0 0)
        rw [t1]
        exact ⟨((i : Int), ob_z V 114 mt), rfl, oS h hp hs k2 hk hr x4 hV t2, rfl⟩
    · refine dp_ck rfl (bad R2 P1 S1 m2 (fun Y => ?_) x5 (fun f y => by rw [x6 f y, hk3 f y]) (ke_t hk (ke_k x7)))
      rw [heq Y]
      exact congrArg so_wr (lp_r (n := q + 1) (ob_m x1 x2 b18 b19 (by rw [hc.2.1.1]; exact hc.2.1.2) (by rw [hc.2.2.1.1]; exact hc.2.2.1.2) (by rw [hc.2.1.1, hc.2.2.1.1]; exact x3) x4 x5.2.1))
  · rw [ou_f (by decide), ou_f (by decide), ou_s]
  · refine rg_0 ?_ ?_ ?_ ?_ ?_ ?_ ?_ ?_ ?_ ?_ (fun j a b => ?_) (fun j a b => ?_) ?_ ?_ ?_ ?_
    · rw [ou_f (by decide), ou_f (by decide), ou_f (by decide), ou_f (by decide), ou_f (by decide), ou_s]
    · rw [ou_f (by decide), ou_f (by decide), ou_f (by decide), ou_f (by decide), ou_s]
    · rw [ou_f (by decide), ou_f (by decide), ou_f (by decide), ou_s]
    · rw [ou_f (by decide), ou_f (by decide), ou_s]
    · rw [ou_f (by decide), ou_s]
    · rw [ou_s]
    · rw [ou_f (by decide), ou_f (by decide), ou_f (by decide), ou_s]
    · rw [ou_ff (by decide), of_n (by decide), of_s]
    · rw [ou_ff (by decide), of_s]
    · rw [ou_s]
    · rw [s3 16 (by decide), ← hC]; exact cl_16 140 j a b (by omega)
    · rw [s3 11 (by decide), ← hC]; exact cl_11 140 j a (by omega)
    · rw [s3 17 (by decide)]; exact c17
    · rw [s3 18 (by decide)]; exact c18
    · rw [s3 19 (by decide)]; exact c19
    · rw [s3 20 (by decide)]; exact c20
  · intro f q
    rw [ou_ff (by omega), ou_ff (by omega), ou_ff (by omega), ou_ff (by omega)]
end uc
