/-! ways and cups -/
def kq (m m' : ob_O) : Prop := ∀ f : Nat, (f = 21 ∨ f = 22 ∨ (24 ≤ f ∧ f ≤ 31)) → m' f = m f
/-- all but the highest gutter, the highest spout and the place -/
def kw (m m' : ob_O) : Prop := ∀ f : Nat, (f < 18 ∨ (19 < f ∧ f < 24) ∨ 29 < f) → m' f = m f
section te
variable {Z Y : dz_Z} {p s : Nat} {R R' P S T m m' m1 m2 m3 m4 : ob_O} {a b e k i v st x lo hi w g N : Int}
theorem kq_u {f : Nat} {j v : Int} (h : f < 21 ∨ f = 23 ∨ 31 < f) : kq m (ob_u m f j v) := fun f' q => by rw [ou_ff (by omega)]
theorem sf_q (h : so_sf T m) (hk : kq m m') : so_sf T m' := ⟨tm_m h.1 (hk 21 (by decide)) (hk 22 (by decide)), by rw [hk 30 (by decide), h.2.1], by rw [hk 31 (by decide), h.2.2.1], by rw [hk 26 (by decide), hk 27 (by decide)]; exact h.2.2.2⟩
theorem tL_m (h : tkL T R m a) (hk : kq m m') : tkL T R m' a := by
  obtain ⟨h1, h2, ⟨st, e, k, q1, q2, q3, q4⟩, h4⟩ := h
  refine ⟨h1, h2, ⟨st, e, k, q1, ?_⟩, sf_q h4 hk⟩
  rw [hk 24 (by decide), hk 25 (by decide), hk 26 (by decide), hk 27 (by decide), hk 28 (by decide), hk 29 (by decide)]
  exact ⟨q2, q3, q4⟩
theorem tI_m (h : tkI T R m a st e k) (hk : kq m m') : tkI T R m' a st e k := by
  obtain ⟨ht, ho, r6, r7, r8, r3, m24, m26, m27, m28, m29, hsf⟩ := h
  refine ⟨ht, ho, r6, r7, r8, r3, ?_⟩
  rw [hk 24 (by decide), hk 26 (by decide), hk 27 (by decide), hk 28 (by decide), hk 29 (by decide)]
  exact ⟨m24, m26, m27, m28, m29, sf_q hsf hk⟩
theorem tF_m (h : tkF T R m) (hk : kq m m') : tkF T R m' := by
  obtain ⟨h1, h2, h3, h4⟩ := h
  refine ⟨h1, ?_⟩
  rw [hk 24 (by decide), hk 25 (by decide)]
  exact ⟨h2, h3, sf_q h4 hk⟩
theorem tL_R (h : tkL T R m a) (h6 : R' 6 0 = R 6 0) (h3 : R' 3 0 = R 3 0) : tkL T R' m a := ⟨by rw [h6]; exact h.1, by rw [h3]; exact h.2.1, h.2.2⟩
theorem tF_R (h : tkF T R m) (h4 : R' 4 0 = R 4 0) (h3 : R' 3 0 = R 3 0) : tkF T R' m := ⟨by rw [h3]; exact h.1, h.2.1, by rw [h4]; exact h.2.2.1, h.2.2.2⟩
theorem kw_k (h : kpm m m') : kw m m' := fun f q => h f (by omega)
theorem kw_t {m'' : ob_O} (h : kw m m') (h' : kw m' m'') : kw m m'' := fun f q => by rw [h' f q, h f q]
theorem if_some {α : Type} {c : Prop} [Decidable c] {a b : α} : (if c then some a else some b) = some (if c then a else b) := by split <;> rfl
theorem I_nh (hT : so_tp T) (h : tkI T R m a st e 2) : ∀ Y, jf_M_nameHere (ob_z Y 114 m) = some (so_ni (so_wd T st e) 15) := by
  intro Y
  obtain ⟨ht, ho, r6, r7, r8, r3, m24, m26, m27, m28, m29, hsf⟩ := h
  rw [nh_eq hT hsf.1 m27 m26 (by have := ht.1; omega) hsf.2.1 hsf.2.2.1, m28, if_pos (by decide)]
theorem n_nh (hT : so_tp T) (hs : so_sf T m) (h : dz_c (m 28 0) ≠ 1) : ∀ Y, jf_M_nameHere (ob_z Y 114 m) = some (-4) := by
  intro Y
  rw [nh_eq hT hs.1 rfl rfl (by have := hs.2.2.2; omega) hs.2.1 hs.2.2.1, if_neg h]
theorem I_in {c : Nat} (hp : p = 25 ∨ p = 4) (hs : s = 36 ∨ s = 15) (hT : so_tp T) (hZ : Z 2 = T) (h : tkI T R m a st e k) (hc : c < 15) : jf_R_isNamed c (rk Z p s R P S) = some (decide (so_ni (so_wd T st e) 15 = (so_sg c : Int))) := in_cls hT ((rk_2 hp hs).trans hZ) (by rw [rk_1]; exact h.2.2.1) (by rw [rk_1]; exact h.2.2.2.1) (by have := h.1.1; omega) hc
theorem wy_7 (hn : ∀ Y, jf_M_nameHere (ob_z Y 114 m) = some 7) (hs : ∀ Y, jf_M_step (ob_z Y 114 m) = some (ob_z Y 114 m1)) (hl : ∀ Y, jf_M_looks 0 4 (ob_z Y 114 m1) = some (ob_z Y 114 m2)) (hf : ∀ Y, (if dz_c (m2 24 0) ≠ 0 then (some (ob_z Y 114 m2)) else (if dz_c g < dz_c (m2 29 0) then (some (ob_z Y 114 m2)) else (Option.bind (jf_M_fails 3 (ob_z Y 114 m2)) fun q32 => some q32))) = some (ob_z Y 114 m3)) (hv : v = if dz_c (m3 24 0) ≠ 0 then 0 else m3 29 0) (hx : x = if dz_c v ≤ dz_c (m3 18 0) then m3 18 0 else v) (hs2 : ∀ Y, jf_M_step (ob_z Y 114 (ob_u m3 18 0 x)) = some (ob_z Y 114 m4)) : ∀ Y, jf_M_readWay g (ob_z Y 114 m) = some (v, ob_z Y 114 m4) := by
  intro Y
  unfold jf_M_readWay
  rw [hn, Option.bind_some, if_neg (by decide), hs, Option.bind_some, hl, Option.bind_some, oz_s, hf, Option.bind_some, oz_s, if_some, ← hv, Option.bind_some, if_some, ← hx, Option.bind_some]
  show (Option.bind (jf_M_step (dz_u (ob_z Y 114 m3) 114 18 0 x)) fun q27 => some (v, q27)) = _
  rw [oz_uz, hs2]
  rfl
theorem wy_2 (hn : ∀ Y, jf_M_nameHere (ob_z Y 114 m) = some 2) (hs : ∀ Y, jf_M_step (ob_z Y 114 m) = some (ob_z Y 114 m1)) (hl : ∀ Y, jf_M_number 0 7 (ob_z Y 114 m1) = some (v, ob_z Y 114 m2)) (hx : x = if dz_c v ≤ dz_c (m2 19 0) then m2 19 0 else v) : ∀ Y, jf_M_readWay g (ob_z Y 114 m) = some (10 + v, ob_z Y 114 (ob_u m2 19 0 x)) := by
  intro Y
  unfold jf_M_readWay
  rw [hn, Option.bind_some, if_pos (by decide), if_neg (by decide), hs, Option.bind_some, hl, Option.bind_some]
  show (Option.bind (α := Int) (if dz_c v ≤ dz_c (ob_z Y 114 m2 114 19 0) then (some (ob_z Y 114 m2 114 19 0)) else (some v)) (fun (q13 : Int) => dz_a (dz_u (ob_z Y 114 m2) 114 19 0 q13) fun Z14 => some (10 + v, Z14))) = _
  rw [oz_s, if_some, ← hx, Option.bind_some, oz_uz]
  rfl
theorem wy_8 (hn : ∀ Y, jf_M_nameHere (ob_z Y 114 m) = some 8) (hs : ∀ Y, jf_M_step (ob_z Y 114 m) = some (ob_z Y 114 m1)) : ∀ Y, jf_M_readWay g (ob_z Y 114 m) = some (20, ob_z Y 114 m1) := by
  intro Y
  unfold jf_M_readWay
  rw [hn, Option.bind_some, if_pos (by decide), if_pos (by decide), if_pos (by decide), Option.bind_some, hs]
  rfl
theorem wy_f (hn : ∀ Y, jf_M_nameHere (ob_z Y 114 m) = some N) (hN : -4 ≤ N ∧ N ≤ 14 ∧ N ≠ 7 ∧ N ≠ 2 ∧ N ≠ 8) (hf : ∀ Y, jf_M_fails 2 (ob_z Y 114 m) = some (ob_z Y 114 m1)) (h24 : 1 ≤ m1 24 0 ∧ m1 24 0 ≤ 6) : ∀ Y, jf_M_readWay g (ob_z Y 114 m) = some (20, ob_z Y 114 m1) := by
  intro Y
  have eN : dz_c N = N := dz_ci (by omega) (by omega)
  unfold jf_M_readWay
  rw [hn, Option.bind_some, eN, if_pos hN.2.2.1, if_pos hN.2.2.2.1, if_neg hN.2.2.2.2, hf, Option.bind_some, Option.bind_some, sp_b h24]
  rfl
/-- a way -/
theorem lk_way (hp : p = 25 ∨ p = 4) (hs : s = 36 ∨ s = 15) (hT : so_tp T) (hZ : Z 2 = T) (hL : tkL T R m a) (hg : 0 ≤ g ∧ g < 5) (h18 : -1 ≤ m 18 0 ∧ m 18 0 ≤ 4) (h19 : -1 ≤ m 19 0 ∧ m 19 0 ≤ 7) {K : Bool × dz_Z → Prop} (kT : ∀ (R' m' : ob_O) (v b : Int), (∀ Y, jf_M_readWay g (ob_z Y 114 m) = some (v, ob_z Y 114 m')) → tkL T R' m' b → a < b → R' 9 0 = v → so_way v → kpR R R' → kw m m' → m' 18 0 = (if v < 5 ∧ m 18 0 < v then v else m 18 0) → m' 19 0 = (if 10 ≤ v ∧ v < 18 ∧ m 19 0 < v - 10 then v - 10 else m 19 0) → K (true, rk Z p s R' P S)) (kF : ∀ (R' m' : ob_O) (v : Int), (∀ Y, jf_M_readWay g (ob_z Y 114 m) = some (v, ob_z Y 114 m')) → tkF T R' m' → kpR R R' → kw m m' → K (false, rk Z p s R' P S)) : dz_p (jf_R_readWay g (rk Z p s R P S)) K := by
  unfold jf_R_readWay
  refine dp_bi (lk_nm hp hs hT hZ hL (fun R1 st e hI kR => ?_) (fun R1 m1 h28 hfl hF kR km => ?_))
  · have hnh := I_nh hT hI
    have h8 := hI.1.2.2.2.2.1 (Or.inl rfl)
    have hst := hI.1.1
    refine dp_ck rfl (dp_bi (dp_eq (I_in hp hs hT hZ hI (by decide)) ?_))
    dsimp only
    have i3 := I_in (P := P) (S := S) (c := 3) hp hs hT hZ hI (by decide)
    have i4 := I_in (P := P) (S := S) (c := 4) hp hs hT hZ hI (by decide)
    have hb := ni_b (w := so_wd T st e)
    generalize so_ni (so_wd T st e) 15 = N at *
    rw [show ((so_sg 2 : Nat) : Int) = 7 by decide]
    rw [show ((so_sg 3 : Nat) : Int) = 2 by decide] at i3
    rw [show ((so_sg 4 : Nat) : Int) = 8 by decide] at i4
    obtain ⟨m1, s1, s2, s3⟩ := lk_st hT hI
    have hL1 := s2 R1 hI.2.2.1 hI.2.2.2.2.2.1
    have e18 : dz_c (m 18 0) = m 18 0 := dz_ci (by omega) (by omega)
    have e19 : dz_c (m 19 0) = m 19 0 := dz_ci (by omega) (by omega)
    by_cases c7 : N = 7
    · subst c7
      refine dp_no (by decide) ?_
      refine dp_bi (lk_nn hp hs hT hZ hL1 (dz_ci (by omega) (by omega)) (by decide) (fun R2 st2 e2 hI2 h9 hlo hhi kR2 => dp_sm ?_) (fun R2 hF h1 kR2 => dp_sm ?_) (fun R0 R2 st2 e2 k2 w hI2 hbad h4 h3 hw kR2 => dp_sm ?_))
      · -- it is there
        have hnm := nm_t hI2
        generalize hv : so_nm T st2 (e2 - st2).toNat = v at *
        have m24 := hI2.2.2.2.2.2.2.1
        have m29 := hI2.2.2.2.2.2.2.2.2.2.2.1 rfl
        rw [hv] at m29
        have ev : dz_c v = v := dz_ci (by omega) (by omega)
        have q18 : m1 18 = m 18 := s3 18 (by decide)
        have q19 : m1 19 = m 19 := s3 19 (by decide)
        obtain ⟨m4, t1, t2, t3⟩ := lk_st hT (tI_m hI2 (kq_u (f := 18) (j := 0) (v := if v ≤ m 18 0 then m 18 0 else v) (by decide)))
        have h82 := hI2.1.2.2.2.2.1 (Or.inr rfl)
        have hst2 := hI2.1.1
        refine kT R2 m4 v e2 (wy_7 hnh s1 (lo_t hI2 (by decide) (by decide) (by rw [hv]; omega)) (m3 := m1) (fun Y => ?_) ?_ (x := if v ≤ m 18 0 then m 18 0 else v) ?_ t1) (t2 R2 hI2.2.2.1 hI2.2.2.2.2.2.1) (by omega) h9 (Or.inl (by omega)) (kR_t kR kR2) (kw_t (kw_k s3) (kw_t (fun f q => by rw [ou_ff (by omega)]) (kw_k t3))) ?_ ?_
        · rw [m24, m29, ev, dz_ci (x := g) (by omega) (by omega), if_neg (by decide), if_pos (by omega)]
        · rw [m24, m29, if_neg (by decide)]
        · rw [ev, q18, e18]
        · rw [t3 18 (by decide), ou_s]
          by_cases c : v ≤ m 18 0
          · rw [if_pos c, if_neg (by omega)]
          · rw [if_neg c, if_pos (by omega)]
        · rw [t3 19 (by decide), ou_f (by decide), q19, if_neg (by omega)]
      · have hq := hF.2.1
        have hF' := tF_m hF (kq_u (m := m1) (f := 18) (j := 0) (v := if dz_c 0 ≤ dz_c (m1 18 0) then m1 18 0 else 0) (by decide))
        refine kF R2 _ 0 (wy_7 hnh s1 (lo_b hq) (m3 := m1) (fun Y => ?_) ?_ (x := if dz_c 0 ≤ dz_c (m1 18 0) then m1 18 0 else 0) rfl (sp_b hF'.2.1)) hF' (kR_t kR kR2) (kw_t (kw_k s3) (fun f q => by rw [ou_ff (by omega)]))
        · rw [dc_ir (x := m1 24 0) (by omega) (by omega), if_pos (by omega)]
        · rw [dc_ir (x := m1 24 0) (by omega) (by omega), if_pos (by omega)]
      · -- a fault
        have m27 := hI2.2.2.2.2.2.2.2.2.1
        have m24 := hI2.2.2.2.2.2.2.1
        obtain ⟨m3, wl, wl2, hm3, hlo3⟩ : ∃ (m3 : ob_O) (wl : Int), (1 ≤ wl ∧ wl ≤ 6) ∧ m3 = ob_u (ob_u m1 24 0 wl) 25 0 (m1 27 0) ∧ ∃ m2 : ob_O, (∀ Y, jf_M_looks 0 4 (ob_z Y 114 m1) = some (ob_z Y 114 m2)) ∧ (∀ Y, (if dz_c (m2 24 0) ≠ 0 then (some (ob_z Y 114 m2)) else (if dz_c g < dz_c (m2 29 0) then (some (ob_z Y 114 m2)) else (Option.bind (jf_M_fails 3 (ob_z Y 114 m2)) fun q32 => some q32))) = some (ob_z Y 114 m3)) := by
          by_cases c : k2 ≠ 3 ∨ ¬(0 ≤ so_nm T st2 (e2 - st2).toNat ∧ so_nm T st2 (e2 - st2).toNat ≤ 4)
          · obtain ⟨wl, w1, w2⟩ := lo_f hI2 (by decide) (by decide) c
            refine ⟨_, wl, w1, rfl, _, w2, fun Y => ?_⟩
            rw [if_pos (by rw [ou_f (by decide), ou_s, dc_ir (by omega) (by omega)]; omega)]
          · have ck : k2 = 3 := by omega
            subst ck
            have hnm := nm_t hI2
            have m29 := hI2.2.2.2.2.2.2.2.2.2.2.1 rfl
            refine ⟨_, 3, by omega, rfl, m1, lo_t hI2 (by decide) (by decide) (by omega), fun Y => ?_⟩
            rw [m24, m29, if_neg (by decide), dz_ci (x := g) (by omega) (by omega), dc_ir (x := so_nm T st2 (e2 - st2).toNat) (by omega) (by omega), if_neg (by omega), fl_eq m24]
            rfl
        obtain ⟨m2, hl2, hf2⟩ := hlo3
        have q24 : m3 24 0 = wl := by rw [hm3, ou_f (by decide), ou_s]
        have hk3 : kpm m1 m3 := fun f q => by rw [hm3, ou_ff (by omega), ou_ff (by omega)]
        have hF3 : tkF T R2 m3 := by
          refine ⟨by rw [h3]; exact hw, by rw [q24]; exact wl2, ?_, sf_k hI2.2.2.2.2.2.2.2.2.2.2.2 hk3 ?_⟩
          · rw [hm3, ou_s, h4, m27]
          · rw [hm3, ou_f (by decide), ou_f (by decide), ou_f (by decide), ou_f (by decide)]; exact hI2.2.2.2.2.2.2.2.2.2.2.2.2.2.2
        have hF' := tF_m hF3 (kq_u (m := m3) (f := 18) (j := 0) (v := if dz_c 0 ≤ dz_c (m3 18 0) then m3 18 0 else 0) (by decide))
        refine kF R2 _ 0 (wy_7 hnh s1 hl2 hf2 ?_ (x := if dz_c 0 ≤ dz_c (m3 18 0) then m3 18 0 else 0) rfl (sp_b hF'.2.1)) hF' (kR_t kR kR2) (kw_t (kw_k s3) (kw_t (kw_k hk3) (fun f q => by rw [ou_ff (by omega)])))
        rw [q24, dc_ir (x := wl) (by omega) (by omega), if_pos (by omega)]
    · rw [decide_eq_false c7]
      refine dp_ck rfl (dp_bi (dp_eq i3 ?_))
      by_cases c2 : N = 2
      · subst c2
        refine dp_no (by decide) (dp_bi (lk_num hp hs hT hZ hL1 (by decide) (by decide) (fun R2 m2 v b hnu hL2 hab h9 hlo hhi _ _ kR2 km => dp_le (dp_sm ?_)) (fun R2 m2 v hnu hF kR2 km => dp_le (dp_sm ?_))))
        · simp only [rk_1, rk_u1, h9]
          have q19 : m2 19 = m 19 := by rw [km 19 (by decide), s3 19 (by decide)]
          have q18 : m2 18 = m 18 := by rw [km 18 (by decide), s3 18 (by decide)]
          have ev : dz_c v = v := dz_ci (by omega) (by omega)
          refine kT _ _ (10 + v) b (wy_2 hnh s1 hnu rfl) (tL_m (tL_R hL2 (by rw [ou_f (by decide)]) (by rw [ou_f (by decide)])) (kq_u (by decide))) (by omega) ?_ (Or.inr (Or.inl (by omega))) (fun f q => by rw [ou_ff (by omega), kR2 f q, kR f q]) (kw_t (kw_k s3) (kw_t (kw_k km) (fun f q => by rw [ou_ff (by omega)]))) ?_ ?_
          · rw [ou_s]; omega
          · rw [ou_f (by decide), q18, if_neg (by omega)]
          · rw [ou_s, q19, ev, e19]
            by_cases c : v ≤ m 19 0
            · rw [if_pos c, if_neg (by omega)]
            · rw [if_neg c, if_pos (by omega)]; omega
        · simp only [rk_1, rk_u1]
          exact kF _ _ (10 + v) (wy_2 hnh s1 hnu rfl) (tF_m (tF_R hF (by rw [ou_f (by decide)]) (by rw [ou_f (by decide)])) (kq_u (by decide))) (fun f q => by rw [ou_ff (by omega), kR2 f q, kR f q]) (kw_t (kw_k s3) (kw_t (kw_k km) (fun f q => by rw [ou_ff (by omega)])))
      · rw [decide_eq_false c2]
        refine dp_ck rfl (dp_bi (dp_eq i4 ?_))
        by_cases c8 : N = 8
        · subst c8
          refine dp_no (by decide) (dp_le (dp_sm ?_))
          simp only [rk_u1]
          refine kT _ m1 20 e (wy_8 hnh s1) (tL_R hL1 (by rw [ou_f (by decide)]) (by rw [ou_f (by decide)])) (by omega) ou_s (Or.inr (Or.inr rfl)) (fun f q => by rw [ou_ff (by omega), kR f q]) (kw_k s3) ?_ ?_
          · rw [s3 18 (by decide), if_neg (by omega)]
          · rw [s3 19 (by decide), if_neg (by omega)]
        · rw [decide_eq_false c8]
          obtain ⟨f1, f2, f3⟩ := lk_fl hI (w := 2) (w' := 2) (by omega) (by omega)
          exact dp_ck rfl (dp_bi (fl_cls hI.2.2.2.1 (dp_sm (kF _ _ 20 (wy_f hnh ⟨by omega, by omega, c7, c2, c8⟩ (fl_eq hI.2.2.2.2.2.2.1) f1.2.1) f1 (kR_t kR f3) (kw_k f2)))))
  · exact dp_no (by intro q; cases q) (dp_sm (kF R1 m1 20 (wy_f (n_nh hT hL.2.2.2 h28) (by decide) hfl hF.2.1) hF kR (kw_k km)))
end te
