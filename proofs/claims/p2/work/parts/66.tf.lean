/-! cups -/
def ke (m m' : ob_O) : Prop := ∀ f : Nat, (f < 11 ∨ (20 < f ∧ f < 24) ∨ 29 < f) → m' f = m f
/-- what a cup leaves -/
def so_cu (P S m P' S' m' : ob_O) (i : Int) : Prop := (∀ f : Nat, f ≠ 8 → f ≠ 9 → P' f = P f) ∧ (∀ j : Int, j ≠ i → P' 8 j = P 8 j ∧ P' 9 j = P 9 j) ∧ (∀ f : Nat, f ≠ 2 → S' f = S f) ∧ (∀ j : Int, j ≠ i → S' 2 j = S 2 j) ∧ (0 ≤ S' 2 i ∧ S' 2 i ≤ 5) ∧ m' 11 (10 + i) = S' 2 i ∧ ((S' 2 i ≠ 0 ∧ S' 2 i ≠ 5) → m' 11 (18 + i) = P' 8 i ∧ 1 ≤ P' 8 i ∧ P' 8 i ≤ 30) ∧ ((S' 2 i = 0 ∨ S' 2 i = 5) → m' 11 (18 + i) = m 11 (18 + i)) ∧ (S' 2 i = 4 → m' 11 (26 + i) = P' 9 i ∧ (0 ≤ P' 9 i ∧ P' 9 i < 8) ∧ m' 19 0 = if m 19 0 < P' 9 i then P' 9 i else m 19 0) ∧ (S' 2 i ≠ 4 → m' 11 (26 + i) = -4 ∧ m' 19 0 = m 19 0) ∧ (∀ j : Int, j ≠ 10 + i → j ≠ 18 + i → j ≠ 26 + i → m' 11 j = m 11 j) ∧ (∀ f : Nat, (f < 11 ∨ (11 < f ∧ f < 19) ∨ (19 < f ∧ f < 24) ∨ 29 < f) → m' f = m f)
section tf
variable {Z Y : dz_Z} {p s : Nat} {R R' P S T m m' m1 m2 m3 m4 m5 : ob_O} {a b e k i v st x lo hi w g N kd q20 : Int}
theorem ke_k (h : kpm m m') : ke m m' := fun f q => h f (by omega)
theorem ke_w (h : kw m m') : ke m m' := fun f q => h f (by omega)
theorem ke_t {m'' : ob_O} (h : ke m m') (h' : ke m' m'') : ke m m'' := fun f q => by rw [h' f q, h f q]
theorem ke_u {f : Nat} {j v : Int} (h : 11 ≤ f ∧ f ≤ 20) : ke m (ob_u m f j v) := fun f' q => by rw [ou_ff (by omega)]
theorem nk_cls (hp : p = 25 ∨ p = 4) (hs : s = 36 ∨ s = 15) (hT : so_tp T) (hZ : Z 2 = T) (h : tkI T R m a st e k) : jf_R_namedKind (rk Z p s R P S) = some (if 9 ≤ so_ni (so_wd T st e) 15 then so_ni (so_wd T st e) 15 - 9 else -4) := by
  have hb := ni_b (w := so_wd T st e)
  unfold jf_R_namedKind
  rw [I_in hp hs hT hZ h (by decide), I_in hp hs hT hZ h (by decide), I_in hp hs hT hZ h (by decide), I_in hp hs hT hZ h (by decide), I_in hp hs hT hZ h (by decide), I_in hp hs hT hZ h (by decide)]
  rw [show ((so_sg 5 : Nat) : Int) = 9 by decide, show ((so_sg 6 : Nat) : Int) = 10 by decide, show ((so_sg 7 : Nat) : Int) = 11 by decide, show ((so_sg 8 : Nat) : Int) = 12 by decide, show ((so_sg 9 : Nat) : Int) = 13 by decide, show ((so_sg 10 : Nat) : Int) = 14 by decide]
  generalize so_ni (so_wd T st e) 15 = N at *
  by_cases c : 9 ≤ N
  · rw [if_pos c]
    have : N = 9 ∨ N = 10 ∨ N = 11 ∨ N = 12 ∨ N = 13 ∨ N = 14 := by omega
    rcases this with rfl | rfl | rfl | rfl | rfl | rfl <;> rfl
  · rw [if_neg c, decide_eq_false (show ¬ N = 9 by omega), decide_eq_false (show ¬ N = 10 by omega), decide_eq_false (show ¬ N = 11 by omega), decide_eq_false (show ¬ N = 12 by omega), decide_eq_false (show ¬ N = 13 by omega), decide_eq_false (show ¬ N = 14 by omega)]
    rfl
theorem cu_f (hn : ∀ Y, jf_M_nameHere (ob_z Y 114 m) = some N) (hN : -4 ≤ N ∧ N < 9) (hf : ∀ Y, jf_M_fails 2 (ob_z Y 114 m) = some (ob_z Y 114 m1)) : ∀ Y, jf_M_readCup i (ob_z Y 114 m) = some (ob_z Y 114 m1) := by
  intro Y
  unfold jf_M_readCup
  rw [hn, Option.bind_some, dz_ci (x := N - 9) (by omega) (by omega), if_neg (by omega), hf]
  rfl
theorem cu_0 (hn : ∀ Y, jf_M_nameHere (ob_z Y 114 m) = some (kd + 9)) (hk : kd = 0 ∨ kd = 5) (hi : 0 ≤ i ∧ i < 8) (hs : ∀ Y, jf_M_step (ob_z Y 114 m) = some (ob_z Y 114 m1)) : ∀ Y, jf_M_readCup i (ob_z Y 114 m) = some (ob_z Y 114 (ob_u (ob_u m1 11 (10 + i) kd) 11 (26 + i) (-4))) := by
  intro Y
  have e1 : kd + 9 - 9 = kd := by omega
  unfold jf_M_readCup
  rw [hn, Option.bind_some, e1, dz_ci (x := kd) (by omega) (by omega), dz_ci (x := 10 + i) (by omega) (by omega), dz_ci (x := 26 + i) (by omega) (by omega), dz_ci (x := 18 + i) (by omega) (by omega), if_pos (by omega), hs, Option.bind_some, if_pos (by omega)]
  simp only [dz_a, oz_uz]
  rw [if_pos (by omega), if_pos (by omega), Option.bind_some, if_pos (by omega)]
theorem cu_1 (hn : ∀ Y, jf_M_nameHere (ob_z Y 114 m) = some (kd + 9)) (hk : 1 ≤ kd ∧ kd ≤ 3) (hi : 0 ≤ i ∧ i < 8) (hs : ∀ Y, jf_M_step (ob_z Y 114 m) = some (ob_z Y 114 m1)) (h2 : ∀ Y, jf_M_number 1 30 (ob_z Y 114 (ob_u (ob_u m1 11 (10 + i) kd) 11 (26 + i) (-4))) = some (v, ob_z Y 114 m2)) : ∀ Y, jf_M_readCup i (ob_z Y 114 m) = some (ob_z Y 114 (ob_u m2 11 (18 + i) v)) := by
  intro Y
  have e1 : kd + 9 - 9 = kd := by omega
  unfold jf_M_readCup
  rw [hn, Option.bind_some, e1, dz_ci (x := kd) (by omega) (by omega), dz_ci (x := 10 + i) (by omega) (by omega), dz_ci (x := 26 + i) (by omega) (by omega), dz_ci (x := 18 + i) (by omega) (by omega), if_pos (by omega), hs, Option.bind_some, if_pos (by omega)]
  simp only [dz_a, oz_uz]
  rw [if_pos (by omega), if_neg (by omega), h2, Option.bind_some, if_pos (by omega), Option.bind_some, if_pos (by omega)]
  simp only [oz_uz]
theorem cu_4 (hn : ∀ Y, jf_M_nameHere (ob_z Y 114 m) = some 13) (hi : 0 ≤ i ∧ i < 8) (hs : ∀ Y, jf_M_step (ob_z Y 114 m) = some (ob_z Y 114 m1)) (h2 : ∀ Y, jf_M_number 1 30 (ob_z Y 114 (ob_u (ob_u m1 11 (10 + i) 4) 11 (26 + i) (-4))) = some (v, ob_z Y 114 m2)) (h3 : ∀ Y, jf_M_looks 0 7 (ob_z Y 114 (ob_u m2 11 (18 + i) v)) = some (ob_z Y 114 m3)) (hf : ∀ Y, (if dz_c (m3 24 0) ≠ 0 then (some (ob_z Y 114 m3)) else (if dz_c (m3 29 0) ≠ i then (some (ob_z Y 114 m3)) else (Option.bind (jf_M_fails 3 (ob_z Y 114 m3)) fun q32 => some q32))) = some (ob_z Y 114 m4)) (hq : q20 = if dz_c (m4 24 0) ≠ 0 then 0 else m4 29 0) (hx : x = if dz_c (m4 29 0) ≤ dz_c (m4 19 0) then m4 19 0 else (if dz_c (m4 24 0) ≠ 0 then m4 19 0 else m4 29 0)) (hs2 : ∀ Y, jf_M_step (ob_z Y 114 (ob_u (ob_u m4 11 (26 + i) q20) 19 0 x)) = some (ob_z Y 114 m5)) : ∀ Y, jf_M_readCup i (ob_z Y 114 m) = some (ob_z Y 114 m5) := by
  intro Y
  unfold jf_M_readCup
  rw [hn, Option.bind_some, show (13 : Int) - 9 = 4 by rfl, dz_ci (x := 4) (by omega) (by omega), dz_ci (x := 10 + i) (by omega) (by omega), dz_ci (x := 26 + i) (by omega) (by omega), dz_ci (x := 18 + i) (by omega) (by omega), if_pos (by omega), hs, Option.bind_some, if_pos (by omega)]
  simp only [dz_a, oz_uz]
  rw [if_pos (by omega), if_neg (by omega), h2, Option.bind_some, if_pos (by omega), Option.bind_some, if_neg (by decide)]
  simp only [oz_uz]
  rw [h3, Option.bind_some, oz_s, dz_ci (x := i) (by omega) (by omega), hf, Option.bind_some, oz_s, if_some, ← hq, Option.bind_some]
  simp only [oz_uz, oz_s, ou_f (show (29 : Nat) ≠ 11 by decide), ou_f (show (19 : Nat) ≠ 11 by decide), ou_f (show (24 : Nat) ≠ 11 by decide), if_some]
  rw [← hx, Option.bind_some, hs2]
  rfl
theorem hs_cls (hk : 0 ≤ kd ∧ kd ≤ 5) : jf_O_hasSize kd = some (decide (kd ≠ 0 ∧ kd ≠ 5)) := by
  have : kd = 0 ∨ kd = 1 ∨ kd = 2 ∨ kd = 3 ∨ kd = 4 ∨ kd = 5 := by omega
  rcases this with rfl | rfl | rfl | rfl | rfl | rfl <;> rfl
/-- a cup -/
theorem lk_cup (hp : p = 25 ∨ p = 4) (hs : s = 36 ∨ s = 15) (hT : so_tp T) (hZ : Z 2 = T) (hR1 : (R 1 0).toNat = p) (hR2 : (R 2 0).toNat = s) (hL : tkL T R m a) (hi : 0 ≤ i ∧ i < 8) (h19 : -1 ≤ m 19 0 ∧ m 19 0 ≤ 7) {K : Bool × dz_Z → Prop} (kT : ∀ (R' m' P' S' : ob_O) (b : Int), (∀ Y, jf_M_readCup i (ob_z Y 114 m) = some (ob_z Y 114 m')) → tkL T R' m' b → a < b → kpR R R' → so_cu P S m P' S' m' i → K (true, rk Z p s R' P' S')) (kF : ∀ (R' m' P' S' : ob_O), (∀ Y, jf_M_readCup i (ob_z Y 114 m) = some (ob_z Y 114 m')) → tkF T R' m' → kpR R R' → ke m m' → K (false, rk Z p s R' P' S')) : dz_p (jf_R_readCup i (rk Z p s R P S)) K := by
  have hisP : hz_isP p := by unfold hz_isP; omega
  have hisS : hz_isS s := by unfold hz_isS; omega
  have ei : dz_c i = i := dz_ci (by omega) (by omega)
  unfold jf_R_readCup
  refine dp_bi (lk_nm hp hs hT hZ hL (fun R1 st e hI kR => ?_) (fun R1 m1 h28 hfl hF kR km => ?_))
  · have hnh := I_nh hT hI
    have h8 := hI.1.2.2.2.2.1 (Or.inl rfl)
    have hst := hI.1.1
    have hb := ni_b (w := so_wd T st e)
    refine dp_ck rfl (dp_bi (dp_eq (nk_cls hp hs hT hZ hI) ?_))
    dsimp only
    generalize so_ni (so_wd T st e) 15 = N at *
    have R12 : (R1 2 0).toNat = s := by rw [kR 2 (by decide)]; exact hR2
    have R11 : (R1 1 0).toNat = p := by rw [kR 1 (by decide)]; exact hR1
    by_cases c9 : 9 ≤ N
    · obtain ⟨kd, rfl⟩ : ∃ kd, N = kd + 9 := ⟨N - 9, by omega⟩
      have ek : kd + 9 - 9 = kd := by omega
      have ekd : dz_c kd = kd := dz_ci (by omega) (by omega)
      simp only [if_pos c9, ek, ekd, rk_1, R12, ei]
      refine dp_ck (by omega) (dp_ck hisS (dp_ck hi (dp_le ?_)))
      rw [rk_us hp hs]
      refine dp_bi (dp_eq (hs_cls (by omega)) ?_)
      simp only [decide_eq_true_eq]
      obtain ⟨m1, s1, s2, s3⟩ := lk_st hT hI
      have hL1 := s2 R1 hI.2.2.1 hI.2.2.2.2.2.1
      by_cases c5 : kd = 0 ∨ kd = 5
      · refine dp_no (by omega) (dp_sm (kT R1 _ P _ e (cu_0 hnh c5 hi s1) (tL_m hL1 (fun f q => by rw [ou_ff (by omega), ou_ff (by omega)])) (by omega) kR ?_))
        have s11 : m1 11 = m 11 := s3 11 (by decide)
        have s19 : m1 19 = m 19 := s3 19 (by decide)
        refine ⟨fun f _ _ => rfl, fun j _ => ⟨rfl, rfl⟩, fun f q => ou_ff q, fun j q => ou_i q, by rw [ou_s]; omega, ?_, fun q => ?_, fun q => ?_, fun q => ?_, fun q => ⟨?_, ?_⟩, fun j q1 q2 q3 => ?_, fun f q => ?_⟩
        · rw [ou_s, ou_i (by omega), ou_s]
        · rw [ou_s] at q; omega
        · rw [ou_i (by omega), ou_i (by omega), s11]
        · rw [ou_s] at q; omega
        · rw [ou_s]
        · rw [ou_f (by decide), ou_f (by decide), s19]
        · rw [ou_i q3, ou_i q1, s11]
        · rw [ou_ff (by omega), ou_ff (by omega), s3 f (by omega)]
      · refine dp_ck (by omega) ?_
        have hL1' := tL_m hL1 (m' := ob_u (ob_u m1 11 (10 + i) kd) 11 (26 + i) (-4)) (fun f q => by rw [ou_ff (by omega), ou_ff (by omega)])
        refine dp_bi (lk_num hp hs hT hZ hL1' (by decide) (by decide) (fun R2 m2 v b hnu hL2 hab h9 hlo hhi _ _ kR2 km => ?_) (fun R2 m2 v hnu hF kR2 km => ?_))
        · have R21 : (R2 1 0).toNat = p := by rw [kR2 1 (by decide)]; exact R11
          have R22 : (R2 2 0).toNat = s := by rw [kR2 2 (by decide)]; exact R12
          refine dp_ck rfl ?_
          simp only [rk_1, R21, h9]
          refine dp_ck hisP (dp_le ?_)
          rw [rk_up hp]
          have q11 : m2 11 = ob_u (ob_u m1 11 (10 + i) kd) 11 (26 + i) (-4) 11 := km 11 (by decide)
          have q19 : m2 19 = m 19 := by rw [km 19 (by decide), ou_ff (by decide), ou_ff (by decide), s3 19 (by decide)]
          have s11 : m1 11 = m 11 := s3 11 (by decide)
          by_cases c4 : kd = 4
          · subst c4
            refine dp_ck (by decide) ?_
            have hL2' := tL_m hL2 (m' := ob_u m2 11 (18 + i) v) (kq_u (by decide))
            refine dp_bi (lk_nn hp hs hT hZ hL2' (by decide) (by decide) (fun R3 st3 e3 hI3 h39 hlo3 hhi3 kR3 => ?_) (fun R3 hF h1 kR3 => ?_) (fun R0 R3 st3 e3 k3 w hI3 hbad h34 h33 hw kR3 => ?_))
            · have R31 : (R3 1 0).toNat = p := by rw [kR3 1 (by decide)]; exact R21
              have hnm := nm_t hI3
              generalize hv : so_nm T st3 (e3 - st3).toNat = u at *
              refine dp_ck rfl ?_
              simp only [rk_1, R31, h39]
              refine dp_ck hisP (dp_le ?_)
              rw [rk_up hp]
              simp only [rk_1, h39]
              rw [dz_ci (x := u) (by omega) (by omega)]
              have m24 := hI3.2.2.2.2.2.2.1
              have m29 := hI3.2.2.2.2.2.2.2.2.2.2.1 rfl
              rw [hv] at m29
              by_cases cu : u = i
              · -- into itself
                obtain ⟨f1, f2, f3⟩ := lk_fl hI3 (w := 3) (w' := 3) (by omega) (by omega)
                refine dp_no (by omega) (dp_bi (fl_cls hI3.2.2.2.1 (dp_ck rfl (dp_sm ?_))))
                generalize hm4 : ob_u (ob_u (ob_u m2 11 (18 + i) v) 24 0 3) 25 0 (ob_u m2 11 (18 + i) v 27 0) = m4 at f1 f2
                have q24 : m4 24 0 = 3 := by rw [← hm4, ou_f (by decide), ou_s]
                have hF' := tF_m f1 (m' := ob_u (ob_u m4 11 (26 + i) 0) 19 0 (if dz_c (m4 29 0) ≤ dz_c (m4 19 0) then m4 19 0 else (if dz_c (m4 24 0) ≠ 0 then m4 19 0 else m4 29 0))) (fun f q => by rw [ou_ff (by omega), ou_ff (by omega)])
                refine kF _ _ _ _ (cu_4 hnh hi s1 hnu (lo_t hI3 (by decide) (by decide) (by rw [hv]; omega)) (m4 := m4) (fun Y => ?_) (q20 := 0) ?_ rfl (sp_b hF'.2.1)) hF' (kR_t kR (kR_t kR2 (kR_t kR3 f3))) ?_
                · rw [m24, m29, if_neg (by decide), dz_ci (x := u) (by omega) (by omega), if_neg (by omega), fl_eq m24, hm4]
                  rfl
                · rw [q24]; rfl
                · exact ke_t (ke_k s3) (ke_t (ke_t (ke_u (by decide)) (ke_u (by decide))) (ke_t (ke_k km) (ke_t (ke_u (by decide)) (ke_t (ke_k f2) (ke_t (ke_u (by decide)) (ke_u (by decide)))))))
              · have h83 := hI3.1.2.2.2.2.1 (Or.inr rfl)
                have hst3 := hI3.1.1
                refine dp_ck cu (dp_sm ?_)
                have m29' : m2 29 0 = u := by rw [ou_f (by decide)] at m29; exact m29
                have q19' : ob_u m2 11 (18 + i) v 19 0 = m 19 0 := by rw [ou_f (by decide), q19]
                obtain ⟨m5, t1, t2, t3⟩ := lk_st hT (tI_m hI3 (m' := ob_u (ob_u (ob_u m2 11 (18 + i) v) 11 (26 + i) u) 19 0 (if u ≤ m 19 0 then m 19 0 else u)) (fun f q => by rw [ou_ff (by omega), ou_ff (by omega)]))
                have eu : dz_c u = u := dz_ci (by omega) (by omega)
                refine kT R3 m5 _ _ e3 (cu_4 hnh hi s1 hnu (lo_t hI3 (by decide) (by decide) (by rw [hv]; omega)) (m4 := ob_u m2 11 (18 + i) v) (fun Y => ?_) (q20 := u) ?_ (x := if u ≤ m 19 0 then m 19 0 else u) ?_ t1) (t2 R3 hI3.2.2.1 hI3.2.2.2.2.2.1) (by omega) (kR_t kR (kR_t kR2 kR3)) ?_
                · rw [m24, m29, if_neg (by decide), eu, if_pos cu]
                · rw [m24, m29, if_neg (by decide)]
                · rw [m24, m29, q19', eu, dz_ci (x := m 19 0) (by omega) (by omega), if_neg (show ¬ dz_c 0 ≠ 0 by decide)]
                · have t11 : ∀ j : Int, m5 11 j = if j = 26 + i then u else if j = 18 + i then v else if j = 10 + i then 4 else m 11 j := fun j => by
                    rw [t3 11 (by decide), ou_f (by decide), ou_a, ou_a, q11, ou_a, ou_a, s11]
                    by_cases j1 : j = 26 + i
                    · rw [if_pos j1, if_pos j1]
                    · rw [if_neg j1, if_neg j1, if_neg j1]
                  refine ⟨fun f a1 a2 => by rw [ou_ff a2, ou_ff a1], fun j q => ⟨by rw [ou_f (by decide), ou_i q], by rw [ou_i q, ou_f (by decide)]⟩, fun f q => ou_ff q, fun j q => ou_i q, by rw [ou_s]; omega, ?_, fun _ => ⟨?_, ?_⟩, fun q => ?_, fun _ => ⟨?_, ?_, ?_⟩, fun q => ?_, fun j q1 q2 q3 => ?_, fun f q => ?_⟩
                  · rw [t11, if_neg (by omega), if_neg (by omega), if_pos rfl, ou_s]
                  · rw [t11, if_neg (by omega), if_pos rfl, ou_f (by decide), ou_s]
                  · rw [ou_f (by decide), ou_s]; omega
                  · rw [ou_s] at q; omega
                  · rw [t11, if_pos rfl, ou_s]
                  · rw [ou_s]; omega
                  · rw [t3 19 (by decide), ou_s, ou_s]
                    by_cases c : u ≤ m 19 0
                    · rw [if_pos c, if_neg (by omega)]
                    · rw [if_neg c, if_pos (by omega)]
                  · rw [ou_s] at q; omega
                  · rw [t11, if_neg q3, if_neg q2, if_neg q1]
                  · rw [t3 f (by omega), ou_ff (by omega), ou_ff (by omega), ou_ff (by omega), km f (by omega), ou_ff (by omega), ou_ff (by omega), s3 f (by omega)]
            · have hq := hF.2.1
              have hF' := tF_m hF (m' := ob_u (ob_u (ob_u m2 11 (18 + i) v) 11 (26 + i) 0) 19 0 (if dz_c (ob_u m2 11 (18 + i) v 29 0) ≤ dz_c (ob_u m2 11 (18 + i) v 19 0) then ob_u m2 11 (18 + i) v 19 0 else (if dz_c (ob_u m2 11 (18 + i) v 24 0) ≠ 0 then ob_u m2 11 (18 + i) v 19 0 else ob_u m2 11 (18 + i) v 29 0))) (fun f q => by rw [ou_ff (by omega), ou_ff (by omega)])
              refine dp_no (by intro q; cases q) (dp_sm (kF _ _ _ _ (cu_4 hnh hi s1 hnu (lo_b hq) (m4 := ob_u m2 11 (18 + i) v) (fun Y => ?_) (q20 := 0) ?_ rfl (sp_b hF'.2.1)) hF' (kR_t kR (kR_t kR2 kR3)) ?_))
              · rw [dc_ir (x := ob_u m2 11 (18 + i) v 24 0) (by omega) (by omega), if_pos (by omega)]
              · rw [dc_ir (x := ob_u m2 11 (18 + i) v 24 0) (by omega) (by omega), if_pos (by omega)]
              · exact ke_t (ke_k s3) (ke_t (ke_t (ke_u (by decide)) (ke_u (by decide))) (ke_t (ke_k km) (ke_t (ke_u (by decide)) (ke_t (ke_u (by decide)) (ke_u (by decide))))))
            · obtain ⟨wl, w1, w2⟩ := lo_f hI3 (by decide) (by decide) hbad
              have m27 := hI3.2.2.2.2.2.2.2.2.1
              generalize hm4 : ob_u (ob_u (ob_u m2 11 (18 + i) v) 24 0 wl) 25 0 (ob_u m2 11 (18 + i) v 27 0) = m4 at w2
              have q24 : m4 24 0 = wl := by rw [← hm4, ou_f (by decide), ou_s]
              have hk4 : kpm (ob_u m2 11 (18 + i) v) m4 := fun f q => by rw [← hm4, ou_ff (by omega), ou_ff (by omega)]
              have hF4 : tkF T R3 m4 := by
                refine ⟨by rw [h33]; exact hw, by rw [q24]; exact w1, ?_, sf_k hI3.2.2.2.2.2.2.2.2.2.2.2 hk4 ?_⟩
                · rw [← hm4, ou_s, h34, m27]
                · rw [← hm4, ou_f (f' := 27) (by decide), ou_f (f' := 27) (by decide), ou_f (f' := 26) (by decide), ou_f (f' := 26) (by decide)]; exact hI3.2.2.2.2.2.2.2.2.2.2.2.2.2.2
              have hF' := tF_m hF4 (m' := ob_u (ob_u m4 11 (26 + i) 0) 19 0 (if dz_c (m4 29 0) ≤ dz_c (m4 19 0) then m4 19 0 else (if dz_c (m4 24 0) ≠ 0 then m4 19 0 else m4 29 0))) (fun f q => by rw [ou_ff (by omega), ou_ff (by omega)])
              refine dp_no (by intro q; cases q) (dp_sm (kF _ _ _ _ (cu_4 hnh hi s1 hnu w2 (m4 := m4) (fun Y => ?_) (q20 := 0) ?_ rfl (sp_b hF'.2.1)) hF' (kR_t kR (kR_t kR2 kR3)) ?_))
              · rw [q24, dc_ir (x := wl) (by omega) (by omega), if_pos (by omega)]
              · rw [q24, dc_ir (x := wl) (by omega) (by omega), if_pos (by omega)]
              · exact ke_t (ke_k s3) (ke_t (ke_t (ke_u (by decide)) (ke_u (by decide))) (ke_t (ke_k km) (ke_t (ke_u (by decide)) (ke_t (ke_k hk4) (ke_t (ke_u (by decide)) (ke_u (by decide)))))))
          · refine dp_no c4 (dp_sm (kT R2 _ _ _ b (cu_1 hnh (by omega) hi s1 hnu) (tL_m hL2 (kq_u (by decide))) (by omega) (kR_t kR kR2) ?_))
            refine ⟨fun f a1 a2 => by rw [ou_ff a1], fun j q => ⟨by rw [ou_i q], by rw [ou_f (by decide)]⟩, fun f q => ou_ff q, fun j q => ou_i q, by rw [ou_s]; omega, ?_, fun _ => ⟨?_, ?_⟩, fun q => ?_, fun q => ?_, fun q => ⟨?_, ?_⟩, fun j q1 q2 q3 => ?_, fun f q => ?_⟩
            · rw [ou_s, ou_i (by omega), q11, ou_i (by omega), ou_s]
            · rw [ou_s, ou_s]
            · rw [ou_s]; omega
            · rw [ou_s] at q; omega
            · rw [ou_s] at q; omega
            · rw [ou_i (by omega), q11, ou_s]
            · rw [ou_f (by decide), q19]
            · rw [ou_i q2, q11, ou_i q3, ou_i q1, s11]
            · rw [ou_ff (by omega), km f (by omega), ou_ff (by omega), ou_ff (by omega), s3 f (by omega)]
        · -- no size
          refine dp_no (by intro q; cases q) (dp_sm ?_)
          have hq := hF.2.1
          by_cases c4 : kd = 4
          · subst c4
            have hF1 := tF_m hF (m' := ob_u m2 11 (18 + i) v) (kq_u (by decide))
            have hF' := tF_m hF1 (m' := ob_u (ob_u (ob_u m2 11 (18 + i) v) 11 (26 + i) 0) 19 0 (if dz_c (ob_u m2 11 (18 + i) v 29 0) ≤ dz_c (ob_u m2 11 (18 + i) v 19 0) then ob_u m2 11 (18 + i) v 19 0 else (if dz_c (ob_u m2 11 (18 + i) v 24 0) ≠ 0 then ob_u m2 11 (18 + i) v 19 0 else ob_u m2 11 (18 + i) v 29 0))) (fun f q => by rw [ou_ff (by omega), ou_ff (by omega)])
            have hq1 := hF1.2.1
            refine kF _ _ _ _ (cu_4 hnh hi s1 hnu (lo_b hF1.2.1) (m4 := ob_u m2 11 (18 + i) v) (fun Y => ?_) (q20 := 0) ?_ rfl (sp_b hF'.2.1)) hF' (kR_t kR kR2) ?_
            · rw [dc_ir (x := ob_u m2 11 (18 + i) v 24 0) (by omega) (by omega), if_pos (by omega)]
            · rw [dc_ir (x := ob_u m2 11 (18 + i) v 24 0) (by omega) (by omega), if_pos (by omega)]
            · exact ke_t (ke_k s3) (ke_t (ke_t (ke_u (by decide)) (ke_u (by decide))) (ke_t (ke_k km) (ke_t (ke_u (by decide)) (ke_t (ke_u (by decide)) (ke_u (by decide))))))
          · exact kF _ _ _ _ (cu_1 hnh (by omega) hi s1 hnu) (tF_m hF (kq_u (by decide))) (kR_t kR kR2) (ke_t (ke_k s3) (ke_t (ke_t (ke_u (by decide)) (ke_u (by decide))) (ke_t (ke_k km) (ke_u (by decide)))))
    · rw [if_neg c9]
      obtain ⟨f1, f2, f3⟩ := lk_fl hI (w := 2) (w' := 2) (by omega) (by omega)
      exact dp_no (by decide) (dp_bi (fl_cls hI.2.2.2.1 (dp_sm (kF _ _ _ _ (cu_f hnh (by omega) (fl_eq hI.2.2.2.2.2.2.1)) f1 (kR_t kR f3) (ke_k f2)))))
  · exact dp_no (by intro q; cases q) (dp_sm (kF R1 m1 _ _ (cu_f (n_nh hT hL.2.2.2 h28) (by decide) hfl) hF kR (ke_k km)))
end tf
