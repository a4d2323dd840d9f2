/-! lines -/
def kp3 (R R' : ob_O) : Prop := ∀ f : Nat, f ≤ 2 → R' f = R f
/-- what a line leaves, where class and reference take it -/
def so_kT (Z : dz_Z) (p s : Nat) (T R m : ob_O) (e : Int) (K : Bool × dz_Z → Prop) : Prop := ∀ (R' P' S' m' : ob_O) (b : Int), (∀ Y, jf_M_readLine (ob_z Y 114 m) = some (ob_z Y 114 m')) → tkL T R' m' b → e < b → kp3 R R' → rg_A R' P' S' m' → ke m m' → K (true, rk Z p s R' P' S')
/-- where they find a fault -/
def so_kF (Z : dz_Z) (p s : Nat) (T R m : ob_O) (K : Bool × dz_Z → Prop) : Prop := ∀ (R' P' S' m' : ob_O), (∀ Y, jf_M_readLine (ob_z Y 114 m) = some (ob_z Y 114 m')) → tkF T R' m' → kp3 R R' → ke m m' → K (false, rk Z p s R' P' S')
section tj
variable {Z Y : dz_Z} {p s : Nat} {R R' P S T m m' m1 m2 m3 m4 m5 : ob_O} {a b e k i v st x y z lo hi w g N n : Int}
theorem k3_k (h : kpR R R') : kp3 R R' := fun f q => h f (Or.inl q)
theorem lk_roof (hp : p = 25 ∨ p = 4) (hs : s = 36 ∨ s = 15) (hT : so_tp T) (hZ : Z 2 = T) (hR1 : (R 1 0).toNat = p) (hI : tkI T R m a st e 2) (hN : so_ni (so_wd T st e) 15 = 0) (hr : rg_A R P S m) {K : Bool × dz_Z → Prop} (kT : so_kT Z p s T R m e K) (kF : so_kF Z p s T R m K) : dz_p (jf_R_readRoof (rk Z p s R P S)) K := by
  have hisP : hz_isP p := by unfold hz_isP; omega
  have hc := hr.1.1
  have ec : dz_c (P 0 0) = P 0 0 := dz_ci (by omega) (by omega)
  have hnh := I_nh hT hI
  rw [hN] at hnh
  unfold jf_R_readRoof
  simp only [rk_1, hR1, rk_p hp, ec]
  refine dp_ck hisP ?_
  by_cases c : P 0 0 < 4
  · obtain ⟨m1, s1, s2, s3⟩ := lk_st hT hI
    have hL1 := s2 R hI.2.2.1 hI.2.2.2.2.2.1
    refine dp_ck c (dp_bi (lk_num hp hs hT hZ hL1 (by decide) (by decide) (fun R2 m2 v b hnu hL2 hab h9 hlo hhi _ _ kR2 km => ?_) (fun R2 m2 v hnu hF kR2 km => ?_)))
    · have R21 : (R2 1 0).toNat = p := by rw [kR2 1 (by decide)]; exact hR1
      refine dp_ck rfl ?_
      simp only [rk_1, R21, h9]
      refine dp_ck hisP (dp_ck (by omega) (dp_le ?_))
      rw [rk_up hp]
      have hL2' := tL_m hL2 (m' := ob_u m2 12 (2 * P 0 0) v) (kq_u (by decide))
      refine dp_bi (lk_num hp hs hT hZ hL2' (by decide) (by decide) (fun R3 m3 w b3 hnu3 hL3 hab3 h39 hlo3 hhi3 _ _ kR3 km3 => ?_) (fun R3 m3 w hnu3 hF3 kR3 km3 => ?_))
      · have R31 : (R3 1 0).toNat = p := by rw [kR3 1 (by decide)]; exact R21
        refine dp_ck rfl ?_
        simp only [rk_1, R31, h39]
        refine dp_ck hisP (dp_le ?_)
        rw [rk_up hp]
        simp only [rk_1, R31, rk_p hp]
        refine dp_ck hisP (dp_le ?_)
        rw [rk_up hp]
        have q0 : ob_u (ob_u P 1 (P 0 0) v) 2 (P 0 0) w 0 0 = P 0 0 := by rw [ou_f (by decide), ou_f (by decide)]
        rw [q0]
        have q16 : m3 16 = m 16 := by rw [km3 16 (by decide), ou_ff (by decide), km 16 (by decide), s3 16 (by decide)]
        have q18 : m3 18 = m 18 := by rw [km3 18 (by decide), ou_ff (by decide), km 18 (by decide), s3 18 (by decide)]
        have hL4 := tL_m hL3 (m' := ob_u (ob_u (ob_u m3 12 (2 * P 0 0 + 1) w) 18 0 (if dz_c w ≤ dz_c (m3 18 0) then m3 18 0 else w)) 16 0 (P 0 0 + 1)) (fun f q => by rw [ou_ff (by omega), ou_ff (by omega), ou_ff (by omega)])
        have th := th_0 hc.1 (by omega) s1 hnu hnu3 rfl (by rw [q16]; exact hc.1)
        have kk : ke m (ob_u (ob_u (ob_u m3 12 (2 * P 0 0 + 1) w) 18 0 (if dz_c w ≤ dz_c (m3 18 0) then m3 18 0 else w)) 16 0 (P 0 0 + 1)) := ke_t (ke_k s3) (ke_t (ke_k km) (ke_t (ke_u (by decide)) (ke_t (ke_k km3) (ke_t (ke_u (by decide)) (ke_t (ke_u (by decide)) (ke_u (by decide)))))))
        refine dp_bi (lk_se hp hs hT hZ hL4 (fun R4 m4 b4 hle hL5 hab4 kR4 km4 => dp_sm ?_) (fun R4 m4 hle hF4 kR4 km4 => dp_sm ?_))
        · refine kT R4 _ _ m4 b4 (ln_th hnh (by decide) th hle) hL5 (by omega) (k3_k (kR_t kR2 (kR_t kR3 kR4))) ?_ (ke_t kk (ke_k km4))
          have hh := hr.2.2.2.2.2.2.2.2.2.1.1
          refine rf_roof hr c (v := v) (w := w) (by omega) (by omega) (kR_t kR2 (kR_t kR3 kR4) 5 (Or.inr rfl)) (fun f a1 a2 a3 a4 => ?_) ?_ ?_ ?_ (fun f a1 a2 a3 => ?_) ou_s ?_ ?_
          · rw [km4 f a4, ou_ff a2, ou_ff a3, ou_ff a1, km3 f a4, ou_ff a1, km f a4, s3 f a4]
          · rw [km4 12 (by decide), ou_ff (by decide), ou_ff (by decide), ou_fn, ou_fn, km3 12 (by decide), ou_fn, ou_fn, km 12 (by decide), s3 12 (by decide)]
          · rw [km4 16 (by decide), ou_fn, ou_fn, ou_ff (by decide), ou_ff (by decide), q16]
          · rw [km4 18 (by decide), ou_f (by decide), ou_s, q18, dz_ci (x := w) (by omega) (by omega), dz_ci (x := m 18 0) (by omega) (by omega)]
            by_cases c : w ≤ m 18 0
            · rw [if_pos c, if_neg (by omega)]
            · rw [if_neg c, if_pos (by omega)]
          · rw [ou_ff a1, ou_ff a3, ou_ff a2]
          · rw [ou_ff (by decide), ou_ff (by decide)]
          · rw [ou_ff (by decide), ou_fn, ou_fn, ou_ff (by decide)]
        · exact kF R4 _ _ m4 (ln_th hnh (by decide) th hle) hF4 (k3_k (kR_t kR2 (kR_t kR3 kR4))) (ke_t kk (ke_k km4))
      · have q16 : m3 16 = m 16 := by rw [km3 16 (by decide), ou_ff (by decide), km 16 (by decide), s3 16 (by decide)]
        have th := th_0 hc.1 (by omega) s1 hnu hnu3 rfl (by rw [q16]; exact hc.1)
        have hF' := tF_m hF3 (m' := ob_u (ob_u (ob_u m3 12 (2 * P 0 0 + 1) w) 18 0 (if dz_c w ≤ dz_c (m3 18 0) then m3 18 0 else w)) 16 0 (P 0 0 + 1)) (fun f q => by rw [ou_ff (by omega), ou_ff (by omega), ou_ff (by omega)])
        exact dp_no (by intro q; cases q) (dp_sm (kF R3 _ _ _ (ln_th hnh (by decide) th (le_b hF'.2.1)) hF' (k3_k (kR_t kR2 kR3)) (ke_t (ke_k s3) (ke_t (ke_k km) (ke_t (ke_u (by decide)) (ke_t (ke_k km3) (ke_t (ke_u (by decide)) (ke_t (ke_u (by decide)) (ke_u (by decide))))))))))
    · have q16 : m2 16 = m 16 := by rw [km 16 (by decide), s3 16 (by decide)]
      have hF1 := tF_m hF (m' := ob_u m2 12 (2 * P 0 0) v) (kq_u (by decide))
      have th := th_0 hc.1 (by omega) s1 hnu (nu_b hF1.2.1) rfl (by rw [ou_ff (by decide), q16]; exact hc.1)
      have hF' := tF_m hF1 (m' := ob_u (ob_u (ob_u (ob_u m2 12 (2 * P 0 0) v) 12 (2 * P 0 0 + 1) 0) 18 0 (if dz_c 0 ≤ dz_c (ob_u m2 12 (2 * P 0 0) v 18 0) then ob_u m2 12 (2 * P 0 0) v 18 0 else 0)) 16 0 (P 0 0 + 1)) (fun f q => by rw [ou_ff (by omega), ou_ff (by omega), ou_ff (by omega)])
      exact dp_no (by intro q; cases q) (dp_sm (kF R2 _ _ _ (ln_th hnh (by decide) th (le_b hF'.2.1)) hF' (k3_k kR2) (ke_t (ke_k s3) (ke_t (ke_k km) (ke_t (ke_u (by decide)) (ke_t (ke_u (by decide)) (ke_t (ke_u (by decide)) (ke_u (by decide)))))))))
  · obtain ⟨f1, f2, f3⟩ := lk_fl hI (w := 5) (w' := 5) (by omega) (by omega)
    exact dp_no c (dp_bi (fl_cls hI.2.2.2.1 (dp_sm (kF _ _ _ _ (ln_th hnh (by decide) (th_m (Or.inl ⟨rfl, by omega⟩) (fl_eq hI.2.2.2.2.2.2.1)) (le_b f1.2.1)) f1 (k3_k f3) (ke_k f2)))))
theorem lk_peg (hp : p = 25 ∨ p = 4) (hs : s = 36 ∨ s = 15) (hT : so_tp T) (hZ : Z 2 = T) (hR1 : (R 1 0).toNat = p) (hI : tkI T R m a st e 2) (hN : so_ni (so_wd T st e) 15 = 1) (hr : rg_A R P S m) {K : Bool × dz_Z → Prop} (kT : so_kT Z p s T R m e K) (kF : so_kF Z p s T R m K) : dz_p (jf_R_readPeg (rk Z p s R P S)) K := by
  have hisP : hz_isP p := by unfold hz_isP; omega
  have hc := hr.1.2.1
  have hh := hr.2.2.2.2.2.2.2.2.2.1.1
  have hi := hr.2.2.2.2.2.2.2.2.2.2.1
  have ec : dz_c (P 3 0) = P 3 0 := dz_ci (by omega) (by omega)
  have hnh := I_nh hT hI
  rw [hN] at hnh
  unfold jf_R_readPeg
  simp only [rk_1, hR1, rk_p hp, ec]
  refine dp_ck hisP ?_
  by_cases c : P 3 0 < 5
  · obtain ⟨m1, s1, s2, s3⟩ := lk_st hT hI
    have hL1 := s2 R hI.2.2.1 hI.2.2.2.2.2.1
    have t18 : m1 18 = m 18 := s3 18 (by decide)
    have t19 : m1 19 = m 19 := s3 19 (by decide)
    refine dp_ck c (dp_bi (lk_way hp hs hT hZ hL1 (by omega) (by rw [t18]; exact hh) (by rw [t19]; exact hi) (fun R2 m2 v b hnu hL2 hab h9 hv kR2 km h18 h19 => ?_) (fun R2 m2 v hnu hF kR2 km => ?_)))
    · have R21 : (R2 1 0).toNat = p := by rw [kR2 1 (by decide)]; exact hR1
      rw [t18] at h18
      rw [t19] at h19
      have hv' := hv
      unfold so_way at hv'
      refine dp_ck rfl ?_
      simp only [rk_1, R21, h9]
      refine dp_ck hisP (dp_ck (by omega) (dp_le ?_))
      rw [rk_up hp]
      have hL2' := tL_m hL2 (m' := ob_u m2 13 (2 * P 3 0) v) (kq_u (by decide))
      have b18 : -1 ≤ ob_u m2 13 (2 * P 3 0) v 18 0 ∧ ob_u m2 13 (2 * P 3 0) v 18 0 ≤ 4 := by
        rw [ou_f (by decide), h18]; split <;> omega
      have b19 : -1 ≤ ob_u m2 13 (2 * P 3 0) v 19 0 ∧ ob_u m2 13 (2 * P 3 0) v 19 0 ≤ 7 := by
        rw [ou_f (by decide), h19]; split <;> omega
      refine dp_bi (lk_way hp hs hT hZ hL2' (by omega) b18 b19 (fun R3 m3 w b3 hnu3 hL3 hab3 h39 hw kR3 km3 h318 h319 => ?_) (fun R3 m3 w hnu3 hF3 kR3 km3 => ?_))
      · have R31 : (R3 1 0).toNat = p := by rw [kR3 1 (by decide)]; exact R21
        rw [ou_f (show (18 : Nat) ≠ 13 by decide), h18] at h318
        rw [ou_f (show (19 : Nat) ≠ 13 by decide), h19] at h319
        refine dp_ck rfl ?_
        simp only [rk_1, R31, h39]
        refine dp_ck hisP (dp_le ?_)
        rw [rk_up hp]
        simp only [rk_1, R31, rk_p hp]
        refine dp_ck hisP (dp_le ?_)
        rw [rk_up hp]
        have q0 : ob_u (ob_u P 4 (P 3 0) v) 5 (P 3 0) w 3 0 = P 3 0 := by rw [ou_f (by decide), ou_f (by decide)]
        rw [q0]
        have q16 : m3 16 = m 16 := by rw [km3 16 (by decide), ou_ff (by decide), km 16 (by decide), s3 16 (by decide)]
        have hL4 := tL_m hL3 (m' := ob_u (ob_u (ob_u m3 13 (2 * P 3 0 + 1) w) 11 (P 3 0) 2) 16 1 (P 3 0 + 1)) (fun f q => by rw [ou_ff (by omega), ou_ff (by omega), ou_ff (by omega)])
        have th := th_1 hc.1 (by omega) s1 hnu hnu3 (by rw [q16]; exact hc.1)
        have kk : ke m (ob_u (ob_u (ob_u m3 13 (2 * P 3 0 + 1) w) 11 (P 3 0) 2) 16 1 (P 3 0 + 1)) := ke_t (ke_k s3) (ke_t (ke_w km) (ke_t (ke_u (by decide)) (ke_t (ke_w km3) (ke_t (ke_u (by decide)) (ke_t (ke_u (by decide)) (ke_u (by decide)))))))
        refine dp_bi (lk_se hp hs hT hZ hL4 (fun R4 m4 b4 hle hL5 hab4 kR4 km4 => dp_sm ?_) (fun R4 m4 hle hF4 kR4 km4 => dp_sm ?_))
        · refine kT R4 _ _ m4 b4 (ln_th hnh (by decide) th hle) hL5 (by omega) (k3_k (kR_t kR2 (kR_t kR3 kR4))) ?_ (ke_t kk (ke_k km4))
          refine rf_peg hr c hv hw (kR_t kR2 (kR_t kR3 kR4) 5 (Or.inr rfl)) (fun f a1 a2 a3 a4 a5 a6 => ?_) ?_ ?_ ?_ ?_ ?_ (fun f a1 a2 a3 => ?_) ou_s ?_ ?_
          · rw [km4 f a6, ou_ff a3, ou_ff a1, ou_ff a2, km3 f (by omega), ou_ff a2, km f (by omega), s3 f a6]
          · rw [km4 11 (by decide), ou_ff (by decide), ou_fn, ou_fn, ou_ff (by decide), km3 11 (by decide), ou_ff (by decide), km 11 (by decide), s3 11 (by decide)]
          · rw [km4 13 (by decide), ou_ff (by decide), ou_ff (by decide), ou_fn, ou_fn, km3 13 (by decide), ou_fn, ou_fn, km 13 (by decide), s3 13 (by decide)]
          · rw [km4 16 (by decide), ou_fn, ou_fn, ou_ff (by decide), ou_ff (by decide), q16]
          · rw [km4 18 (by decide), ou_f (by decide), ou_f (by decide), ou_f (by decide), h318]
          · rw [km4 19 (by decide), ou_f (by decide), ou_f (by decide), ou_f (by decide), h319]
          · rw [ou_ff a1, ou_ff a3, ou_ff a2]
          · rw [ou_ff (by decide), ou_ff (by decide)]
          · rw [ou_ff (by decide), ou_fn, ou_fn, ou_ff (by decide)]
        · exact kF R4 _ _ m4 (ln_th hnh (by decide) th hle) hF4 (k3_k (kR_t kR2 (kR_t kR3 kR4))) (ke_t kk (ke_k km4))
      · have q16 : m3 16 = m 16 := by rw [km3 16 (by decide), ou_ff (by decide), km 16 (by decide), s3 16 (by decide)]
        have th := th_1 hc.1 (by omega) s1 hnu hnu3 (by rw [q16]; exact hc.1)
        have hF' := tF_m hF3 (m' := ob_u (ob_u (ob_u m3 13 (2 * P 3 0 + 1) w) 11 (P 3 0) 2) 16 1 (P 3 0 + 1)) (fun f q => by rw [ou_ff (by omega), ou_ff (by omega), ou_ff (by omega)])
        exact dp_no (by intro q; cases q) (dp_sm (kF R3 _ _ _ (ln_th hnh (by decide) th (le_b hF'.2.1)) hF' (k3_k (kR_t kR2 kR3)) (ke_t (ke_k s3) (ke_t (ke_w km) (ke_t (ke_u (by decide)) (ke_t (ke_w km3) (ke_t (ke_u (by decide)) (ke_t (ke_u (by decide)) (ke_u (by decide))))))))))
    · have q16 : m2 16 = m 16 := by rw [km 16 (by decide), s3 16 (by decide)]
      have hF1 := tF_m hF (m' := ob_u m2 13 (2 * P 3 0) v) (kq_u (by decide))
      obtain ⟨w, m3, hw1, hw2, hw3⟩ := wy_b (g := P 3 0) hT hF1
      have q16' : m3 16 1 = P 3 0 := by rw [hw3 16 (by decide), ou_ff (by decide), q16]; exact hc.1
      have th := th_1 hc.1 (by omega) s1 hnu hw1 q16'
      have hF' := tF_m hw2 (m' := ob_u (ob_u (ob_u m3 13 (2 * P 3 0 + 1) w) 11 (P 3 0) 2) 16 1 (P 3 0 + 1)) (fun f q => by rw [ou_ff (by omega), ou_ff (by omega), ou_ff (by omega)])
      exact dp_no (by intro q; cases q) (dp_sm (kF R2 _ _ _ (ln_th hnh (by decide) th (le_b hF'.2.1)) hF' (k3_k kR2) (ke_t (ke_k s3) (ke_t (ke_w km) (ke_t (ke_u (by decide)) (ke_t (ke_w hw3) (ke_t (ke_u (by decide)) (ke_t (ke_u (by decide)) (ke_u (by decide))))))))))
  · obtain ⟨f1, f2, f3⟩ := lk_fl hI (w := 5) (w' := 5) (by omega) (by omega)
    exact dp_no c (dp_bi (fl_cls hI.2.2.2.1 (dp_sm (kF _ _ _ _ (ln_th hnh (by decide) (th_m (Or.inr (Or.inl ⟨rfl, by omega⟩)) (fl_eq hI.2.2.2.2.2.2.1)) (le_b f1.2.1)) f1 (k3_k f3) (ke_k f2)))))
theorem lk_spt (hp : p = 25 ∨ p = 4) (hs : s = 36 ∨ s = 15) (hT : so_tp T) (hZ : Z 2 = T) (hR1 : (R 1 0).toNat = p) (hR2 : (R 2 0).toNat = s) (hI : tkI T R m a st e 2) (hN : so_ni (so_wd T st e) 15 = 2) (hr : rg_A R P S m) {K : Bool × dz_Z → Prop} (kT : so_kT Z p s T R m e K) (kF : so_kF Z p s T R m K) : dz_p (jf_R_readSpout (rk Z p s R P S)) K := by
  have hisP : hz_isP p := by unfold hz_isP; omega
  have hc := hr.1.2.2.1
  have hi := hr.2.2.2.2.2.2.2.2.2.2.1
  have ec : dz_c (P 6 0) = P 6 0 := dz_ci (by omega) (by omega)
  have hnh := I_nh hT hI
  rw [hN] at hnh
  unfold jf_R_readSpout
  simp only [rk_1, hR1, rk_p hp, ec]
  refine dp_ck hisP ?_
  by_cases c : P 6 0 < 8
  · obtain ⟨m1, s1, s2, s3⟩ := lk_st hT hI
    have hL1 := s2 R hI.2.2.1 hI.2.2.2.2.2.1
    refine dp_ck c (dp_bi (lk_num hp hs hT hZ hL1 (by decide) (by decide) (fun R2 m2 v b hnu hL2 hab h9 hlo hhi _ _ kR2 km => ?_) (fun R2 m2 v hnu hF kR2 km => ?_)))
    · have R21 : (R2 1 0).toNat = p := by rw [kR2 1 (by decide)]; exact hR1
      have R22 : (R2 2 0).toNat = s := by rw [kR2 2 (by decide)]; exact hR2
      refine dp_ck rfl ?_
      simp only [rk_1, R21, h9]
      refine dp_ck hisP (dp_ck (by omega) (dp_le ?_))
      rw [rk_up hp]
      have hL2' := tL_m hL2 (m' := ob_u m2 14 (P 6 0) v) (kq_u (by decide))
      have q19 : ob_u m2 14 (P 6 0) v 19 0 = m 19 0 := by rw [ou_f (by decide), km 19 (by decide), s3 19 (by decide)]
      refine dp_bi (lk_cup hp hs hT hZ R21 R22 hL2' (by omega) (by rw [q19]; exact hi) (fun R3 m3 P3 S3 b3 hcu hL3 hab3 kR3 hso => ?_) (fun R3 m3 P3 S3 hcu hF3 kR3 km3 => ?_))
      · have R31 : (R3 1 0).toNat = p := by rw [kR3 1 (by decide)]; exact R21
        have q6 : P3 6 0 = P 6 0 := by rw [hso.1 6 (by decide) (by decide), ou_f (by decide)]
        refine dp_ck rfl ?_
        simp only [rk_1, R31, rk_p hp, q6]
        refine dp_ck hisP (dp_le ?_)
        rw [rk_up hp]
        have so12 := hso.2.2.2.2.2.2.2.2.2.2.2
        have q16 : m3 16 = m 16 := by rw [so12 16 (by decide), ou_ff (by decide), km 16 (by decide), s3 16 (by decide)]
        have th := th_2 hc.1 (by omega) s1 hnu hcu (x := P 6 0 + 1) (by rw [q16, hc.1])
        have hL4 := tL_m hL3 (m' := ob_u m3 16 2 (P 6 0 + 1)) (kq_u (by decide))
        have k3 : ke (ob_u m2 14 (P 6 0) v) m3 := fun f q => so12 f (by omega)
        have kk : ke m (ob_u m3 16 2 (P 6 0 + 1)) := ke_t (ke_k s3) (ke_t (ke_k km) (ke_t (ke_u (by decide)) (ke_t k3 (ke_u (by decide)))))
        refine dp_bi (lk_se hp hs hT hZ hL4 (fun R4 m4 b4 hle hL5 hab4 kR4 km4 => dp_sm ?_) (fun R4 m4 hle hF4 kR4 km4 => dp_sm ?_))
        · refine kT R4 _ _ m4 b4 (ln_th hnh (by decide) th hle) hL5 (by omega) (k3_k (kR_t kR2 (kR_t kR3 kR4))) ?_ (ke_t kk (ke_k km4))
          refine rf_spt hr c (v := v) (by omega) (kR_t kR2 (kR_t kR3 kR4) 5 (Or.inr rfl)) (fun f q => ?_) ?_ ?_ hso ?_ q19 ?_ ?_ (fun f q => ou_ff q) ou_s
          · rw [km4 f (by omega), ou_ff (by omega), so12 f (by omega), ou_ff (by omega), km f (by omega), s3 f (by omega)]
          · rw [km4 14 (by decide), ou_ff (by decide), so12 14 (by decide), ou_fn, ou_fn, km 14 (by decide), s3 14 (by decide)]
          · rw [km4 16 (by decide), ou_fn, ou_fn, q16]
          · rw [ou_ff (by decide), km 11 (by decide), s3 11 (by decide)]
          · rw [km4 11 (by decide), ou_ff (by decide)]
          · rw [km4 19 (by decide), ou_f (by decide)]
        · exact kF R4 _ _ m4 (ln_th hnh (by decide) th hle) hF4 (k3_k (kR_t kR2 (kR_t kR3 kR4))) (ke_t kk (ke_k km4))
      · have th := th_2 hc.1 (by omega) s1 hnu hcu (x := m3 16 2 + 1) rfl
        have hF' := tF_m hF3 (m' := ob_u m3 16 2 (m3 16 2 + 1)) (kq_u (by decide))
        exact dp_no (by intro q; cases q) (dp_sm (kF R3 _ _ _ (ln_th hnh (by decide) th (le_b hF'.2.1)) hF' (k3_k (kR_t kR2 kR3)) (ke_t (ke_k s3) (ke_t (ke_k km) (ke_t (ke_u (by decide)) (ke_t km3 (ke_u (by decide))))))))
    · have hF1 := tF_m hF (m' := ob_u m2 14 (P 6 0) v) (kq_u (by decide))
      obtain ⟨m3, hw1, hw2, hw3, hw4⟩ := cu_b hT hF1 (i := P 6 0) (by omega)
      have th := th_2 hc.1 (by omega) s1 hnu hw1 (x := m3 16 2 + 1) rfl
      have hF' := tF_m hw2 (m' := ob_u m3 16 2 (m3 16 2 + 1)) (kq_u (by decide))
      exact dp_no (by intro q; cases q) (dp_sm (kF R2 _ _ _ (ln_th hnh (by decide) th (le_b hF'.2.1)) hF' (k3_k kR2) (ke_t (ke_k s3) (ke_t (ke_k km) (ke_t (ke_u (by decide)) (ke_t hw3 (ke_u (by decide))))))))
  · obtain ⟨f1, f2, f3⟩ := lk_fl hI (w := 5) (w' := 5) (by omega) (by omega)
    exact dp_no c (dp_bi (fl_cls hI.2.2.2.1 (dp_sm (kF _ _ _ _ (ln_th hnh (by decide) (th_m (Or.inr (Or.inr (Or.inl ⟨rfl, by omega⟩))) (fl_eq hI.2.2.2.2.2.2.1)) (le_b f1.2.1)) f1 (k3_k f3) (ke_k f2)))))
theorem lk_rain (hp : p = 25 ∨ p = 4) (hs : s = 36 ∨ s = 15) (hT : so_tp T) (hZ : Z 2 = T) (hR1 : (R 1 0).toNat = p) (hR2 : (R 2 0).toNat = s) (hI : tkI T R m a st e 2) (hN : so_ni (so_wd T st e) 15 = 3) (hr : rg_A R P S m) {K : Bool × dz_Z → Prop} (kT : so_kT Z p s T R m e K) (kF : so_kF Z p s T R m K) : dz_p (jf_R_readRain (rk Z p s R P S)) K := by
  have hisP : hz_isP p := by unfold hz_isP; omega
  have hisS : hz_isS s := by unfold hz_isS; omega
  have hc := hr.1.2.2.2.1
  have ec : dz_c (P 10 0) = P 10 0 := dz_ci (by omega) (by omega)
  have hnh := I_nh hT hI
  rw [hN] at hnh
  unfold jf_R_readRain
  simp only [rk_1, hR1, hR2, rk_p hp, ec]
  refine dp_ck hisP ?_
  by_cases c : P 10 0 < 3
  · obtain ⟨m1, s1, s2, s3⟩ := lk_st hT hI
    have hL1 := s2 R hI.2.2.1 hI.2.2.2.2.2.1
    refine dp_ck c (dp_ck hisS (dp_ck (by omega) (dp_bi (lk_sec hp hs hT hZ hL1 (a1 := 34 + 13 * P 10 0) (by omega) (by omega) (fun R2 S2 m2 n b hrs hls hab hn kR2 hS hent h11 hsk => ?_) (fun R2 S2 m2 hrs hlf kR2 hsk => ?_)))))
    · have R21 : (R2 1 0).toNat = p := by rw [kR2 1 (by decide)]; exact hR1
      have R22 : (R2 2 0).toNat = s := by rw [kR2 2 (by decide)]; exact hR2
      simp only [rk_1, R22]
      refine dp_ck hisS (dp_le ?_)
      rw [rk_us hp hs]
      simp only [rk_1, R21, rk_p hp]
      refine dp_ck hisP (dp_le ?_)
      rw [rk_up hp]
      have q16 : m2 16 = m 16 := by rw [hsk.2 16 (by decide), s3 16 (by decide)]
      have th := th_3 hc.1 (by omega) s1 hrs (by rw [q16]; exact hc.1)
      obtain ⟨m3, l1, l2, l3⟩ := hls (ob_u m2 16 3 (P 10 0 + 1)) (kq_u (by decide))
      rw [dz_ci (x := n) (by omega) (by omega)]
      refine dp_no (by omega) (dp_sm (kT R2 _ _ m3 b (ln_th hnh (by decide) th l1) l2 (by omega) (k3_k kR2) ?_ (ke_t (ke_k s3) (ke_t (sk_e hsk) (ke_t (ke_u (by decide)) (ke_k l3))))))
      refine rf_rain hr c hn (kR2 5 (Or.inr rfl)) (fun f q => ?_) ?_ (fun j q => ?_) ?_ (fun i x y => ?_) (fun f a1 a2 => ?_) ?_ (fun f q => ou_ff q) ou_s
      · rw [l3 f (by omega), ou_ff (by omega), hsk.2 f (by omega), s3 f (by omega)]
      · rw [l3 16 (by decide), ou_fn, ou_fn, q16]
      · rw [l3 11 (by decide), ou_f (by decide), hsk.1 j (by omega), s3 11 (by decide)]
      · rw [l3 11 (by decide), ou_f (by decide), h11]
      · rw [l3 11 (by decide), ou_f (by decide), ou_f (by omega)]; exact hent i x y
      · rw [ou_ff a1, hS f a2]
      · rw [ou_fn, ou_fn, hS 3 (by omega)]
    · have R21 : (R2 1 0).toNat = p := by rw [kR2 1 (by decide)]; exact hR1
      have R22 : (R2 2 0).toNat = s := by rw [kR2 2 (by decide)]; exact hR2
      simp only [rk_1, R22]
      refine dp_ck hisS (dp_le ?_)
      rw [rk_us hp hs]
      simp only [rk_1, R21, rk_p hp]
      refine dp_ck hisP (dp_le ?_)
      rw [rk_up hp]
      have q16 : m2 16 = m 16 := by rw [hsk.2 16 (by decide), s3 16 (by decide)]
      have th := th_3 hc.1 (by omega) s1 hrs (by rw [q16]; exact hc.1)
      obtain ⟨m3, l1, l2, l3⟩ := hlf (ob_u m2 16 3 (P 10 0 + 1)) (kq_u (by decide))
      exact dp_ck (by decide) (dp_sm (kF R2 _ _ m3 (ln_th hnh (by decide) th l1) l2 (k3_k kR2) (ke_t (ke_k s3) (ke_t (sk_e hsk) (ke_t (ke_u (by decide)) (ke_k l3))))))
  · obtain ⟨f1, f2, f3⟩ := lk_fl hI (w := 5) (w' := 5) (by omega) (by omega)
    exact dp_no c (dp_bi (fl_cls hI.2.2.2.1 (dp_sm (kF _ _ _ _ (ln_th hnh (by decide) (th_m (Or.inr (Or.inr (Or.inr (Or.inl ⟨rfl, by omega⟩)))) (fl_eq hI.2.2.2.2.2.2.1)) (le_b f1.2.1)) f1 (k3_k f3) (ke_k f2)))))
theorem lk_slp (hp : p = 25 ∨ p = 4) (hs : s = 36 ∨ s = 15) (hT : so_tp T) (hZ : Z 2 = T) (hR1 : (R 1 0).toNat = p) (hI : tkI T R m a st e 2) (hN : so_ni (so_wd T st e) 15 = 4) (hr : rg_A R P S m) {K : Bool × dz_Z → Prop} (kT : so_kT Z p s T R m e K) (kF : so_kF Z p s T R m K) : dz_p (jf_R_readSleep (rk Z p s R P S)) K := by
  have hisP : hz_isP p := by unfold hz_isP; omega
  have hc := hr.1.2.2.2.2
  have ec : dz_c (P 11 0) = P 11 0 := dz_ci (by omega) (by omega)
  have hnh := I_nh hT hI
  rw [hN] at hnh
  unfold jf_R_readSleep
  simp only [rk_1, hR1, rk_p hp, ec]
  refine dp_ck hisP ?_
  by_cases c : P 11 0 < 4
  · obtain ⟨m1, s1, s2, s3⟩ := lk_st hT hI
    have hL1 := s2 R hI.2.2.1 hI.2.2.2.2.2.1
    refine dp_ck c (dp_bi (lk_num hp hs hT hZ hL1 (by decide) (by decide) (fun R2 m2 x b hnu hL2 hab h9 hlo hhi _ _ kR2 km => ?_) (fun R2 m2 x hnu hF kR2 km => ?_)))
    · have R21 : (R2 1 0).toNat = p := by rw [kR2 1 (by decide)]; exact hR1
      refine dp_ck rfl ?_
      simp only [rk_1, R21, h9]
      refine dp_ck hisP (dp_ck (by omega) (dp_le ?_))
      rw [rk_up hp]
      simp only [rk_1, h9]
      have hL2' := tL_m hL2 (m' := ob_u m2 15 (3 * P 11 0) x) (kq_u (by decide))
      refine dp_bi (lk_num hp hs hT hZ hL2' (dz_ci (by omega) (by omega)) (by decide) (fun R3 m3 y b3 hnu3 hL3 hab3 h39 hlo3 hhi3 _ _ kR3 km3 => ?_) (fun R3 m3 y hnu3 hF3 kR3 km3 => ?_))
      · have R31 : (R3 1 0).toNat = p := by rw [kR3 1 (by decide)]; exact R21
        refine dp_ck rfl ?_
        simp only [rk_1, R31, h39]
        refine dp_ck hisP (dp_le ?_)
        rw [rk_up hp]
        have hL3' := tL_m hL3 (m' := ob_u m3 15 (3 * P 11 0 + 1) y) (kq_u (by decide))
        refine dp_bi (lk_num hp hs hT hZ hL3' (by decide) (by decide) (fun R4 m4 z b4 hnu4 hL4 hab4 h49 hlo4 hhi4 _ _ kR4 km4 => ?_) (fun R4 m4 z hnu4 hF4 kR4 km4 => ?_))
        · have R41 : (R4 1 0).toNat = p := by rw [kR4 1 (by decide)]; exact R31
          refine dp_ck rfl ?_
          simp only [rk_1, R41, h49]
          refine dp_ck hisP (dp_le ?_)
          rw [rk_up hp]
          simp only [rk_1, R41, rk_p hp]
          refine dp_ck hisP (dp_le ?_)
          rw [rk_up hp]
          have q0 : ob_u (ob_u (ob_u P 12 (P 11 0) x) 13 (P 11 0) y) 14 (P 11 0) z 11 0 = P 11 0 := by rw [ou_f (by decide), ou_f (by decide), ou_f (by decide)]
          rw [q0]
          have q16 : m4 16 = m 16 := by rw [km4 16 (by decide), ou_ff (by decide), km3 16 (by decide), ou_ff (by decide), km 16 (by decide), s3 16 (by decide)]
          have th := th_4 hc.1 (by omega) s1 hnu hnu3 hnu4 (by rw [q16]; exact hc.1)
          have hL5 := tL_m hL4 (m' := ob_u (ob_u m4 15 (3 * P 11 0 + 2) z) 16 4 (P 11 0 + 1)) (fun f q => by rw [ou_ff (by omega), ou_ff (by omega)])
          have kk : ke m (ob_u (ob_u m4 15 (3 * P 11 0 + 2) z) 16 4 (P 11 0 + 1)) := ke_t (ke_k s3) (ke_t (ke_k km) (ke_t (ke_u (by decide)) (ke_t (ke_k km3) (ke_t (ke_u (by decide)) (ke_t (ke_k km4) (ke_t (ke_u (by decide)) (ke_u (by decide))))))))
          refine dp_bi (lk_se hp hs hT hZ hL5 (fun R5 m5 b5 hle hL6 hab5 kR5 km5 => dp_sm ?_) (fun R5 m5 hle hF5 kR5 km5 => dp_sm ?_))
          · refine kT R5 _ _ m5 b5 (ln_th hnh (by decide) th hle) hL6 (by omega) (k3_k (kR_t kR2 (kR_t kR3 (kR_t kR4 kR5)))) ?_ (ke_t kk (ke_k km5))
            refine rf_slp hr c (x := x) (y := y) (z := z) (by omega) (by omega) (kR_t kR2 (kR_t kR3 (kR_t kR4 kR5)) 5 (Or.inr rfl)) (fun f q => ?_) ?_ ?_ (fun f q => ?_) ou_s ?_ ?_ ?_
            · rw [km5 f (by omega), ou_ff (by omega), ou_ff (by omega), km4 f (by omega), ou_ff (by omega), km3 f (by omega), ou_ff (by omega), km f (by omega), s3 f (by omega)]
            · rw [km5 15 (by decide), ou_ff (by decide), ou_fn, ou_fn, km4 15 (by decide), ou_fn, ou_fn, km3 15 (by decide), ou_fn, ou_fn, km 15 (by decide), s3 15 (by decide)]
            · rw [km5 16 (by decide), ou_fn, ou_fn, ou_ff (by decide), q16]
            · rw [ou_ff (by omega), ou_ff (by omega), ou_ff (by omega), ou_ff (by omega)]
            · rw [ou_ff (by decide), ou_ff (by decide), ou_ff (by decide)]
            · rw [ou_ff (by decide), ou_ff (by decide), ou_fn, ou_fn, ou_ff (by decide)]
            · rw [ou_ff (by decide), ou_fn, ou_fn, ou_ff (by decide), ou_ff (by decide)]
          · exact kF R5 _ _ m5 (ln_th hnh (by decide) th hle) hF5 (k3_k (kR_t kR2 (kR_t kR3 (kR_t kR4 kR5)))) (ke_t kk (ke_k km5))
        · have q16 : m4 16 = m 16 := by rw [km4 16 (by decide), ou_ff (by decide), km3 16 (by decide), ou_ff (by decide), km 16 (by decide), s3 16 (by decide)]
          have th := th_4 hc.1 (by omega) s1 hnu hnu3 hnu4 (by rw [q16]; exact hc.1)
          have hF' := tF_m hF4 (m' := ob_u (ob_u m4 15 (3 * P 11 0 + 2) z) 16 4 (P 11 0 + 1)) (fun f q => by rw [ou_ff (by omega), ou_ff (by omega)])
          exact dp_no (by intro q; cases q) (dp_sm (kF R4 _ _ _ (ln_th hnh (by decide) th (le_b hF'.2.1)) hF' (k3_k (kR_t kR2 (kR_t kR3 kR4))) (ke_t (ke_k s3) (ke_t (ke_k km) (ke_t (ke_u (by decide)) (ke_t (ke_k km3) (ke_t (ke_u (by decide)) (ke_t (ke_k km4) (ke_t (ke_u (by decide)) (ke_u (by decide)))))))))))
      · have q16 : m3 16 = m 16 := by rw [km3 16 (by decide), ou_ff (by decide), km 16 (by decide), s3 16 (by decide)]
        have hF1 := tF_m hF3 (m' := ob_u m3 15 (3 * P 11 0 + 1) y) (kq_u (by decide))
        have th := th_4 hc.1 (by omega) s1 hnu hnu3 (nu_b hF1.2.1) (by rw [ou_ff (by decide), q16]; exact hc.1)
        have hF' := tF_m hF1 (m' := ob_u (ob_u (ob_u m3 15 (3 * P 11 0 + 1) y) 15 (3 * P 11 0 + 2) 1) 16 4 (P 11 0 + 1)) (fun f q => by rw [ou_ff (by omega), ou_ff (by omega)])
        exact dp_no (by intro q; cases q) (dp_sm (kF R3 _ _ _ (ln_th hnh (by decide) th (le_b hF'.2.1)) hF' (k3_k (kR_t kR2 kR3)) (ke_t (ke_k s3) (ke_t (ke_k km) (ke_t (ke_u (by decide)) (ke_t (ke_k km3) (ke_t (ke_u (by decide)) (ke_t (ke_u (by decide)) (ke_u (by decide))))))))))
    · have q16 : m2 16 = m 16 := by rw [km 16 (by decide), s3 16 (by decide)]
      have hF1 := tF_m hF (m' := ob_u m2 15 (3 * P 11 0) x) (kq_u (by decide))
      have hF2 := tF_m hF1 (m' := ob_u (ob_u m2 15 (3 * P 11 0) x) 15 (3 * P 11 0 + 1) x) (kq_u (by decide))
      have th := th_4 hc.1 (by omega) s1 hnu (nu_b hF1.2.1) (nu_b hF2.2.1) (by rw [ou_ff (by decide), ou_ff (by decide), q16]; exact hc.1)
      have hF' := tF_m hF2 (m' := ob_u (ob_u (ob_u (ob_u m2 15 (3 * P 11 0) x) 15 (3 * P 11 0 + 1) x) 15 (3 * P 11 0 + 2) 1) 16 4 (P 11 0 + 1)) (fun f q => by rw [ou_ff (by omega), ou_ff (by omega)])
      exact dp_no (by intro q; cases q) (dp_sm (kF R2 _ _ _ (ln_th hnh (by decide) th (le_b hF'.2.1)) hF' (k3_k kR2) (ke_t (ke_k s3) (ke_t (ke_k km) (ke_t (ke_u (by decide)) (ke_t (ke_u (by decide)) (ke_t (ke_u (by decide)) (ke_u (by decide)))))))))
  · obtain ⟨f1, f2, f3⟩ := lk_fl hI (w := 5) (w' := 5) (by omega) (by omega)
    exact dp_no c (dp_bi (fl_cls hI.2.2.2.1 (dp_sm (kF _ _ _ _ (ln_th hnh (by decide) (th_m (Or.inr (Or.inr (Or.inr (Or.inr ⟨rfl, by omega⟩)))) (fl_eq hI.2.2.2.2.2.2.1)) (le_b f1.2.1)) f1 (k3_k f3) (ke_k f2)))))
theorem lk_tune (hp : p = 25 ∨ p = 4) (hs : s = 36 ∨ s = 15) (hT : so_tp T) (hZ : Z 2 = T) (hR2 : (R 2 0).toNat = s) (hI : tkI T R m a st e 2) (hN : so_ni (so_wd T st e) 15 = 5) (hr : rg_A R P S m) {K : Bool × dz_Z → Prop} (kT : so_kT Z p s T R m e K) (kF : so_kF Z p s T R m K) : dz_p (jf_R_readTune (rk Z p s R P S)) K := by
  have hisS : hz_isS s := by unfold hz_isS; omega
  have ht := hr.2.2.2.2.2.1.1
  obtain ⟨o1, o2, o3, o4⟩ := hr.2.2.2.2.2.2.2.1
  have ec : dz_c (S 6 0) = S 6 0 := dz_ci (by omega) (by omega)
  have hnh := I_nh hT hI
  rw [hN] at hnh
  unfold jf_R_readTune
  simp only [rk_1, hR2, rk_s hp hs, ec]
  refine dp_ck hisS ?_
  by_cases c : S 6 0 ≤ 0
  · rw [if_neg (by omega)] at o4
    have b20 : dz_c (dz_an (dz_sr (m 20 0) 5) 1) ≠ 1 ∧ dz_or (m 20 0) (dz_sl 1 5) = m 20 0 + 32 := by
      rcases o3 with q | q <;> rw [o4, q] <;> decide
    have hI2 := tI_m hI (m' := ob_u m 20 0 (m 20 0 + 32)) (kq_u (by decide))
    obtain ⟨m1, s1, s2, s3⟩ := lk_st hT hI2
    have hL1 := s2 R hI.2.2.1 hI.2.2.2.2.2.1
    refine dp_ck c (dp_bi (lk_sec hp hs hT hZ hL1 (a1 := 73) (by omega) (by omega) (fun R2 S2 m2 n b hrs hls hab hn kR2 hS hent h11 hsk => ?_) (fun R2 S2 m2 hrs hlf kR2 hsk => ?_)))
    · have R22 : (R2 2 0).toNat = s := by rw [kR2 2 (by decide)]; exact hR2
      refine dp_le ?_
      rw [rk_us hp hs]
      simp only [rk_1, R22, rk_s hp hs, ou_s]
      rw [dz_ci (x := n) (by omega) (by omega)]
      obtain ⟨m3, l1, l2, l3⟩ := hls m2 (fun _ _ => rfl)
      refine dp_ck hisS (dp_no (by omega) (dp_sm (kT R2 P _ m3 b (ln_5 hnh (fun Y => if_pos b20.1) b20.2.symm s1 hrs l1) l2 (by omega) (k3_k kR2) ?_ (ke_t (ke_u (by decide)) (ke_t (ke_k s3) (ke_t (sk_e hsk) (ke_k l3)))))))
      refine rf_tune hr (by omega) hn (kR2 5 (Or.inr rfl)) (fun f q => ?_) ?_ (fun j q => ?_) ?_ (fun i x y => ?_) (fun f a1 a2 => ?_) ou_s
      · rw [l3 f (by omega), hsk.2 f (by omega), s3 f (by omega), ou_ff (by omega)]
      · rw [l3 20 (by decide), hsk.2 20 (by decide), s3 20 (by decide), ou_s]
      · rw [l3 11 (by decide), hsk.1 j (by omega), s3 11 (by decide), ou_f (by decide)]
      · rw [l3 11 (by decide), h11]
      · rw [l3 11 (by decide), ou_f (by decide)]; exact hent i x y
      · rw [ou_ff a2, hS f a1]
    · have R22 : (R2 2 0).toNat = s := by rw [kR2 2 (by decide)]; exact hR2
      refine dp_le ?_
      rw [rk_us hp hs]
      simp only [rk_1, R22, rk_s hp hs, ou_s]
      obtain ⟨m3, l1, l2, l3⟩ := hlf m2 (fun _ _ => rfl)
      exact dp_ck hisS (dp_ck (by decide) (dp_sm (kF R2 P _ m3 (ln_5 hnh (fun Y => if_pos b20.1) b20.2.symm s1 hrs l1) l2 (k3_k kR2) (ke_t (ke_u (by decide)) (ke_t (ke_k s3) (ke_t (sk_e hsk) (ke_k l3)))))))
  · rw [if_pos (by omega)] at o4
    have b20 : ¬ dz_c (dz_an (dz_sr (m 20 0) 5) 1) ≠ 1 := by
      rcases o3 with q | q <;> rw [o4, q] <;> decide
    obtain ⟨f1, f2, f3⟩ := lk_fl hI (w := 4) (w' := 4) (by omega) (by omega)
    generalize hM : ob_u (ob_u m 24 0 4) 25 0 (m 27 0) = M at f1 f2
    have hF1 := tF_m f1 (m' := ob_u M 20 0 (dz_or (M 20 0) (dz_sl 1 5))) (kq_u (by decide))
    have hF2 := tF_m hF1 (m' := ob_u (ob_u M 20 0 (dz_or (M 20 0) (dz_sl 1 5))) 11 73 0) (kq_u (by decide))
    refine dp_no c (dp_bi (fl_cls hI.2.2.2.1 (dp_sm (kF _ _ _ _ (ln_5 hnh (m1 := M) (fun Y => ?_) rfl (sp_b hF1.2.1) (fun Y => lp_r (n := 4999) (rb_b hF1.2.1 (by decide) Y)) (le_b hF2.2.1)) hF2 (k3_k f3) (ke_t (ke_k f2) (ke_t (ke_u (by decide)) (ke_u (by decide))))))))
    rw [if_neg b20, fl_eq hI.2.2.2.2.2.2.1, hM]
    rfl
theorem lk_wear (hp : p = 25 ∨ p = 4) (hs : s = 36 ∨ s = 15) (hT : so_tp T) (hZ : Z 2 = T) (hR1 : (R 1 0).toNat = p) (hI : tkI T R m a st e 2) (hN : so_ni (so_wd T st e) 15 = 6) (hr : rg_A R P S m) {K : Bool × dz_Z → Prop} (kT : so_kT Z p s T R m e K) (kF : so_kF Z p s T R m K) : dz_p (jf_R_readWear (rk Z p s R P S)) K := by
  have hisP : hz_isP p := by unfold hz_isP; omega
  obtain ⟨o1, o2, o3, o4⟩ := hr.2.2.2.2.2.2.2.1
  have hnh := I_nh hT hI
  rw [hN] at hnh
  unfold jf_R_readWear
  simp only [rk_1]
  rcases o3 with c | c
  · have b20 : dz_c (dz_an (dz_sr (m 20 0) 6) 1) ≠ 1 ∧ dz_or (m 20 0) (dz_sl 1 6) = m 20 0 + 64 := by
      rw [o4, c]
      split <;> decide
    have hI2 := tI_m hI (m' := ob_u m 20 0 (m 20 0 + 64)) (kq_u (by decide))
    obtain ⟨m1, s1, s2, s3⟩ := lk_st hT hI2
    have hL1 := s2 (ob_u R 5 0 1) (by rw [ou_f (by decide)]; exact hI.2.2.1) (by rw [ou_f (by decide)]; exact hI.2.2.2.2.2.1)
    refine dp_ck (by rw [c]; decide) (dp_le ?_)
    rw [rk_u1]
    refine dp_bi (lk_num hp hs hT hZ hL1 (by decide) (by decide) (fun R2 m2 v b hnu hL2 hab h9 hlo hhi _ _ kR2 km => ?_) (fun R2 m2 v hnu hF kR2 km => ?_))
    · have R21 : (R2 1 0).toNat = p := by rw [kR2 1 (by decide), ou_f (by decide)]; exact hR1
      refine dp_ck rfl ?_
      simp only [rk_1, R21, h9]
      refine dp_ck hisP (dp_le ?_)
      rw [rk_up hp]
      have hL2' := tL_m hL2 (m' := ob_u m2 17 0 v) (kq_u (by decide))
      refine dp_bi (lk_se hp hs hT hZ hL2' (fun R4 m4 b4 hle hL5 hab4 kR4 km4 => dp_sm ?_) (fun R4 m4 hle hF4 kR4 km4 => dp_sm ?_))
      · have k3 : kp3 R R4 := fun f q => by rw [kR4 f (Or.inl q), kR2 f (Or.inl q), ou_ff (by omega)]
        refine kT R4 _ _ m4 b4 (ln_6 hnh (fun Y => if_pos b20.1) b20.2.symm s1 hnu hle) hL5 (by omega) k3 ?_ (ke_t (ke_u (by decide)) (ke_t (ke_k s3) (ke_t (ke_k km) (ke_t (ke_u (by decide)) (ke_k km4)))))
        refine rf_wear hr c (v := v) (by omega) ?_ (fun f q => ?_) ?_ ?_ (fun f q => ou_ff q) ou_s
        · rw [kR4 5 (Or.inr rfl), kR2 5 (Or.inr rfl), ou_s]
        · rw [km4 f (by omega), ou_ff (by omega), km f (by omega), s3 f (by omega), ou_ff (by omega)]
        · rw [km4 17 (by decide), ou_s]
        · rw [km4 20 (by decide), ou_f (by decide), km 20 (by decide), s3 20 (by decide), ou_s]
      · have k3 : kp3 R R4 := fun f q => by rw [kR4 f (Or.inl q), kR2 f (Or.inl q), ou_ff (by omega)]
        exact kF R4 _ _ m4 (ln_6 hnh (fun Y => if_pos b20.1) b20.2.symm s1 hnu hle) hF4 k3 (ke_t (ke_u (by decide)) (ke_t (ke_k s3) (ke_t (ke_k km) (ke_t (ke_u (by decide)) (ke_k km4)))))
    · have k3 : kp3 R R2 := fun f q => by rw [kR2 f (Or.inl q), ou_ff (by omega)]
      have hF' := tF_m hF (m' := ob_u m2 17 0 v) (kq_u (by decide))
      exact dp_no (by intro q; cases q) (dp_sm (kF R2 _ _ _ (ln_6 hnh (fun Y => if_pos b20.1) b20.2.symm s1 hnu (le_b hF'.2.1)) hF' k3 (ke_t (ke_u (by decide)) (ke_t (ke_k s3) (ke_t (ke_k km) (ke_u (by decide)))))))
  · have b20 : ¬ dz_c (dz_an (dz_sr (m 20 0) 6) 1) ≠ 1 := by
      rw [o4, c]
      split <;> decide
    obtain ⟨f1, f2, f3⟩ := lk_fl hI (w := 4) (w' := 4) (by omega) (by omega)
    generalize hM : ob_u (ob_u m 24 0 4) 25 0 (m 27 0) = M at f1 f2
    have hF1 := tF_m f1 (m' := ob_u M 20 0 (dz_or (M 20 0) (dz_sl 1 6))) (kq_u (by decide))
    have hF2 := tF_m hF1 (m' := ob_u (ob_u M 20 0 (dz_or (M 20 0) (dz_sl 1 6))) 17 0 0) (kq_u (by decide))
    refine dp_no (by rw [c]; decide) (dp_bi (fl_cls hI.2.2.2.1 (dp_sm (kF _ _ _ _ (ln_6 hnh (m1 := M) (fun Y => ?_) rfl (sp_b hF1.2.1) (nu_b hF1.2.1) (le_b hF2.2.1)) hF2 (k3_k f3) (ke_t (ke_k f2) (ke_t (ke_u (by decide)) (ke_u (by decide))))))))
    rw [if_neg b20, fl_eq hI.2.2.2.2.2.2.1, hM]
    rfl
end tj
