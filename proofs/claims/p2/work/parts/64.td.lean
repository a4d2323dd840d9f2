/-! class and reference, token by token -/
/-- the reference can look at what it stands on -/
def so_sf (T m : ob_O) : Prop := so_tm T m ∧ m 30 = dz_0 114 30 ∧ m 31 = dz_0 114 31 ∧ 0 ≤ m 27 0 ∧ m 27 0 ≤ m 26 0 ∧ m 26 0 ≤ T 1 0
/-- before the token behind a -/
def tkL (T R m : ob_O) (a : Int) : Prop := R 6 0 = a ∧ R 3 0 = 0 ∧ (∃ st e k : Int, so_ah T m a st e k) ∧ so_sf T m
/-- a fault was found -/
def tkF (T R m : ob_O) : Prop := (1 ≤ R 3 0 ∧ R 3 0 ≤ 6) ∧ (1 ≤ m 24 0 ∧ m 24 0 ≤ 6) ∧ m 25 0 = R 4 0 ∧ so_sf T m
/-- on a token -/
def tkI (T R m : ob_O) (a st e k : Int) : Prop := so_tk T a st e k ∧ so_ok k st e ∧ R 6 0 = e ∧ R 7 0 = st ∧ R 8 0 = k ∧ R 3 0 = 0 ∧ m 24 0 = 0 ∧ m 26 0 = e ∧ m 27 0 = st ∧ m 28 0 = so_mk k ∧ (k = 3 → m 29 0 = so_nm T st (e - st).toNat) ∧ so_sf T m
def kpR (R R' : ob_O) : Prop := ∀ f : Nat, (f ≤ 2 ∨ f = 5) → R' f = R f
def kpm (m m' : ob_O) : Prop := ∀ f : Nat, (f < 24 ∨ 29 < f) → m' f = m f
/-- the end of a line, in the reference -/
def so_le (q16 : dz_Z) : Option dz_Z := Option.bind (α := dz_Z) (if dz_c (q16 114 24 0) ≠ 0 then (some q16) else (if dz_c (q16 114 28 0) = 3 then (some q16) else (Option.bind (jf_M_fails 2 q16) fun q24 => some q24))) (fun (q20 : dz_Z) => Option.bind (jf_M_step q20) fun q21 => some q21)
section td
variable {Z Y : dz_Z} {p s : Nat} {R R' P S T m m' : ob_O} {a b e k i v st x lo hi w : Int}
theorem kp_i : kpm m m := fun _ _ => rfl
theorem kp_t {m'' : ob_O} (h : kpm m m') (h' : kpm m' m'') : kpm m m'' := fun f q => by rw [h' f q, h f q]
theorem kR_i : kpR R R := fun _ _ => rfl
theorem kR_t {R'' : ob_O} (h : kpR R R') (h' : kpR R' R'') : kpR R R'' := fun f q => by rw [h' f q, h f q]
theorem sf_k (h : so_sf T m) (hk : kpm m m') (h1 : 0 ≤ m' 27 0 ∧ m' 27 0 ≤ m' 26 0 ∧ m' 26 0 ≤ T 1 0) : so_sf T m' := ⟨tm_m h.1 (hk 21 (by decide)) (hk 22 (by decide)), by rw [hk 30 (by decide), h.2.1], by rw [hk 31 (by decide), h.2.2.1], h1⟩
theorem fl_cls (hI : R 7 0 = st) {K : Bool × dz_Z → Prop} (k : K (false, rk Z p s (ob_u (ob_u R 3 0 w) 4 0 st) P S)) : dz_p (jf_R_fail w (rk Z p s R P S)) K := by
  unfold jf_R_fail
  refine dp_le (dp_le (dp_sm ?_))
  simp only [rk_u1, rk_1, ou_f (show (7 : Nat) ≠ 3 by decide), hI]
  exact k
theorem fl_eq (h24 : m 24 0 = 0) : ∀ Y, jf_M_fails w (ob_z Y 114 m) = some (ob_z Y 114 (ob_u (ob_u m 24 0 w) 25 0 (m 27 0))) := by
  intro Y
  apply dp_is
  unfold jf_M_fails
  rw [oz_s, h24]
  refine dp_no (by decide) (dp_le (dp_le (dp_sm ?_)))
  simp only [oz_uz, oz_s, ou_f (show (27 : Nat) ≠ 24 by decide)]
theorem fl_b (h24 : 1 ≤ m 24 0 ∧ m 24 0 ≤ 6) : ∀ Y, jf_M_fails w (ob_z Y 114 m) = some (ob_z Y 114 m) := by
  intro Y
  unfold jf_M_fails
  rw [oz_s, dc_ir (by omega) (by omega), if_pos (by omega)]
theorem sp_b (h24 : 1 ≤ m 24 0 ∧ m 24 0 ≤ 6) : ∀ Y, jf_M_step (ob_z Y 114 m) = some (ob_z Y 114 m) := by
  intro Y
  unfold jf_M_step
  rw [oz_s, dc_ir (by omega) (by omega), if_neg (by omega)]
theorem lo_b (h24 : 1 ≤ m 24 0 ∧ m 24 0 ≤ 6) : ∀ Y, jf_M_looks lo hi (ob_z Y 114 m) = some (ob_z Y 114 m) := by
  intro Y
  unfold jf_M_looks
  rw [oz_s, dc_ir (x := m 24 0) (by omega) (by omega), if_pos (show m 24 0 ≠ 0 by omega)]
  show (if dz_c (ob_z Y 114 m 114 24 0) ≠ 0 then _ else _) = _
  rw [oz_s, dc_ir (x := m 24 0) (by omega) (by omega), if_pos (show m 24 0 ≠ 0 by omega)]
theorem nu_b (h24 : 1 ≤ m 24 0 ∧ m 24 0 ≤ 6) : ∀ Y, jf_M_number lo hi (ob_z Y 114 m) = some (lo, ob_z Y 114 m) := by
  intro Y
  unfold jf_M_number
  rw [lo_b h24, Option.bind_some, oz_s, dc_ir (x := m 24 0) (by omega) (by omega), if_pos (show m 24 0 ≠ 0 by omega), Option.bind_some, sp_b h24]
  rfl
theorem le_b (h24 : 1 ≤ m 24 0 ∧ m 24 0 ≤ 6) : ∀ Y, so_le (ob_z Y 114 m) = some (ob_z Y 114 m) := by
  intro Y
  unfold so_le
  rw [oz_s, dc_ir (x := m 24 0) (by omega) (by omega), if_pos (show m 24 0 ≠ 0 by omega), Option.bind_some, sp_b h24]
  rfl
theorem mk_b (hk : 0 ≤ k ∧ k ≤ 4) : 0 ≤ so_mk k ∧ so_mk k ≤ 3 ∧ (so_mk k = 1 ↔ k = 2) ∧ (so_mk k = 2 ↔ k = 3) ∧ (so_mk k = 0 ↔ k = 1) ∧ (k ≠ 0 → (so_mk k = 3 ↔ k = 4)) := by
  unfold so_mk
  repeat' split
  all_goals omega
theorem I_k (h : tkI T R m a st e k) : 0 ≤ k ∧ k ≤ 4 := by
  have := kd_b (T := T) (i := st)
  rw [← h.1.2.2.2.1] at this
  exact this
/-- the class takes the next token -/
theorem lk_nt (hp : p = 25 ∨ p = 4) (hs : s = 36 ∨ s = 15) (hT : so_tp T) (hZ : Z 2 = T) (hL : tkL T R m a) {K : Bool × dz_Z → Prop} (kT : ∀ (R' : ob_O) (st e k : Int), tkI T R' m a st e k → kpR R R' → K (true, rk Z p s R' P S)) (kF : ∀ R' : ob_O, tkF T R' m → (m 24 0 = 1 ∧ dz_c (m 28 0) ≠ 1) → kpR R R' → K (false, rk Z p s R' P S)) : dz_p (jf_R_nextToken (rk Z p s R P S)) K := by
  obtain ⟨h6, h3, ⟨st, e, k, ht, h27, h26, hc⟩, hsf⟩ := hL
  refine nt_cls hp hs hT hZ h6 ht (fun ho R' r6 r7 r8 rf => ?_) (fun ho R' r3 r4 rf => ?_)
  · rcases hc with q | q
    · refine kT R' st e k ⟨ht, ho, r6, r7, r8, ?_, q.2.1, q.2.2.1, h27, q.2.2.2.1, q.2.2.2.2, hsf⟩ (fun f hf => rf f (by omega) (by omega) (by omega))
      rw [rf 3 (by decide) (by decide) (by decide), h3]
    · exact absurd ho q.1
  · rcases hc with q | q
    · exact absurd q.1 ho
    · exact kF R' ⟨by omega, by omega, by rw [q.2.2.1, r4], hsf⟩ ⟨q.2.1, by rcases q.2.2.2 with h | h <;> rw [h] <;> decide⟩ (fun f hf => rf f (by omega) (by omega) (by omega) (by omega) (by omega))
/-- the reference goes on -/
theorem lk_st (hT : so_tp T) (hI : tkI T R m a st e k) : ∃ m' : ob_O, (∀ Y, jf_M_step (ob_z Y 114 m) = some (ob_z Y 114 m')) ∧ (∀ R' : ob_O, R' 6 0 = e → R' 3 0 = 0 → tkL T R' m' e) ∧ kpm m m' := by
  obtain ⟨ht, ho, r6, r7, r8, r3, m24, m26, m27, m28, m29, hsf⟩ := hI
  obtain ⟨s2, e2, k2, ht2⟩ := tk_ex (T := T) (a := e) hT (by have := ht.1; omega)
  obtain ⟨m', h1, h2, h3⟩ := st_eq hT hsf.1 m24 m26 ht2
  have hb := ht2.1
  exact ⟨m', h1, fun R' q1 q2 => ⟨q1, q2, ⟨s2, e2, k2, h2⟩, sf_k hsf h3 (by have := h2.2.1; have := h2.2.2.1; omega)⟩, h3⟩
/-- both find a fault on the token -/
theorem lk_fl (hI : tkI T R m a st e k) {w w' : Int} (hw : 1 ≤ w ∧ w ≤ 6) (hw' : 1 ≤ w' ∧ w' ≤ 6) : tkF T (ob_u (ob_u R 3 0 w) 4 0 st) (ob_u (ob_u m 24 0 w') 25 0 (m 27 0)) ∧ kpm m (ob_u (ob_u m 24 0 w') 25 0 (m 27 0)) ∧ kpR R (ob_u (ob_u R 3 0 w) 4 0 st) := by
  obtain ⟨ht, ho, r6, r7, r8, r3, m24, m26, m27, m28, m29, hsf⟩ := hI
  have hk : kpm m (ob_u (ob_u m 24 0 w') 25 0 (m 27 0)) := fun f q => by rw [ou_ff (by omega), ou_ff (by omega)]
  refine ⟨⟨?_, ?_, ?_, sf_k hsf hk ?_⟩, hk, fun f q => by rw [ou_ff (by omega), ou_ff (by omega)]⟩
  · rw [ou_f (by decide), ou_s]; exact hw
  · rw [ou_f (by decide), ou_s]; exact hw'
  · rw [ou_s, ou_s, m27]
  · rw [ou_f (by decide), ou_f (by decide), ou_f (by decide), ou_f (by decide)]; exact hsf.2.2.2
theorem nm_t (hI : tkI T R m a st e 3) : 0 ≤ so_nm T st (e - st).toNat ∧ so_nm T st (e - st).toNat ≤ 999 := by
  have h8 := hI.1.2.2.2.2.1 (Or.inr rfl)
  have ho := hI.2.1
  have := nm_b' (T := T) (st := st) (e - st).toNat (by unfold so_ok at ho; omega) (fun i x y => (kd_2 (h8.2.1 (st + i) (by omega) (by omega)) (Or.inr rfl)).2.2 rfl)
  exact ⟨this.1, this.2.1⟩
/-- the reference looks for a number and there is none fit -/
theorem lo_f (hI : tkI T R m a st e k) (c1 : dz_c lo = lo) (c2 : dz_c hi = hi) (hb : k ≠ 3 ∨ ¬(lo ≤ so_nm T st (e - st).toNat ∧ so_nm T st (e - st).toNat ≤ hi)) : ∃ w : Int, (1 ≤ w ∧ w ≤ 6) ∧ ∀ Y, jf_M_looks lo hi (ob_z Y 114 m) = some (ob_z Y 114 (ob_u (ob_u m 24 0 w) 25 0 (m 27 0))) := by
  have hk := I_k hI
  have hmk := mk_b hk
  have hI' := hI
  obtain ⟨ht, ho, r6, r7, r8, r3, m24, m26, m27, m28, m29, hsf⟩ := hI
  by_cases c : k = 3
  · refine ⟨3, by omega, fun Y => ?_⟩
    subst c
    have hnm := nm_t hI'
    unfold jf_M_looks
    rw [oz_s, m24, m28, if_neg (by decide), if_pos (by decide), Option.bind_some, oz_s, m24, if_neg (by decide), m29 rfl, c1, c2, dc_ir (x := so_nm T st (e - st).toNat) (by omega) (by omega), if_neg (by omega), fl_eq m24]
    rfl
  · refine ⟨2, by omega, fun Y => ?_⟩
    have e28 : dz_c (so_mk k) = so_mk k := dc_ir (by omega) (by omega)
    have q24 : dz_c (ob_u (ob_u m 24 0 2) 25 0 (m 27 0) 24 0) ≠ 0 := by rw [ou_f (by decide), ou_s]; decide
    unfold jf_M_looks
    rw [oz_s, m24, m28, if_neg (by decide), e28, if_neg (by omega), fl_eq m24, Option.bind_some, Option.bind_some, oz_s, if_pos q24]
theorem lo_t (hI : tkI T R m a st e 3) (c1 : dz_c lo = lo) (c2 : dz_c hi = hi) (hb : lo ≤ so_nm T st (e - st).toNat ∧ so_nm T st (e - st).toNat ≤ hi) : ∀ Y, jf_M_looks lo hi (ob_z Y 114 m) = some (ob_z Y 114 m) := by
  intro Y
  have hnm := nm_t hI
  obtain ⟨ht, ho, r6, r7, r8, r3, m24, m26, m27, m28, m29, hsf⟩ := hI
  unfold jf_M_looks
  rw [oz_s, m24, m28, if_neg (by decide), if_pos (by decide), Option.bind_some, oz_s, m24, if_neg (by decide), m29 rfl, c1, c2, dc_ir (x := so_nm T st (e - st).toNat) (by omega) (by omega), if_pos hb]
theorem nu_f (h : ∀ Y, jf_M_looks lo hi (ob_z Y 114 m) = some (ob_z Y 114 m')) (h24 : 1 ≤ m' 24 0 ∧ m' 24 0 ≤ 6) : ∀ Y, jf_M_number lo hi (ob_z Y 114 m) = some (lo, ob_z Y 114 m') := by
  intro Y
  unfold jf_M_number
  rw [h, Option.bind_some, oz_s, dc_ir (x := m' 24 0) (by omega) (by omega), if_pos (show m' 24 0 ≠ 0 by omega), Option.bind_some, sp_b h24]
  rfl
/-- a number, as the class takes it -/
theorem lk_nn (hp : p = 25 ∨ p = 4) (hs : s = 36 ∨ s = 15) (hT : so_tp T) (hZ : Z 2 = T) (hL : tkL T R m a) (c1 : dz_c lo = lo) (c2 : dz_c hi = hi) {K : Bool × dz_Z → Prop} (kT : ∀ (R' : ob_O) (st e : Int), tkI T R' m a st e 3 → R' 9 0 = so_nm T st (e - st).toNat → lo ≤ so_nm T st (e - st).toNat → so_nm T st (e - st).toNat ≤ hi → kpR R R' → K (true, rk Z p s R' P S)) (kB : ∀ R' : ob_O, tkF T R' m → (m 24 0 = 1 ∧ dz_c (m 28 0) ≠ 1) → kpR R R' → K (false, rk Z p s R' P S)) (kF : ∀ (R0 R' : ob_O) (st e k w : Int), tkI T R0 m a st e k → (k ≠ 3 ∨ ¬(lo ≤ so_nm T st (e - st).toNat ∧ so_nm T st (e - st).toNat ≤ hi)) → R' 4 0 = st → R' 3 0 = w → (1 ≤ w ∧ w ≤ 6) → kpR R R' → K (false, rk Z p s R' P S)) : dz_p (jf_R_needsNumber lo hi (rk Z p s R P S)) K := by
  unfold jf_R_needsNumber
  refine dp_bi (lk_nt hp hs hT hZ hL (fun R' st e k hI kR => ?_) (fun R' hF h1 kR => ?_))
  · have hk := I_k hI
    have r8 := hI.2.2.2.2.1
    have r7 := hI.2.2.2.1
    refine dp_ck rfl ?_
    simp only [rk_1, r8, dc_ir hk.1 (show k ≤ 2147483647 by omega)]
    by_cases c : k = 3
    · subst c
      have hnm := nm_t hI
      have hst := hI.1.1
      refine dp_ck rfl (dp_bi (dp_eq (nr_cls (e := e) (st := st) hT ((rk_2 hp hs).trans hZ) (by rw [rk_1]; exact hI.2.2.1) (by rw [rk_1]; exact r7) (by omega)) (dp_le ?_)))
      simp only [rk_u1, rk_1, ou_s, c1, c2, dc_ir hnm.1 (show so_nm T st (e - st).toNat ≤ 2147483647 by omega)]
      have out : ¬(lo ≤ so_nm T st (e - st).toNat ∧ so_nm T st (e - st).toNat ≤ hi) → K (false, rk Z p s (ob_u (ob_u (ob_u R' 9 0 (so_nm T st (e - st).toNat)) 3 0 3) 4 0 st) P S) := by
        intro hb
        exact kF R' _ st e 3 3 hI (Or.inr hb) ou_s (by rw [ou_f (by decide), ou_s]) (by omega) (fun f q => by rw [ou_ff (by omega), ou_ff (by omega), ou_ff (by omega), kR f q])
      have r79 : ob_u R' 9 0 (so_nm T st (e - st).toNat) 7 0 = st := by rw [ou_f (by decide), r7]
      refine dp_br (fun x => dp_bi (fl_cls r79 (dp_ck rfl (dp_sm (out (by omega)))))) (fun x => dp_br (fun y => dp_sm ?_) (fun y => dp_bi (fl_cls r79 (dp_ck rfl (dp_sm (out (by omega)))))))
      refine kT _ st e ?_ ou_s (by omega) y (fun f q => by rw [ou_ff (by omega), kR f q])
      obtain ⟨i1, i2, i3, i4, i5, i6, i7⟩ := hI
      exact ⟨i1, i2, by rw [ou_f (by decide)]; exact i3, by rw [ou_f (by decide)]; exact i4, by rw [ou_f (by decide)]; exact i5, by rw [ou_f (by decide)]; exact i6, i7⟩
    · exact dp_no c (dp_bi (fl_cls r7 (dp_sm (kF R' _ st e k 2 hI (Or.inl c) ou_s (by rw [ou_f (by decide), ou_s]) (by omega) (fun f q => by rw [ou_ff (by omega), ou_ff (by omega), kR f q])))))
  · refine dp_no (by intro q; cases q) (dp_sm (kB R' hF h1 kR))
/-- a number within bounds -/
theorem lk_num (hp : p = 25 ∨ p = 4) (hs : s = 36 ∨ s = 15) (hT : so_tp T) (hZ : Z 2 = T) (hL : tkL T R m a) (c1 : dz_c lo = lo) (c2 : dz_c hi = hi) {K : Bool × dz_Z → Prop} (kT : ∀ (R' m' : ob_O) (v b : Int), (∀ Y, jf_M_number lo hi (ob_z Y 114 m) = some (v, ob_z Y 114 m')) → tkL T R' m' b → a < b → R' 9 0 = v → lo ≤ v → v ≤ hi → 0 ≤ v → v ≤ 999 → kpR R R' → kpm m m' → K (true, rk Z p s R' P S)) (kF : ∀ (R' m' : ob_O) (v : Int), (∀ Y, jf_M_number lo hi (ob_z Y 114 m) = some (v, ob_z Y 114 m')) → tkF T R' m' → kpR R R' → kpm m m' → K (false, rk Z p s R' P S)) : dz_p (jf_R_needsNumber lo hi (rk Z p s R P S)) K := by
  unfold jf_R_needsNumber
  refine dp_bi (lk_nt hp hs hT hZ hL (fun R' st e k hI kR => ?_) (fun R' hF h1 kR => ?_))
  · have hk := I_k hI
    have r8 := hI.2.2.2.2.1
    have r7 := hI.2.2.2.1
    refine dp_ck rfl ?_
    simp only [rk_1, r8, dc_ir hk.1 (show k ≤ 2147483647 by omega)]
    by_cases c : k = 3
    · subst c
      have hnm := nm_t hI
      have hst := hI.1.1
      refine dp_ck rfl (dp_bi (dp_eq (nr_cls (e := e) (st := st) hT ((rk_2 hp hs).trans hZ) (by rw [rk_1]; exact hI.2.2.1) (by rw [rk_1]; exact r7) (by omega)) (dp_le ?_)))
      simp only [rk_u1, rk_1, ou_s, c1, c2, dc_ir hnm.1 (show so_nm T st (e - st).toNat ≤ 2147483647 by omega)]
      generalize hv : so_nm T st (e - st).toNat = v at hnm
      have out : ¬(lo ≤ v ∧ v ≤ hi) → K (false, rk Z p s (ob_u (ob_u (ob_u R' 9 0 v) 3 0 3) 4 0 st) P S) := by
        intro hb
        obtain ⟨w, w1, w2⟩ := lo_f hI c1 c2 (Or.inr (by rw [hv]; exact hb))
        obtain ⟨f1, f2, f3⟩ := lk_fl hI (w := 3) (by omega) w1
        refine kF _ _ lo (nu_f w2 (by rw [ou_f (by decide), ou_s]; exact w1)) ⟨?_, f1.2.1, ?_, f1.2.2.2⟩ (fun f q => by rw [ou_ff (by omega), ou_ff (by omega), ou_ff (by omega), kR f q]) f2
        · rw [ou_f (by decide), ou_s]; omega
        · rw [ou_s, ou_s, hI.2.2.2.2.2.2.2.2.1]
      have r79 : ob_u R' 9 0 v 7 0 = st := by rw [ou_f (by decide), r7]
      refine dp_br (fun x => dp_bi (fl_cls r79 (dp_ck rfl (dp_sm (out (by omega)))))) (fun x => dp_br (fun y => dp_sm ?_) (fun y => dp_bi (fl_cls r79 (dp_ck rfl (dp_sm (out (by omega)))))))
      obtain ⟨m', g1, g2, g3⟩ := lk_st hT hI
      have hL' : ∀ Y, jf_M_number lo hi (ob_z Y 114 m) = some (v, ob_z Y 114 m') := by
        intro Y
        unfold jf_M_number
        rw [lo_t hI c1 c2 (by rw [hv]; omega), Option.bind_some, oz_s, hI.2.2.2.2.2.2.1, if_neg (by decide), Option.bind_some, g1, hI.2.2.2.2.2.2.2.2.2.2.1 rfl, hv]
        rfl
      have h8 := hI.1.2.2.2.2.1 (Or.inr rfl)
      exact kT _ m' v e hL' (g2 _ (by rw [ou_f (by decide)]; exact hI.2.2.1) (by rw [ou_f (by decide)]; exact hI.2.2.2.2.2.1)) (by omega) ou_s (by omega) y hnm.1 hnm.2 (fun f q => by rw [ou_ff (by omega), kR f q]) g3
    · obtain ⟨w, w1, w2⟩ := lo_f hI c1 c2 (Or.inl c)
      obtain ⟨f1, f2, f3⟩ := lk_fl hI (w := 2) (by omega) w1
      refine dp_no c (dp_bi (fl_cls r7 (dp_sm (kF _ _ lo (nu_f w2 (by rw [ou_f (by decide), ou_s]; exact w1)) f1 (kR_t kR f3) f2))))
  · refine dp_no (by intro q; cases q) (dp_sm (kF R' m lo (nu_b (by omega)) hF kR kp_i))
/-- a name is wanted -/
theorem lk_nm (hp : p = 25 ∨ p = 4) (hs : s = 36 ∨ s = 15) (hT : so_tp T) (hZ : Z 2 = T) (hL : tkL T R m a) {K : Bool × dz_Z → Prop} (kT : ∀ (R' : ob_O) (st e : Int), tkI T R' m a st e 2 → kpR R R' → K (true, rk Z p s R' P S)) (kF : ∀ (R' m' : ob_O), dz_c (m 28 0) ≠ 1 → (∀ Y, jf_M_fails 2 (ob_z Y 114 m) = some (ob_z Y 114 m')) → tkF T R' m' → kpR R R' → kpm m m' → K (false, rk Z p s R' P S)) : dz_p (jf_R_needs 2 (rk Z p s R P S)) K := by
  unfold jf_R_needs
  refine dp_bi (lk_nt hp hs hT hZ hL (fun R' st e k hI kR => ?_) (fun R' hF h1 kR => ?_))
  · have hk := I_k hI
    have hmk := mk_b hk
    have r8 := hI.2.2.2.2.1
    refine dp_no (by intro q; cases q) ?_
    simp only [rk_1, r8, dc_ir hk.1 (show k ≤ 2147483647 by omega)]
    by_cases c : k = 2
    · subst c
      exact dp_ck rfl (dp_sm (kT R' st e hI kR))
    · obtain ⟨f1, f2, f3⟩ := lk_fl hI (w := 2) (w' := 2) (by omega) (by omega)
      refine dp_no (show ¬ k = 2 from c) (dp_bi (fl_cls hI.2.2.2.1 (dp_ck rfl (dp_sm (kF _ _ ?_ (fl_eq hI.2.2.2.2.2.2.1) f1 (kR_t kR f3) f2)))))
      rw [hI.2.2.2.2.2.2.2.2.2.1, dc_ir (by omega) (by omega)]
      omega
  · exact dp_ck rfl (dp_sm (kF R' m h1.2 (fl_b (by omega)) hF kR kp_i))
theorem tm_24 (hT : so_tp T) (hs : so_sf T m) (h : tkI T R m a st e k) : dz_c (m 28 0) = so_mk k := by
  have hk := I_k h
  have hmk := mk_b hk
  rw [h.2.2.2.2.2.2.2.2.2.1, dc_ir (by omega) (by omega)]
/-- the sign at the end of a line -/
theorem lk_se (hp : p = 25 ∨ p = 4) (hs : s = 36 ∨ s = 15) (hT : so_tp T) (hZ : Z 2 = T) (hL : tkL T R m a) {K : Bool × dz_Z → Prop} (kT : ∀ (R' m' : ob_O) (b : Int), (∀ Y, so_le (ob_z Y 114 m) = some (ob_z Y 114 m')) → tkL T R' m' b → a < b → kpR R R' → kpm m m' → K (true, rk Z p s R' P S)) (kF : ∀ (R' m' : ob_O), (∀ Y, so_le (ob_z Y 114 m) = some (ob_z Y 114 m')) → tkF T R' m' → kpR R R' → kpm m m' → K (false, rk Z p s R' P S)) : dz_p (jf_R_needs 4 (rk Z p s R P S)) K := by
  unfold jf_R_needs
  refine dp_bi (lk_nt hp hs hT hZ hL (fun R' st e k hI kR => ?_) (fun R' hF h1 kR => ?_))
  · have hk := I_k hI
    have hmk := mk_b hk
    have r8 := hI.2.2.2.2.1
    have m24 := hI.2.2.2.2.2.2.1
    have e28 := tm_24 hT hI.2.2.2.2.2.2.2.2.2.2.2 hI
    refine dp_no (by intro q; cases q) ?_
    simp only [rk_1, r8, dc_ir hk.1 (show k ≤ 2147483647 by omega)]
    by_cases c : k = 4
    · obtain ⟨m', g1, g2, g3⟩ := lk_st hT hI
      have h9 := hI.1.2.2.2.2.2.1 c
      have hst := hI.1.1
      refine dp_ck c (dp_sm (kT R' m' e (fun Y => ?_) (g2 R' hI.2.2.1 hI.2.2.2.2.2.1) (by omega) kR g3))
      unfold so_le
      rw [oz_s, m24, e28, if_neg (by decide), if_pos (by rw [c]; decide), Option.bind_some, g1]
      rfl
    · obtain ⟨f1, f2, f3⟩ := lk_fl hI (w := 2) (w' := 2) (by omega) (by omega)
      refine dp_no (show ¬ k = 4 from c) (dp_bi (fl_cls hI.2.2.2.1 (dp_ck rfl (dp_sm (kF _ _ (fun Y => ?_) f1 (kR_t kR f3) f2)))))
      have ho := hI.2.1.1
      unfold so_le
      rw [oz_s, m24, e28, if_neg (by decide), if_neg (by have := hmk.2.2.2.2.2 ho; omega), fl_eq m24, Option.bind_some, Option.bind_some, sp_b f1.2.1]
      rfl
  · exact dp_ck rfl (dp_sm (kF R' m (le_b (by omega)) hF kR kp_i))
end td
