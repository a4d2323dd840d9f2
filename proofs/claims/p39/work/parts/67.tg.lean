section mg_67tg
/-! seconds -/
/-- whatever else is written, the end of the line is a fault -/
def so_lf (T R m : ob_O) : Prop := ∀ m2 : ob_O, kq m m2 → ∃ m3 : ob_O, (∀ Y, so_le (ob_z Y 114 m2) = some (ob_z Y 114 m3)) ∧ tkF T R m3 ∧ kpm m2 m3
/-- whatever else is written, the line ends well, at b -/
def so_lz (T R m : ob_O) (b : Int) : Prop := ∀ m2 : ob_O, kq m m2 → ∃ m3 : ob_O, (∀ Y, so_le (ob_z Y 114 m2) = some (ob_z Y 114 m3)) ∧ tkL T R m3 b ∧ kpm m2 m3
def so_rb (a1 a2 : Int) : Int × dz_Z → Option ((Int × dz_Z) ⊕ dz_Z) := fun (s1 : Int × dz_Z) => if dz_c (s1.2 114 24 0) ≠ 0 then (if 0 ≤ dz_c a1 ∧ dz_c a1 < 140 then dz_a (dz_u s1.2 114 11 (dz_c a1) s1.1) fun Z5 => some (Sum.inr Z5) else none) else (if dz_c s1.1 = 0 then (Option.bind (α := dz_Z) (if dz_c (s1.2 114 28 0) ≠ 2 then (some s1.2) else (if dz_c s1.1 ≠ 12 then (some s1.2) else (Option.bind (jf_M_fails 5 s1.2) fun q17 => some q17))) (fun (q10 : dz_Z) => Option.bind (jf_M_number 0 a2 q10) fun q11 => if dz_c (q11.2 114 24 0) ≠ 0 then (some (Sum.inl (s1.1, q11.2))) else (if 0 ≤ dz_c ((a1 + 1) + s1.1) ∧ dz_c ((a1 + 1) + s1.1) < 140 then dz_a (dz_u q11.2 114 11 (dz_c ((a1 + 1) + s1.1)) q11.1) fun Z14 => some (Sum.inl (s1.1 + 1, Z14)) else none))) else (if dz_c (s1.2 114 28 0) ≠ 2 then (if 0 ≤ dz_c a1 ∧ dz_c a1 < 140 then dz_a (dz_u s1.2 114 11 (dz_c a1) s1.1) fun Z20 => some (Sum.inr Z20) else none) else (Option.bind (α := dz_Z) (if dz_c (s1.2 114 28 0) ≠ 2 then (some s1.2) else (if dz_c s1.1 ≠ 12 then (some s1.2) else (Option.bind (jf_M_fails 5 s1.2) fun q31 => some q31))) (fun (q24 : dz_Z) => Option.bind (jf_M_number 0 a2 q24) fun q25 => if dz_c (q25.2 114 24 0) ≠ 0 then (some (Sum.inl (s1.1, q25.2))) else (if 0 ≤ dz_c ((a1 + 1) + s1.1) ∧ dz_c ((a1 + 1) + s1.1) < 140 then dz_a (dz_u q25.2 114 11 (dz_c ((a1 + 1) + s1.1)) q25.1) fun Z28 => some (Sum.inl (s1.1 + 1, Z28)) else none)))))
section tg
variable {Z Y : dz_Z} {p s : Nat} {R R' P S T m m' m1 m2 m3 m4 m5 : ob_O} {a b e k i v st x lo hi w g N n a1 a2 : Int}
theorem lf_F (h : tkF T R m) : so_lf T R m := fun m2 hk => ⟨m2, le_b (tF_m h hk).2.1, tF_m h hk, kp_i⟩
theorem lf_I (hT : so_tp T) (h : tkI T R m a st e k) (hk : k ≠ 4) (h4 : R' 4 0 = st) (h3 : R' 3 0 = 2) : so_lf T R' m := fun m2 hq => by
  have hI := tI_m h hq
  have hkb := I_k hI
  have hmk := mk_b hkb
  have m24 := hI.2.2.2.2.2.2.1
  have e28 := tm_24 hT hI.2.2.2.2.2.2.2.2.2.2.2 hI
  obtain ⟨f1, f2, f3⟩ := lk_fl hI (w := 2) (w' := 2) (by omega) (by omega)
  refine ⟨_, fun Y => ?_, tF_R f1 ?_ ?_, f2⟩
  · have ho := hI.2.1.1
    unfold so_le
    rw [oz_s, m24, e28, if_neg (by decide), if_neg (by have := hmk.2.2.2.2.2 ho; omega), fl_eq m24, Option.bind_some, Option.bind_some, sp_b f1.2.1]
    rfl
  · rw [h4, ou_s]
  · rw [h3, ou_f (by decide), ou_s]
theorem ls_I (hT : so_tp T) (h : tkI T R m a st e 4) : so_lz T R m e := fun m2 hq => by
  have hI := tI_m h hq
  have m24 := hI.2.2.2.2.2.2.1
  have e28 := tm_24 hT hI.2.2.2.2.2.2.2.2.2.2.2 hI
  obtain ⟨m', g1, g2, g3⟩ := lk_st hT hI
  refine ⟨m', fun Y => ?_, g2 R hI.2.2.1 hI.2.2.2.2.2.1, g3⟩
  unfold so_le
  rw [oz_s, m24, e28, if_neg (by decide), if_pos (by decide), Option.bind_some, g1]
  rfl
theorem rs_lp : jf_M_readSeconds a1 a2 Z = dz_lp (so_rb a1 a2) 5000 (0, Z) := rfl
theorem lp_l {S R : Type} {body : S → Option (S ⊕ R)} {n : Nat} {s s' : S} (h : body s = some (.inl s')) : dz_lp body (n + 1) s = dz_lp body n s' := by
  show (body s).bind _ = _
  rw [h]
  rfl
theorem lp_r {S R : Type} {body : S → Option (S ⊕ R)} {n : Nat} {s : S} {r : R} (h : body s = some (.inr r)) : dz_lp body (n + 1) s = some r := by
  show (body s).bind _ = _
  rw [h]
  rfl
theorem if_2 {α : Type} {c d : Prop} [Decidable c] [Decidable d] {x y : α} (h : d) : (if c then x else (if d then x else y)) = x := by
  by_cases hc : c
  · rw [if_pos hc]
  · rw [if_neg hc, if_pos h]
theorem rb_n (h24 : m 24 0 = 0) (hn : 0 ≤ n ∧ n < 12) (ht : n = 0 ∨ m 28 0 = 2) (hnu : ∀ Y, jf_M_number 0 a2 (ob_z Y 114 m) = some (v, ob_z Y 114 m')) (h24' : m' 24 0 = 0) (ha : 0 ≤ a1 ∧ a1 ≤ 120) : ∀ Y, so_rb a1 a2 (n, ob_z Y 114 m) = some (.inl (n + 1, ob_z Y 114 (ob_u m' 11 (a1 + 1 + n) v))) := by
  intro Y
  have en : dz_c n = n := dz_ci (by omega) (by omega)
  have h12 : n ≠ 12 := by omega
  have fin : (if dz_c (ob_z Y 114 m' 114 24 0) ≠ 0 then (some (Sum.inl (n, ob_z Y 114 m'))) else (if 0 ≤ dz_c ((a1 + 1) + n) ∧ dz_c ((a1 + 1) + n) < 140 then dz_a (dz_u (ob_z Y 114 m') 114 11 (dz_c ((a1 + 1) + n)) v) fun Z14 => some (Sum.inl (n + 1, Z14)) else none) : Option ((Int × dz_Z) ⊕ dz_Z)) = some (.inl (n + 1, ob_z Y 114 (ob_u m' 11 (a1 + 1 + n) v))) := by
    rw [oz_s, h24', if_neg (by decide), dz_ci (x := a1 + 1 + n) (by omega) (by omega), if_pos (by omega)]
    show some (Sum.inl (n + 1, dz_u (ob_z Y 114 m') 114 11 (a1 + 1 + n) v)) = _
    rw [oz_uz]
  unfold so_rb
  simp only [oz_s, h24, en]
  rw [if_neg (by decide)]
  by_cases c : n = 0
  · rw [if_pos c, if_2 h12, Option.bind_some, hnu, Option.bind_some]
    exact fin
  · have h28 : m 28 0 = 2 := by omega
    simp only [h28]
    rw [if_neg c, if_neg (by decide), if_neg (by decide), if_pos h12, Option.bind_some, hnu, Option.bind_some]
    exact fin
theorem rb_f (h24 : m 24 0 = 0) (hn : 0 ≤ n ∧ n < 12) (ht : n = 0 ∨ m 28 0 = 2) (hnu : ∀ Y, jf_M_number 0 a2 (ob_z Y 114 m) = some (v, ob_z Y 114 m')) (h24' : 1 ≤ m' 24 0 ∧ m' 24 0 ≤ 6) : ∀ Y, so_rb a1 a2 (n, ob_z Y 114 m) = some (.inl (n, ob_z Y 114 m')) := by
  intro Y
  have en : dz_c n = n := dz_ci (by omega) (by omega)
  have h12 : n ≠ 12 := by omega
  have e24 : dz_c (m' 24 0) ≠ 0 := by rw [dz_ci (x := m' 24 0) (by omega) (by omega)]; omega
  unfold so_rb
  simp only [oz_s, h24, en]
  rw [if_neg (by decide)]
  by_cases c : n = 0
  · rw [if_pos c, if_2 h12, Option.bind_some, hnu, Option.bind_some]
    simp only [oz_s]
    rw [if_pos e24]
  · have h28 : m 28 0 = 2 := by omega
    simp only [h28]
    rw [if_neg c, if_neg (by decide), if_neg (by decide), if_pos h12, Option.bind_some, hnu, Option.bind_some]
    simp only [oz_s]
    rw [if_pos e24]
theorem rb_12 (h24 : m 24 0 = 0) (h28 : m 28 0 = 2) : ∀ Y, so_rb a1 a2 (12, ob_z Y 114 m) = some (.inl (12, ob_z Y 114 (ob_u (ob_u m 24 0 5) 25 0 (m 27 0)))) := by
  intro Y
  have q24 : ob_u (ob_u m 24 0 5) 25 0 (m 27 0) 24 0 = 5 := by rw [ou_f (by decide), ou_s]
  unfold so_rb
  simp only [oz_s, h24, h28]
  rw [if_neg (by decide), if_neg (by decide), if_neg (by decide), if_neg (by decide), if_neg (by decide), fl_eq h24, Option.bind_some, Option.bind_some, nu_b (by rw [q24]; decide), Option.bind_some]
  simp only [oz_s, q24]
  rw [if_pos (by decide)]
theorem rb_b (h24 : 1 ≤ m 24 0 ∧ m 24 0 ≤ 6) (ha : 0 ≤ a1 ∧ a1 ≤ 120) : ∀ Y, so_rb a1 a2 (n, ob_z Y 114 m) = some (.inr (ob_z Y 114 (ob_u m 11 a1 n))) := by
  intro Y
  have e24 : dz_c (m 24 0) ≠ 0 := by rw [dz_ci (x := m 24 0) (by omega) (by omega)]; omega
  unfold so_rb
  simp only [oz_s]
  rw [if_pos e24, dz_ci (x := a1) (by omega) (by omega), if_pos (by omega)]
  show some (Sum.inr (dz_u (ob_z Y 114 m) 114 11 a1 n)) = _
  rw [oz_uz]
theorem rb_e (h24 : m 24 0 = 0) (hn : 1 ≤ n ∧ n ≤ 12) (h28 : dz_c (m 28 0) ≠ 2) (ha : 0 ≤ a1 ∧ a1 ≤ 120) : ∀ Y, so_rb a1 a2 (n, ob_z Y 114 m) = some (.inr (ob_z Y 114 (ob_u m 11 a1 n))) := by
  intro Y
  unfold so_rb
  simp only [oz_s, h24]
  rw [if_neg (by decide), dz_ci (x := n) (by omega) (by omega), if_neg (by omega), if_pos h28, dz_ci (x := a1) (by omega) (by omega), if_pos (by omega)]
  show some (Sum.inr (dz_u (ob_z Y 114 m) 114 11 a1 n)) = _
  rw [oz_uz]
/-- the reference takes a number on which it stands -/
theorem nu_t (hT : so_tp T) (hI : tkI T R m a st e 3) (c1 : dz_c lo = lo) (c2 : dz_c hi = hi) (hb : lo ≤ so_nm T st (e - st).toNat ∧ so_nm T st (e - st).toNat ≤ hi) : ∃ m' : ob_O, (∀ Y, jf_M_number lo hi (ob_z Y 114 m) = some (so_nm T st (e - st).toNat, ob_z Y 114 m')) ∧ (∀ R' : ob_O, R' 6 0 = e → R' 3 0 = 0 → tkL T R' m' e) ∧ kpm m m' := by
  obtain ⟨m', g1, g2, g3⟩ := lk_st hT hI
  refine ⟨m', fun Y => ?_, g2, g3⟩
  unfold jf_M_number
  rw [lo_t hI c1 c2 hb, Option.bind_some, oz_s, hI.2.2.2.2.2.2.1, if_neg (by decide), Option.bind_some, g1, hI.2.2.2.2.2.2.2.2.2.2.1 rfl]
  rfl
/-- what seconds leave of the reference's page -/
def so_sk (a1 : Int) (m m' : ob_O) : Prop := (∀ j : Int, (j < a1 ∨ a1 + 13 ≤ j) → m' 11 j = m 11 j) ∧ (∀ f : Nat, (f < 11 ∨ (11 < f ∧ f < 24) ∨ 29 < f) → m' f = m f)
theorem sk_i : so_sk a1 m m := ⟨fun _ _ => rfl, fun _ _ => rfl⟩
theorem sk_k (h : so_sk a1 m m') (hk : kpm m' m2) : so_sk a1 m m2 := ⟨fun j q => by rw [hk 11 (by decide)]; exact h.1 j q, fun f q => by rw [hk f (by omega)]; exact h.2 f q⟩
theorem sk_u (h : so_sk a1 m m') (hi : a1 ≤ i ∧ i < a1 + 13) : so_sk a1 m (ob_u m' 11 i v) := ⟨fun j q => by rw [ou_i (by omega)]; exact h.1 j q, fun f q => by rw [ou_ff (by omega)]; exact h.2 f q⟩
theorem sk_e (h : so_sk a1 m m') : ke m m' := fun f q => h.2 f (by omega)
theorem is_cls (hp : p = 25 ∨ p = 4) (hs : s = 36 ∨ s = 15) (hT : so_tp T) (hZ : Z 2 = T) (hI : tkI T R m a st e k) (hi : 1 ≤ i ∧ i ≤ 12) (h2 : 0 ≤ a2 ∧ a2 ≤ 999) {K : Bool × dz_Z → Prop} (kT : k = 3 → so_nm T st (e - st).toNat ≤ a2 → i < 12 → ∀ R' : ob_O, tkI T R' m a st e k → R' 9 0 = so_nm T st (e - st).toNat → kpR R R' → K (true, rk Z p s R' P S)) (kF : (k ≠ 3 ∨ (k = 3 ∧ (i = 12 ∨ (i < 12 ∧ a2 < so_nm T st (e - st).toNat)))) → ∀ (R' : ob_O) (w : Int), R' 4 0 = st → R' 3 0 = w → (1 ≤ w ∧ w ≤ 6) → (k ≠ 3 → w = 2) → kpR R R' → K (false, rk Z p s R' P S)) : dz_p (jf_R_isSecond i a2 (rk Z p s R P S)) K := by
  have hk := I_k hI
  have r8 := hI.2.2.2.2.1
  have r7 := hI.2.2.2.1
  have e2 : dz_c a2 = a2 := dz_ci (by omega) (by omega)
  have ei : dz_c i = i := dz_ci (by omega) (by omega)
  unfold jf_R_isSecond
  simp only [rk_1, r8, dc_ir hk.1 (show k ≤ 2147483647 by omega)]
  by_cases c : k = 3
  · subst c
    have hnm := nm_t hI
    have hst := hI.1.1
    refine dp_ck rfl (dp_bi (dp_eq (nr_cls (e := e) (st := st) hT ((rk_2 hp hs).trans hZ) (by rw [rk_1]; exact hI.2.2.1) (by rw [rk_1]; exact r7) (by omega)) (dp_le ?_)))
    simp only [rk_u1, rk_1, ou_s, e2, ei, dc_ir hnm.1 (show so_nm T st (e - st).toNat ≤ 2147483647 by omega)]
    have r79 : ob_u R 9 0 (so_nm T st (e - st).toNat) 7 0 = st := by rw [ou_f (by decide), r7]
    refine dp_br (fun x => dp_br (fun y => dp_sm ?_) (fun y => dp_bi (fl_cls r79 (dp_ck rfl (dp_sm ?_))))) (fun x => dp_bi (fl_cls r79 (dp_sm ?_)))
    · refine kT rfl x y _ ?_ ou_s (fun f q => by rw [ou_ff (by omega)])
      obtain ⟨i1, i2, i3, i4, i5, i6, i7⟩ := hI
      exact ⟨i1, i2, by rw [ou_f (by decide)]; exact i3, by rw [ou_f (by decide)]; exact i4, by rw [ou_f (by decide)]; exact i5, by rw [ou_f (by decide)]; exact i6, i7⟩
    · exact kF (Or.inr ⟨rfl, Or.inl (by omega)⟩) _ 5 ou_s (by rw [ou_f (by decide), ou_s]) (by omega) (fun q => absurd rfl q) (fun f q => by rw [ou_ff (by omega), ou_ff (by omega), ou_ff (by omega)])
    · exact kF (Or.inr ⟨rfl, by omega⟩) _ 3 ou_s (by rw [ou_f (by decide), ou_s]) (by omega) (fun q => absurd rfl q) (fun f q => by rw [ou_ff (by omega), ou_ff (by omega), ou_ff (by omega)])
  · exact dp_no c (dp_bi (fl_cls r7 (dp_sm (kF (Or.inl c) _ 2 ou_s (by rw [ou_f (by decide), ou_s]) (by omega) (fun _ => rfl) (fun f q => by rw [ou_ff (by omega), ou_ff (by omega)])))))
theorem rb_x (h24 : m 24 0 = 0) (hn : 0 ≤ n ∧ n < 12) (ht : n = 0 ∨ m 28 0 = 2) (hnu : ∀ Y, jf_M_number 0 a2 (ob_z Y 114 m) = some (v, ob_z Y 114 m')) (hL : tkL T R m' b) (ha : 0 ≤ a1 ∧ a1 ≤ 120) : ∃ (nn : Int) (m2 : ob_O), (∀ Y, so_rb a1 a2 (n, ob_z Y 114 m) = some (.inl (nn, ob_z Y 114 m2))) ∧ tkL T R m2 b ∧ (m2 24 0 = 0 → nn = n + 1 ∧ m2 11 = ob_u m' 11 (a1 + 1 + n) v 11) ∧ (∀ m0 : ob_O, so_sk a1 m0 m' → so_sk a1 m0 m2) := by
  have h : m' 24 0 = 0 ∨ m' 24 0 = 1 := by
    obtain ⟨st, e, k, q⟩ := hL.2.2.1
    rcases q.2.2.2 with q | q
    · exact Or.inl q.2.1
    · exact Or.inr q.2.1
  rcases h with h | h
  · exact ⟨n + 1, _, rb_n h24 hn ht hnu h ha, tL_m hL (kq_u (by decide)), fun _ => ⟨rfl, rfl⟩, fun m0 q => sk_u q (by omega)⟩
  · exact ⟨n, m', rb_f h24 hn ht hnu (by omega), hL, fun q => by omega, fun m0 q => q⟩
/-- seconds -/
theorem lk_sec (hp : p = 25 ∨ p = 4) (hs : s = 36 ∨ s = 15) (hT : so_tp T) (hZ : Z 2 = T) (hL : tkL T R m a) (ha : 0 ≤ a1 ∧ a1 ≤ 120) (h2 : 0 ≤ a2 ∧ a2 ≤ 999) {f : Nat} {K : Int × dz_Z → Prop} (kT : ∀ (R' S' m' : ob_O) (n b : Int), (∀ Y, jf_M_readSeconds a1 a2 (ob_z Y 114 m) = some (ob_z Y 114 m')) → so_lz T R' m' b → a + 1 < b → (1 ≤ n ∧ n ≤ 12) → kpR R R' → (∀ f' : Nat, f' ≠ f → S' f' = S f') → (∀ i : Int, 0 ≤ i → i < n → m' 11 (a1 + 1 + i) = S' f i ∧ 0 ≤ S' f i ∧ S' f i ≤ a2) → m' 11 a1 = n → so_sk a1 m m' → K (n, rk Z p s R' P S')) (kF : ∀ (R' S' m' : ob_O), (∀ Y, jf_M_readSeconds a1 a2 (ob_z Y 114 m) = some (ob_z Y 114 m')) → so_lf T R' m' → kpR R R' → so_sk a1 m m' → K (0, rk Z p s R' P S')) : dz_p (jf_R_readSeconds s f 12 a2 (rk Z p s R P S)) K := by
  have e2 : dz_c a2 = a2 := dz_ci (by omega) (by omega)
  -- a fault that the reference finds on the number where it stands
  have bad : ∀ (R0 R2 m' : ob_O) (a st e w wl n : Int), tkI T R0 m' a st e 3 ∨ n = 0 → (∃ k, tkI T R0 m' a st e k) → (0 ≤ n ∧ n < 12) → (1 ≤ wl ∧ wl ≤ 6) → (∀ Y, jf_M_looks 0 a2 (ob_z Y 114 m') = some (ob_z Y 114 (ob_u (ob_u m' 24 0 wl) 25 0 (m' 27 0)))) → R2 4 0 = st → R2 3 0 = w → (1 ≤ w ∧ w ≤ 6) → ∀ q : Nat, ∃ m2 : ob_O, (∀ Y, dz_lp (so_rb a1 a2) (q + 2) (n, ob_z Y 114 m') = some (ob_z Y 114 m2)) ∧ so_lf T R2 m2 ∧ (so_sk a1 m m' → so_sk a1 m m2) := by
    intro R0 R2 m' a st e w wl n h3 ⟨k, hI⟩ hn hwl hlo h4 h3' hw q
    obtain ⟨f1, f2, f3⟩ := lk_fl hI (w := w) (w' := wl) hw hwl
    have f1' : tkF T R2 (ob_u (ob_u m' 24 0 wl) 25 0 (m' 27 0)) := tF_R f1 (by rw [h4, ou_s]) (by rw [h3', ou_f (by decide), ou_s])
    refine ⟨ob_u (ob_u (ob_u m' 24 0 wl) 25 0 (m' 27 0)) 11 a1 n, fun Y => ?_, lf_F (tF_m f1' (kq_u (by decide))), fun h => sk_u (sk_k h f2) (by omega)⟩
    have m24 := hI.2.2.2.2.2.2.1
    have e28 := tm_24 hT hI.2.2.2.2.2.2.2.2.2.2.2 hI
    refine (lp_l (n := q + 1) (rb_f m24 hn ?_ (nu_f hlo f1.2.1) f1.2.1 Y)).trans (lp_r (n := q) (rb_b f1.2.1 ha Y))
    rcases h3 with h3 | h3
    · have := h3.2.2.2.2.2.2.2.2.2.1
      exact Or.inr (by rw [this]; decide)
    · exact Or.inl h3
  unfold jf_R_readSeconds
  refine dp_bi (lk_nn hp hs hT hZ hL (by decide) e2 (fun R1 st e hI h9 hlo hhi kR => ?_) (fun R1 hF h1 kR => ?_) (fun R0 R1 st e k w hI hbad h4 h3 hw kR => ?_))
  · obtain ⟨m1, n1, n2, n3⟩ := nu_t hT hI (by decide) e2 ⟨hlo, hhi⟩
    have hnm := nm_t hI
    have h83 := hI.1.2.2.2.2.1 (Or.inr rfl)
    have hst := hI.1.1
    have m24 := hI.2.2.2.2.2.2.1
    obtain ⟨nn, m2, x1, x2, x3, x4⟩ := rb_x m24 (n := 0) (by omega) (Or.inl rfl) n1 (n2 R1 hI.2.2.1 hI.2.2.2.2.2.1) ha
    generalize hv : so_nm T st (e - st).toNat = v at *
    refine dp_ck rfl (dp_ck (by omega) (dp_le ?_))
    simp only [rk_1, h9]
    rw [rk_us hp hs]
    refine dp_lp (fun k q => ∃ (i : Nat) (R' S' m' : ob_O) (b nn : Int), i + k = 13 ∧ 1 ≤ i ∧ i ≤ 12 ∧ q = ((i : Int), rk Z p s R' P S') ∧ (∀ Y, jf_M_readSeconds a1 a2 (ob_z Y 114 m) = dz_lp (so_rb a1 a2) (5000 - i) (nn, ob_z Y 114 m')) ∧ tkL T R' m' b ∧ a < b ∧ kpR R R' ∧ (∀ f' : Nat, f' ≠ f → S' f' = S f') ∧ (m' 24 0 = 0 → nn = i ∧ ∀ j : Int, 0 ≤ j → j < i → m' 11 (a1 + 1 + j) = S' f j) ∧ (∀ j : Int, 0 ≤ j → j < i → 0 ≤ S' f j ∧ S' f j ≤ a2) ∧ so_sk a1 m m') ?_ 5000 12 _ (by omega) ⟨1, R1, ob_u S f 0 v, m2, e, nn, by omega, by omega, by omega, rfl, fun Y => ?_, x2, by omega, kR, fun f' q => ou_ff q, fun q => ?_, fun j y z => ?_, x4 m (sk_k sk_i n3)⟩
    · rintro k _ ⟨i, R', S', m', b, nn, g1, g2, g3, rfl, heq, hL', hab, kR', hS', hm', hv', hsk⟩
      have ei : dz_c (i : Int) = i := dz_ci (by omega) (by omega)
      obtain ⟨q, hq⟩ : ∃ q, 5000 - i = q + 2 := ⟨4998 - i, by omega⟩
      rw [hq] at heq
      simp only [ei]
      refine dp_no (by omega) (dp_bi (lk_nt hp hs hT hZ hL' (fun R2 st2 en2 k2 hI2 kR2 => ?_) (fun R2 hF _ kR2 => ?_)))
      · have hk := I_k hI2
        have r8 := hI2.2.2.2.2.1
        have m24' := hI2.2.2.2.2.2.2.1
        have e28 := tm_24 hT hI2.2.2.2.2.2.2.2.2.2.2.2 hI2
        have hst2 := hI2.1.1
        obtain ⟨hnn, hent⟩ := hm' m24'
        subst hnn
        refine dp_ck rfl ?_
        simp only [rk_1, r8, dc_ir hk.1 (show k2 ≤ 2147483647 by omega)]
        by_cases c4 : k2 = 4
        · have h9 := hI2.1.2.2.2.2.2.1 c4
          subst c4
          refine dp_no (by omega) (dp_sm (kT R2 S' (ob_u m' 11 a1 i) i en2 (fun Y => ?_) (ls_I hT (tI_m hI2 (kq_u (by decide)))) (by omega) (by omega) (kR_t kR' kR2) hS' (fun j y z => ⟨?_, hv' j y z⟩) ou_s (sk_u hsk (by omega))))
          · rw [heq Y]
            exact lp_r (n := q + 1) (rb_e m24' (by omega) (by rw [e28]; decide) ha Y)
          · rw [ou_i (by omega)]; exact hent j y z
        · refine dp_ck c4 (dp_bi (is_cls hp hs hT hZ hI2 (by omega) h2 (fun c3 hle hi12 R3 hI3 h39 kR3 => ?_) (fun hbad R3 w h34 h33 hw hw2 kR3 => ?_)))
          · subst c3
            have hnm3 := nm_t hI3
            have h832 := hI2.1.2.2.2.2.1 (Or.inr rfl)
            obtain ⟨m3, n31, n32, n33⟩ := nu_t hT hI3 (by decide) e2 ⟨hnm3.1, hle⟩
            obtain ⟨nn', m4, x1, x2, x3, x4⟩ := rb_x m24' (n := i) (by omega) (Or.inr (by rw [hI3.2.2.2.2.2.2.2.2.2.1]; decide)) n31 (n32 R3 hI3.2.2.1 hI3.2.2.2.2.2.1) ha
            generalize hu : so_nm T st2 (en2 - st2).toNat = u at *
            refine dp_ck rfl (dp_ck (by omega) (dp_le (dp_sm ?_)))
            simp only [rk_1, h39]
            rw [rk_us hp hs]
            refine ⟨k - 1, by omega, i + 1, R3, ob_u S' f i u, m4, en2, nn', by omega, by omega, by omega, rfl, fun Y => ?_, x2, by omega, kR_t kR' (kR_t kR2 kR3), fun f' y => by rw [ou_ff y]; exact hS' f' y, fun y => ?_, fun j y z => ?_, x4 m (sk_k hsk n33)⟩
            · rw [heq Y, show 5000 - (i + 1) = q + 1 by omega]
              exact lp_l (n := q + 1) (x1 Y)
            · obtain ⟨y1, y2⟩ := x3 y
              refine ⟨by omega, fun j z1 z2 => ?_⟩
              rw [y2, ou_a, ou_a, n33 11 (by decide)]
              by_cases c : j = i
              · rw [if_pos (by omega), if_pos c]
              · rw [if_neg (by omega), if_neg c]; exact hent j z1 (by omega)
            · rw [ou_a]
              by_cases c : j = i
              · rw [if_pos c]; omega
              · rw [if_neg c]; exact hv' j y (by omega)
          · refine dp_no (by intro q; cases q) (dp_sm ?_)
            rcases hbad with c3 | ⟨c3, c12 | ⟨c12, cv⟩⟩
            · have hmk := mk_b hk
              refine kF R3 S' (ob_u m' 11 a1 i) (fun Y => ?_) (lf_I hT (tI_m hI2 (kq_u (by decide))) c4 h34 (by rw [h33, hw2 c3])) (kR_t kR' (kR_t kR2 kR3)) (sk_u hsk (by omega))
              rw [heq Y]
              exact lp_r (n := q + 1) (rb_e m24' (by omega) (by rw [e28]; omega) ha Y)
            · subst c3
              obtain ⟨f1, f2, f3⟩ := lk_fl hI2 (w := w) (w' := 5) hw (by omega)
              have f1' : tkF T R3 (ob_u (ob_u m' 24 0 5) 25 0 (m' 27 0)) := tF_R f1 (by rw [h34, ou_s]) (by rw [h33, ou_f (by decide), ou_s])
              refine kF R3 S' _ (fun Y => ?_) (lf_F (tF_m f1' (kq_u (m := ob_u (ob_u m' 24 0 5) 25 0 (m' 27 0)) (f := 11) (j := a1) (v := 12) (by decide)))) (kR_t kR' (kR_t kR2 kR3)) (sk_u (sk_k hsk f2) (by omega))
              rw [heq Y, c12]
              exact (lp_l (n := q + 1) (rb_12 m24' (by rw [hI2.2.2.2.2.2.2.2.2.2.1]; decide) Y)).trans (lp_r (n := q) (rb_b f1.2.1 ha Y))
            · subst c3
              obtain ⟨wl, w1, w2⟩ := lo_f hI2 (lo := 0) (hi := a2) (by decide) e2 (Or.inr (by omega))
              obtain ⟨m3, b1, b2, b3⟩ := bad R2 R3 m' b st2 en2 w wl i (Or.inl hI2) ⟨3, hI2⟩ (by omega) w1 w2 h34 h33 hw q
              exact kF R3 S' m3 (fun Y => by rw [heq Y]; exact b1 Y) b2 (kR_t kR' (kR_t kR2 kR3)) (b3 hsk)
      · have hq' := hF.2.1
        refine dp_no (by intro q; cases q) (dp_sm (kF R2 S' (ob_u m' 11 a1 nn) (fun Y => ?_) (lf_F (tF_m hF (kq_u (by decide)))) (kR_t kR' kR2) (sk_u hsk (by omega))))
        rw [heq Y]
        exact lp_r (n := q + 1) (rb_b hq' ha Y)
    · rw [rs_lp]
      exact lp_l (n := 4999) (x1 Y)
    · obtain ⟨y1, y2⟩ := x3 q
      refine ⟨by omega, fun j z1 z2 => ?_⟩
      have : j = 0 := by omega
      subst this
      rw [y2, ou_a, ou_s, if_pos rfl]
    · have : j = 0 := by omega
      subst this
      rw [ou_s]
      omega
  · have hq := hF.2.1
    refine dp_no (by intro q; cases q) (dp_sm (kF R1 S (ob_u m 11 a1 0) (fun Y => ?_) (lf_F (tF_m hF (kq_u (by decide)))) kR (sk_u sk_i (by omega))))
    rw [rs_lp]
    exact lp_r (n := 4999) (rb_b hq ha Y)
  · obtain ⟨wl, w1, w2⟩ := lo_f hI (by decide) e2 hbad
    obtain ⟨m2, b1, b2, b3⟩ := bad R0 R1 m a st e w wl 0 (Or.inr rfl) ⟨k, hI⟩ (by omega) w1 w2 h4 h3 hw 4998
    exact dp_no (by intro q; cases q) (dp_sm (kF R1 S m2 b1 b2 kR (b3 sk_i)))
end tg
end mg_67tg
section mg_68th
/-! what was read so far -/
def rf_c (P m : ob_O) : Prop := (m 16 0 = P 0 0 ∧ 0 ≤ P 0 0 ∧ P 0 0 ≤ 4) ∧ (m 16 1 = P 3 0 ∧ 0 ≤ P 3 0 ∧ P 3 0 ≤ 5) ∧ (m 16 2 = P 6 0 ∧ 0 ≤ P 6 0 ∧ P 6 0 ≤ 8) ∧ (m 16 3 = P 10 0 ∧ 0 ≤ P 10 0 ∧ P 10 0 ≤ 3) ∧ (m 16 4 = P 11 0 ∧ 0 ≤ P 11 0 ∧ P 11 0 ≤ 4)
def rf_r (P m : ob_O) : Prop := ∀ r : Int, 0 ≤ r → r < P 0 0 → m 12 (2 * r) = P 1 r ∧ m 12 (2 * r + 1) = P 2 r ∧ (1 ≤ P 1 r ∧ P 1 r ≤ 9) ∧ 0 ≤ P 2 r ∧ P 2 r < 5
def rf_g (P m : ob_O) : Prop := ∀ g : Int, 0 ≤ g → g < P 3 0 → m 13 (2 * g) = P 4 g ∧ m 13 (2 * g + 1) = P 5 g ∧ so_way (P 4 g) ∧ so_way (P 5 g)
def rf_s (P S m : ob_O) : Prop := ∀ s : Int, 0 ≤ s → s < P 6 0 → m 14 s = P 7 s ∧ (0 ≤ P 7 s ∧ P 7 s < 8) ∧ m 11 (10 + s) = S 2 s ∧ (0 ≤ S 2 s ∧ S 2 s ≤ 5) ∧ ((S 2 s ≠ 0 ∧ S 2 s ≠ 5) → m 11 (18 + s) = P 8 s ∧ 1 ≤ P 8 s ∧ P 8 s ≤ 30) ∧ ((S 2 s = 0 ∨ S 2 s = 5) → m 11 (18 + s) = 0) ∧ (S 2 s = 4 → m 11 (26 + s) = P 9 s ∧ 0 ≤ P 9 s ∧ P 9 s < 8) ∧ (S 2 s ≠ 4 → m 11 (26 + s) = -4)
def rf_w (P S m : ob_O) : Prop := ∀ w : Int, 0 ≤ w → w < P 10 0 → m 11 (34 + 13 * w) = S 3 w ∧ (1 ≤ S 3 w ∧ S 3 w ≤ 12) ∧ ∀ i : Int, 0 ≤ i → i < S 3 w → m 11 (34 + 13 * w + 1 + i) = S (20 + w.toNat) i ∧ 0 ≤ S (20 + w.toNat) i ∧ S (20 + w.toNat) i ≤ 9
def rf_t (S m : ob_O) : Prop := (0 ≤ S 6 0 ∧ S 6 0 ≤ 12) ∧ m 11 73 = S 6 0 ∧ ∀ i : Int, 0 ≤ i → i < S 6 0 → m 11 (73 + 1 + i) = S 5 i ∧ 0 ≤ S 5 i ∧ S 5 i ≤ 255
def rf_z (P m : ob_O) : Prop := ∀ k : Int, 0 ≤ k → k < P 11 0 → m 15 (3 * k) = P 12 k ∧ m 15 (3 * k + 1) = P 13 k ∧ m 15 (3 * k + 2) = P 14 k ∧ 0 ≤ P 12 k ∧ P 12 k ≤ P 13 k ∧ P 13 k ≤ 11 ∧ 1 ≤ P 14 k ∧ P 14 k ≤ 99
def rf_o (R P S m : ob_O) : Prop := m 17 0 = P 15 0 ∧ (0 ≤ P 15 0 ∧ P 15 0 ≤ 999) ∧ (R 5 0 = 0 ∨ R 5 0 = 1) ∧ m 20 0 = (if 0 < S 6 0 then 32 else 0) + 64 * R 5 0
def rf_p (P S m : ob_O) : Prop := (∀ g : Int, 0 ≤ g → g < P 3 0 → m 11 g = 2) ∧ (∀ g : Int, 0 ≤ g → g < 5 → m 11 (5 + g) = 0) ∧ (∀ j : Int, 86 ≤ j → j < 140 → m 11 j = 0) ∧ (∀ s : Int, P 6 0 ≤ s → s < 8 → m 11 (18 + s) = 0) ∧ (∀ g : Int, 0 ≤ g → g < 5 → S 0 g = 2 ∧ S 1 g = 0)
def rf_h (P m : ob_O) : Prop := (-1 ≤ m 18 0 ∧ m 18 0 ≤ 4) ∧ (∀ N : Int, 0 ≤ N → (m 18 0 < N ↔ (∀ r : Int, 0 ≤ r → r < P 0 0 → P 2 r < N) ∧ (∀ g : Int, 0 ≤ g → g < P 3 0 → (P 4 g < 5 → P 4 g < N) ∧ (P 5 g < 5 → P 5 g < N))))
def rf_i (P S m : ob_O) : Prop := (-1 ≤ m 19 0 ∧ m 19 0 ≤ 7) ∧ (∀ N : Int, 0 ≤ N → (m 19 0 < N ↔ (∀ g : Int, 0 ≤ g → g < P 3 0 → (10 ≤ P 4 g → P 4 g < 18 → P 4 g - 10 < N) ∧ (10 ≤ P 5 g → P 5 g < 18 → P 5 g - 10 < N)) ∧ (∀ s : Int, 0 ≤ s → s < P 6 0 → S 2 s = 4 → P 9 s < N)))
def rg_A (R P S m : ob_O) : Prop := rf_c P m ∧ rf_r P m ∧ rf_g P m ∧ rf_s P S m ∧ rf_w P S m ∧ rf_t S m ∧ rf_z P m ∧ rf_o R P S m ∧ rf_p P S m ∧ rf_h P m ∧ rf_i P S m
section th
variable {R R' P P' S S' m m' : ob_O} {v w x y z n : Int}
-- what is not touched
theorem fr_c (h : rf_c P m) (e : m' 16 = m 16) (e0 : P' 0 = P 0) (e3 : P' 3 = P 3) (e6 : P' 6 = P 6) (e10 : P' 10 = P 10) (e11 : P' 11 = P 11) : rf_c P' m' := by unfold rf_c; rw [e, e0, e3, e6, e10, e11]; exact h
theorem fr_r (h : rf_r P m) (e : m' 12 = m 12) (e0 : P' 0 = P 0) (e1 : P' 1 = P 1) (e2 : P' 2 = P 2) : rf_r P' m' := by unfold rf_r; rw [e, e0, e1, e2]; exact h
theorem fr_g (h : rf_g P m) (e : m' 13 = m 13) (e3 : P' 3 = P 3) (e4 : P' 4 = P 4) (e5 : P' 5 = P 5) : rf_g P' m' := by unfold rf_g; rw [e, e3, e4, e5]; exact h
theorem fr_z (h : rf_z P m) (e : m' 15 = m 15) (e11 : P' 11 = P 11) (e12 : P' 12 = P 12) (e13 : P' 13 = P 13) (e14 : P' 14 = P 14) : rf_z P' m' := by unfold rf_z; rw [e, e11, e12, e13, e14]; exact h
theorem fr_o (h : rf_o R P S m) (e : m' 17 = m 17) (e20 : m' 20 = m 20) (e15 : P' 15 = P 15) (e5 : R' 5 = R 5) (e6 : S' 6 = S 6) : rf_o R' P' S' m' := by unfold rf_o; rw [e, e20, e15, e5, e6]; exact h
theorem fr_s (h : rf_s P S m) (hb : P 6 0 ≤ 8) (e14 : m' 14 = m 14) (e11 : ∀ j : Int, 10 ≤ j → j < 34 → m' 11 j = m 11 j) (e6 : P' 6 = P 6) (e7 : P' 7 = P 7) (e8 : P' 8 = P 8) (e9 : P' 9 = P 9) (e2 : S' 2 = S 2) : rf_s P' S' m' := by
  unfold rf_s
  rw [e14, e6, e7, e8, e9, e2]
  intro s a b
  rw [e11 (10 + s) (by omega) (by omega), e11 (18 + s) (by omega) (by omega), e11 (26 + s) (by omega) (by omega)]
  exact h s a b
theorem fr_w (h : rf_w P S m) (hb : P 10 0 ≤ 3) (e11 : ∀ j : Int, 34 ≤ j → j < 73 → m' 11 j = m 11 j) (e10 : P' 10 = P 10) (eS : ∀ f : Nat, (f = 3 ∨ 20 ≤ f) → S' f = S f) : rf_w P' S' m' := by
  unfold rf_w
  rw [e10, eS 3 (Or.inl rfl)]
  intro w a b
  have hw := h w a b
  rw [e11 (34 + 13 * w) (by omega) (by omega), eS (20 + w.toNat) (by omega)]
  refine ⟨hw.1, hw.2.1, fun i c d => ?_⟩
  rw [e11 _ (by omega) (by omega)]
  exact hw.2.2 i c d
theorem fr_t (h : rf_t S m) (e11 : ∀ j : Int, 73 ≤ j → j < 86 → m' 11 j = m 11 j) (e5 : S' 5 = S 5) (e6 : S' 6 = S 6) : rf_t S' m' := by
  unfold rf_t
  rw [e5, e6, e11 73 (by omega) (by omega)]
  refine ⟨h.1, h.2.1, fun i a b => ?_⟩
  have := h.1
  rw [e11 _ (by omega) (by omega)]
  exact h.2.2 i a b
theorem fr_p (h : rf_p P S m) (hb : 0 ≤ P 3 0 ∧ P 3 0 ≤ 5) (hb6 : 0 ≤ P 6 0) (e11 : ∀ j : Int, (0 ≤ j ∧ j < 10) ∨ (18 ≤ j ∧ j < 26) ∨ 86 ≤ j → m' 11 j = m 11 j) (e3 : P' 3 = P 3) (e6 : P' 6 = P 6) (e0 : S' 0 = S 0) (e1 : S' 1 = S 1) : rf_p P' S' m' := by
  unfold rf_p
  rw [e3, e6, e0, e1]
  refine ⟨fun g a b => ?_, fun g a b => ?_, fun j a b => ?_, fun s a b => ?_, h.2.2.2.2⟩
  · rw [e11 g (by omega)]; exact h.1 g a b
  · rw [e11 (5 + g) (by omega)]; exact h.2.1 g a b
  · rw [e11 j (by omega)]; exact h.2.2.1 j a b
  · rw [e11 (18 + s) (by omega)]; exact h.2.2.2.1 s a b
theorem fr_h (h : rf_h P m) (e : m' 18 = m 18) (e0 : P' 0 = P 0) (e2 : P' 2 = P 2) (e3 : P' 3 = P 3) (e4 : P' 4 = P 4) (e5 : P' 5 = P 5) : rf_h P' m' := by unfold rf_h; rw [e, e0, e2, e3, e4, e5]; exact h
theorem fr_i (h : rf_i P S m) (e : m' 19 = m 19) (e3 : P' 3 = P 3) (e4 : P' 4 = P 4) (e5 : P' 5 = P 5) (e6 : P' 6 = P 6) (e9 : P' 9 = P 9) (e2 : S' 2 = S 2) : rf_i P' S' m' := by unfold rf_i; rw [e, e3, e4, e5, e6, e9, e2]; exact h
/-- one more roof -/
theorem rf_roof (h : rg_A R P S m) (hn : P 0 0 < 4) (hv : 1 ≤ v ∧ v ≤ 9) (hw : 0 ≤ w ∧ w < 5) (h5 : R' 5 = R 5) (hm : ∀ f : Nat, f ≠ 12 → f ≠ 16 → f ≠ 18 → (f < 24 ∨ 29 < f) → m' f = m f) (h12 : m' 12 = ob_u (ob_u m 12 (2 * P 0 0) v) 12 (2 * P 0 0 + 1) w 12) (h16 : m' 16 = ob_u m 16 0 (P 0 0 + 1) 16) (h18 : m' 18 0 = if m 18 0 < w then w else m 18 0) (hP : ∀ f : Nat, f ≠ 0 → f ≠ 1 → f ≠ 2 → P' f = P f) (p0 : P' 0 0 = P 0 0 + 1) (p1 : P' 1 = ob_u P 1 (P 0 0) v 1) (p2 : P' 2 = ob_u P 2 (P 0 0) w 2) : rg_A R' P' S m' := by
  obtain ⟨hc, hr, hg, hs, hw', ht, hz, ho, hp, hh, hi⟩ := h
  have m11 : m' 11 = m 11 := hm 11 (by decide) (by decide) (by decide) (by decide)
  have q3 : P' 3 = P 3 := hP 3 (by decide) (by decide) (by decide)
  have q4 : P' 4 = P 4 := hP 4 (by decide) (by decide) (by decide)
  have q5 : P' 5 = P 5 := hP 5 (by decide) (by decide) (by decide)
  have q6 : P' 6 = P 6 := hP 6 (by decide) (by decide) (by decide)
  have q7 : P' 7 = P 7 := hP 7 (by decide) (by decide) (by decide)
  have q8 : P' 8 = P 8 := hP 8 (by decide) (by decide) (by decide)
  have q9 : P' 9 = P 9 := hP 9 (by decide) (by decide) (by decide)
  have q10 : P' 10 = P 10 := hP 10 (by decide) (by decide) (by decide)
  have q11 : P' 11 = P 11 := hP 11 (by decide) (by decide) (by decide)
  refine ⟨?_, ?_, fr_g hg (hm 13 (by decide) (by decide) (by decide) (by decide)) q3 q4 q5, fr_s hs hc.2.2.1.2.2 (hm 14 (by decide) (by decide) (by decide) (by decide)) (fun j _ _ => by rw [m11]) q6 q7 q8 q9 rfl, fr_w hw' hc.2.2.2.1.2.2 (fun j _ _ => by rw [m11]) q10 (fun _ _ => rfl), fr_t ht (fun j _ _ => by rw [m11]) rfl rfl, fr_z hz (hm 15 (by decide) (by decide) (by decide) (by decide)) q11 (hP 12 (by decide) (by decide) (by decide)) (hP 13 (by decide) (by decide) (by decide)) (hP 14 (by decide) (by decide) (by decide)), fr_o ho (hm 17 (by decide) (by decide) (by decide) (by decide)) (hm 20 (by decide) (by decide) (by decide) (by decide)) (hP 15 (by decide) (by decide) (by decide)) h5 rfl, fr_p hp hc.2.1.2 hc.2.2.1.2.1 (fun j _ => by rw [m11]) q3 q6 rfl rfl, ?_, fr_i hi (hm 19 (by decide) (by decide) (by decide) (by decide)) q3 q4 q5 q6 q9 rfl⟩
  · unfold rf_c at hc ⊢
    rw [h16, p0, q3, q6, q10, q11, ou_s, ou_i (by decide), ou_i (by decide), ou_i (by decide), ou_i (by decide)]
    exact ⟨⟨rfl, by omega, by omega⟩, hc.2⟩
  · intro r a b
    rw [p0] at b
    by_cases c : r = P 0 0
    · refine ⟨?_, ?_, ?_, ?_⟩
      · rw [c, h12, p1, ou_i (by omega), ou_s, ou_s]
      · rw [c, h12, p2, ou_s, ou_s]
      · rw [c, p1, ou_s]; exact hv
      · rw [c, p2, ou_s]; exact hw
    · have hq := hr r a (by omega)
      rw [h12, p1, p2, ou_i (i' := 2 * r) (by omega), ou_i (i' := 2 * r) (by omega), ou_i (i' := 2 * r + 1) (by omega), ou_i (i' := 2 * r + 1) (by omega), ou_i c, ou_i c]
      exact hq
  · have hc0 := hc.1
    refine ⟨?_, fun N hN => ?_⟩
    · rw [h18]; have := hh.1; split <;> omega
    · have hk := hh.2 N hN
      rw [h18, q3, q4, q5, p0, p2]
      have e : (if m 18 0 < w then w else m 18 0) < N ↔ m 18 0 < N ∧ w < N := by split <;> omega
      rw [e, hk]
      constructor
      · rintro ⟨⟨k1, k2⟩, k3⟩
        refine ⟨fun r a b => ?_, k2⟩
        rw [ou_a]
        by_cases c : r = P 0 0
        · rw [if_pos c]; exact k3
        · rw [if_neg c]; exact k1 r a (by omega)
      · rintro ⟨k1, k2⟩
        refine ⟨⟨fun r a b => ?_, k2⟩, ?_⟩
        · have := k1 r a (by omega)
          rw [ou_i (by omega)] at this
          exact this
        · have := k1 (P 0 0) (by omega) (by omega)
          rw [ou_s] at this
          exact this
/-- one more gutter -/
theorem rf_peg (h : rg_A R P S m) (hn : P 3 0 < 5) (hv : so_way v) (hw : so_way w) (h5 : R' 5 = R 5) (hm : ∀ f : Nat, f ≠ 11 → f ≠ 13 → f ≠ 16 → f ≠ 18 → f ≠ 19 → (f < 24 ∨ 29 < f) → m' f = m f) (h11 : m' 11 = ob_u m 11 (P 3 0) 2 11) (h13 : m' 13 = ob_u (ob_u m 13 (2 * P 3 0) v) 13 (2 * P 3 0 + 1) w 13) (h16 : m' 16 = ob_u m 16 1 (P 3 0 + 1) 16) (h18 : m' 18 0 = if w < 5 ∧ (if v < 5 ∧ m 18 0 < v then v else m 18 0) < w then w else (if v < 5 ∧ m 18 0 < v then v else m 18 0)) (h19 : m' 19 0 = if 10 ≤ w ∧ w < 18 ∧ (if 10 ≤ v ∧ v < 18 ∧ m 19 0 < v - 10 then v - 10 else m 19 0) < w - 10 then w - 10 else (if 10 ≤ v ∧ v < 18 ∧ m 19 0 < v - 10 then v - 10 else m 19 0)) (hP : ∀ f : Nat, f ≠ 3 → f ≠ 4 → f ≠ 5 → P' f = P f) (p3 : P' 3 0 = P 3 0 + 1) (p4 : P' 4 = ob_u P 4 (P 3 0) v 4) (p5 : P' 5 = ob_u P 5 (P 3 0) w 5) : rg_A R' P' S m' := by
  obtain ⟨hc, hr, hg, hs, hw', ht, hz, ho, hp, hh, hi⟩ := h
  have hm' : ∀ f : Nat, f ≠ 11 ∧ f ≠ 13 ∧ f ≠ 16 ∧ f ≠ 18 ∧ f ≠ 19 ∧ (f < 24 ∨ 29 < f) → m' f = m f := fun f q => hm f q.1 q.2.1 q.2.2.1 q.2.2.2.1 q.2.2.2.2.1 q.2.2.2.2.2
  have hP' : ∀ f : Nat, f ≠ 3 ∧ f ≠ 4 ∧ f ≠ 5 → P' f = P f := fun f q => hP f q.1 q.2.1 q.2.2
  have m11 : ∀ j : Int, j ≠ P 3 0 → m' 11 j = m 11 j := fun j q => by rw [h11, ou_i q]
  have c3 := hc.2.1.2
  refine ⟨?_, fr_r hr (hm' 12 (by decide)) (hP' 0 (by decide)) (hP' 1 (by decide)) (hP' 2 (by decide)), ?_, fr_s hs hc.2.2.1.2.2 (hm' 14 (by decide)) (fun j _ _ => m11 j (by omega)) (hP' 6 (by decide)) (hP' 7 (by decide)) (hP' 8 (by decide)) (hP' 9 (by decide)) rfl, fr_w hw' hc.2.2.2.1.2.2 (fun j _ _ => m11 j (by omega)) (hP' 10 (by decide)) (fun _ _ => rfl), fr_t ht (fun j _ _ => m11 j (by omega)) rfl rfl, fr_z hz (hm' 15 (by decide)) (hP' 11 (by decide)) (hP' 12 (by decide)) (hP' 13 (by decide)) (hP' 14 (by decide)), fr_o ho (hm' 17 (by decide)) (hm' 20 (by decide)) (hP' 15 (by decide)) h5 rfl, ?_, ?_, ?_⟩
  · unfold rf_c at hc ⊢
    rw [h16, p3, hP' 0 (by decide), hP' 6 (by decide), hP' 10 (by decide), hP' 11 (by decide), ou_s, ou_i (by decide), ou_i (by decide), ou_i (by decide), ou_i (by decide)]
    exact ⟨hc.1, ⟨rfl, by omega, by omega⟩, hc.2.2⟩
  · intro g a b
    rw [p3] at b
    by_cases c : g = P 3 0
    · refine ⟨?_, ?_, ?_, ?_⟩
      · rw [c, h13, p4, ou_i (by omega), ou_s, ou_s]
      · rw [c, h13, p5, ou_s, ou_s]
      · rw [c, p4, ou_s]; exact hv
      · rw [c, p5, ou_s]; exact hw
    · have hq := hg g a (by omega)
      rw [h13, p4, p5, ou_i (i' := 2 * g) (by omega), ou_i (i' := 2 * g) (by omega), ou_i (i' := 2 * g + 1) (by omega), ou_i (i' := 2 * g + 1) (by omega), ou_i c, ou_i c]
      exact hq
  · unfold rf_p
    rw [hP' 6 (by decide), p3]
    refine ⟨fun g a b => ?_, fun g a b => ?_, fun j a b => ?_, fun s a b => ?_, hp.2.2.2.2⟩
    · rw [h11, ou_a]
      by_cases c : g = P 3 0
      · rw [if_pos c]
      · rw [if_neg c]; exact hp.1 g a (by omega)
    · rw [m11 _ (by omega)]; exact hp.2.1 g a b
    · rw [m11 _ (by omega)]; exact hp.2.2.1 j a b
    · have := hc.2.2.1.2
      rw [m11 _ (by omega)]; exact hp.2.2.2.1 s a b
  · have hh1 := hh.1
    refine ⟨?_, fun N hN => ?_⟩
    · rw [h18]; repeat' split
      all_goals omega
    · have hk := hh.2 N hN
      rw [h18, hP' 0 (by decide), hP' 2 (by decide), p3, p4, p5]
      have e : (if w < 5 ∧ (if v < 5 ∧ m 18 0 < v then v else m 18 0) < w then w else (if v < 5 ∧ m 18 0 < v then v else m 18 0)) < N ↔ m 18 0 < N ∧ (v < 5 → v < N) ∧ (w < 5 → w < N) := by
        generalize m 18 0 = q
        repeat' split
        all_goals omega
      rw [e, hk]
      constructor
      · rintro ⟨⟨k1, k2⟩, k3, k4⟩
        refine ⟨k1, fun g a b => ?_⟩
        rw [ou_a, ou_a]
        by_cases c : g = P 3 0
        · rw [if_pos c, if_pos c]; exact ⟨k3, k4⟩
        · rw [if_neg c, if_neg c]; exact k2 g a (by omega)
      · rintro ⟨k1, k2⟩
        have h0 := k2 (P 3 0) (by omega) (by omega)
        rw [ou_s, ou_s] at h0
        refine ⟨⟨k1, fun g a b => ?_⟩, h0⟩
        have := k2 g a (by omega)
        rw [ou_i (by omega), ou_i (by omega)] at this
        exact this
  · have hi1 := hi.1
    refine ⟨?_, fun N hN => ?_⟩
    · rw [h19]; repeat' split
      all_goals omega
    · have hk := hi.2 N hN
      rw [h19, hP' 6 (by decide), hP' 9 (by decide), p3, p4, p5]
      have e : (if 10 ≤ w ∧ w < 18 ∧ (if 10 ≤ v ∧ v < 18 ∧ m 19 0 < v - 10 then v - 10 else m 19 0) < w - 10 then w - 10 else (if 10 ≤ v ∧ v < 18 ∧ m 19 0 < v - 10 then v - 10 else m 19 0)) < N ↔ m 19 0 < N ∧ (10 ≤ v → v < 18 → v - 10 < N) ∧ (10 ≤ w → w < 18 → w - 10 < N) := by
        generalize m 19 0 = q
        repeat' split
        all_goals omega
      rw [e, hk]
      constructor
      · rintro ⟨⟨k1, k2⟩, k3, k4⟩
        refine ⟨fun g a b => ?_, k2⟩
        rw [ou_a, ou_a]
        by_cases c : g = P 3 0
        · rw [if_pos c, if_pos c]; exact ⟨k3, k4⟩
        · rw [if_neg c, if_neg c]; exact k1 g a (by omega)
      · rintro ⟨k1, k2⟩
        have h0 := k1 (P 3 0) (by omega) (by omega)
        rw [ou_s, ou_s] at h0
        refine ⟨⟨fun g a b => ?_, k2⟩, h0⟩
        have := k1 g a (by omega)
        rw [ou_i (by omega), ou_i (by omega)] at this
        exact this
/-- one more spout -/
theorem rf_spt {mc mc' Pc : ob_O} (h : rg_A R P S m) (hn : P 6 0 < 8) (hv : 0 ≤ v ∧ v < 8) (h5 : R' 5 = R 5) (hm : ∀ f : Nat, f ≠ 11 ∧ f ≠ 14 ∧ f ≠ 16 ∧ f ≠ 19 ∧ (f < 24 ∨ 29 < f) → m' f = m f) (h14 : m' 14 = ob_u m 14 (P 6 0) v 14) (h16 : m' 16 = ob_u m 16 2 (P 6 0 + 1) 16) (hcu : so_cu (ob_u P 7 (P 6 0) v) S mc Pc S' mc' (P 6 0)) (hc1 : mc 11 = m 11) (hc2 : mc 19 0 = m 19 0) (hm11 : m' 11 = mc' 11) (hm19 : m' 19 0 = mc' 19 0) (hP6 : ∀ f : Nat, f ≠ 6 → P' f = Pc f) (p6 : P' 6 0 = P 6 0 + 1) : rg_A R' P' S' m' := by
  obtain ⟨hc, hr, hg, hs, hw', ht, hz, ho, hp, hh, hi⟩ := h
  obtain ⟨u1, u2, u3, u4, u5, u6, u7, u8, u9, u10, u11, u12⟩ := hcu
  have hP : ∀ f : Nat, f ≠ 6 ∧ f ≠ 7 ∧ f ≠ 8 ∧ f ≠ 9 → P' f = P f := fun f q => by rw [hP6 f q.1, u1 f q.2.2.1 q.2.2.2, ou_ff q.2.1]
  have p7 : P' 7 = ob_u P 7 (P 6 0) v 7 := by rw [hP6 7 (by decide), u1 7 (by decide) (by decide)]
  have p8 : ∀ j : Int, j ≠ P 6 0 → P' 8 j = P 8 j := fun j q => by rw [hP6 8 (by decide), (u2 j q).1, ou_f (by decide)]
  have p9 : ∀ j : Int, j ≠ P 6 0 → P' 9 j = P 9 j := fun j q => by rw [hP6 9 (by decide), (u2 j q).2, ou_f (by decide)]
  have c6 := hc.2.2.1.2
  have j11 : ∀ j : Int, j ≠ 10 + P 6 0 → j ≠ 18 + P 6 0 → j ≠ 26 + P 6 0 → m' 11 j = m 11 j := fun j a b c => by rw [hm11, u11 j a b c, hc1]
  rw [hc1] at u8
  rw [hc2] at u9 u10
  have z18 := hp.2.2.2.1 (P 6 0) (by omega) hn
  rw [← hP6 8 (by decide)] at u7
  rw [← hP6 9 (by decide)] at u9
  rw [← hm11] at u6 u7 u8 u9 u10
  rw [← hm19] at u9 u10
  refine ⟨?_, fr_r hr (hm 12 (by decide)) (hP 0 (by decide)) (hP 1 (by decide)) (hP 2 (by decide)), fr_g hg (hm 13 (by decide)) (hP 3 (by decide)) (hP 4 (by decide)) (hP 5 (by decide)), ?_, fr_w hw' hc.2.2.2.1.2.2 (fun j _ _ => j11 j (by omega) (by omega) (by omega)) (hP 10 (by decide)) (fun f q => u3 f (by omega)), fr_t ht (fun j _ _ => j11 j (by omega) (by omega) (by omega)) (u3 5 (by decide)) (u3 6 (by decide)), fr_z hz (hm 15 (by decide)) (hP 11 (by decide)) (hP 12 (by decide)) (hP 13 (by decide)) (hP 14 (by decide)), fr_o ho (hm 17 (by decide)) (hm 20 (by decide)) (hP 15 (by decide)) h5 (u3 6 (by decide)), ?_, fr_h hh (hm 18 (by decide)) (hP 0 (by decide)) (hP 2 (by decide)) (hP 3 (by decide)) (hP 4 (by decide)) (hP 5 (by decide)), ?_⟩
  · unfold rf_c at hc ⊢
    rw [h16, p6, hP 0 (by decide), hP 3 (by decide), hP 10 (by decide), hP 11 (by decide), ou_s, ou_i (by decide), ou_i (by decide), ou_i (by decide), ou_i (by decide)]
    exact ⟨hc.1, hc.2.1, ⟨rfl, by omega, by omega⟩, hc.2.2.2⟩
  · intro s a b
    rw [p6] at b
    rw [h14, p7, ou_a, ou_a]
    by_cases c : s = P 6 0
    · rw [c, if_pos rfl, if_pos rfl]
      exact ⟨rfl, hv, u6, u5, u7, fun q => (u8 q).trans z18, fun q => ⟨(u9 q).1, (u9 q).2.1⟩, fun q => (u10 q).1⟩
    · rw [if_neg c, if_neg c, u4 s c, p8 s c, p9 s c, j11 (10 + s) (by omega) (by omega) (by omega), j11 (18 + s) (by omega) (by omega) (by omega), j11 (26 + s) (by omega) (by omega) (by omega)]
      exact hs s a (by omega)
  · unfold rf_p
    have c3 := hc.2.1.2
    rw [hP 3 (by decide), p6, u3 0 (by decide), u3 1 (by decide)]
    refine ⟨fun g a b => ?_, fun g a b => ?_, fun j a b => ?_, fun s a b => ?_, hp.2.2.2.2⟩
    · rw [j11 _ (by omega) (by omega) (by omega)]; exact hp.1 g a b
    · rw [j11 _ (by omega) (by omega) (by omega)]; exact hp.2.1 g a b
    · rw [j11 _ (by omega) (by omega) (by omega)]; exact hp.2.2.1 j a b
    · rw [j11 _ (by omega) (by omega) (by omega)]; exact hp.2.2.2.1 s (by omega) b
  · have hi1 := hi.1
    by_cases c4 : S' 2 (P 6 0) = 4
    · obtain ⟨-, b1, b2⟩ := u9 c4
      refine ⟨?_, fun N hN => ?_⟩
      · rw [b2]; split <;> omega
      · have hk := hi.2 N hN
        have e : m' 19 0 < N ↔ m 19 0 < N ∧ P' 9 (P 6 0) < N := by rw [b2]; split <;> omega
        rw [e, hk, hP 3 (by decide), hP 4 (by decide), hP 5 (by decide), p6]
        constructor
        · rintro ⟨⟨k1, k2⟩, k3⟩
          refine ⟨k1, fun s a b q => ?_⟩
          by_cases c : s = P 6 0
          · rw [c]; exact k3
          · rw [p9 s c]; rw [u4 s c] at q; exact k2 s a (by omega) q
        · rintro ⟨k1, k2⟩
          refine ⟨⟨k1, fun s a b q => ?_⟩, k2 _ (by omega) (by omega) c4⟩
          rw [← p9 s (by omega)]
          exact k2 s a (by omega) (by rw [u4 s (by omega)]; exact q)
    · obtain ⟨-, b2⟩ := u10 c4
      refine ⟨by rw [b2]; exact hi1, fun N hN => ?_⟩
      have hk := hi.2 N hN
      rw [b2, hk, hP 3 (by decide), hP 4 (by decide), hP 5 (by decide), p6]
      constructor
      · rintro ⟨k1, k2⟩
        refine ⟨k1, fun s a b q => ?_⟩
        by_cases c : s = P 6 0
        · rw [c] at q; exact absurd q c4
        · rw [p9 s c]; rw [u4 s c] at q; exact k2 s a (by omega) q
      · rintro ⟨k1, k2⟩
        refine ⟨k1, fun s a b q => ?_⟩
        rw [← p9 s (by omega)]
        exact k2 s a (by omega) (by rw [u4 s (by omega)]; exact q)
/-- one more shower -/
theorem rf_rain (h : rg_A R P S m) (hn : P 10 0 < 3) (hx : 1 ≤ n ∧ n ≤ 12) (h5 : R' 5 = R 5) (hm : ∀ f : Nat, f ≠ 11 ∧ f ≠ 16 ∧ (f < 24 ∨ 29 < f) → m' f = m f) (h16 : m' 16 = ob_u m 16 3 (P 10 0 + 1) 16) (hj : ∀ j : Int, (j < 34 + 13 * P 10 0 ∨ 34 + 13 * P 10 0 + 13 ≤ j) → m' 11 j = m 11 j) (h11 : m' 11 (34 + 13 * P 10 0) = n) (hent : ∀ i : Int, 0 ≤ i → i < n → m' 11 (34 + 13 * P 10 0 + 1 + i) = S' (20 + (P 10 0).toNat) i ∧ 0 ≤ S' (20 + (P 10 0).toNat) i ∧ S' (20 + (P 10 0).toNat) i ≤ 9) (hS : ∀ f : Nat, f ≠ 3 → f ≠ 20 + (P 10 0).toNat → S' f = S f) (hS3 : S' 3 = ob_u S 3 (P 10 0) n 3) (hP : ∀ f : Nat, f ≠ 10 → P' f = P f) (p10 : P' 10 0 = P 10 0 + 1) : rg_A R' P' S' m' := by
  obtain ⟨hc, hr, hg, hs, hw', ht, hz, ho, hp, hh, hi⟩ := h
  have c10 := hc.2.2.2.1.2
  have s0 : S' 0 = S 0 := hS 0 (by decide) (by omega)
  have s1 : S' 1 = S 1 := hS 1 (by decide) (by omega)
  have s2 : S' 2 = S 2 := hS 2 (by decide) (by omega)
  have s5 : S' 5 = S 5 := hS 5 (by decide) (by omega)
  have s6 : S' 6 = S 6 := hS 6 (by decide) (by omega)
  refine ⟨?_, fr_r hr (hm 12 (by decide)) (hP 0 (by decide)) (hP 1 (by decide)) (hP 2 (by decide)), fr_g hg (hm 13 (by decide)) (hP 3 (by decide)) (hP 4 (by decide)) (hP 5 (by decide)), fr_s hs hc.2.2.1.2.2 (hm 14 (by decide)) (fun j _ _ => hj j (by omega)) (hP 6 (by decide)) (hP 7 (by decide)) (hP 8 (by decide)) (hP 9 (by decide)) s2, ?_, fr_t ht (fun j _ _ => hj j (by omega)) s5 s6, fr_z hz (hm 15 (by decide)) (hP 11 (by decide)) (hP 12 (by decide)) (hP 13 (by decide)) (hP 14 (by decide)), fr_o ho (hm 17 (by decide)) (hm 20 (by decide)) (hP 15 (by decide)) h5 s6, fr_p hp hc.2.1.2 hc.2.2.1.2.1 (fun j _ => hj j (by omega)) (hP 3 (by decide)) (hP 6 (by decide)) s0 s1, fr_h hh (hm 18 (by decide)) (hP 0 (by decide)) (hP 2 (by decide)) (hP 3 (by decide)) (hP 4 (by decide)) (hP 5 (by decide)), fr_i hi (hm 19 (by decide)) (hP 3 (by decide)) (hP 4 (by decide)) (hP 5 (by decide)) (hP 6 (by decide)) (hP 9 (by decide)) s2⟩
  · unfold rf_c at hc ⊢
    rw [h16, p10, hP 0 (by decide), hP 3 (by decide), hP 6 (by decide), hP 11 (by decide), ou_s, ou_i (by decide), ou_i (by decide), ou_i (by decide), ou_i (by decide)]
    exact ⟨hc.1, hc.2.1, hc.2.2.1, ⟨rfl, by omega, by omega⟩, hc.2.2.2.2⟩
  · intro w a b
    rw [p10] at b
    rw [hS3, ou_a]
    by_cases c : w = P 10 0
    · rw [c, if_pos rfl]
      exact ⟨h11, hx, hent⟩
    · have hq := hw' w a (by omega)
      rw [if_neg c, hj _ (by omega), hS (20 + w.toNat) (by omega) (by omega)]
      refine ⟨hq.1, hq.2.1, fun i x y => ?_⟩
      rw [hj _ (by omega)]
      exact hq.2.2 i x y
/-- the tune -/
theorem rf_tune (h : rg_A R P S m) (h0 : S 6 0 = 0) (hx : 1 ≤ n ∧ n ≤ 12) (h5 : R' 5 = R 5) (hm : ∀ f : Nat, f ≠ 11 ∧ f ≠ 20 ∧ (f < 24 ∨ 29 < f) → m' f = m f) (h20 : m' 20 0 = m 20 0 + 32) (hj : ∀ j : Int, (j < 73 ∨ 86 ≤ j) → m' 11 j = m 11 j) (h11 : m' 11 73 = n) (hent : ∀ i : Int, 0 ≤ i → i < n → m' 11 (73 + 1 + i) = S' 5 i ∧ 0 ≤ S' 5 i ∧ S' 5 i ≤ 255) (hS : ∀ f : Nat, f ≠ 5 → f ≠ 6 → S' f = S f) (hS6 : S' 6 0 = n) : rg_A R' P S' m' := by
  obtain ⟨hc, hr, hg, hs, hw', ht, hz, ho, hp, hh, hi⟩ := h
  refine ⟨fr_c hc (hm 16 (by decide)) rfl rfl rfl rfl rfl, fr_r hr (hm 12 (by decide)) rfl rfl rfl, fr_g hg (hm 13 (by decide)) rfl rfl rfl, fr_s hs hc.2.2.1.2.2 (hm 14 (by decide)) (fun j _ _ => hj j (by omega)) rfl rfl rfl rfl (hS 2 (by decide) (by decide)), fr_w hw' hc.2.2.2.1.2.2 (fun j _ _ => hj j (by omega)) rfl (fun f q => hS f (by omega) (by omega)), ?_, fr_z hz (hm 15 (by decide)) rfl rfl rfl rfl, ?_, fr_p hp hc.2.1.2 hc.2.2.1.2.1 (fun j _ => hj j (by omega)) rfl rfl (hS 0 (by decide) (by decide)) (hS 1 (by decide) (by decide)), fr_h hh (hm 18 (by decide)) rfl rfl rfl rfl rfl, fr_i hi (hm 19 (by decide)) rfl rfl rfl rfl rfl (hS 2 (by decide) (by decide))⟩
  · unfold rf_t
    rw [hS6]
    exact ⟨by omega, h11, hent⟩
  · unfold rf_o at ho ⊢
    have e1 : (if 0 < S 6 0 then (32 : Int) else 0) = 0 := if_neg (by omega)
    have e2 : (if 0 < n then (32 : Int) else 0) = 32 := if_pos (by omega)
    rw [hm 17 (by decide), h20, h5, hS6, e2]
    have h4 := ho.2.2.2
    rw [e1] at h4
    exact ⟨ho.1, ho.2.1, ho.2.2.1, by omega⟩
/-- one more sleeper -/
theorem rf_slp (h : rg_A R P S m) (hn : P 11 0 < 4) (hx : 0 ≤ x ∧ x ≤ y ∧ y ≤ 11) (hz' : 1 ≤ z ∧ z ≤ 99) (h5 : R' 5 = R 5) (hm : ∀ f : Nat, f ≠ 15 ∧ f ≠ 16 ∧ (f < 24 ∨ 29 < f) → m' f = m f) (h15 : m' 15 = ob_u (ob_u (ob_u m 15 (3 * P 11 0) x) 15 (3 * P 11 0 + 1) y) 15 (3 * P 11 0 + 2) z 15) (h16 : m' 16 = ob_u m 16 4 (P 11 0 + 1) 16) (hP : ∀ f : Nat, f ≠ 11 ∧ f ≠ 12 ∧ f ≠ 13 ∧ f ≠ 14 → P' f = P f) (p11 : P' 11 0 = P 11 0 + 1) (p12 : P' 12 = ob_u P 12 (P 11 0) x 12) (p13 : P' 13 = ob_u P 13 (P 11 0) y 13) (p14 : P' 14 = ob_u P 14 (P 11 0) z 14) : rg_A R' P' S m' := by
  obtain ⟨hc, hr, hg, hs, hw', ht, hz, ho, hp, hh, hi⟩ := h
  have m11 : m' 11 = m 11 := hm 11 (by decide)
  have c11 := hc.2.2.2.2.2
  refine ⟨?_, fr_r hr (hm 12 (by decide)) (hP 0 (by decide)) (hP 1 (by decide)) (hP 2 (by decide)), fr_g hg (hm 13 (by decide)) (hP 3 (by decide)) (hP 4 (by decide)) (hP 5 (by decide)), fr_s hs hc.2.2.1.2.2 (hm 14 (by decide)) (fun j _ _ => by rw [m11]) (hP 6 (by decide)) (hP 7 (by decide)) (hP 8 (by decide)) (hP 9 (by decide)) rfl, fr_w hw' hc.2.2.2.1.2.2 (fun j _ _ => by rw [m11]) (hP 10 (by decide)) (fun _ _ => rfl), fr_t ht (fun j _ _ => by rw [m11]) rfl rfl, ?_, fr_o ho (hm 17 (by decide)) (hm 20 (by decide)) (hP 15 (by decide)) h5 rfl, fr_p hp hc.2.1.2 hc.2.2.1.2.1 (fun j _ => by rw [m11]) (hP 3 (by decide)) (hP 6 (by decide)) rfl rfl, fr_h hh (hm 18 (by decide)) (hP 0 (by decide)) (hP 2 (by decide)) (hP 3 (by decide)) (hP 4 (by decide)) (hP 5 (by decide)), fr_i hi (hm 19 (by decide)) (hP 3 (by decide)) (hP 4 (by decide)) (hP 5 (by decide)) (hP 6 (by decide)) (hP 9 (by decide)) rfl⟩
  · unfold rf_c at hc ⊢
    rw [h16, p11, hP 0 (by decide), hP 3 (by decide), hP 6 (by decide), hP 10 (by decide), ou_s, ou_i (by decide), ou_i (by decide), ou_i (by decide), ou_i (by decide)]
    exact ⟨hc.1, hc.2.1, hc.2.2.1, hc.2.2.2.1, ⟨rfl, by omega, by omega⟩⟩
  · intro k a b
    rw [p11] at b
    by_cases c : k = P 11 0
    · refine ⟨?_, ?_, ?_, ?_⟩
      · rw [c, h15, p12, ou_i (by omega), ou_i (by omega), ou_s, ou_s]
      · rw [c, h15, p13, ou_i (by omega), ou_s, ou_s]
      · rw [c, h15, p14, ou_s, ou_s]
      · rw [c, p12, p13, p14, ou_s, ou_s, ou_s]; omega
    · have hq := hz k a (by omega)
      rw [h15, p12, p13, p14, ou_i (i' := 3 * k) (by omega), ou_i (i' := 3 * k) (by omega), ou_i (i' := 3 * k) (by omega), ou_i (i' := 3 * k + 1) (by omega), ou_i (i' := 3 * k + 1) (by omega), ou_i (i' := 3 * k + 1) (by omega), ou_i (i' := 3 * k + 2) (by omega), ou_i (i' := 3 * k + 2) (by omega), ou_i (i' := 3 * k + 2) (by omega), ou_i c, ou_i c, ou_i c]
      exact hq
/-- wear -/
theorem rf_wear (h : rg_A R P S m) (h0 : R 5 0 = 0) (hv : 0 ≤ v ∧ v ≤ 999) (h5 : R' 5 0 = 1) (hm : ∀ f : Nat, f ≠ 17 ∧ f ≠ 20 ∧ (f < 24 ∨ 29 < f) → m' f = m f) (h17 : m' 17 0 = v) (h20 : m' 20 0 = m 20 0 + 64) (hP : ∀ f : Nat, f ≠ 15 → P' f = P f) (p15 : P' 15 0 = v) : rg_A R' P' S m' := by
  obtain ⟨hc, hr, hg, hs, hw', ht, hz, ho, hp, hh, hi⟩ := h
  have m11 : m' 11 = m 11 := hm 11 (by decide)
  refine ⟨fr_c hc (hm 16 (by decide)) (hP 0 (by decide)) (hP 3 (by decide)) (hP 6 (by decide)) (hP 10 (by decide)) (hP 11 (by decide)), fr_r hr (hm 12 (by decide)) (hP 0 (by decide)) (hP 1 (by decide)) (hP 2 (by decide)), fr_g hg (hm 13 (by decide)) (hP 3 (by decide)) (hP 4 (by decide)) (hP 5 (by decide)), fr_s hs hc.2.2.1.2.2 (hm 14 (by decide)) (fun j _ _ => by rw [m11]) (hP 6 (by decide)) (hP 7 (by decide)) (hP 8 (by decide)) (hP 9 (by decide)) rfl, fr_w hw' hc.2.2.2.1.2.2 (fun j _ _ => by rw [m11]) (hP 10 (by decide)) (fun _ _ => rfl), fr_t ht (fun j _ _ => by rw [m11]) rfl rfl, fr_z hz (hm 15 (by decide)) (hP 11 (by decide)) (hP 12 (by decide)) (hP 13 (by decide)) (hP 14 (by decide)), ?_, fr_p hp hc.2.1.2 hc.2.2.1.2.1 (fun j _ => by rw [m11]) (hP 3 (by decide)) (hP 6 (by decide)) rfl rfl, fr_h hh (hm 18 (by decide)) (hP 0 (by decide)) (hP 2 (by decide)) (hP 3 (by decide)) (hP 4 (by decide)) (hP 5 (by decide)), fr_i hi (hm 19 (by decide)) (hP 3 (by decide)) (hP 4 (by decide)) (hP 5 (by decide)) (hP 6 (by decide)) (hP 9 (by decide)) rfl⟩
  unfold rf_o at ho ⊢
  rw [h17, h20, h5, p15, ho.2.2.2, h0]
  exact ⟨rfl, hv, Or.inr rfl, by omega⟩
end th
end mg_68th
section mg_69ti
/-! lines of the reference -/
section ti
variable {Z Y : dz_Z} {p s : Nat} {R R' P S T m m' m1 m2 m3 m4 m5 : ob_O} {a b e k i v st x y z lo hi w g N n : Int}
theorem th_0 (hn : m 16 0 = n) (hb : 0 ≤ n ∧ n < 4) (h1 : ∀ Y, jf_M_step (ob_z Y 114 m) = some (ob_z Y 114 m1)) (h2 : ∀ Y, jf_M_number 1 9 (ob_z Y 114 m1) = some (v, ob_z Y 114 m2)) (h3 : ∀ Y, jf_M_number 0 4 (ob_z Y 114 (ob_u m2 12 (2 * n) v)) = some (w, ob_z Y 114 m3)) (hx : x = if dz_c w ≤ dz_c (m3 18 0) then m3 18 0 else w) (h16 : m3 16 0 = n) : ∀ Y, jf_M_readThing 0 (ob_z Y 114 m) = some (ob_z Y 114 (ob_u (ob_u (ob_u m3 12 (2 * n + 1) w) 18 0 x) 16 0 (n + 1))) := by
  intro Y
  unfold jf_M_readThing
  rw [show dz_c (0 : Int) = 0 by decide, oz_s, hn, dz_ci (x := n) (by omega) (by omega), dz_ci (x := 2 * n) (by omega) (by omega), dz_ci (x := 2 * n + 1) (by omega) (by omega), if_pos (by decide), if_neg (by decide), Option.bind_some, if_pos (by rw [show dz_c (4 : Int) = 4 by decide]; omega), h1, Option.bind_some, if_neg (by decide), h2, Option.bind_some, if_pos (by omega)]
  simp only [dz_a, oz_uz]
  rw [h3, Option.bind_some, if_pos (by omega)]
  simp only [oz_uz, oz_s, ou_s, ou_f (show (18 : Nat) ≠ 12 by decide)]
  by_cases c : dz_c w ≤ dz_c (m3 18 0)
  · rw [if_pos c] at hx
    rw [if_pos c, Option.bind_some, hx]
    simp only [oz_s, oz_uz, ou_f (show (16 : Nat) ≠ 18 by decide), ou_f (show (16 : Nat) ≠ 12 by decide), h16]
  · rw [if_neg c] at hx
    rw [if_neg c, Option.bind_some, hx]
    simp only [oz_s, oz_uz, ou_f (show (16 : Nat) ≠ 18 by decide), ou_f (show (16 : Nat) ≠ 12 by decide), h16]
theorem th_1 (hn : m 16 1 = n) (hb : 0 ≤ n ∧ n < 5) (h1 : ∀ Y, jf_M_step (ob_z Y 114 m) = some (ob_z Y 114 m1)) (h2 : ∀ Y, jf_M_readWay n (ob_z Y 114 m1) = some (v, ob_z Y 114 m2)) (h3 : ∀ Y, jf_M_readWay n (ob_z Y 114 (ob_u m2 13 (2 * n) v)) = some (w, ob_z Y 114 m3)) (h16 : m3 16 1 = n) : ∀ Y, jf_M_readThing 1 (ob_z Y 114 m) = some (ob_z Y 114 (ob_u (ob_u (ob_u m3 13 (2 * n + 1) w) 11 n 2) 16 1 (n + 1))) := by
  intro Y
  unfold jf_M_readThing
  rw [show dz_c (1 : Int) = 1 by decide, oz_s, hn, show (0 : Int) + n = n by omega, dz_ci (x := n) (by omega) (by omega), dz_ci (x := 2 * n) (by omega) (by omega), dz_ci (x := 2 * n + 1) (by omega) (by omega), if_pos (by decide), if_pos (by decide), if_neg (by decide), Option.bind_some, if_pos (by rw [show dz_c (5 : Int) = 5 by decide]; omega), h1, Option.bind_some, if_pos (by decide), if_neg (by decide), h2, Option.bind_some, if_pos (by omega)]
  simp only [dz_a, oz_uz]
  rw [h3, Option.bind_some, if_pos (by omega)]
  simp only [oz_uz, oz_s]
  rw [if_pos (by omega), Option.bind_some]
  simp only [oz_s, oz_uz, ou_f (show (16 : Nat) ≠ 11 by decide), ou_f (show (16 : Nat) ≠ 13 by decide), h16]
theorem th_2 (hn : m 16 2 = n) (hb : 0 ≤ n ∧ n < 8) (h1 : ∀ Y, jf_M_step (ob_z Y 114 m) = some (ob_z Y 114 m1)) (h2 : ∀ Y, jf_M_number 0 7 (ob_z Y 114 m1) = some (v, ob_z Y 114 m2)) (h3 : ∀ Y, jf_M_readCup n (ob_z Y 114 (ob_u m2 14 n v)) = some (ob_z Y 114 m3)) (h16 : m3 16 2 + 1 = x) : ∀ Y, jf_M_readThing 2 (ob_z Y 114 m) = some (ob_z Y 114 (ob_u m3 16 2 x)) := by
  intro Y
  unfold jf_M_readThing
  rw [show dz_c (2 : Int) = 2 by decide, oz_s, hn, dz_ci (x := n) (by omega) (by omega), if_pos (by decide), if_pos (by decide), if_pos (by decide), if_neg (by decide), Option.bind_some, if_pos (by rw [show dz_c (8 : Int) = 8 by decide]; omega), h1, Option.bind_some, if_pos (by decide), if_pos (by decide), if_neg (by decide), h2, Option.bind_some, if_pos (by omega)]
  simp only [dz_a, oz_uz]
  rw [h3, Option.bind_some, Option.bind_some]
  simp only [oz_s, oz_uz, h16]
theorem th_3 (hn : m 16 3 = n) (hb : 0 ≤ n ∧ n < 3) (h1 : ∀ Y, jf_M_step (ob_z Y 114 m) = some (ob_z Y 114 m1)) (h2 : ∀ Y, jf_M_readSeconds (34 + 13 * n) 9 (ob_z Y 114 m1) = some (ob_z Y 114 m2)) (h16 : m2 16 3 = n) : ∀ Y, jf_M_readThing 3 (ob_z Y 114 m) = some (ob_z Y 114 (ob_u m2 16 3 (n + 1))) := by
  intro Y
  unfold jf_M_readThing
  rw [show dz_c (3 : Int) = 3 by decide, oz_s, hn, dz_ci (x := n) (by omega) (by omega), if_pos (by decide), if_pos (by decide), if_pos (by decide), if_pos (by decide), if_neg (by decide), Option.bind_some, if_pos (by rw [show dz_c (3 : Int) = 3 by decide]; omega), h1, Option.bind_some, if_pos (by decide), if_pos (by decide), if_pos (by decide), if_neg (by decide), h2, Option.bind_some, Option.bind_some]
  simp only [dz_a, oz_s, oz_uz, h16]
theorem th_4 (hn : m 16 4 = n) (hb : 0 ≤ n ∧ n < 4) (h1 : ∀ Y, jf_M_step (ob_z Y 114 m) = some (ob_z Y 114 m1)) (h2 : ∀ Y, jf_M_number 0 11 (ob_z Y 114 m1) = some (x, ob_z Y 114 m2)) (h3 : ∀ Y, jf_M_number x 11 (ob_z Y 114 (ob_u m2 15 (3 * n) x)) = some (y, ob_z Y 114 m3)) (h4 : ∀ Y, jf_M_number 1 99 (ob_z Y 114 (ob_u m3 15 (3 * n + 1) y)) = some (z, ob_z Y 114 m4)) (h16 : m4 16 4 = n) : ∀ Y, jf_M_readThing 4 (ob_z Y 114 m) = some (ob_z Y 114 (ob_u (ob_u m4 15 (3 * n + 2) z) 16 4 (n + 1))) := by
  intro Y
  unfold jf_M_readThing
  rw [show dz_c (4 : Int) = 4 by decide, oz_s, hn, dz_ci (x := n) (by omega) (by omega), dz_ci (x := 3 * n) (by omega) (by omega), dz_ci (x := 3 * n + 1) (by omega) (by omega), dz_ci (x := 3 * n + 2) (by omega) (by omega), if_pos (by decide), if_pos (by decide), if_pos (by decide), if_pos (by decide), if_pos (by decide), Option.bind_some, if_pos (by rw [show dz_c (4 : Int) = 4 by decide]; omega), h1, Option.bind_some, if_pos (by decide), if_pos (by decide), if_pos (by decide), if_pos (by decide), h2, Option.bind_some, if_pos (by omega)]
  simp only [dz_a, oz_uz, oz_s, ou_s]
  rw [h3, Option.bind_some, if_pos (by omega)]
  simp only [oz_uz]
  rw [h4, Option.bind_some, if_pos (by omega), Option.bind_some]
  simp only [oz_s, oz_uz, ou_f (show (16 : Nat) ≠ 15 by decide), h16]
theorem th_m (hN : (N = 0 ∧ m 16 0 = 4) ∨ (N = 1 ∧ m 16 1 = 5) ∨ (N = 2 ∧ m 16 2 = 8) ∨ (N = 3 ∧ m 16 3 = 3) ∨ (N = 4 ∧ m 16 4 = 4)) (hf : ∀ Y, jf_M_fails 5 (ob_z Y 114 m) = some (ob_z Y 114 m1)) : ∀ Y, jf_M_readThing N (ob_z Y 114 m) = some (ob_z Y 114 m1) := by
  intro Y
  unfold jf_M_readThing
  rcases hN with ⟨rfl, h⟩ | ⟨rfl, h⟩ | ⟨rfl, h⟩ | ⟨rfl, h⟩ | ⟨rfl, h⟩
  · rw [show dz_c (0 : Int) = 0 by decide, oz_s, h, if_pos (by decide), if_neg (by decide), Option.bind_some, if_neg (by decide), hf, Option.bind_some]
  · rw [show dz_c (1 : Int) = 1 by decide, oz_s, h, if_pos (by decide), if_pos (by decide), if_neg (by decide), Option.bind_some, if_neg (by decide), hf, Option.bind_some]
  · rw [show dz_c (2 : Int) = 2 by decide, oz_s, h, if_pos (by decide), if_pos (by decide), if_pos (by decide), if_neg (by decide), Option.bind_some, if_neg (by decide), hf, Option.bind_some]
  · rw [show dz_c (3 : Int) = 3 by decide, oz_s, h, if_pos (by decide), if_pos (by decide), if_pos (by decide), if_pos (by decide), if_neg (by decide), Option.bind_some, if_neg (by decide), hf, Option.bind_some]
  · rw [show dz_c (4 : Int) = 4 by decide, oz_s, h, if_pos (by decide), if_pos (by decide), if_pos (by decide), if_pos (by decide), if_pos (by decide), Option.bind_some, if_neg (by decide), hf, Option.bind_some]
theorem ln_th (hn : ∀ Y, jf_M_nameHere (ob_z Y 114 m) = some N) (hN : 0 ≤ N ∧ N ≤ 4) (h1 : ∀ Y, jf_M_readThing N (ob_z Y 114 m) = some (ob_z Y 114 m1)) (h2 : ∀ Y, so_le (ob_z Y 114 m1) = some (ob_z Y 114 m2)) : ∀ Y, jf_M_readLine (ob_z Y 114 m) = some (ob_z Y 114 m2) := by
  intro Y
  unfold jf_M_readLine
  rw [hn, Option.bind_some, dz_ci (x := N) (by omega) (by omega), if_pos (by omega), if_neg (by omega), h1, Option.bind_some, Option.bind_some]
  exact h2 Y
theorem ln_f (hn : ∀ Y, jf_M_nameHere (ob_z Y 114 m) = some N) (hN : -4 ≤ N ∧ N ≤ 14 ∧ ¬(0 ≤ N ∧ N ≤ 6)) (hf : ∀ Y, jf_M_fails 2 (ob_z Y 114 m) = some (ob_z Y 114 m1)) : ∀ Y, jf_M_readLine (ob_z Y 114 m) = some (ob_z Y 114 m1) := by
  intro Y
  unfold jf_M_readLine
  rw [hn, Option.bind_some, dz_ci (x := N) (by omega) (by omega), if_neg hN.2.2, hf, Option.bind_some]
theorem ln_5 (hn : ∀ Y, jf_M_nameHere (ob_z Y 114 m) = some 5) (hq : ∀ Y, (if dz_c (dz_an (dz_sr (m 20 0) 5) 1) ≠ 1 then (some (ob_z Y 114 m)) else (Option.bind (jf_M_fails 4 (ob_z Y 114 m)) fun q36 => some q36)) = some (ob_z Y 114 m1)) (hx : x = dz_or (m1 20 0) (dz_sl 1 5)) (h1 : ∀ Y, jf_M_step (ob_z Y 114 (ob_u m1 20 0 x)) = some (ob_z Y 114 m2)) (h2 : ∀ Y, jf_M_readSeconds 73 255 (ob_z Y 114 m2) = some (ob_z Y 114 m3)) (h3 : ∀ Y, so_le (ob_z Y 114 m3) = some (ob_z Y 114 m4)) : ∀ Y, jf_M_readLine (ob_z Y 114 m) = some (ob_z Y 114 m4) := by
  intro Y
  unfold jf_M_readLine
  rw [hn, Option.bind_some, show dz_c (5 : Int) = 5 by decide, if_pos (by decide), if_pos (by decide), oz_s, hq, Option.bind_some, oz_s, ← hx]
  simp only [dz_a, oz_uz]
  rw [h1, Option.bind_some, if_neg (by decide), h2, Option.bind_some, Option.bind_some]
  exact h3 Y
theorem ln_6 (hn : ∀ Y, jf_M_nameHere (ob_z Y 114 m) = some 6) (hq : ∀ Y, (if dz_c (dz_an (dz_sr (m 20 0) 6) 1) ≠ 1 then (some (ob_z Y 114 m)) else (Option.bind (jf_M_fails 4 (ob_z Y 114 m)) fun q36 => some q36)) = some (ob_z Y 114 m1)) (hx : x = dz_or (m1 20 0) (dz_sl 1 6)) (h1 : ∀ Y, jf_M_step (ob_z Y 114 (ob_u m1 20 0 x)) = some (ob_z Y 114 m2)) (h2 : ∀ Y, jf_M_number 0 999 (ob_z Y 114 m2) = some (v, ob_z Y 114 m3)) (h3 : ∀ Y, so_le (ob_z Y 114 (ob_u m3 17 0 v)) = some (ob_z Y 114 m4)) : ∀ Y, jf_M_readLine (ob_z Y 114 m) = some (ob_z Y 114 m4) := by
  intro Y
  unfold jf_M_readLine
  rw [hn, Option.bind_some, show dz_c (6 : Int) = 6 by decide, if_pos (by decide), if_pos (by decide), oz_s, hq, Option.bind_some, oz_s, ← hx]
  simp only [dz_a, oz_uz]
  rw [h1, Option.bind_some, if_pos (by decide), h2, Option.bind_some]
  simp only [oz_uz]
  rw [Option.bind_some]
  exact h3 Y
/-- behind a fault -/
theorem nh_b (hT : so_tp T) (hF : tkF T R m) : ∃ N : Int, (-4 ≤ N ∧ N ≤ 14) ∧ ∀ Y, jf_M_nameHere (ob_z Y 114 m) = some N := by
  obtain ⟨h1, h2, h3, hsf⟩ := hF
  refine ⟨if dz_c (m 28 0) = 1 then so_ni (so_wd T (m 27 0) (m 26 0)) 15 else -4, ?_, fun Y => nh_eq hT hsf.1 rfl rfl (by have := hsf.2.2.2; omega) hsf.2.1 hsf.2.2.1⟩
  have := ni_b (w := so_wd T (m 27 0) (m 26 0))
  split <;> omega
theorem wy_b (hT : so_tp T) (hF : tkF T R m) : ∃ (w : Int) (m' : ob_O), (∀ Y, jf_M_readWay g (ob_z Y 114 m) = some (w, ob_z Y 114 m')) ∧ tkF T R m' ∧ kw m m' := by
  obtain ⟨N, hN, hn⟩ := nh_b hT hF
  have hq := hF.2.1
  have e24 : dz_c (m 24 0) ≠ 0 := by rw [dc_ir (x := m 24 0) (by omega) (by omega)]; omega
  by_cases c7 : N = 7
  · subst c7
    have hF' := tF_m hF (kq_u (m := m) (f := 18) (j := 0) (v := if dz_c 0 ≤ dz_c (m 18 0) then m 18 0 else 0) (by decide))
    refine ⟨0, _, wy_7 hn (sp_b hq) (lo_b hq) (m3 := m) (fun Y => ?_) ?_ (x := if dz_c 0 ≤ dz_c (m 18 0) then m 18 0 else 0) rfl (sp_b hF'.2.1), hF', fun f q => by rw [ou_ff (by omega)]⟩
    · rw [if_pos e24]
    · rw [if_pos e24]
  · by_cases c2 : N = 2
    · subst c2
      exact ⟨_, _, wy_2 hn (sp_b hq) (nu_b hq) rfl, tF_m hF (kq_u (by decide)), fun f q => by rw [ou_ff (by omega)]⟩
    · by_cases c8 : N = 8
      · subst c8
        exact ⟨20, m, wy_8 hn (sp_b hq), hF, fun f q => rfl⟩
      · exact ⟨20, m, wy_f hn ⟨hN.1, hN.2, c7, c2, c8⟩ (fl_b hq) hq, hF, fun f q => rfl⟩
theorem cu_b (hT : so_tp T) (hF : tkF T R m) (hi : 0 ≤ i ∧ i < 8) : ∃ m' : ob_O, (∀ Y, jf_M_readCup i (ob_z Y 114 m) = some (ob_z Y 114 m')) ∧ tkF T R m' ∧ ke m m' ∧ m' 16 = m 16 := by
  obtain ⟨N, hN, hn⟩ := nh_b hT hF
  have hq := hF.2.1
  by_cases c9 : 9 ≤ N
  · obtain ⟨kd, rfl⟩ : ∃ kd, N = kd + 9 := ⟨N - 9, by omega⟩
    have hF1 := tF_m hF (m' := ob_u (ob_u m 11 (10 + i) kd) 11 (26 + i) (-4)) (fun f q => by rw [ou_ff (by omega), ou_ff (by omega)])
    have k1 : ke m (ob_u (ob_u m 11 (10 + i) kd) 11 (26 + i) (-4)) := ke_t (ke_u (by decide)) (ke_u (by decide))
    by_cases c5 : kd = 0 ∨ kd = 5
    · exact ⟨_, cu_0 hn c5 hi (sp_b hq), hF1, k1, by rw [ou_ff (by decide), ou_ff (by decide)]⟩
    · have hF2 := tF_m hF1 (m' := ob_u (ob_u (ob_u m 11 (10 + i) kd) 11 (26 + i) (-4)) 11 (18 + i) 1) (kq_u (by decide))
      have k2 : ke m (ob_u (ob_u (ob_u m 11 (10 + i) kd) 11 (26 + i) (-4)) 11 (18 + i) 1) := ke_t k1 (ke_u (by decide))
      by_cases c4 : kd = 4
      · subst c4
        generalize hM : ob_u (ob_u (ob_u m 11 (10 + i) 4) 11 (26 + i) (-4)) 11 (18 + i) 1 = M at hF2 k2
        have hq2 := hF2.2.1
        have e24 : dz_c (M 24 0) ≠ 0 := by rw [dc_ir (x := M 24 0) (by omega) (by omega)]; omega
        have hF' := tF_m hF2 (m' := ob_u (ob_u M 11 (26 + i) 0) 19 0 (if dz_c (M 29 0) ≤ dz_c (M 19 0) then M 19 0 else (if dz_c (M 24 0) ≠ 0 then M 19 0 else M 29 0))) (fun f q => by rw [ou_ff (by omega), ou_ff (by omega)])
        refine ⟨_, cu_4 hn hi (sp_b hq) (nu_b hF1.2.1) (by rw [hM]; exact lo_b hq2) (m4 := M) (fun Y => ?_) (q20 := 0) ?_ rfl (sp_b hF'.2.1), hF', ke_t k2 (ke_t (ke_u (by decide)) (ke_u (by decide))), ?_⟩
        · rw [if_pos e24]
        · rw [if_pos e24]
        · rw [ou_ff (by decide), ou_ff (by decide), ← hM, ou_ff (by decide), ou_ff (by decide), ou_ff (by decide)]
      · exact ⟨_, cu_1 hn (by omega) hi (sp_b hq) (nu_b hF1.2.1), hF2, k2, by rw [ou_ff (by decide), ou_ff (by decide), ou_ff (by decide)]⟩
  · exact ⟨m, cu_f hn (by omega) (fl_b hq), hF, fun f q => rfl, rfl⟩
end ti
end mg_69ti
section mg_70tj
/-! lines -/
def kp3 (R R' : ob_O) : Prop := ∀ f : Nat, f ≤ 2 → R' f = R f
/-- what a line leaves, where class and reference take it -/
def so_kT (Z : dz_Z) (p s : Nat) (T R m : ob_O) (e : Int) (K : Bool × dz_Z → Prop) : Prop := ∀ (R' P' S' m' : ob_O) (b : Int), (∀ Y, jf_M_readLine (ob_z Y 114 m) = some (ob_z Y 114 m')) → tkL T R' m' b → e < b → kp3 R R' → rg_A R' P' S' m' → ke m m' → K (true, rk Z p s R' P' S')
/-- where they find a fault -/
def so_kF (Z : dz_Z) (p s : Nat) (T R m : ob_O) (K : Bool × dz_Z → Prop) : Prop := ∀ (R' P' S' m' : ob_O), (∀ Y, jf_M_readLine (ob_z Y 114 m) = some (ob_z Y 114 m')) → tkF T R' m' → kp3 R R' → ke m m' → K (false, rk Z p s R' P' S')
section tj
variable {Z Y : dz_Z} {p s : Nat} {R R' P S T m m' m1 m2 m3 m4 m5 : ob_O} {a b e k i v st x y z lo hi w g N n : Int}
theorem k3_k (h : kpR R R') : kp3 R R' := fun f q => h f (Or.inl q)
theorem lk_roof (hp : p = 25 ∨ p = 4) (hs : s = 36 ∨ s = 15) (hT : so_tp T) (hZ : Z 2 = T) (hR1 : (R 1 0).toNat = p) (hI : tkI T R m a st e 2) (hN : so_ni (so_wd T st e) 15 = 0) (hr : rg_A R P S m) {K : Bool × dz_Z → Prop} (kT : so_kT Z p s T R m e K) (kF : so_kF Z p s T R m K) : dz_p (jf_R_readRoof (rk Z p s R P S)) K := by
  have hisP : hz_isP p := by unfold hz_isP; omega
  have hc := hr.1.1
  have ec : dz_c (P 0 0) = P 0 0 := dz_ci (by omega) (by omega)
  have hnh := I_nh hT hI
  rw [hN] at hnh
  unfold jf_R_readRoof
  simp only [rk_1, hR1, rk_p hp, ec]
  refine dp_ck hisP ?_
  by_cases c : P 0 0 < 4
  · obtain ⟨m1, s1, s2, s3⟩ := lk_st hT hI
    have hL1 := s2 R hI.2.2.1 hI.2.2.2.2.2.1
    refine dp_ck c (dp_bi (lk_num hp hs hT hZ hL1 (by decide) (by decide) (fun R2 m2 v b hnu hL2 hab h9 hlo hhi _ _ kR2 km => ?_) (fun R2 m2 v hnu hF kR2 km => ?_)))
    · have R21 : (R2 1 0).toNat = p := by rw [kR2 1 (by decide)]; exact hR1
      refine dp_ck rfl ?_
      simp only [rk_1, R21, h9]
      refine dp_ck hisP (dp_ck (by omega) (dp_le ?_))
      rw [rk_up hp]
      have hL2' := tL_m hL2 (m' := ob_u m2 12 (2 * P 0 0) v) (kq_u (by decide))
      refine dp_bi (lk_num hp hs hT hZ hL2' (by decide) (by decide) (fun R3 m3 w b3 hnu3 hL3 hab3 h39 hlo3 hhi3 _ _ kR3 km3 => ?_) (fun R3 m3 w hnu3 hF3 kR3 km3 => ?_))
      · have R31 : (R3 1 0).toNat = p := by rw [kR3 1 (by decide)]; exact R21
        refine dp_ck rfl ?_
        simp only [rk_1, R31, h39]
        refine dp_ck hisP (dp_le ?_)
        rw [rk_up hp]
        simp only [rk_1, R31, rk_p hp]
        refine dp_ck hisP (dp_le ?_)
        rw [rk_up hp]
        have q0 : ob_u (ob_u P 1 (P 0 0) v) 2 (P 0 0) w 0 0 = P 0 0 := by rw [ou_f (by decide), ou_f (by decide)]
        rw [q0]
        have q16 : m3 16 = m 16 := by rw [km3 16 (by decide), ou_ff (by decide), km 16 (by decide), s3 16 (by decide)]
        have q18 : m3 18 = m 18 := by rw [km3 18 (by decide), ou_ff (by decide), km 18 (by decide), s3 18 (by decide)]
        have hL4 := tL_m hL3 (m' := ob_u (ob_u (ob_u m3 12 (2 * P 0 0 + 1) w) 18 0 (if dz_c w ≤ dz_c (m3 18 0) then m3 18 0 else w)) 16 0 (P 0 0 + 1)) (fun f q => by rw [ou_ff (by omega), ou_ff (by omega), ou_ff (by omega)])
        have th := th_0 hc.1 (by omega) s1 hnu hnu3 rfl (by rw [q16]; exact hc.1)
        have kk : ke m (ob_u (ob_u (ob_u m3 12 (2 * P 0 0 + 1) w) 18 0 (if dz_c w ≤ dz_c (m3 18 0) then m3 18 0 else w)) 16 0 (P 0 0 + 1)) := ke_t (ke_k s3) (ke_t (ke_k km) (ke_t (ke_u (by decide)) (ke_t (ke_k km3) (ke_t (ke_u (by decide)) (ke_t (ke_u (by decide)) (ke_u (by decide)))))))
        refine dp_bi (lk_se hp hs hT hZ hL4 (fun R4 m4 b4 hle hL5 hab4 kR4 km4 => dp_sm ?_) (fun R4 m4 hle hF4 kR4 km4 => dp_sm ?_))
        · refine kT R4 _ _ m4 b4 (ln_th hnh (by decide) th hle) hL5 (by omega) (k3_k (kR_t kR2 (kR_t kR3 kR4))) ?_ (ke_t kk (ke_k km4))
          have hh := hr.2.2.2.2.2.2.2.2.2.1.1
          refine rf_roof hr c (v := v) (w := w) (by omega) (by omega) (kR_t kR2 (kR_t kR3 kR4) 5 (Or.inr rfl)) (fun f a1 a2 a3 a4 => ?_) ?_ ?_ ?_ (fun f a1 a2 a3 => ?_) ou_s ?_ ?_
          · rw [km4 f a4, ou_ff a2, ou_ff a3, ou_ff a1, km3 f a4, ou_ff a1, km f a4, s3 f a4]
          · rw [km4 12 (by decide), ou_ff (by decide), ou_ff (by decide), ou_fn, ou_fn, km3 12 (by decide), ou_fn, ou_fn, km 12 (by decide), s3 12 (by decide)]
          · rw [km4 16 (by decide), ou_fn, ou_fn, ou_ff (by decide), ou_ff (by decide), q16]
          · rw [km4 18 (by decide), ou_f (by decide), ou_s, q18, dz_ci (x := w) (by omega) (by omega), dz_ci (x := m 18 0) (by omega) (by omega)]
            by_cases c : w ≤ m 18 0
            · rw [if_pos c, if_neg (by omega)]
            · rw [if_neg c, if_pos (by omega)]
          · rw [ou_ff a1, ou_ff a3, ou_ff a2]
          · rw [ou_ff (by decide), ou_ff (by decide)]
          · rw [ou_ff (by decide), ou_fn, ou_fn, ou_ff (by decide)]
        · exact kF R4 _ _ m4 (ln_th hnh (by decide) th hle) hF4 (k3_k (kR_t kR2 (kR_t kR3 kR4))) (ke_t kk (ke_k km4))
      · have q16 : m3 16 = m 16 := by rw [km3 16 (by decide), ou_ff (by decide), km 16 (by decide), s3 16 (by decide)]
        have th := th_0 hc.1 (by omega) s1 hnu hnu3 rfl (by rw [q16]; exact hc.1)
        have hF' := tF_m hF3 (m' := ob_u (ob_u (ob_u m3 12 (2 * P 0 0 + 1) w) 18 0 (if dz_c w ≤ dz_c (m3 18 0) then m3 18 0 else w)) 16 0 (P 0 0 + 1)) (fun f q => by rw [ou_ff (by omega), ou_ff (by omega), ou_ff (by omega)])
        exact dp_no (by intro q; cases q) (dp_sm (kF R3 _ _ _ (ln_th hnh (by decide) th (le_b hF'.2.1)) hF' (k3_k (kR_t kR2 kR3)) (ke_t (ke_k s3) (ke_t (ke_k km) (ke_t (ke_u (by decide)) (ke_t (ke_k km3) (ke_t (ke_u (by decide)) (ke_t (ke_u (by decide)) (ke_u (by decide))))))))))
    · have q16 : m2 16 = m 16 := by rw [km 16 (by decide), s3 16 (by decide)]
      have hF1 := tF_m hF (m' := ob_u m2 12 (2 * P 0 0) v) (kq_u (by decide))
      have th := th_0 hc.1 (by omega) s1 hnu (nu_b hF1.2.1) rfl (by rw [ou_ff (by decide), q16]; exact hc.1)
      have hF' := tF_m hF1 (m' := ob_u (ob_u (ob_u (ob_u m2 12 (2 * P 0 0) v) 12 (2 * P 0 0 + 1) 0) 18 0 (if dz_c 0 ≤ dz_c (ob_u m2 12 (2 * P 0 0) v 18 0) then ob_u m2 12 (2 * P 0 0) v 18 0 else 0)) 16 0 (P 0 0 + 1)) (fun f q => by rw [ou_ff (by omega), ou_ff (by omega), ou_ff (by omega)])
      exact dp_no (by intro q; cases q) (dp_sm (kF R2 _ _ _ (ln_th hnh (by decide) th (le_b hF'.2.1)) hF' (k3_k kR2) (ke_t (ke_k s3) (ke_t (ke_k km) (ke_t (ke_u (by decide)) (ke_t (ke_u (by decide)) (ke_t (ke_u (by decide)) (ke_u (by decide)))))))))
  · obtain ⟨f1, f2, f3⟩ := lk_fl hI (w := 5) (w' := 5) (by omega) (by omega)
    exact dp_no c (dp_bi (fl_cls hI.2.2.2.1 (dp_sm (kF _ _ _ _ (ln_th hnh (by decide) (th_m (Or.inl ⟨rfl, by omega⟩) (fl_eq hI.2.2.2.2.2.2.1)) (le_b f1.2.1)) f1 (k3_k f3) (ke_k f2)))))
theorem lk_peg (hp : p = 25 ∨ p = 4) (hs : s = 36 ∨ s = 15) (hT : so_tp T) (hZ : Z 2 = T) (hR1 : (R 1 0).toNat = p) (hI : tkI T R m a st e 2) (hN : so_ni (so_wd T st e) 15 = 1) (hr : rg_A R P S m) {K : Bool × dz_Z → Prop} (kT : so_kT Z p s T R m e K) (kF : so_kF Z p s T R m K) : dz_p (jf_R_readPeg (rk Z p s R P S)) K := by
  have hisP : hz_isP p := by unfold hz_isP; omega
  have hc := hr.1.2.1
  have hh := hr.2.2.2.2.2.2.2.2.2.1.1
  have hi := hr.2.2.2.2.2.2.2.2.2.2.1
  have ec : dz_c (P 3 0) = P 3 0 := dz_ci (by omega) (by omega)
  have hnh := I_nh hT hI
  rw [hN] at hnh
  unfold jf_R_readPeg
  simp only [rk_1, hR1, rk_p hp, ec]
  refine dp_ck hisP ?_
  by_cases c : P 3 0 < 5
  · obtain ⟨m1, s1, s2, s3⟩ := lk_st hT hI
    have hL1 := s2 R hI.2.2.1 hI.2.2.2.2.2.1
    have t18 : m1 18 = m 18 := s3 18 (by decide)
    have t19 : m1 19 = m 19 := s3 19 (by decide)
    refine dp_ck c (dp_bi (lk_way hp hs hT hZ hL1 (by omega) (by rw [t18]; exact hh) (by rw [t19]; exact hi) (fun R2 m2 v b hnu hL2 hab h9 hv kR2 km h18 h19 => ?_) (fun R2 m2 v hnu hF kR2 km => ?_)))
    · have R21 : (R2 1 0).toNat = p := by rw [kR2 1 (by decide)]; exact hR1
      rw [t18] at h18
      rw [t19] at h19
      have hv' := hv
      unfold so_way at hv'
      refine dp_ck rfl ?_
      simp only [rk_1, R21, h9]
      refine dp_ck hisP (dp_ck (by omega) (dp_le ?_))
      rw [rk_up hp]
      have hL2' := tL_m hL2 (m' := ob_u m2 13 (2 * P 3 0) v) (kq_u (by decide))
      have b18 : -1 ≤ ob_u m2 13 (2 * P 3 0) v 18 0 ∧ ob_u m2 13 (2 * P 3 0) v 18 0 ≤ 4 := by
        rw [ou_f (by decide), h18]; split <;> omega
      have b19 : -1 ≤ ob_u m2 13 (2 * P 3 0) v 19 0 ∧ ob_u m2 13 (2 * P 3 0) v 19 0 ≤ 7 := by
        rw [ou_f (by decide), h19]; split <;> omega
      refine dp_bi (lk_way hp hs hT hZ hL2' (by omega) b18 b19 (fun R3 m3 w b3 hnu3 hL3 hab3 h39 hw kR3 km3 h318 h319 => ?_) (fun R3 m3 w hnu3 hF3 kR3 km3 => ?_))
      · have R31 : (R3 1 0).toNat = p := by rw [kR3 1 (by decide)]; exact R21
        rw [ou_f (show (18 : Nat) ≠ 13 by decide), h18] at h318
        rw [ou_f (show (19 : Nat) ≠ 13 by decide), h19] at h319
        refine dp_ck rfl ?_
        simp only [rk_1, R31, h39]
        refine dp_ck hisP (dp_le ?_)
        rw [rk_up hp]
        simp only [rk_1, R31, rk_p hp]
        refine dp_ck hisP (dp_le ?_)
        rw [rk_up hp]
        have q0 : ob_u (ob_u P 4 (P 3 0) v) 5 (P 3 0) w 3 0 = P 3 0 := by rw [ou_f (by decide), ou_f (by decide)]
        rw [q0]
        have q16 : m3 16 = m 16 := by rw [km3 16 (by decide), ou_ff (by decide), km 16 (by decide), s3 16 (by decide)]
        have hL4 := tL_m hL3 (m' := ob_u (ob_u (ob_u m3 13 (2 * P 3 0 + 1) w) 11 (P 3 0) 2) 16 1 (P 3 0 + 1)) (fun f q => by rw [ou_ff (by omega), ou_ff (by omega), ou_ff (by omega)])
        have th := th_1 hc.1 (by omega) s1 hnu hnu3 (by rw [q16]; exact hc.1)
        have kk : ke m (ob_u (ob_u (ob_u m3 13 (2 * P 3 0 + 1) w) 11 (P 3 0) 2) 16 1 (P 3 0 + 1)) := ke_t (ke_k s3) (ke_t (ke_w km) (ke_t (ke_u (by decide)) (ke_t (ke_w km3) (ke_t (ke_u (by decide)) (ke_t (ke_u (by decide)) (ke_u (by decide)))))))
        refine dp_bi (lk_se hp hs hT hZ hL4 (fun R4 m4 b4 hle hL5 hab4 kR4 km4 => dp_sm ?_) (fun R4 m4 hle hF4 kR4 km4 => dp_sm ?_))
        · refine kT R4 _ _ m4 b4 (ln_th hnh (by decide) th hle) hL5 (by omega) (k3_k (kR_t kR2 (kR_t kR3 kR4))) ?_ (ke_t kk (ke_k km4))
          refine rf_peg hr c hv hw (kR_t kR2 (kR_t kR3 kR4) 5 (Or.inr rfl)) (fun f a1 a2 a3 a4 a5 a6 => ?_) ?_ ?_ ?_ ?_ ?_ (fun f a1 a2 a3 => ?_) ou_s ?_ ?_
          · rw [km4 f a6, ou_ff a3, ou_ff a1, ou_ff a2, km3 f (by omega), ou_ff a2, km f (by omega), s3 f a6]
          · rw [km4 11 (by decide), ou_ff (by decide), ou_fn, ou_fn, ou_ff (by decide), km3 11 (by decide), ou_ff (by decide), km 11 (by decide), s3 11 (by decide)]
          · rw [km4 13 (by decide), ou_ff (by decide), ou_ff (by decide), ou_fn, ou_fn, km3 13 (by decide), ou_fn, ou_fn, km 13 (by decide), s3 13 (by decide)]
          · rw [km4 16 (by decide), ou_fn, ou_fn, ou_ff (by decide), ou_ff (by decide), q16]
          · rw [km4 18 (by decide), ou_f (by decide), ou_f (by decide), ou_f (by decide), h318]
          · rw [km4 19 (by decide), ou_f (by decide), ou_f (by decide), ou_f (by decide), h319]
          · rw [ou_ff a1, ou_ff a3, ou_ff a2]
          · rw [ou_ff (by decide), ou_ff (by decide)]
          · rw [ou_ff (by decide), ou_fn, ou_fn, ou_ff (by decide)]
        · exact kF R4 _ _ m4 (ln_th hnh (by decide) th hle) hF4 (k3_k (kR_t kR2 (kR_t kR3 kR4))) (ke_t kk (ke_k km4))
      · have q16 : m3 16 = m 16 := by rw [km3 16 (by decide), ou_ff (by decide), km 16 (by decide), s3 16 (by decide)]
        have th := th_1 hc.1 (by omega) s1 hnu hnu3 (by rw [q16]; exact hc.1)
        have hF' := tF_m hF3 (m' := ob_u (ob_u (ob_u m3 13 (2 * P 3 0 + 1) w) 11 (P 3 0) 2) 16 1 (P 3 0 + 1)) (fun f q => by rw [ou_ff (by omega), ou_ff (by omega), ou_ff (by omega)])
        exact dp_no (by intro q; cases q) (dp_sm (kF R3 _ _ _ (ln_th hnh (by decide) th (le_b hF'.2.1)) hF' (k3_k (kR_t kR2 kR3)) (ke_t (ke_k s3) (ke_t (ke_w km) (ke_t (ke_u (by decide)) (ke_t (ke_w km3) (ke_t (ke_u (by decide)) (ke_t (ke_u (by decide)) (ke_u (by decide))))))))))
    · have q16 : m2 16 = m 16 := by rw [km 16 (by decide), s3 16 (by decide)]
      have hF1 := tF_m hF (m' := ob_u m2 13 (2 * P 3 0) v) (kq_u (by decide))
      obtain ⟨w, m3, hw1, hw2, hw3⟩ := wy_b (g := P 3 0) hT hF1
      have q16' : m3 16 1 = P 3 0 := by rw [hw3 16 (by decide), ou_ff (by decide), q16]; exact hc.1
      have th := th_1 hc.1 (by omega) s1 hnu hw1 q16'
      have hF' := tF_m hw2 (m' := ob_u (ob_u (ob_u m3 13 (2 * P 3 0 + 1) w) 11 (P 3 0) 2) 16 1 (P 3 0 + 1)) (fun f q => by rw [ou_ff (by omega), ou_ff (by omega), ou_ff (by omega)])
      exact dp_no (by intro q; cases q) (dp_sm (kF R2 _ _ _ (ln_th hnh (by decide) th (le_b hF'.2.1)) hF' (k3_k kR2) (ke_t (ke_k s3) (ke_t (ke_w km) (ke_t (ke_u (by decide)) (ke_t (ke_w hw3) (ke_t (ke_u (by decide)) (ke_t (ke_u (by decide)) (ke_u (by decide))))))))))
  · obtain ⟨f1, f2, f3⟩ := lk_fl hI (w := 5) (w' := 5) (by omega) (by omega)
    exact dp_no c (dp_bi (fl_cls hI.2.2.2.1 (dp_sm (kF _ _ _ _ (ln_th hnh (by decide) (th_m (Or.inr (Or.inl ⟨rfl, by omega⟩)) (fl_eq hI.2.2.2.2.2.2.1)) (le_b f1.2.1)) f1 (k3_k f3) (ke_k f2)))))
theorem lk_spt (hp : p = 25 ∨ p = 4) (hs : s = 36 ∨ s = 15) (hT : so_tp T) (hZ : Z 2 = T) (hR1 : (R 1 0).toNat = p) (hR2 : (R 2 0).toNat = s) (hI : tkI T R m a st e 2) (hN : so_ni (so_wd T st e) 15 = 2) (hr : rg_A R P S m) {K : Bool × dz_Z → Prop} (kT : so_kT Z p s T R m e K) (kF : so_kF Z p s T R m K) : dz_p (jf_R_readSpout (rk Z p s R P S)) K := by
  have hisP : hz_isP p := by unfold hz_isP; omega
  have hc := hr.1.2.2.1
  have hi := hr.2.2.2.2.2.2.2.2.2.2.1
  have ec : dz_c (P 6 0) = P 6 0 := dz_ci (by omega) (by omega)
  have hnh := I_nh hT hI
  rw [hN] at hnh
  unfold jf_R_readSpout
  simp only [rk_1, hR1, rk_p hp, ec]
  refine dp_ck hisP ?_
  by_cases c : P 6 0 < 8
  · obtain ⟨m1, s1, s2, s3⟩ := lk_st hT hI
    have hL1 := s2 R hI.2.2.1 hI.2.2.2.2.2.1
    refine dp_ck c (dp_bi (lk_num hp hs hT hZ hL1 (by decide) (by decide) (fun R2 m2 v b hnu hL2 hab h9 hlo hhi _ _ kR2 km => ?_) (fun R2 m2 v hnu hF kR2 km => ?_)))
    · have R21 : (R2 1 0).toNat = p := by rw [kR2 1 (by decide)]; exact hR1
      have R22 : (R2 2 0).toNat = s := by rw [kR2 2 (by decide)]; exact hR2
      refine dp_ck rfl ?_
      simp only [rk_1, R21, h9]
      refine dp_ck hisP (dp_ck (by omega) (dp_le ?_))
      rw [rk_up hp]
      have hL2' := tL_m hL2 (m' := ob_u m2 14 (P 6 0) v) (kq_u (by decide))
      have q19 : ob_u m2 14 (P 6 0) v 19 0 = m 19 0 := by rw [ou_f (by decide), km 19 (by decide), s3 19 (by decide)]
      refine dp_bi (lk_cup hp hs hT hZ R21 R22 hL2' (by omega) (by rw [q19]; exact hi) (fun R3 m3 P3 S3 b3 hcu hL3 hab3 kR3 hso => ?_) (fun R3 m3 P3 S3 hcu hF3 kR3 km3 => ?_))
      · have R31 : (R3 1 0).toNat = p := by rw [kR3 1 (by decide)]; exact R21
        have q6 : P3 6 0 = P 6 0 := by rw [hso.1 6 (by decide) (by decide), ou_f (by decide)]
        refine dp_ck rfl ?_
        simp only [rk_1, R31, rk_p hp, q6]
        refine dp_ck hisP (dp_le ?_)
        rw [rk_up hp]
        have so12 := hso.2.2.2.2.2.2.2.2.2.2.2
        have q16 : m3 16 = m 16 := by rw [so12 16 (by decide), ou_ff (by decide), km 16 (by decide), s3 16 (by decide)]
        have th := th_2 hc.1 (by omega) s1 hnu hcu (x := P 6 0 + 1) (by rw [q16, hc.1])
        have hL4 := tL_m hL3 (m' := ob_u m3 16 2 (P 6 0 + 1)) (kq_u (by decide))
        have k3 : ke (ob_u m2 14 (P 6 0) v) m3 := fun f q => so12 f (by omega)
        have kk : ke m (ob_u m3 16 2 (P 6 0 + 1)) := ke_t (ke_k s3) (ke_t (ke_k km) (ke_t (ke_u (by decide)) (ke_t k3 (ke_u (by decide)))))
        refine dp_bi (lk_se hp hs hT hZ hL4 (fun R4 m4 b4 hle hL5 hab4 kR4 km4 => dp_sm ?_) (fun R4 m4 hle hF4 kR4 km4 => dp_sm ?_))
        · refine kT R4 _ _ m4 b4 (ln_th hnh (by decide) th hle) hL5 (by omega) (k3_k (kR_t kR2 (kR_t kR3 kR4))) ?_ (ke_t kk (ke_k km4))
          refine rf_spt hr c (v := v) (by omega) (kR_t kR2 (kR_t kR3 kR4) 5 (Or.inr rfl)) (fun f q => ?_) ?_ ?_ hso ?_ q19 ?_ ?_ (fun f q => ou_ff q) ou_s
          · rw [km4 f (by omega), ou_ff (by omega), so12 f (by omega), ou_ff (by omega), km f (by omega), s3 f (by omega)]
          · rw [km4 14 (by decide), ou_ff (by decide), so12 14 (by decide), ou_fn, ou_fn, km 14 (by decide), s3 14 (by decide)]
          · rw [km4 16 (by decide), ou_fn, ou_fn, q16]
          · rw [ou_ff (by decide), km 11 (by decide), s3 11 (by decide)]
          · rw [km4 11 (by decide), ou_ff (by decide)]
          · rw [km4 19 (by decide), ou_f (by decide)]
        · exact kF R4 _ _ m4 (ln_th hnh (by decide) th hle) hF4 (k3_k (kR_t kR2 (kR_t kR3 kR4))) (ke_t kk (ke_k km4))
      · have th := th_2 hc.1 (by omega) s1 hnu hcu (x := m3 16 2 + 1) rfl
        have hF' := tF_m hF3 (m' := ob_u m3 16 2 (m3 16 2 + 1)) (kq_u (by decide))
        exact dp_no (by intro q; cases q) (dp_sm (kF R3 _ _ _ (ln_th hnh (by decide) th (le_b hF'.2.1)) hF' (k3_k (kR_t kR2 kR3)) (ke_t (ke_k s3) (ke_t (ke_k km) (ke_t (ke_u (by decide)) (ke_t km3 (ke_u (by decide))))))))
    · have hF1 := tF_m hF (m' := ob_u m2 14 (P 6 0) v) (kq_u (by decide))
      obtain ⟨m3, hw1, hw2, hw3, hw4⟩ := cu_b hT hF1 (i := P 6 0) (by omega)
      have th := th_2 hc.1 (by omega) s1 hnu hw1 (x := m3 16 2 + 1) rfl
      have hF' := tF_m hw2 (m' := ob_u m3 16 2 (m3 16 2 + 1)) (kq_u (by decide))
      exact dp_no (by intro q; cases q) (dp_sm (kF R2 _ _ _ (ln_th hnh (by decide) th (le_b hF'.2.1)) hF' (k3_k kR2) (ke_t (ke_k s3) (ke_t (ke_k km) (ke_t (ke_u (by decide)) (ke_t hw3 (ke_u (by decide))))))))
  · obtain ⟨f1, f2, f3⟩ := lk_fl hI (w := 5) (w' := 5) (by omega) (by omega)
    exact dp_no c (dp_bi (fl_cls hI.2.2.2.1 (dp_sm (kF _ _ _ _ (ln_th hnh (by decide) (th_m (Or.inr (Or.inr (Or.inl ⟨rfl, by omega⟩))) (fl_eq hI.2.2.2.2.2.2.1)) (le_b f1.2.1)) f1 (k3_k f3) (ke_k f2)))))
theorem lk_rain (hp : p = 25 ∨ p = 4) (hs : s = 36 ∨ s = 15) (hT : so_tp T) (hZ : Z 2 = T) (hR1 : (R 1 0).toNat = p) (hR2 : (R 2 0).toNat = s) (hI : tkI T R m a st e 2) (hN : so_ni (so_wd T st e) 15 = 3) (hr : rg_A R P S m) {K : Bool × dz_Z → Prop} (kT : so_kT Z p s T R m e K) (kF : so_kF Z p s T R m K) : dz_p (jf_R_readRain (rk Z p s R P S)) K := by
  have hisP : hz_isP p := by unfold hz_isP; omega
  have hisS : hz_isS s := by unfold hz_isS; omega
  have hc := hr.1.2.2.2.1
  have ec : dz_c (P 10 0) = P 10 0 := dz_ci (by omega) (by omega)
  have hnh := I_nh hT hI
  rw [hN] at hnh
  unfold jf_R_readRain
  simp only [rk_1, hR1, hR2, rk_p hp, ec]
  refine dp_ck hisP ?_
  by_cases c : P 10 0 < 3
  · obtain ⟨m1, s1, s2, s3⟩ := lk_st hT hI
    have hL1 := s2 R hI.2.2.1 hI.2.2.2.2.2.1
    refine dp_ck c (dp_ck hisS (dp_ck (by omega) (dp_bi (lk_sec hp hs hT hZ hL1 (a1 := 34 + 13 * P 10 0) (by omega) (by omega) (fun R2 S2 m2 n b hrs hls hab hn kR2 hS hent h11 hsk => ?_) (fun R2 S2 m2 hrs hlf kR2 hsk => ?_)))))
    · have R21 : (R2 1 0).toNat = p := by rw [kR2 1 (by decide)]; exact hR1
      have R22 : (R2 2 0).toNat = s := by rw [kR2 2 (by decide)]; exact hR2
      simp only [rk_1, R22]
      refine dp_ck hisS (dp_le ?_)
      rw [rk_us hp hs]
      simp only [rk_1, R21, rk_p hp]
      refine dp_ck hisP (dp_le ?_)
      rw [rk_up hp]
      have q16 : m2 16 = m 16 := by rw [hsk.2 16 (by decide), s3 16 (by decide)]
      have th := th_3 hc.1 (by omega) s1 hrs (by rw [q16]; exact hc.1)
      obtain ⟨m3, l1, l2, l3⟩ := hls (ob_u m2 16 3 (P 10 0 + 1)) (kq_u (by decide))
      rw [dz_ci (x := n) (by omega) (by omega)]
      refine dp_no (by omega) (dp_sm (kT R2 _ _ m3 b (ln_th hnh (by decide) th l1) l2 (by omega) (k3_k kR2) ?_ (ke_t (ke_k s3) (ke_t (sk_e hsk) (ke_t (ke_u (by decide)) (ke_k l3))))))
      refine rf_rain hr c hn (kR2 5 (Or.inr rfl)) (fun f q => ?_) ?_ (fun j q => ?_) ?_ (fun i x y => ?_) (fun f a1 a2 => ?_) ?_ (fun f q => ou_ff q) ou_s
      · rw [l3 f (by omega), ou_ff (by omega), hsk.2 f (by omega), s3 f (by omega)]
      · rw [l3 16 (by decide), ou_fn, ou_fn, q16]
      · rw [l3 11 (by decide), ou_f (by decide), hsk.1 j (by omega), s3 11 (by decide)]
      · rw [l3 11 (by decide), ou_f (by decide), h11]
      · rw [l3 11 (by decide), ou_f (by decide), ou_f (by omega)]; exact hent i x y
      · rw [ou_ff a1, hS f a2]
      · rw [ou_fn, ou_fn, hS 3 (by omega)]
    · have R21 : (R2 1 0).toNat = p := by rw [kR2 1 (by decide)]; exact hR1
      have R22 : (R2 2 0).toNat = s := by rw [kR2 2 (by decide)]; exact hR2
      simp only [rk_1, R22]
      refine dp_ck hisS (dp_le ?_)
      rw [rk_us hp hs]
      simp only [rk_1, R21, rk_p hp]
      refine dp_ck hisP (dp_le ?_)
      rw [rk_up hp]
      have q16 : m2 16 = m 16 := by rw [hsk.2 16 (by decide), s3 16 (by decide)]
      have th := th_3 hc.1 (by omega) s1 hrs (by rw [q16]; exact hc.1)
      obtain ⟨m3, l1, l2, l3⟩ := hlf (ob_u m2 16 3 (P 10 0 + 1)) (kq_u (by decide))
      exact dp_ck (by decide) (dp_sm (kF R2 _ _ m3 (ln_th hnh (by decide) th l1) l2 (k3_k kR2) (ke_t (ke_k s3) (ke_t (sk_e hsk) (ke_t (ke_u (by decide)) (ke_k l3))))))
  · obtain ⟨f1, f2, f3⟩ := lk_fl hI (w := 5) (w' := 5) (by omega) (by omega)
    exact dp_no c (dp_bi (fl_cls hI.2.2.2.1 (dp_sm (kF _ _ _ _ (ln_th hnh (by decide) (th_m (Or.inr (Or.inr (Or.inr (Or.inl ⟨rfl, by omega⟩)))) (fl_eq hI.2.2.2.2.2.2.1)) (le_b f1.2.1)) f1 (k3_k f3) (ke_k f2)))))
theorem lk_slp (hp : p = 25 ∨ p = 4) (hs : s = 36 ∨ s = 15) (hT : so_tp T) (hZ : Z 2 = T) (hR1 : (R 1 0).toNat = p) (hI : tkI T R m a st e 2) (hN : so_ni (so_wd T st e) 15 = 4) (hr : rg_A R P S m) {K : Bool × dz_Z → Prop} (kT : so_kT Z p s T R m e K) (kF : so_kF Z p s T R m K) : dz_p (jf_R_readSleep (rk Z p s R P S)) K := by
  have hisP : hz_isP p := by unfold hz_isP; omega
  have hc := hr.1.2.2.2.2
  have ec : dz_c (P 11 0) = P 11 0 := dz_ci (by omega) (by omega)
  have hnh := I_nh hT hI
  rw [hN] at hnh
  unfold jf_R_readSleep
  simp only [rk_1, hR1, rk_p hp, ec]
  refine dp_ck hisP ?_
  by_cases c : P 11 0 < 4
  · obtain ⟨m1, s1, s2, s3⟩ := lk_st hT hI
    have hL1 := s2 R hI.2.2.1 hI.2.2.2.2.2.1
    refine dp_ck c (dp_bi (lk_num hp hs hT hZ hL1 (by decide) (by decide) (fun R2 m2 x b hnu hL2 hab h9 hlo hhi _ _ kR2 km => ?_) (fun R2 m2 x hnu hF kR2 km => ?_)))
    · have R21 : (R2 1 0).toNat = p := by rw [kR2 1 (by decide)]; exact hR1
      refine dp_ck rfl ?_
      simp only [rk_1, R21, h9]
      refine dp_ck hisP (dp_ck (by omega) (dp_le ?_))
      rw [rk_up hp]
      simp only [rk_1, h9]
      have hL2' := tL_m hL2 (m' := ob_u m2 15 (3 * P 11 0) x) (kq_u (by decide))
      refine dp_bi (lk_num hp hs hT hZ hL2' (dz_ci (by omega) (by omega)) (by decide) (fun R3 m3 y b3 hnu3 hL3 hab3 h39 hlo3 hhi3 _ _ kR3 km3 => ?_) (fun R3 m3 y hnu3 hF3 kR3 km3 => ?_))
      · have R31 : (R3 1 0).toNat = p := by rw [kR3 1 (by decide)]; exact R21
        refine dp_ck rfl ?_
        simp only [rk_1, R31, h39]
        refine dp_ck hisP (dp_le ?_)
        rw [rk_up hp]
        have hL3' := tL_m hL3 (m' := ob_u m3 15 (3 * P 11 0 + 1) y) (kq_u (by decide))
        refine dp_bi (lk_num hp hs hT hZ hL3' (by decide) (by decide) (fun R4 m4 z b4 hnu4 hL4 hab4 h49 hlo4 hhi4 _ _ kR4 km4 => ?_) (fun R4 m4 z hnu4 hF4 kR4 km4 => ?_))
        · have R41 : (R4 1 0).toNat = p := by rw [kR4 1 (by decide)]; exact R31
          refine dp_ck rfl ?_
          simp only [rk_1, R41, h49]
          refine dp_ck hisP (dp_le ?_)
          rw [rk_up hp]
          simp only [rk_1, R41, rk_p hp]
          refine dp_ck hisP (dp_le ?_)
          rw [rk_up hp]
          have q0 : ob_u (ob_u (ob_u P 12 (P 11 0) x) 13 (P 11 0) y) 14 (P 11 0) z 11 0 = P 11 0 := by rw [ou_f (by decide), ou_f (by decide), ou_f (by decide)]
          rw [q0]
          have q16 : m4 16 = m 16 := by rw [km4 16 (by decide), ou_ff (by decide), km3 16 (by decide), ou_ff (by decide), km 16 (by decide), s3 16 (by decide)]
          have th := th_4 hc.1 (by omega) s1 hnu hnu3 hnu4 (by rw [q16]; exact hc.1)
          have hL5 := tL_m hL4 (m' := ob_u (ob_u m4 15 (3 * P 11 0 + 2) z) 16 4 (P 11 0 + 1)) (fun f q => by rw [ou_ff (by omega), ou_ff (by omega)])
          have kk : ke m (ob_u (ob_u m4 15 (3 * P 11 0 + 2) z) 16 4 (P 11 0 + 1)) := ke_t (ke_k s3) (ke_t (ke_k km) (ke_t (ke_u (by decide)) (ke_t (ke_k km3) (ke_t (ke_u (by decide)) (ke_t (ke_k km4) (ke_t (ke_u (by decide)) (ke_u (by decide))))))))
          refine dp_bi (lk_se hp hs hT hZ hL5 (fun R5 m5 b5 hle hL6 hab5 kR5 km5 => dp_sm ?_) (fun R5 m5 hle hF5 kR5 km5 => dp_sm ?_))
          · refine kT R5 _ _ m5 b5 (ln_th hnh (by decide) th hle) hL6 (by omega) (k3_k (kR_t kR2 (kR_t kR3 (kR_t kR4 kR5)))) ?_ (ke_t kk (ke_k km5))
            refine rf_slp hr c (x := x) (y := y) (z := z) (by omega) (by omega) (kR_t kR2 (kR_t kR3 (kR_t kR4 kR5)) 5 (Or.inr rfl)) (fun f q => ?_) ?_ ?_ (fun f q => ?_) ou_s ?_ ?_ ?_
            · rw [km5 f (by omega), ou_ff (by omega), ou_ff (by omega), km4 f (by omega), ou_ff (by omega), km3 f (by omega), ou_ff (by omega), km f (by omega), s3 f (by omega)]
            · rw [km5 15 (by decide), ou_ff (by decide), ou_fn, ou_fn, km4 15 (by decide), ou_fn, ou_fn, km3 15 (by decide), ou_fn, ou_fn, km 15 (by decide), s3 15 (by decide)]
            · rw [km5 16 (by decide), ou_fn, ou_fn, ou_ff (by decide), q16]
            · rw [ou_ff (by omega), ou_ff (by omega), ou_ff (by omega), ou_ff (by omega)]
            · rw [ou_ff (by decide), ou_ff (by decide), ou_ff (by decide)]
            · rw [ou_ff (by decide), ou_ff (by decide), ou_fn, ou_fn, ou_ff (by decide)]
            · rw [ou_ff (by decide), ou_fn, ou_fn, ou_ff (by decide), ou_ff (by decide)]
          · exact kF R5 _ _ m5 (ln_th hnh (by decide) th hle) hF5 (k3_k (kR_t kR2 (kR_t kR3 (kR_t kR4 kR5)))) (ke_t kk (ke_k km5))
        · have q16 : m4 16 = m 16 := by rw [km4 16 (by decide), ou_ff (by decide), km3 16 (by decide), ou_ff (by decide), km 16 (by decide), s3 16 (by decide)]
          have th := th_4 hc.1 (by omega) s1 hnu hnu3 hnu4 (by rw [q16]; exact hc.1)
          have hF' := tF_m hF4 (m' := ob_u (ob_u m4 15 (3 * P 11 0 + 2) z) 16 4 (P 11 0 + 1)) (fun f q => by rw [ou_ff (by omega), ou_ff (by omega)])
          exact dp_no (by intro q; cases q) (dp_sm (kF R4 _ _ _ (ln_th hnh (by decide) th (le_b hF'.2.1)) hF' (k3_k (kR_t kR2 (kR_t kR3 kR4))) (ke_t (ke_k s3) (ke_t (ke_k km) (ke_t (ke_u (by decide)) (ke_t (ke_k km3) (ke_t (ke_u (by decide)) (ke_t (ke_k km4) (ke_t (ke_u (by decide)) (ke_u (by decide)))))))))))
      · have q16 : m3 16 = m 16 := by rw [km3 16 (by decide), ou_ff (by decide), km 16 (by decide), s3 16 (by decide)]
        have hF1 := tF_m hF3 (m' := ob_u m3 15 (3 * P 11 0 + 1) y) (kq_u (by decide))
        have th := th_4 hc.1 (by omega) s1 hnu hnu3 (nu_b hF1.2.1) (by rw [ou_ff (by decide), q16]; exact hc.1)
        have hF' := tF_m hF1 (m' := ob_u (ob_u (ob_u m3 15 (3 * P 11 0 + 1) y) 15 (3 * P 11 0 + 2) 1) 16 4 (P 11 0 + 1)) (fun f q => by rw [ou_ff (by omega), ou_ff (by omega)])
        exact dp_no (by intro q; cases q) (dp_sm (kF R3 _ _ _ (ln_th hnh (by decide) th (le_b hF'.2.1)) hF' (k3_k (kR_t kR2 kR3)) (ke_t (ke_k s3) (ke_t (ke_k km) (ke_t (ke_u (by decide)) (ke_t (ke_k km3) (ke_t (ke_u (by decide)) (ke_t (ke_u (by decide)) (ke_u (by decide))))))))))
    · have q16 : m2 16 = m 16 := by rw [km 16 (by decide), s3 16 (by decide)]
      have hF1 := tF_m hF (m' := ob_u m2 15 (3 * P 11 0) x) (kq_u (by decide))
      have hF2 := tF_m hF1 (m' := ob_u (ob_u m2 15 (3 * P 11 0) x) 15 (3 * P 11 0 + 1) x) (kq_u (by decide))
      have th := th_4 hc.1 (by omega) s1 hnu (nu_b hF1.2.1) (nu_b hF2.2.1) (by rw [ou_ff (by decide), ou_ff (by decide), q16]; exact hc.1)
      have hF' := tF_m hF2 (m' := ob_u (ob_u (ob_u (ob_u m2 15 (3 * P 11 0) x) 15 (3 * P 11 0 + 1) x) 15 (3 * P 11 0 + 2) 1) 16 4 (P 11 0 + 1)) (fun f q => by rw [ou_ff (by omega), ou_ff (by omega)])
      exact dp_no (by intro q; cases q) (dp_sm (kF R2 _ _ _ (ln_th hnh (by decide) th (le_b hF'.2.1)) hF' (k3_k kR2) (ke_t (ke_k s3) (ke_t (ke_k km) (ke_t (ke_u (by decide)) (ke_t (ke_u (by decide)) (ke_t (ke_u (by decide)) (ke_u (by decide)))))))))
  · obtain ⟨f1, f2, f3⟩ := lk_fl hI (w := 5) (w' := 5) (by omega) (by omega)
    exact dp_no c (dp_bi (fl_cls hI.2.2.2.1 (dp_sm (kF _ _ _ _ (ln_th hnh (by decide) (th_m (Or.inr (Or.inr (Or.inr (Or.inr ⟨rfl, by omega⟩)))) (fl_eq hI.2.2.2.2.2.2.1)) (le_b f1.2.1)) f1 (k3_k f3) (ke_k f2)))))
theorem lk_tune (hp : p = 25 ∨ p = 4) (hs : s = 36 ∨ s = 15) (hT : so_tp T) (hZ : Z 2 = T) (hR2 : (R 2 0).toNat = s) (hI : tkI T R m a st e 2) (hN : so_ni (so_wd T st e) 15 = 5) (hr : rg_A R P S m) {K : Bool × dz_Z → Prop} (kT : so_kT Z p s T R m e K) (kF : so_kF Z p s T R m K) : dz_p (jf_R_readTune (rk Z p s R P S)) K := by
  have hisS : hz_isS s := by unfold hz_isS; omega
  have ht := hr.2.2.2.2.2.1.1
  obtain ⟨o1, o2, o3, o4⟩ := hr.2.2.2.2.2.2.2.1
  have ec : dz_c (S 6 0) = S 6 0 := dz_ci (by omega) (by omega)
  have hnh := I_nh hT hI
  rw [hN] at hnh
  unfold jf_R_readTune
  simp only [rk_1, hR2, rk_s hp hs, ec]
  refine dp_ck hisS ?_
  by_cases c : S 6 0 ≤ 0
  · rw [if_neg (by omega)] at o4
    have b20 : dz_c (dz_an (dz_sr (m 20 0) 5) 1) ≠ 1 ∧ dz_or (m 20 0) (dz_sl 1 5) = m 20 0 + 32 := by
      rcases o3 with q | q <;> rw [o4, q] <;> decide
    have hI2 := tI_m hI (m' := ob_u m 20 0 (m 20 0 + 32)) (kq_u (by decide))
    obtain ⟨m1, s1, s2, s3⟩ := lk_st hT hI2
    have hL1 := s2 R hI.2.2.1 hI.2.2.2.2.2.1
    refine dp_ck c (dp_bi (lk_sec hp hs hT hZ hL1 (a1 := 73) (by omega) (by omega) (fun R2 S2 m2 n b hrs hls hab hn kR2 hS hent h11 hsk => ?_) (fun R2 S2 m2 hrs hlf kR2 hsk => ?_)))
    · have R22 : (R2 2 0).toNat = s := by rw [kR2 2 (by decide)]; exact hR2
      refine dp_le ?_
      rw [rk_us hp hs]
      simp only [rk_1, R22, rk_s hp hs, ou_s]
      rw [dz_ci (x := n) (by omega) (by omega)]
      obtain ⟨m3, l1, l2, l3⟩ := hls m2 (fun _ _ => rfl)
      refine dp_ck hisS (dp_no (by omega) (dp_sm (kT R2 P _ m3 b (ln_5 hnh (fun Y => if_pos b20.1) b20.2.symm s1 hrs l1) l2 (by omega) (k3_k kR2) ?_ (ke_t (ke_u (by decide)) (ke_t (ke_k s3) (ke_t (sk_e hsk) (ke_k l3)))))))
      refine rf_tune hr (by omega) hn (kR2 5 (Or.inr rfl)) (fun f q => ?_) ?_ (fun j q => ?_) ?_ (fun i x y => ?_) (fun f a1 a2 => ?_) ou_s
      · rw [l3 f (by omega), hsk.2 f (by omega), s3 f (by omega), ou_ff (by omega)]
      · rw [l3 20 (by decide), hsk.2 20 (by decide), s3 20 (by decide), ou_s]
      · rw [l3 11 (by decide), hsk.1 j (by omega), s3 11 (by decide), ou_f (by decide)]
      · rw [l3 11 (by decide), h11]
      · rw [l3 11 (by decide), ou_f (by decide)]; exact hent i x y
      · rw [ou_ff a2, hS f a1]
    · have R22 : (R2 2 0).toNat = s := by rw [kR2 2 (by decide)]; exact hR2
      refine dp_le ?_
      rw [rk_us hp hs]
      simp only [rk_1, R22, rk_s hp hs, ou_s]
      obtain ⟨m3, l1, l2, l3⟩ := hlf m2 (fun _ _ => rfl)
      exact dp_ck hisS (dp_ck (by decide) (dp_sm (kF R2 P _ m3 (ln_5 hnh (fun Y => if_pos b20.1) b20.2.symm s1 hrs l1) l2 (k3_k kR2) (ke_t (ke_u (by decide)) (ke_t (ke_k s3) (ke_t (sk_e hsk) (ke_k l3)))))))
  · rw [if_pos (by omega)] at o4
    have b20 : ¬ dz_c (dz_an (dz_sr (m 20 0) 5) 1) ≠ 1 := by
      rcases o3 with q | q <;> rw [o4, q] <;> decide
    obtain ⟨f1, f2, f3⟩ := lk_fl hI (w := 4) (w' := 4) (by omega) (by omega)
    generalize hM : ob_u (ob_u m 24 0 4) 25 0 (m 27 0) = M at f1 f2
    have hF1 := tF_m f1 (m' := ob_u M 20 0 (dz_or (M 20 0) (dz_sl 1 5))) (kq_u (by decide))
    have hF2 := tF_m hF1 (m' := ob_u (ob_u M 20 0 (dz_or (M 20 0) (dz_sl 1 5))) 11 73 0) (kq_u (by decide))
    refine dp_no c (dp_bi (fl_cls hI.2.2.2.1 (dp_sm (kF _ _ _ _ (ln_5 hnh (m1 := M) (fun Y => ?_) rfl (sp_b hF1.2.1) (fun Y => lp_r (n := 4999) (rb_b hF1.2.1 (by decide) Y)) (le_b hF2.2.1)) hF2 (k3_k f3) (ke_t (ke_k f2) (ke_t (ke_u (by decide)) (ke_u (by decide))))))))
    rw [if_neg b20, fl_eq hI.2.2.2.2.2.2.1, hM]
    rfl
theorem lk_wear (hp : p = 25 ∨ p = 4) (hs : s = 36 ∨ s = 15) (hT : so_tp T) (hZ : Z 2 = T) (hR1 : (R 1 0).toNat = p) (hI : tkI T R m a st e 2) (hN : so_ni (so_wd T st e) 15 = 6) (hr : rg_A R P S m) {K : Bool × dz_Z → Prop} (kT : so_kT Z p s T R m e K) (kF : so_kF Z p s T R m K) : dz_p (jf_R_readWear (rk Z p s R P S)) K := by
  have hisP : hz_isP p := by unfold hz_isP; omega
  obtain ⟨o1, o2, o3, o4⟩ := hr.2.2.2.2.2.2.2.1
  have hnh := I_nh hT hI
  rw [hN] at hnh
  unfold jf_R_readWear
  simp only [rk_1]
  rcases o3 with c | c
  · have b20 : dz_c (dz_an (dz_sr (m 20 0) 6) 1) ≠ 1 ∧ dz_or (m 20 0) (dz_sl 1 6) = m 20 0 + 64 := by
      rw [o4, c]
      split <;> decide
    have hI2 := tI_m hI (m' := ob_u m 20 0 (m 20 0 + 64)) (kq_u (by decide))
    obtain ⟨m1, s1, s2, s3⟩ := lk_st hT hI2
    have hL1 := s2 (ob_u R 5 0 1) (by rw [ou_f (by decide)]; exact hI.2.2.1) (by rw [ou_f (by decide)]; exact hI.2.2.2.2.2.1)
    refine dp_ck (by rw [c]; decide) (dp_le ?_)
    rw [rk_u1]
    refine dp_bi (lk_num hp hs hT hZ hL1 (by decide) (by decide) (fun R2 m2 v b hnu hL2 hab h9 hlo hhi _ _ kR2 km => ?_) (fun R2 m2 v hnu hF kR2 km => ?_))
    · have R21 : (R2 1 0).toNat = p := by rw [kR2 1 (by decide), ou_f (by decide)]; exact hR1
      refine dp_ck rfl ?_
      simp only [rk_1, R21, h9]
      refine dp_ck hisP (dp_le ?_)
      rw [rk_up hp]
      have hL2' := tL_m hL2 (m' := ob_u m2 17 0 v) (kq_u (by decide))
      refine dp_bi (lk_se hp hs hT hZ hL2' (fun R4 m4 b4 hle hL5 hab4 kR4 km4 => dp_sm ?_) (fun R4 m4 hle hF4 kR4 km4 => dp_sm ?_))
      · have k3 : kp3 R R4 := fun f q => by rw [kR4 f (Or.inl q), kR2 f (Or.inl q), ou_ff (by omega)]
        refine kT R4 _ _ m4 b4 (ln_6 hnh (fun Y => if_pos b20.1) b20.2.symm s1 hnu hle) hL5 (by omega) k3 ?_ (ke_t (ke_u (by decide)) (ke_t (ke_k s3) (ke_t (ke_k km) (ke_t (ke_u (by decide)) (ke_k km4)))))
        refine rf_wear hr c (v := v) (by omega) ?_ (fun f q => ?_) ?_ ?_ (fun f q => ou_ff q) ou_s
        · rw [kR4 5 (Or.inr rfl), kR2 5 (Or.inr rfl), ou_s]
        · rw [km4 f (by omega), ou_ff (by omega), km f (by omega), s3 f (by omega), ou_ff (by omega)]
        · rw [km4 17 (by decide), ou_s]
        · rw [km4 20 (by decide), ou_f (by decide), km 20 (by decide), s3 20 (by decide), ou_s]
      · have k3 : kp3 R R4 := fun f q => by rw [kR4 f (Or.inl q), kR2 f (Or.inl q), ou_ff (by omega)]
        exact kF R4 _ _ m4 (ln_6 hnh (fun Y => if_pos b20.1) b20.2.symm s1 hnu hle) hF4 k3 (ke_t (ke_u (by decide)) (ke_t (ke_k s3) (ke_t (ke_k km) (ke_t (ke_u (by decide)) (ke_k km4)))))
    · have k3 : kp3 R R2 := fun f q => by rw [kR2 f (Or.inl q), ou_ff (by omega)]
      have hF' := tF_m hF (m' := ob_u m2 17 0 v) (kq_u (by decide))
      exact dp_no (by intro q; cases q) (dp_sm (kF R2 _ _ _ (ln_6 hnh (fun Y => if_pos b20.1) b20.2.symm s1 hnu (le_b hF'.2.1)) hF' k3 (ke_t (ke_u (by decide)) (ke_t (ke_k s3) (ke_t (ke_k km) (ke_u (by decide)))))))
  · have b20 : ¬ dz_c (dz_an (dz_sr (m 20 0) 6) 1) ≠ 1 := by
      rw [o4, c]
      split <;> decide
    obtain ⟨f1, f2, f3⟩ := lk_fl hI (w := 4) (w' := 4) (by omega) (by omega)
    generalize hM : ob_u (ob_u m 24 0 4) 25 0 (m 27 0) = M at f1 f2
    have hF1 := tF_m f1 (m' := ob_u M 20 0 (dz_or (M 20 0) (dz_sl 1 6))) (kq_u (by decide))
    have hF2 := tF_m hF1 (m' := ob_u (ob_u M 20 0 (dz_or (M 20 0) (dz_sl 1 6))) 17 0 0) (kq_u (by decide))
    refine dp_no (by rw [c]; decide) (dp_bi (fl_cls hI.2.2.2.1 (dp_sm (kF _ _ _ _ (ln_6 hnh (m1 := M) (fun Y => ?_) rfl (sp_b hF1.2.1) (nu_b hF1.2.1) (le_b hF2.2.1)) hF2 (k3_k f3) (ke_t (ke_k f2) (ke_t (ke_u (by decide)) (ke_u (by decide))))))))
    rw [if_neg b20, fl_eq hI.2.2.2.2.2.2.1, hM]
    rfl
end tj
end mg_70tj
section mg_71tk
/-! the next line; the end -/
section tk1
variable {Z Y : dz_Z} {p s : Nat} {R R' P S T m m' m1 m2 m3 m4 m5 : ob_O} {a b e k i v st x y z lo hi w g N n : Int}
theorem it_cls (hp : p = 25 ∨ p = 4) (hR1 : (R 1 0).toNat = p) (hw : so_way w) (h3 : 0 ≤ P 3 0 ∧ P 3 0 ≤ 5) (h6 : 0 ≤ P 6 0 ∧ P 6 0 ≤ 8) : jf_R_isThere w (rk Z p s R P S) = some (decide ((w < 5 → w < P 3 0) ∧ (10 ≤ w → w < 18 → w - 10 < P 6 0))) := by
  have hisP : hz_isP p := by unfold hz_isP; omega
  unfold so_way at hw
  apply dp_is
  unfold jf_R_isThere
  simp only [rk_1, hR1, rk_p hp]
  rw [dz_ci (x := w) (by omega) (by omega), dz_ci (x := P 6 0) (by omega) (by omega), dz_ci (x := P 3 0) (by omega) (by omega), dz_ci (x := w - 10) (by omega) (by omega)]
  by_cases c : 5 ≤ w
  · refine dp_ck c ?_
    by_cases d : w = 20
    · refine dp_ck d (dp_sm ?_)
      rw [decide_eq_true]
      exact ⟨fun q => by omega, fun q r => by omega⟩
    · refine dp_no d (dp_ck hisP (dp_br (fun q => dp_sm ?_) (fun q => dp_sm ?_)))
      · rw [decide_eq_false]
        intro h
        have := h.2 (by omega) (by omega)
        omega
      · rw [decide_eq_true]
        exact ⟨fun q => by omega, fun _ _ => by omega⟩
  · refine dp_no c (dp_ck hisP (dp_br (fun q => dp_sm ?_) (fun q => dp_sm ?_)))
    · rw [decide_eq_false]
      intro h
      have := h.1 (by omega)
      omega
    · rw [decide_eq_true]
      exact ⟨fun _ => by omega, fun _ _ => by omega⟩
theorem ap_cls (hp : p = 25 ∨ p = 4) (hs : s = 36 ∨ s = 15) (hR1 : (R 1 0).toNat = p) (hR2 : (R 2 0).toNat = s) (hr : rg_A R' P S m) : jf_R_allPartsAreThere (rk Z p s R P S) = some (decide (m 18 0 < P 3 0 ∧ m 19 0 < P 6 0)) := by
  have hisP : hz_isP p := by unfold hz_isP; omega
  have hisS : hz_isS s := by unfold hz_isS; omega
  obtain ⟨hc, hr', hg, hsp, hw', ht, hz, ho, hpg, hh, hi⟩ := hr
  obtain ⟨c0, c3, c6, c10, c11⟩ := hc
  have h18 := hh.2 (P 3 0) c3.2.1
  have h19 := hi.2 (P 6 0) c6.2.1
  apply dp_is
  unfold jf_R_allPartsAreThere
  simp only [rk_1, hR1, hR2, rk_p hp, rk_s hp hs]
  rw [dz_ci (x := P 0 0) (by omega) (by omega), dz_ci (x := P 3 0) (by omega) (by omega), dz_ci (x := P 6 0) (by omega) (by omega)]
  refine dp_lp (fun n q => ∃ r : Nat, (r : Int) + n = P 0 0 ∧ q = (r : Int) ∧ ∀ r' : Int, 0 ≤ r' → r' < r → P 2 r' < P 3 0) ?_ 5000 (P 0 0).toNat 0 (by omega) ⟨0, by omega, rfl, fun r' x y => by omega⟩
  rintro n _ ⟨r, hrn, rfl, hA⟩
  rw [dz_ci (x := (r : Int)) (by omega) (by omega)]
  refine dp_ck hisP ?_
  by_cases cr : P 0 0 ≤ r
  · refine dp_ck cr ?_
    have hA' : ∀ r' : Int, 0 ≤ r' → r' < P 0 0 → P 2 r' < P 3 0 := fun r' x y => hA r' x (by omega)
    refine dp_lp (fun n q => ∃ g : Nat, (g : Int) + n = P 3 0 ∧ q = (g : Int) ∧ ∀ g' : Int, 0 ≤ g' → g' < g → ((P 4 g' < 5 → P 4 g' < P 3 0) ∧ (10 ≤ P 4 g' → P 4 g' < 18 → P 4 g' - 10 < P 6 0)) ∧ ((P 5 g' < 5 → P 5 g' < P 3 0) ∧ (10 ≤ P 5 g' → P 5 g' < 18 → P 5 g' - 10 < P 6 0))) ?_ 5000 (P 3 0).toNat 0 (by omega) ⟨0, by omega, rfl, fun g' x y => by omega⟩
    rintro n2 _ ⟨g, hgn, rfl, hB⟩
    rw [dz_ci (x := (g : Int)) (by omega) (by omega)]
    by_cases cg : P 3 0 ≤ g
    · refine dp_ck cg ?_
      have hB' : ∀ g' : Int, 0 ≤ g' → g' < P 3 0 → ((P 4 g' < 5 → P 4 g' < P 3 0) ∧ (10 ≤ P 4 g' → P 4 g' < 18 → P 4 g' - 10 < P 6 0)) ∧ ((P 5 g' < 5 → P 5 g' < P 3 0) ∧ (10 ≤ P 5 g' → P 5 g' < 18 → P 5 g' - 10 < P 6 0)) := fun g' x y => hB g' x (by omega)
      refine dp_lp (fun n q => ∃ s' : Nat, (s' : Int) + n = P 6 0 ∧ q = (s' : Int) ∧ ∀ s2 : Int, 0 ≤ s2 → s2 < s' → S 2 s2 = 4 → P 9 s2 < P 6 0) ?_ 5000 (P 6 0).toNat 0 (by omega) ⟨0, by omega, rfl, fun s2 x y => by omega⟩
      rintro n3 _ ⟨s', hsn, rfl, hC⟩
      rw [dz_ci (x := (s' : Int)) (by omega) (by omega)]
      by_cases cs : P 6 0 ≤ s'
      · refine dp_ck cs (dp_sm ?_)
        show true = decide _
        rw [decide_eq_true]
        exact ⟨h18.mpr ⟨hA', fun g x y => ⟨(hB' g x y).1.1, (hB' g x y).2.1⟩⟩, h19.mpr ⟨fun g x y => ⟨(hB' g x y).1.2, (hB' g x y).2.2⟩, fun s2 x y => hC s2 x (by omega)⟩⟩
      · have hq := hsp s' (by omega) (by omega)
        refine dp_no cs (dp_ck hisS (dp_ck (by omega) ?_))
        rw [dz_ci (x := S 2 (s' : Int)) (by omega) (by omega)]
        by_cases c4 : S 2 (s' : Int) = 4
        · have h9 := hq.2.2.2.2.2.2.1 c4
          rw [dz_ci (x := P 9 (s' : Int)) (by omega) (by omega)]
          refine dp_no (by omega) (dp_br (fun q => dp_sm ⟨n3 - 1, by omega, s' + 1, by omega, by omega, fun s2 x y z => ?_⟩) (fun q => dp_sm ?_))
          · by_cases e : s2 = s'
            · rw [e]; exact q
            · exact hC s2 x (by omega) z
          · show false = decide _
            rw [decide_eq_false]
            intro h
            exact q ((h19.mp h.2).2 s' (by omega) (by omega) c4)
        · refine dp_ck c4 (dp_sm ⟨n3 - 1, by omega, s' + 1, by omega, by omega, fun s2 x y z => ?_⟩)
          by_cases e : s2 = s'
          · rw [e] at z; exact absurd z c4
          · exact hC s2 x (by omega) z
    · have hq := hg g (by omega) (by omega)
      refine dp_no cg (dp_ck (by omega) (dp_bi (dp_eq (it_cls hp hR1 hq.2.2.1 c3.2 c6.2) (dp_br (fun q => dp_sm ?_) (fun q => dp_bi (dp_eq (it_cls hp hR1 hq.2.2.2 c3.2 c6.2) (dp_br (fun q2 => dp_sm ⟨n2 - 1, by omega, g + 1, by omega, by omega, fun g' x y => ?_⟩) (fun q2 => dp_sm ?_)))))))) 
      · show false = decide _
        rw [decide_eq_false]
        intro h
        exact (decide_eq_false_iff_not.mp q) ⟨((h18.mp h.1).2 g (by omega) (by omega)).1, ((h19.mp h.2).1 g (by omega) (by omega)).1⟩
      · by_cases e : g' = g
        · rw [e]
          exact ⟨of_decide_eq_true (eq_true_of_ne_false q), of_decide_eq_true q2⟩
        · exact hB g' x (by omega)
      · show false = decide _
        rw [decide_eq_false]
        intro h
        exact q2 (decide_eq_true ⟨((h18.mp h.1).2 g (by omega) (by omega)).2, ((h19.mp h.2).1 g (by omega) (by omega)).2⟩)
  · have hq := hr' r (by omega) (by omega)
    refine dp_no cr (dp_ck (by omega) ?_)
    rw [dz_ci (x := P 2 (r : Int)) (by omega) (by omega)]
    refine dp_br (fun q => dp_sm ⟨n - 1, by omega, r + 1, by omega, by omega, fun r' x y => ?_⟩) (fun q => dp_sm ?_)
    · by_cases e : r' = r
      · rw [e]; exact q
      · exact hA r' x (by omega)
    · show false = decide _
      rw [decide_eq_false]
      intro h
      exact q ((h18.mp h.1).1 r (by omega) (by omega))
theorem fl_z (hI : R 7 0 = st) {K : Bool × dz_Z → Prop} (k : K (false, rk Z p s (ob_u (ob_u R 3 0 w) 4 0 st) P S)) : dz_p (Option.bind (jf_R_fail w (rk Z p s R P S)) fun q30 => some (false, q30.2)) K := dp_bi (fl_cls hI (dp_sm k))
/-- a line -/
theorem lk_line (hp : p = 25 ∨ p = 4) (hs : s = 36 ∨ s = 15) (hT : so_tp T) (hZ : Z 2 = T) (hR1 : (R 1 0).toNat = p) (hR2 : (R 2 0).toNat = s) (hL : tkL T R m a) (hr : rg_A R P S m) {K : Bool × dz_Z → Prop} (kT : ∀ (R' P' S' m' : ob_O) (b : Int), (m 24 0 = 0 ∧ dz_c (m 28 0) ≠ 0) → (∀ Y, jf_M_readLine (ob_z Y 114 m) = some (ob_z Y 114 m')) → tkL T R' m' b → a + 1 < b → kp3 R R' → rg_A R' P' S' m' → ke m m' → K (true, rk Z p s R' P' S')) (kF : ∀ (R' P' S' m' : ob_O), (m 24 0 = 0 ∧ dz_c (m 28 0) ≠ 0) → (∀ Y, jf_M_readLine (ob_z Y 114 m) = some (ob_z Y 114 m')) → tkF T R' m' → kp3 R R' → ke m m' → K (false, rk Z p s R' P' S')) (kB : ∀ R' : ob_O, tkF T R' m → kp3 R R' → K (false, rk Z p s R' P S)) (kE : ∀ R' : ob_O, m 24 0 = 0 → m 28 0 = 0 → m 18 0 < P 3 0 → m 19 0 < P 6 0 → R' 3 0 = 0 → kpR R R' → K (false, rk Z p s R' P S)) (kM : ∀ (R' m' : ob_O), m 24 0 = 0 → m 28 0 = 0 → ¬(m 18 0 < P 3 0 ∧ m 19 0 < P 6 0) → (∀ Y, jf_M_fails 6 (ob_z Y 114 m) = some (ob_z Y 114 m')) → tkF T R' m' → kp3 R R' → kpm m m' → K (false, rk Z p s R' P S)) : dz_p (jf_R_readLine (rk Z p s R P S)) K := by
  unfold jf_R_readLine
  refine dp_bi (lk_nt hp hs hT hZ hL (fun R1 st e k hI kR => ?_) (fun R1 hF _ kR => ?_))
  · have hk := I_k hI
    have hmk := mk_b hk
    have r8 := hI.2.2.2.2.1
    have r7 := hI.2.2.2.1
    have m24 := hI.2.2.2.2.2.2.1
    have e28 := tm_24 hT hI.2.2.2.2.2.2.2.2.2.2.2 hI
    have m28 := hI.2.2.2.2.2.2.2.2.2.1
    have hst := hI.1.1
    have hr1 : rg_A R1 P S m := by
      obtain ⟨a1, a2, a3, a4, a5, a6, a7, a8, a9⟩ := hr
      exact ⟨a1, a2, a3, a4, a5, a6, a7, fr_o a8 rfl rfl rfl (kR 5 (Or.inr rfl)) rfl, a9⟩
    have R11 : (R1 1 0).toNat = p := by rw [kR 1 (by decide)]; exact hR1
    have R12 : (R1 2 0).toNat = s := by rw [kR 2 (by decide)]; exact hR2
    refine dp_ck rfl ?_
    simp only [rk_1, r8, dc_ir hk.1 (show k ≤ 2147483647 by omega)]
    by_cases c1 : k = 1
    · subst c1
      refine dp_no (by omega) (dp_bi (dp_eq (ap_cls hp hs R11 R12 hr1) (dp_br (fun q => dp_sm ?_) (fun q => fl_z r7 ?_))))
      · have := of_decide_eq_true q
        exact kE R1 m24 (by rw [m28]; rfl) this.1 this.2 hI.2.2.2.2.2.1 kR
      · obtain ⟨f1, f2, f3⟩ := lk_fl hI (w := 6) (w' := 6) (by omega) (by omega)
        exact kM _ _ m24 (by rw [m28]; rfl) (fun h => q (decide_eq_true h)) (fl_eq m24) f1 (k3_k (kR_t kR f3)) f2
    · refine dp_ck c1 ?_
      have h28 : m 24 0 = 0 ∧ dz_c (m 28 0) ≠ 0 := ⟨m24, by rw [e28]; omega⟩
      by_cases c2 : k = 2
      · subst c2
        refine dp_ck rfl ?_
        have h8 := hI.1.2.2.2.2.1 (Or.inl rfl)
        have i0 := I_in (P := P) (S := S) (c := 0) hp hs hT hZ hI (by decide)
        have i1 := I_in (P := P) (S := S) (c := 1) hp hs hT hZ hI (by decide)
        have i3 := I_in (P := P) (S := S) (c := 3) hp hs hT hZ hI (by decide)
        have i11 := I_in (P := P) (S := S) (c := 11) hp hs hT hZ hI (by decide)
        have i12 := I_in (P := P) (S := S) (c := 12) hp hs hT hZ hI (by decide)
        have i13 := I_in (P := P) (S := S) (c := 13) hp hs hT hZ hI (by decide)
        have i14 := I_in (P := P) (S := S) (c := 14) hp hs hT hZ hI (by decide)
        rw [show ((so_sg 0 : Nat) : Int) = 0 by decide] at i0
        rw [show ((so_sg 1 : Nat) : Int) = 1 by decide] at i1
        rw [show ((so_sg 3 : Nat) : Int) = 2 by decide] at i3
        rw [show ((so_sg 11 : Nat) : Int) = 3 by decide] at i11
        rw [show ((so_sg 12 : Nat) : Int) = 5 by decide] at i12
        rw [show ((so_sg 13 : Nat) : Int) = 4 by decide] at i13
        rw [show ((so_sg 14 : Nat) : Int) = 6 by decide] at i14
        have hnh := I_nh hT hI
        have hb := ni_b (w := so_wd T st e)
        have lT : so_kT Z p s T R1 m e K := fun R' P' S' m' b x1 x2 x3 x4 x5 x6 => kT R' P' S' m' b h28 x1 x2 (by omega) (fun f q => by rw [x4 f q, kR f (Or.inl q)]) x5 x6
        have lF : so_kF Z p s T R1 m K := fun R' P' S' m' x1 x2 x4 x6 => kF R' P' S' m' h28 x1 x2 (fun f q => by rw [x4 f q, kR f (Or.inl q)]) x6
        have tl : ∀ {o : Option (Bool × dz_Z)}, dz_p o K → dz_p (Option.bind o fun q26 => some (q26.1, q26.2)) K := fun h => dp_bi (dz_pm h (fun q x => dp_sm x))
        refine dp_bi (dp_eq i0 (dp_br (fun n0 => ?_) (fun n0 => tl (lk_roof hp hs hT hZ R11 hI (by simpa using n0) hr1 lT lF))))
        refine dp_bi (dp_eq i1 (dp_br (fun n1 => ?_) (fun n1 => tl (lk_peg hp hs hT hZ R11 hI (by simpa using n1) hr1 lT lF))))
        refine dp_bi (dp_eq i3 (dp_br (fun n3 => ?_) (fun n3 => tl (lk_spt hp hs hT hZ R11 R12 hI (by simpa using n3) hr1 lT lF))))
        refine dp_bi (dp_eq i11 (dp_br (fun n11 => ?_) (fun n11 => tl (lk_rain hp hs hT hZ R11 R12 hI (by simpa using n11) hr1 lT lF))))
        refine dp_bi (dp_eq i12 (dp_br (fun n12 => ?_) (fun n12 => tl (lk_tune hp hs hT hZ R12 hI (by simpa using n12) hr1 lT lF))))
        refine dp_bi (dp_eq i13 (dp_br (fun n13 => ?_) (fun n13 => tl (lk_slp hp hs hT hZ R11 hI (by simpa using n13) hr1 lT lF))))
        refine dp_bi (dp_eq i14 (dp_br (fun n14 => ?_) (fun n14 => tl (lk_wear hp hs hT hZ R11 hI (by simpa using n14) hr1 lT lF))))
        obtain ⟨f1, f2, f3⟩ := lk_fl hI (w := 2) (w' := 2) (by omega) (by omega)
        refine tl (fl_cls r7 (lF _ _ _ _ (ln_f hnh ⟨hb.1, hb.2.1, ?_⟩ (fl_eq m24)) f1 (k3_k f3) (ke_k f2)))
        simp only [decide_eq_false_iff_not] at n0 n1 n3 n11 n12 n13 n14
        omega
      · obtain ⟨f1, f2, f3⟩ := lk_fl hI (w := 2) (w' := 2) (by omega) (by omega)
        refine dp_no c2 (dp_bi (fl_cls r7 (dp_sm (kF _ _ _ _ h28 (ln_f (n_nh hT hL.2.2.2 ?_) (by decide) (fl_eq m24)) f1 (k3_k (kR_t kR f3)) (ke_k f2)))))
        rw [e28]
        have := hmk.2.2.1
        omega
  · exact dp_no (by intro q; cases q) (dp_sm (kB R1 hF (k3_k kR)))
end tk1
end mg_71tk
section mg_72ua
/-! the reference reads a text -/
def so_ob : Int × dz_Z → Option ((Int × dz_Z) ⊕ ((Int × dz_Z) ⊕ (Int × dz_Z))) := fun (s10 : Int × dz_Z) => if dz_c (s10.2 114 24 0) ≠ 0 then (Option.bind (α := dz_Z) (if dz_c (s10.2 114 24 0) ≠ 0 then (some s10.2) else (if dz_c (s10.2 114 16 1) ≤ dz_c (s10.2 114 18 0) then (Option.bind (jf_M_fails 6 s10.2) fun q24 => some q24) else (if dz_c (s10.2 114 19 0) < dz_c (s10.2 114 16 2) then (some s10.2) else (Option.bind (jf_M_fails 6 s10.2) fun q26 => some q26)))) (fun (q17 : dz_Z) => dz_a (dz_u q17 114 22 0 0) fun Z18 => dz_a (dz_u Z18 114 23 0 (Z18 114 24 0)) fun Z19 => if dz_c (Z19 114 24 0) ≤ 0 then (Option.bind (jf_M_takes Z19) fun q21 => some (Sum.inr (Sum.inr (s10.1, q21)))) else (some (Sum.inr (Sum.inr ((-10) - (Z19 114 25 0), Z19)))))) else (if dz_c (s10.2 114 28 0) = 0 then (Option.bind (α := dz_Z) (if dz_c (s10.2 114 24 0) ≠ 0 then (some s10.2) else (if dz_c (s10.2 114 16 1) ≤ dz_c (s10.2 114 18 0) then (Option.bind (jf_M_fails 6 s10.2) fun q40 => some q40) else (if dz_c (s10.2 114 19 0) < dz_c (s10.2 114 16 2) then (some s10.2) else (Option.bind (jf_M_fails 6 s10.2) fun q42 => some q42)))) (fun (q33 : dz_Z) => dz_a (dz_u q33 114 22 0 0) fun Z34 => dz_a (dz_u Z34 114 23 0 (Z34 114 24 0)) fun Z35 => if dz_c (Z35 114 24 0) ≤ 0 then (Option.bind (jf_M_takes Z35) fun q37 => some (Sum.inr (Sum.inr (s10.1, q37)))) else (some (Sum.inr (Sum.inr ((-10) - (Z35 114 25 0), Z35)))))) else (Option.bind (jf_M_readLine s10.2) fun q43 => some (Sum.inl (s10.1 + 1, q43))))
def so_oo : Int × dz_Z → Option ((Int × dz_Z) ⊕ (Int × dz_Z)) := fun (s7 : Int × dz_Z) => if 140 ≤ dz_c s7.1 then (Option.bind (jf_M_step s7.2) fun q9 => dz_lp so_ob 5000 (0, q9)) else (if 0 ≤ dz_c s7.1 ∧ dz_c s7.1 < 140 then dz_a (dz_u s7.2 114 11 (dz_c s7.1) 0) fun Z45 => if 0 ≤ dz_c (Int.tmod (dz_c s7.1) 5) ∧ dz_c (Int.tmod (dz_c s7.1) 5) < 5 then dz_a (dz_u Z45 114 16 (dz_c (Int.tmod (dz_c s7.1) 5)) 0) fun Z47 => some (Sum.inl (s7.1 + 1, Z47)) else none else none)
def so_mz (m : ob_O) : ob_O := ob_u (ob_u (ob_u (ob_u (ob_u (ob_u m 24 0 0) 26 0 0) 20 0 0) 17 0 0) 18 0 (-1)) 19 0 (-1)
def so_cl (m : ob_O) : Nat → ob_O
  | 0 => m
  | i + 1 => ob_u (ob_u (so_cl m i) 11 (i : Int) 0) 16 (Int.tmod (i : Int) 5) 0
def so_wr (o : Option ((Int × dz_Z) ⊕ (Int × dz_Z))) : Option (Int × dz_Z) := o.bind (fun q => match q with
  | .inl s' => dz_lp so_oo 4859 s'
  | .inr r => some r)
section ua
variable {Z Y : dz_Z} {R P S T m m' m1 m2 : ob_O} {n : Int}
theorem cl_11 : ∀ (i : Nat) (j : Int), 0 ≤ j → j < i → so_cl m i 11 j = 0
  | 0, j, a, b => by omega
  | i + 1, j, a, b => by
    show ob_u (ob_u (so_cl m i) 11 (i : Int) 0) 16 (Int.tmod (i : Int) 5) 0 11 j = 0
    rw [ou_f (by decide), ou_a]
    by_cases c : j = i
    · rw [if_pos c]
    · rw [if_neg c]; exact cl_11 i j a (by omega)
theorem tm_5 (i : Nat) : Int.tmod (i : Int) 5 = (i : Int) % 5 := Int.tmod_eq_emod_of_nonneg (by omega)
theorem cl_16 : ∀ (i : Nat) (j : Int), 0 ≤ j → j < 5 → j < i → so_cl m i 16 j = 0
  | 0, j, a, _, b => by omega
  | i + 1, j, a, c5, b => by
    show ob_u (ob_u (so_cl m i) 11 (i : Int) 0) 16 (Int.tmod (i : Int) 5) 0 16 j = 0
    rw [ou_a, tm_5]
    by_cases c : j = (i : Int) % 5
    · rw [if_pos c]
    · rw [if_neg c, ou_f (by decide)]; exact cl_16 i j a c5 (by omega)
theorem cl_f {f : Nat} (h : f ≠ 11) (h' : f ≠ 16) : ∀ i : Nat, so_cl m i f = m f
  | 0 => rfl
  | i + 1 => by
    show ob_u (ob_u (so_cl m i) 11 (i : Int) 0) 16 (Int.tmod (i : Int) 5) 0 f = m f
    rw [ou_ff h', ou_ff h, cl_f h h' i]
theorem oo_l {i : Nat} (hi : i < 140) : so_oo ((i : Int), ob_z Y 114 m) = some (.inl ((i : Int) + 1, ob_z Y 114 (ob_u (ob_u m 11 (i : Int) 0) 16 (Int.tmod (i : Int) 5) 0))) := by
  have e1 : dz_c (i : Int) = i := dz_ci (by omega) (by omega)
  have e2 : dz_c (Int.tmod (i : Int) 5) = Int.tmod (i : Int) 5 := dz_ci (by rw [tm_5]; omega) (by rw [tm_5]; omega)
  have h5 : 0 ≤ Int.tmod (i : Int) 5 ∧ Int.tmod (i : Int) 5 < 5 := by rw [tm_5]; omega
  unfold so_oo
  simp only [e1, e2, dz_a, oz_uz]
  rw [if_neg (by omega), if_pos (by omega), if_pos h5]
theorem oo_r : so_oo (140, Z) = Option.bind (jf_M_step Z) fun q9 => dz_lp so_ob 5000 (0, q9) := by
  unfold so_oo
  have : (140 : Int) ≤ dz_c 140 := by decide
  simp only [if_pos this]
theorem cl_lp : ∀ i : Nat, i ≤ 140 → dz_lp so_oo 5000 (0, ob_z Y 114 m) = dz_lp so_oo (5000 - i) ((i : Int), ob_z Y 114 (so_cl m i))
  | 0, _ => rfl
  | i + 1, h => by
    rw [cl_lp i (by omega)]
    obtain ⟨q, hq⟩ : ∃ q, 5000 - i = q + 1 := ⟨4999 - i, by omega⟩
    rw [hq, show 5000 - (i + 1) = q by omega]
    exact lp_l (oo_l (by omega))
theorem lp_u {S R : Type} {body : S → Option (S ⊕ R)} {n : Nat} {s : S} : dz_lp body (n + 1) s = (body s).bind (fun q => match q with
  | .inl s' => dz_lp body n s'
  | .inr r => some r) := rfl
theorem dz_ae {α β : Type} {x : α} {f : α → β} : dz_a x f = f x := by rw [dz_a]
theorem mo_e : jf_M_organ Z = dz_lp so_oo 5000 (0, dz_u (dz_u (dz_u (dz_u (dz_u (dz_u Z 114 24 0 0) 114 26 0 0) 114 20 0 0) 114 17 0 0) 114 18 0 (-1)) 114 19 0 (-1)) := by
  unfold jf_M_organ
  rw [dz_ae, dz_ae, dz_ae, dz_ae, dz_ae, dz_ae]
  rfl
theorem mo_eq : jf_M_organ (ob_z Y 114 m) = so_wr (Option.bind (jf_M_step (ob_z Y 114 (so_cl (so_mz m) 140))) fun q9 => dz_lp so_ob 5000 (0, q9)) := by
  rw [mo_e]
  simp only [oz_uz]
  show dz_lp so_oo 5000 (0, ob_z Y 114 (so_mz m)) = _
  rw [cl_lp 140 (by omega), ← oo_r]
  generalize so_cl (so_mz m) 140 = M
  rw [show 5000 - 140 = 4859 + 1 from rfl, lp_u, show ((140 : Nat) : Int) = 140 from rfl]
  unfold so_wr
  congr 1
  funext q
  cases q <;> rfl
theorem wr_r {r : Int × dz_Z} : so_wr (some (.inr r)) = some r := rfl
theorem ob_l (h24 : m 24 0 = 0) (h28 : dz_c (m 28 0) ≠ 0) (hl : ∀ Y, jf_M_readLine (ob_z Y 114 m) = some (ob_z Y 114 m')) : so_ob (n, ob_z Y 114 m) = some (.inl (n + 1, ob_z Y 114 m')) := by
  unfold so_ob
  simp only [oz_s, h24]
  rw [if_neg (by decide), if_neg h28, hl, Option.bind_some]
theorem ob_b (h24 : 1 ≤ m 24 0 ∧ m 24 0 ≤ 6) : so_ob (n, ob_z Y 114 m) = some (.inr (.inr (-10 - m 25 0, ob_z Y 114 (ob_u (ob_u m 22 0 0) 23 0 (m 24 0))))) := by
  have e24 : dz_c (m 24 0) ≠ 0 := by rw [dz_ci (x := m 24 0) (by omega) (by omega)]; omega
  have e24' : ¬ dz_c (m 24 0) ≤ 0 := by rw [dz_ci (x := m 24 0) (by omega) (by omega)]; omega
  unfold so_ob
  simp only [oz_s]
  rw [if_pos e24, if_pos e24, Option.bind_some]
  simp only [dz_a, oz_s, oz_uz, ou_f (show (24 : Nat) ≠ 22 by decide), ou_f (show (24 : Nat) ≠ 23 by decide), ou_f (show (25 : Nat) ≠ 22 by decide), ou_f (show (25 : Nat) ≠ 23 by decide)]
  rw [if_neg e24']
theorem ob_e (h24 : m 24 0 = 0) (h28 : m 28 0 = 0) (b1 : -1 ≤ m 18 0 ∧ m 18 0 ≤ 4) (b2 : -1 ≤ m 19 0 ∧ m 19 0 ≤ 7) (b3 : 0 ≤ m 16 1 ∧ m 16 1 ≤ 5) (b4 : 0 ≤ m 16 2 ∧ m 16 2 ≤ 8) (h : m 18 0 < m 16 1) (h' : m 19 0 < m 16 2) : so_ob (n, ob_z Y 114 m) = (jf_M_takes (ob_z Y 114 (ob_u (ob_u m 22 0 0) 23 0 0))).bind (fun q37 => some (.inr (.inr (n, q37)))) := by
  unfold so_ob
  simp only [oz_s, h24, h28]
  rw [if_neg (by decide), if_pos (by decide), if_neg (by decide), dz_ci (x := m 16 1) (by omega) (by omega), dz_ci (x := m 18 0) (by omega) (by omega), dz_ci (x := m 16 2) (by omega) (by omega), dz_ci (x := m 19 0) (by omega) (by omega), if_neg (by omega), if_pos h', Option.bind_some]
  simp only [dz_a, oz_s, oz_uz, ou_f (show (24 : Nat) ≠ 22 by decide), ou_f (show (24 : Nat) ≠ 23 by decide), h24]
  rw [if_pos (by decide)]
theorem ob_m (h24 : m 24 0 = 0) (h28 : m 28 0 = 0) (b1 : -1 ≤ m 18 0 ∧ m 18 0 ≤ 4) (b2 : -1 ≤ m 19 0 ∧ m 19 0 ≤ 7) (b3 : 0 ≤ m 16 1 ∧ m 16 1 ≤ 5) (b4 : 0 ≤ m 16 2 ∧ m 16 2 ≤ 8) (h : ¬(m 18 0 < m 16 1 ∧ m 19 0 < m 16 2)) (hf : ∀ Y, jf_M_fails 6 (ob_z Y 114 m) = some (ob_z Y 114 m')) (h24' : 1 ≤ m' 24 0 ∧ m' 24 0 ≤ 6) : so_ob (n, ob_z Y 114 m) = some (.inr (.inr (-10 - m' 25 0, ob_z Y 114 (ob_u (ob_u m' 22 0 0) 23 0 (m' 24 0))))) := by
  have e24' : ¬ dz_c (m' 24 0) ≤ 0 := by rw [dz_ci (x := m' 24 0) (by omega) (by omega)]; omega
  unfold so_ob
  simp only [oz_s, h24, h28]
  rw [if_neg (by decide), if_pos (by decide), if_neg (by decide), dz_ci (x := m 16 1) (by omega) (by omega), dz_ci (x := m 18 0) (by omega) (by omega), dz_ci (x := m 16 2) (by omega) (by omega), dz_ci (x := m 19 0) (by omega) (by omega), hf, Option.bind_some]
  have e : (if m 16 1 ≤ m 18 0 then some (ob_z Y 114 m') else if m 19 0 < m 16 2 then some (ob_z Y 114 m) else some (ob_z Y 114 m')) = some (ob_z Y 114 m') := by
    by_cases c : m 16 1 ≤ m 18 0
    · rw [if_pos c]
    · rw [if_neg c, if_neg (by omega)]
  rw [e, Option.bind_some]
  simp only [dz_a, oz_s, oz_uz, ou_f (show (24 : Nat) ≠ 22 by decide), ou_f (show (24 : Nat) ≠ 23 by decide), ou_f (show (25 : Nat) ≠ 22 by decide), ou_f (show (25 : Nat) ≠ 23 by decide)]
  rw [if_neg e24']
/-- what was read is taken -/
theorem tk_ref : dz_p (jf_M_takes (ob_z Y 114 m)) (fun q => ∃ mt : ob_O, q = ob_z Y 114 mt ∧ (∀ j : Int, 0 ≤ j → j < 140 → mt 0 j = m 11 j) ∧ (∀ j : Int, 140 ≤ j → mt 0 j = m 0 j) ∧ (∀ j : Int, 0 ≤ j → j < 8 → mt 7 j = m 12 j) ∧ (∀ j : Int, 0 ≤ j → j < 10 → mt 8 j = m 13 j) ∧ (∀ j : Int, 0 ≤ j → j < 8 → mt 9 j = m 14 j) ∧ (∀ j : Int, 0 ≤ j → j < 12 → mt 10 j = m 15 j) ∧ mt 1 0 = m 16 0 ∧ mt 2 0 = m 16 1 ∧ mt 3 0 = m 16 2 ∧ mt 4 0 = m 16 3 ∧ mt 5 0 = m 16 4 ∧ mt 6 0 = m 17 0 ∧ mt 41 0 = 0 ∧ mt 41 1 = 0 ∧ (∀ f : Nat, 10 < f → f ≠ 41 → mt f = m f)) := by
  unfold jf_M_takes
  refine dp_lp (fun n q => ∃ (i : Nat) (m' : ob_O), i + n = 140 ∧ q = ((i : Int), ob_z Y 114 m') ∧ (∀ j : Int, 0 ≤ j → j < i → m' 0 j = m 11 j) ∧ (∀ j : Int, 140 ≤ j → m' 0 j = m 0 j) ∧ (∀ f : Nat, f ≠ 0 → m' f = m f)) ?_ 5000 140 _ (by omega) ⟨0, m, by omega, rfl, fun j a b => by omega, fun j _ => rfl, fun f _ => rfl⟩
  rintro n _ ⟨i, m1, hin, rfl, h0, h1, hf⟩
  have e1 : dz_c (i : Int) = i := dz_ci (by omega) (by omega)
  simp only [e1]
  by_cases c : i = 140
  · refine dp_ck (by omega) ?_
    refine dp_lp (fun n q => ∃ (i : Nat) (m' : ob_O), i + n = 12 ∧ q = ((i : Int), ob_z Y 114 m') ∧ m' 0 = m1 0 ∧ (∀ j : Int, 0 ≤ j → j < 8 → j < i → m' 7 j = m 12 j) ∧ (∀ j : Int, 0 ≤ j → j < 10 → j < i → m' 8 j = m 13 j) ∧ (∀ j : Int, 0 ≤ j → j < 8 → j < i → m' 9 j = m 14 j) ∧ (∀ j : Int, 0 ≤ j → j < 12 → j < i → m' 10 j = m 15 j) ∧ (∀ f : Nat, f ≠ 0 → f ≠ 7 → f ≠ 8 → f ≠ 9 → f ≠ 10 → m' f = m f)) ?_ 5000 12 _ (by omega) ⟨0, m1, by omega, rfl, rfl, fun j a b c => by omega, fun j a b c => by omega, fun j a b c => by omega, fun j a b c => by omega, fun f a _ _ _ _ => hf f a⟩
    rintro n2 _ ⟨k, m2, hkn, rfl, k0, k7, k8, k9, k10, kf⟩
    have e2 : dz_c (k : Int) = k := dz_ci (by omega) (by omega)
    have t8 : Int.tmod (k : Int) 8 = (k : Int) % 8 := Int.tmod_eq_emod_of_nonneg (by omega)
    have t10 : Int.tmod (k : Int) 10 = (k : Int) % 10 := Int.tmod_eq_emod_of_nonneg (by omega)
    simp only [e2, t8, t10]
    rw [dz_ci (x := (k : Int) % 8) (by omega) (by omega), dz_ci (x := (k : Int) % 10) (by omega) (by omega)]
    by_cases d : k = 12
    · refine dp_ck (by omega) ?_
      simp only [dz_a, oz_uz, oz_s, ou_f (show (16 : Nat) ≠ 1 by decide), ou_f (show (16 : Nat) ≠ 2 by decide), ou_f (show (16 : Nat) ≠ 3 by decide), ou_f (show (16 : Nat) ≠ 4 by decide), ou_f (show (17 : Nat) ≠ 1 by decide), ou_f (show (17 : Nat) ≠ 2 by decide), ou_f (show (17 : Nat) ≠ 3 by decide), ou_f (show (17 : Nat) ≠ 4 by decide), ou_f (show (17 : Nat) ≠ 5 by decide)]
      refine dp_sm ⟨_, rfl, ?_⟩
      have q16 : m2 16 = m 16 := kf 16 (by decide) (by decide) (by decide) (by decide) (by decide)
      have q17 : m2 17 = m 17 := kf 17 (by decide) (by decide) (by decide) (by decide) (by decide)
      refine ⟨fun j a b => ?_, fun j a => ?_, fun j a b => ?_, fun j a b => ?_, fun j a b => ?_, fun j a b => ?_, ?_, ?_, ?_, ?_, ?_, ?_, ?_, ?_, fun f a b => ?_⟩
      · rw [ou_f (by decide), ou_f (by decide), ou_f (by decide), ou_f (by decide), ou_f (by decide), ou_f (by decide), ou_f (by decide), ou_f (by decide), k0]; exact h0 j a (by omega)
      · rw [ou_f (by decide), ou_f (by decide), ou_f (by decide), ou_f (by decide), ou_f (by decide), ou_f (by decide), ou_f (by decide), ou_f (by decide), k0]; exact h1 j a
      · rw [ou_f (by decide), ou_f (by decide), ou_f (by decide), ou_f (by decide), ou_f (by decide), ou_f (by decide), ou_f (by decide), ou_f (by decide)]; exact k7 j a b (by omega)
      · rw [ou_f (by decide), ou_f (by decide), ou_f (by decide), ou_f (by decide), ou_f (by decide), ou_f (by decide), ou_f (by decide), ou_f (by decide)]; exact k8 j a b (by omega)
      · rw [ou_f (by decide), ou_f (by decide), ou_f (by decide), ou_f (by decide), ou_f (by decide), ou_f (by decide), ou_f (by decide), ou_f (by decide)]; exact k9 j a b (by omega)
      · rw [ou_f (by decide), ou_f (by decide), ou_f (by decide), ou_f (by decide), ou_f (by decide), ou_f (by decide), ou_f (by decide), ou_f (by decide)]; exact k10 j a b (by omega)
      · rw [ou_f (by decide), ou_f (by decide), ou_f (by decide), ou_f (by decide), ou_f (by decide), ou_f (by decide), ou_f (by decide), ou_s, q16]
      · rw [ou_f (by decide), ou_f (by decide), ou_f (by decide), ou_f (by decide), ou_f (by decide), ou_f (by decide), ou_s, q16]
      · rw [ou_f (by decide), ou_f (by decide), ou_f (by decide), ou_f (by decide), ou_f (by decide), ou_s, q16]
      · rw [ou_f (by decide), ou_f (by decide), ou_f (by decide), ou_f (by decide), ou_s, q16]
      · rw [ou_f (by decide), ou_f (by decide), ou_f (by decide), ou_s, q16]
      · rw [ou_f (by decide), ou_f (by decide), ou_s, q17]
      · rw [ou_i (by decide), ou_s]
      · rw [ou_s]
      · rw [ou_ff b, ou_ff b, ou_ff (by omega), ou_ff (by omega), ou_ff (by omega), ou_ff (by omega), ou_ff (by omega), ou_ff (by omega)]
        exact kf f (by omega) (by omega) (by omega) (by omega) (by omega)
    · refine dp_no (by omega) (dp_ck (by omega) (dp_le (dp_ck (by omega) (dp_le (dp_le (dp_ck (by omega) (dp_le (dp_sm ?_))))))))
      simp only [oz_uz, oz_s, ou_f (show (13 : Nat) ≠ 7 by decide), ou_f (show (14 : Nat) ≠ 8 by decide), ou_f (show (14 : Nat) ≠ 7 by decide), ou_f (show (15 : Nat) ≠ 9 by decide), ou_f (show (15 : Nat) ≠ 8 by decide), ou_f (show (15 : Nat) ≠ 7 by decide)]
      have q12 : m2 12 = m 12 := kf 12 (by decide) (by decide) (by decide) (by decide) (by decide)
      have q13 : m2 13 = m 13 := kf 13 (by decide) (by decide) (by decide) (by decide) (by decide)
      have q14 : m2 14 = m 14 := kf 14 (by decide) (by decide) (by decide) (by decide) (by decide)
      have q15 : m2 15 = m 15 := kf 15 (by decide) (by decide) (by decide) (by decide) (by decide)
      rw [q12, q13, q14, q15]
      refine ⟨n2 - 1, by omega, k + 1, _, by omega, rfl, ?_, fun j a b c => ?_, fun j a b c => ?_, fun j a b c => ?_, fun j a b c => ?_, fun f a1 a2 a3 a4 a5 => ?_⟩
      · rw [ou_ff (by decide), ou_ff (by decide), ou_ff (by decide), ou_ff (by decide), k0]
      · rw [ou_f (by decide), ou_f (by decide), ou_f (by decide), ou_a]
        by_cases q : j = (k : Int) % 8
        · rw [if_pos q, q]
        · rw [if_neg q]; exact k7 j a b (by omega)
      · rw [ou_f (by decide), ou_f (by decide), ou_a, ou_f (by decide)]
        by_cases q : j = (k : Int) % 10
        · rw [if_pos q, q]
        · rw [if_neg q]; exact k8 j a b (by omega)
      · rw [ou_f (by decide), ou_a, ou_f (by decide), ou_f (by decide)]
        by_cases q : j = (k : Int) % 8
        · rw [if_pos q, q]
        · rw [if_neg q]; exact k9 j a b (by omega)
      · rw [ou_a, ou_f (by decide), ou_f (by decide), ou_f (by decide)]
        by_cases q : j = (k : Int)
        · rw [if_pos q, q]
        · rw [if_neg q]; exact k10 j a b (by omega)
      · rw [ou_ff a5, ou_ff a4, ou_ff a3, ou_ff a2]; exact kf f a1 a2 a3 a4 a5
  · refine dp_no (by omega) (dp_ck (by omega) (dp_ck (by omega) (dp_le (dp_sm ?_))))
    simp only [oz_uz, oz_s]
    rw [hf 11 (by decide)]
    refine ⟨n - 1, by omega, i + 1, _, by omega, rfl, fun j a b => ?_, fun j a => ?_, fun f a => ?_⟩
    · rw [ou_a]
      by_cases q : j = (i : Int)
      · rw [if_pos q, q]
      · rw [if_neg q]; exact h0 j a (by omega)
    · rw [ou_i (by omega)]; exact h1 j a
    · rw [ou_ff a]; exact hf f a
end ua
end mg_72ua
section mg_73ub
/-! organ -/
def so_zf (Z : dz_Z) (p s : Nat) (R P S : ob_O) : dz_Z := dz_u (dz_u (rk Z p s R P S) 2 1 0 0) 0 9 0 (R 3 0)
/-- what the reference's take leaves -/
def so_mt (m mt : ob_O) : Prop := (∀ j : Int, 0 ≤ j → j < 140 → mt 0 j = m 11 j) ∧ (∀ j : Int, 140 ≤ j → mt 0 j = m 0 j) ∧ (∀ j : Int, 0 ≤ j → j < 8 → mt 7 j = m 12 j) ∧ (∀ j : Int, 0 ≤ j → j < 10 → mt 8 j = m 13 j) ∧ (∀ j : Int, 0 ≤ j → j < 8 → mt 9 j = m 14 j) ∧ (∀ j : Int, 0 ≤ j → j < 12 → mt 10 j = m 15 j) ∧ mt 1 0 = m 16 0 ∧ mt 2 0 = m 16 1 ∧ mt 3 0 = m 16 2 ∧ mt 4 0 = m 16 3 ∧ mt 5 0 = m 16 4 ∧ mt 6 0 = m 17 0 ∧ mt 41 0 = 0 ∧ mt 41 1 = 0 ∧ (∀ f : Nat, 10 < f → f ≠ 41 → mt f = m f)
/-- what the class's take leaves -/
def so_tw (W q : dz_Z) : Prop := q 0 2 0 = W 1 1 0 ∧ q 0 3 0 = W 1 2 0 ∧ q 1 1 0 = W 0 2 0 ∧ q 1 2 0 = W 0 3 0 ∧ (∀ f : Nat, f ≠ 2 → f ≠ 3 → q 0 f = W 0 f) ∧ q 46 = so_dry (W 46) ∧ q 68 2 0 = 0 ∧ q 87 2 0 = 0 ∧ (∀ b : Nat, b ≠ 0 → b ≠ 1 → b ≠ 46 → b ≠ 68 → b ≠ 87 → q b = W b)
section ub
variable {Z W Y : dz_Z} {p s n : Nat} {R R' P S T m m' m1 m2 mt : ob_O} {x : Int}
theorem rk_i (hp : p = 25 ∨ p = 4) (hs : s = 36 ∨ s = 15) : rk Z p s (Z 1) (Z p) (Z s) = Z := by
  funext b
  unfold rk
  by_cases h1 : b = 1
  · rw [if_pos h1, h1]
  · by_cases h2 : b = p
    · rw [if_neg h1, if_pos h2, h2]
    · by_cases h3 : b = s
      · rw [if_neg h1, if_neg h2, if_pos h3, h3]
      · rw [if_neg h1, if_neg h2, if_neg h3]
theorem rk_fs (hp : p = 25 ∨ p = 4) (hs : s = 36 ∨ s = 15) {f : Nat} {g : Int → Int} : dz_f (rk Z p s R P S) s f g = rk Z p s R P (ob_f S f g) := by
  rw [oz_f, rk_s hp hs]
  funext b
  unfold ob_z rk
  by_cases h : b = s
  · rw [if_pos h, if_neg (by omega), if_neg (by omega), if_pos h]
  · rw [if_neg h, if_neg h, if_neg h]
theorem bg_cls (hp : p = 25 ∨ p = 4) (hs : s = 36 ∨ s = 15) (hR1 : (R 1 0).toNat = p) (hR2 : (R 2 0).toNat = s) : jf_R_begin (rk Z p s R P S) = some (rk Z p s (ob_u (ob_u (ob_u (ob_u R 5 0 0) 3 0 0) 4 0 0) 6 0 0) (ob_u (ob_u (ob_u (ob_u (ob_u (ob_u P 0 0 0) 3 0 0) 6 0 0) 10 0 0) 11 0 0) 15 0 0) (ob_u (ob_f (ob_f S 0 (fun _ => 2)) 1 (fun _ => 0)) 6 0 0)) := by
  have hisP : hz_isP p := by unfold hz_isP; omega
  have hisS : hz_isS s := by unfold hz_isS; omega
  unfold jf_R_begin jf_P_forget jf_S_forget
  simp only [dz_a, rk_1, hR1, rk_up hp, Option.bind_some, hR2, rk_fs hp hs, rk_us hp hs, rk_u1, if_pos hisP, if_pos hisS]
theorem rg_0 (p0 : P 0 0 = 0) (p3 : P 3 0 = 0) (p6 : P 6 0 = 0) (p10 : P 10 0 = 0) (p11 : P 11 0 = 0) (p15 : P 15 0 = 0) (r5 : R 5 0 = 0) (s0 : S 0 = fun _ => 2) (s1 : S 1 = fun _ => 0) (s6 : S 6 0 = 0) (h16 : ∀ j : Int, 0 ≤ j → j < 5 → m 16 j = 0) (h11 : ∀ j : Int, 0 ≤ j → j < 140 → m 11 j = 0) (h17 : m 17 0 = 0) (h18 : m 18 0 = -1) (h19 : m 19 0 = -1) (h20 : m 20 0 = 0) : rg_A R P S m := by
  refine ⟨?_, fun r a b => by omega, fun r a b => by omega, fun r a b => by omega, fun r a b => by omega, ?_, fun r a b => by omega, ?_, ?_, ?_, ?_⟩
  · unfold rf_c
    rw [h16 0 (by decide) (by decide), h16 1 (by decide) (by decide), h16 2 (by decide) (by decide), h16 3 (by decide) (by decide), h16 4 (by decide) (by decide), p0, p3, p6, p10, p11]
    decide
  · unfold rf_t
    rw [s6, h11 73 (by decide) (by decide)]
    exact ⟨by decide, rfl, fun i a b => by omega⟩
  · unfold rf_o
    rw [h17, p15, r5, h20, s6]
    decide
  · refine ⟨fun g a b => by omega, fun g a b => h11 _ (by omega) (by omega), fun j a b => h11 _ (by omega) (by omega), fun j a b => h11 _ (by omega) (by omega), fun g a b => ?_⟩
    rw [s0, s1]
    exact ⟨rfl, rfl⟩
  · refine ⟨by rw [h18]; decide, fun N hN => ?_⟩
    rw [h18, p0, p3]
    exact ⟨fun _ => ⟨fun r a b => by omega, fun r a b => by omega⟩, fun _ => by omega⟩
  · refine ⟨by rw [h19]; decide, fun N hN => ?_⟩
    rw [h19, p3, p6]
    exact ⟨fun _ => ⟨fun r a b => by omega, fun r a b => by omega⟩, fun _ => by omega⟩
theorem zf_b {b : Nat} (h0 : b ≠ 0) (h1 : b ≠ 1) (h2 : b ≠ 2) (hp : b ≠ p) (hs : b ≠ s) : so_zf Z p s R P S b = Z b := by
  unfold so_zf
  rw [oz_u, oz_n h0, oz_u, oz_n h2, rk_n h1 hp hs]
theorem zf_p (hp : p = 25 ∨ p = 4) : so_zf Z p s R P S p = P := by
  unfold so_zf
  rw [oz_u, oz_n (by omega), oz_u, oz_n (by omega), rk_p hp]
theorem zf_s (hp : p = 25 ∨ p = 4) (hs : s = 36 ∨ s = 15) : so_zf Z p s R P S s = S := by
  unfold so_zf
  rw [oz_u, oz_n (by omega), oz_u, oz_n (by omega), rk_s hp hs]
theorem zf_1 : so_zf Z p s R P S 1 = R := by
  unfold so_zf
  rw [oz_u, oz_n (by omega), oz_u, oz_n (by omega), rk_1]
theorem zf_2 (hp : p = 25 ∨ p = 4) (hs : s = 36 ∨ s = 15) : so_zf Z p s R P S 2 1 0 = 0 := by
  unfold so_zf
  rw [oz_u, oz_n (by omega), oz_u, oz_s, ou_s]
theorem zf_0 (hp : p = 25 ∨ p = 4) (hs : s = 36 ∨ s = 15) {f : Nat} (h : f ≠ 9) : so_zf Z p s R P S 0 f = Z 0 f := by
  unfold so_zf
  rw [oz_u, oz_s, ou_ff h, oz_u, oz_n (by omega), rk_n (by omega) (by omega) (by omega)]
theorem zf_9 : so_zf Z p s R P S 0 9 0 = R 3 0 := by
  unfold so_zf
  rw [oz_u, oz_s, ou_s]
/-- a text with a fault changes nothing but the tape -/
theorem oF (h : iv_Z n Z) (hp : p = (Z 1 1 0).toNat) (hs : s = (Z 1 2 0).toNat) (hk : kp3 (Z 1) R) (hm : ke (Z 114) m) : iv_Z (n + 1) (ob_z (so_zf Z p s R P S) 114 (ob_u (ob_u m 22 0 0) 23 0 x)) := by
  have hR := h.1
  have hp2 : p = 25 ∨ p = 4 := by unfold iv_R at hR; omega
  have hs2 : s = 36 ∨ s = 15 := by unfold iv_R at hR; omega
  have hpp : iv_p Z ≠ p := by unfold iv_R at hR; unfold iv_p; omega
  have hss : iv_s Z ≠ s := by unfold iv_R at hR; unfold iv_s; omega
  have vp := iv_p2 hR
  have vs := iv_s2 hR
  have hmf : ∀ f : Nat, (f < 11 ∨ f = 21 ∨ 29 < f) → ob_u (ob_u m 22 0 0) 23 0 x f = Z 114 f := fun f q => by rw [ou_ff (by omega), ou_ff (by omega), hm f (by omega)]
  generalize hM : ob_u (ob_u m 22 0 0) 23 0 x = M at hmf
  have m22 : M 22 0 = 0 := by rw [← hM, ou_f (by decide), ou_s]
  have zb : ∀ b : Nat, b ≠ 0 → b ≠ 1 → b ≠ 2 → b ≠ p → b ≠ s → b ≠ 114 → ob_z (so_zf Z p s R P S) 114 M b = Z b := fun b a1 a2 a3 a4 a5 a6 => by rw [oz_n a6, zf_b a1 a2 a3 a4 a5]
  have z0 : ∀ f : Nat, f ≠ 9 → ob_z (so_zf Z p s R P S) 114 M 0 f = Z 0 f := fun f q => by rw [oz_n (by decide), zf_0 hp2 hs2 q]
  have z1 : ob_z (so_zf Z p s R P S) 114 M 1 = R := by rw [oz_n (by decide), zf_1]
  have z2 : ob_z (so_zf Z p s R P S) 114 M 2 1 0 = 0 := by rw [oz_n (by decide), zf_2 hp2 hs2]
  have ep : iv_p (ob_z (so_zf Z p s R P S) 114 M) = iv_p Z := by unfold iv_p; rw [z0 2 (by decide)]
  have es : iv_s (ob_z (so_zf Z p s R P S) 114 M) = iv_s Z := by unfold iv_s; rw [z0 3 (by decide)]
  obtain ⟨-, h2, h3, h4, ⟨h5, h6⟩, h7, ⟨h8, h9, h10, h11⟩, h12, h13, h14⟩ := iv_n h (show n ≤ n + 1 by omega)
  unfold iv_Z
  rw [oz_s]
  unfold iv
  rw [ep, es, zb (iv_p Z) (by omega) (by omega) (by omega) hpp (by omega) (by omega), zb (iv_s Z) (by omega) (by omega) (by omega) (by omega) hss (by omega), zb 46 (by decide) (by decide) (by decide) (by omega) (by omega) (by decide), zb 68 (by decide) (by decide) (by decide) (by omega) (by omega) (by decide), zb 69 (by decide) (by decide) (by decide) (by omega) (by omega) (by decide), zb 79 (by decide) (by decide) (by decide) (by omega) (by omega) (by decide), zb 87 (by decide) (by decide) (by decide) (by omega) (by omega) (by decide), zb 88 (by decide) (by decide) (by decide) (by omega) (by omega) (by decide), zb 98 (by decide) (by decide) (by decide) (by omega) (by omega) (by decide), zb 106 (by decide) (by decide) (by decide) (by omega) (by omega) (by decide), zb 108 (by decide) (by decide) (by decide) (by omega) (by omega) (by decide), zb 110 (by decide) (by decide) (by decide) (by omega) (by omega) (by decide), zb 112 (by decide) (by decide) (by decide) (by omega) (by omega) (by decide), z0 10 (by decide), hmf 45 (by decide), hmf 30 (by decide), hmf 31 (by decide)]
  refine ⟨?_, h2, mrP_m h3 (fun f a b => hmf f (by omega)), iv_Im h4 h2 (fun j _ _ => by rw [hmf 0 (by decide)]), ⟨iv_Gm h5 h2 (by decide) (hmf 41 (by decide)) (fun j _ _ => by rw [hmf 0 (by decide)]), iv_Gm h6 h2 (by decide) (hmf 41 (by decide)) (fun j _ _ => by rw [hmf 0 (by decide)])⟩, ?_, ⟨iv_hm h8 (hmf 42 (by decide)) (hmf 43 (by decide)) (hmf 44 (by decide)), iv_hm h9 (hmf 42 (by decide)) (hmf 43 (by decide)) (hmf 44 (by decide)), iv_hm h10 (hmf 42 (by decide)) (hmf 43 (by decide)) (hmf 44 (by decide)), iv_hm h11 (hmf 42 (by decide)) (hmf 43 (by decide)) (hmf 44 (by decide))⟩, h12, h13, h14⟩
  · unfold iv_R
    rw [z1, z0 2 (by decide), z0 3 (by decide), hk 1 (by decide), hk 2 (by decide)]
    exact hR
  · unfold iv_T
    rw [z2, m22]
    exact ⟨by decide, rfl, fun i a b => by omega⟩
theorem tw_cls (hR : iv_R (W 0) (W 1)) : dz_p (jf_O_takeWhatWasRead W) (fun q => so_tw W q) := by
  have hR' := hR
  unfold iv_R at hR'
  have i1 : hz_isP (W 0 2 0).toNat := by unfold hz_isP; omega
  have i2 : hz_isS (W 0 3 0).toNat := by unfold hz_isS; omega
  have i3 : hz_isP (W 1 1 0).toNat := by unfold hz_isP; omega
  have i4 : hz_isS (W 1 2 0).toNat := by unfold hz_isS; omega
  have e1 : ((W 1 1 0).toNat : Int) = W 1 1 0 := by omega
  have e2 : ((W 1 2 0).toNat : Int) = W 1 2 0 := by omega
  have e3 : ((W 0 2 0).toNat : Int) = W 0 2 0 := by omega
  have e4 : ((W 0 3 0).toNat : Int) = W 0 3 0 := by omega
  unfold jf_O_takeWhatWasRead
  refine dp_ck i1 (dp_ck i2 (dp_ck i3 (dp_le ?_)))
  have z1 : ∀ v : Int, dz_u W 0 2 0 v 1 = W 1 := fun v => by rw [oz_u, oz_n (by decide)]
  rw [z1]
  refine dp_ck i4 (dp_le (dp_le (dp_le (dp_bi (dp_eq dr_cls ?_)))))
  rw [e1, e2, e3, e4]
  generalize hV : dz_u (dz_u (dz_u (dz_u W 0 2 0 (W 1 1 0)) 0 3 0 (W 1 2 0)) 1 1 0 (W 0 2 0)) 1 2 0 (W 0 3 0) = V
  have v0 : V 0 = ob_u (ob_u (W 0) 2 0 (W 1 1 0)) 3 0 (W 1 2 0) := by rw [← hV, oz_u, oz_n (by decide), oz_u, oz_n (by decide), oz_u, oz_s, oz_u, oz_s]
  have v1 : V 1 = ob_u (ob_u (W 1) 1 0 (W 0 2 0)) 2 0 (W 0 3 0) := by rw [← hV, oz_u, oz_s, oz_u, oz_s, oz_u, oz_n (by decide), oz_u, oz_n (by decide)]
  have vb : ∀ b : Nat, b ≠ 0 → b ≠ 1 → V b = W b := fun b a1 a2 => by rw [← hV, oz_u, oz_n a2, oz_u, oz_n a2, oz_u, oz_n a1, oz_u, oz_n a1]
  refine dp_lp (fun n q => ∃ (i : Nat) (U : dz_Z), i + n = 2 ∧ q = ((i : Int), U) ∧ U 46 = so_dry (W 46) ∧ (∀ b : Nat, b ≠ 46 → b ≠ 68 → b ≠ 87 → U b = V b) ∧ (1 ≤ i → U 68 2 0 = 0) ∧ (2 ≤ i → U 87 2 0 = 0)) ?_ 5000 2 _ (by omega) ⟨0, _, by omega, rfl, by rw [oz_s, vb 46 (by decide) (by decide)], fun b a1 a2 a3 => by rw [oz_n a1], fun q => by omega, fun q => by omega⟩
  rintro k _ ⟨i, U, hik, rfl, u46, ub, u68, u87⟩
  have ei : dz_c (i : Int) = i := dz_ci (by omega) (by omega)
  simp only [ei]
  by_cases c : i = 2
  · refine dp_ck (by omega) (dp_sm ?_)
    refine ⟨?_, ?_, ?_, ?_, fun f a1 a2 => ?_, u46, u68 (by omega), u87 (by omega), fun b a1 a2 a3 a4 a5 => ?_⟩
    · show U 0 2 0 = _
      rw [ub 0 (by decide) (by decide) (by decide), v0, ou_f (by decide), ou_s]
    · show U 0 3 0 = _
      rw [ub 0 (by decide) (by decide) (by decide), v0, ou_s]
    · show U 1 1 0 = _
      rw [ub 1 (by decide) (by decide) (by decide), v1, ou_f (by decide), ou_s]
    · show U 1 2 0 = _
      rw [ub 1 (by decide) (by decide) (by decide), v1, ou_s]
    · show U 0 f = _
      rw [ub 0 (by decide) (by decide) (by decide), v0, ou_ff a2, ou_ff a1]
    · show U b = _
      rw [ub b a3 a4 a5, vb b a1 a2]
  · refine dp_no (by omega) (dp_ck (by omega) (dp_le (dp_sm ⟨k - 1, by omega, i + 1, _, by omega, rfl, ?_, fun b a1 a2 a3 => ?_, fun q => ?_, fun q => ?_⟩)))
    · rw [oz_u, oz_n (by omega), u46]
    · rw [oz_u, oz_n (by omega), ub b a1 a2 a3]
    · by_cases d : i = 0
      · rw [d]
        show dz_u U 68 2 0 0 68 2 0 = 0
        rw [oz_u, oz_s, ou_s]
      · rw [oz_u, oz_n (by omega)]
        exact u68 (by omega)
    · have : i = 1 := by omega
      rw [this]
      show dz_u U 87 2 0 0 87 2 0 = 0
      rw [oz_u, oz_s, ou_s]
theorem rg_P (h : rg_A R P S m) (ht : so_mt m mt) (h19 : m 19 0 < P 6 0) : so_P P ∧ mr_P P mt ∧ so_S P S ∧ mr_S 0 P S mt := by
  obtain ⟨hc, hr, hg, hs, hw, htu, hz, ho, hp, hh, hi⟩ := h
  obtain ⟨c0, c3, c6, c10, c11⟩ := hc
  obtain ⟨t0, -, t7, t8, t9, t10, t1, t2, t3, t4, t5, t6, -, -, -⟩ := ht
  have hj := ((hi.2 (P 6 0) c6.2.1).mp h19).2
  refine ⟨⟨c0.2, fun r a b => (hr r a b).2.2, c3.2, fun g a b => (hg g a b).2.2, c6.2, fun s a b => (hs s a b).2.1, c10.2, c11.2, fun k a b => (hz k a b).2.2.2, ho.2.1⟩, ⟨by rw [t1]; exact c0.1, fun r a b => ?_, by rw [t2]; exact c3.1, fun g a b => ?_, by rw [t3]; exact c6.1, fun s a b => ?_, by rw [t4]; exact c10.1, by rw [t5]; exact c11.1, fun k a b => ?_, by rw [t6]; exact ho.1⟩, ⟨fun g a b => ?_, fun g a b => Or.inl (hp.2.2.2.2 g a b).2, fun s a b => ⟨(hs s a b).2.2.2.1, fun q => ((hs s a b).2.2.2.2.1 q).2, fun q => ⟨((hs s a b).2.2.2.2.2.2.1 q).2.1, hj s a b q⟩⟩, fun w a b => ⟨by have := (hw w a b).2.1; omega, fun i x y => ((hw w a b).2.2 i x y).2⟩, htu.1, fun i a b => (htu.2.2 i a b).2⟩, ⟨⟨fun g a b => ?_, fun g a b => ?_, fun s a b => ?_⟩, fun s a b => ?_, fun w a b => ?_, ?_, fun i a b => ?_⟩⟩
  · rw [t7 _ (by omega) (by omega), t7 _ (by omega) (by omega)]; exact ⟨(hr r a b).1, (hr r a b).2.1⟩
  · rw [t8 _ (by omega) (by omega), t8 _ (by omega) (by omega)]; exact ⟨(hg g a b).1, (hg g a b).2.1⟩
  · rw [t9 _ (by omega) (by omega)]; exact (hs s a b).1
  · rw [t10 _ (by omega) (by omega), t10 _ (by omega) (by omega), t10 _ (by omega) (by omega)]; exact ⟨(hz k a b).1, (hz k a b).2.1, (hz k a b).2.2.1⟩
  · have := (hp.2.2.2.2 g a (by omega)).1; omega
  · rw [Int.zero_add, t0 _ (by omega) (by omega), hp.1 g a b, (hp.2.2.2.2 g a (by omega)).1]
  · rw [Int.zero_add, t0 _ (by omega) (by omega), hp.2.1 g a b, (hp.2.2.2.2 g a b).2]
  · rw [Int.zero_add, Int.zero_add, Int.zero_add, t0 _ (by omega) (by omega), t0 _ (by omega) (by omega), t0 _ (by omega) (by omega)]
    exact ⟨(hs s a b).2.2.1, fun q => ((hs s a b).2.2.2.2.1 q).1, fun q => ((hs s a b).2.2.2.2.2.2.1 q).1⟩
  · rw [Int.zero_add, Int.zero_add, t0 _ (by omega) (by omega), t0 _ (by omega) (by omega)]
    exact ⟨(hs s a b).2.2.2.2.2.1, (hs s a b).2.2.2.2.2.2.2⟩
  · have hq := hw w a b
    refine ⟨?_, fun i x y => ?_⟩
    · rw [Int.zero_add, t0 _ (by omega) (by omega)]; exact hq.1
    · rw [Int.zero_add, t0 _ (by omega) (by omega)]; exact (hq.2.2 i x y).1
  · rw [Int.zero_add, t0 _ (by omega) (by omega)]; exact htu.2.1
  · have h1 := htu.1
    have := (htu.2.2 i a b).1
    rw [Int.zero_add, t0 _ (by omega) (by omega)]
    rw [show (73 : Int) + 1 + i = 74 + i by omega] at this
    exact this
/-- a text that is taken -/
theorem oS (h : iv_Z n Z) (hp : p = (Z 1 1 0).toNat) (hs : s = (Z 1 2 0).toNat) (hk : kp3 (Z 1) R) (hm : ke (Z 114) m) (hr : rg_A R' P S m) (h19 : m 19 0 < P 6 0) (hw : so_tw (so_zf Z p s R P S) W) (ht : so_mt (ob_u (ob_u m 22 0 0) 23 0 0) mt) : iv_Z (n + 1) (ob_z W 114 mt) := by
  have hR := h.1
  have hp2 : p = 25 ∨ p = 4 := by unfold iv_R at hR; omega
  have hs2 : s = 36 ∨ s = 15 := by unfold iv_R at hR; omega
  have hr' : rg_A R' P S (ob_u (ob_u m 22 0 0) 23 0 0) := by
    obtain ⟨a1, a2, a3, a4, a5, a6, a7, a8, a9, a10, a11⟩ := hr
    have e : ∀ f : Nat, f ≠ 22 → f ≠ 23 → ob_u (ob_u m 22 0 0) 23 0 0 f = m f := fun f x y => by rw [ou_ff y, ou_ff x]
    have e11 := e 11 (by decide) (by decide)
    exact ⟨fr_c a1 (e 16 (by decide) (by decide)) rfl rfl rfl rfl rfl, fr_r a2 (e 12 (by decide) (by decide)) rfl rfl rfl, fr_g a3 (e 13 (by decide) (by decide)) rfl rfl rfl, fr_s a4 a1.2.2.1.2.2 (e 14 (by decide) (by decide)) (fun j _ _ => by rw [e11]) rfl rfl rfl rfl rfl, fr_w a5 a1.2.2.2.1.2.2 (fun j _ _ => by rw [e11]) rfl (fun _ _ => rfl), fr_t a6 (fun j _ _ => by rw [e11]) rfl rfl, fr_z a7 (e 15 (by decide) (by decide)) rfl rfl rfl rfl, fr_o a8 (e 17 (by decide) (by decide)) (e 20 (by decide) (by decide)) rfl rfl rfl, fr_p a9 a1.2.1.2 a1.2.2.1.2.1 (fun j _ => by rw [e11]) rfl rfl rfl rfl, fr_h a10 (e 18 (by decide) (by decide)) rfl rfl rfl rfl rfl, fr_i a11 (e 19 (by decide) (by decide)) rfl rfl rfl rfl rfl rfl⟩
  obtain ⟨g1, g2, g3, g4⟩ := rg_P hr' ht (by rw [ou_f (by decide), ou_f (by decide)]; exact h19)
  have z86 := hr'.2.2.2.2.2.2.2.2.1.2.2.1
  obtain ⟨t0, -, -, -, -, -, -, -, -, -, -, -, t41, t411, tf⟩ := ht
  obtain ⟨w1, w2, w3, w4, w5, w6, w7, w8, w9⟩ := hw
  rw [zf_1] at w1 w2
  rw [hk 1 (by decide)] at w1
  rw [hk 2 (by decide)] at w2
  rw [zf_0 hp2 hs2 (by decide)] at w3 w4
  rw [zf_b (by decide) (by decide) (by decide) (by omega) (by omega)] at w6
  have z0 : ∀ f : Nat, ob_z W 114 mt 0 f = W 0 f := fun f => by rw [oz_n (by decide)]
  have ep : iv_p (ob_z W 114 mt) = p := by unfold iv_p; rw [z0, w1, hp]
  have es : iv_s (ob_z W 114 mt) = s := by unfold iv_s; rw [z0, w2, hs]
  have zp : ob_z W 114 mt p = P := by rw [oz_n (by omega), w9 p (by omega) (by omega) (by omega) (by omega) (by omega), zf_p hp2]
  have zs : ob_z W 114 mt s = S := by rw [oz_n (by omega), w9 s (by omega) (by omega) (by omega) (by omega) (by omega), zf_s hp2 hs2]
  have zb : ∀ b : Nat, b ≠ 0 → b ≠ 1 → b ≠ 2 → b ≠ 46 → b ≠ 68 → b ≠ 87 → b ≠ p → b ≠ s → b ≠ 114 → ob_z W 114 mt b = Z b := fun b a1 a2 a3 a4 a5 a6 a7 a8 a9 => by rw [oz_n a9, w9 b a1 a2 a4 a5 a6, zf_b a1 a2 a3 a7 a8]
  have mf : ∀ f : Nat, 29 < f → f ≠ 41 → mt f = Z 114 f := fun f a1 a2 => by rw [tf f (by omega) a2, ou_ff (by omega), ou_ff (by omega), hm f (by omega)]
  obtain ⟨-, h2, h3, h4, ⟨h5, h6⟩, h7, ⟨h8, h9, h10, h11⟩, h12, h13, h14⟩ := iv_n h (show n ≤ n + 1 by omega)
  unfold iv_Z
  rw [oz_s]
  unfold iv
  rw [ep, es, zp, zs, zb 106 (by decide) (by decide) (by decide) (by decide) (by decide) (by decide) (by omega) (by omega) (by decide), zb 108 (by decide) (by decide) (by decide) (by decide) (by decide) (by decide) (by omega) (by omega) (by decide), zb 110 (by decide) (by decide) (by decide) (by decide) (by decide) (by decide) (by omega) (by omega) (by decide), zb 112 (by decide) (by decide) (by decide) (by decide) (by decide) (by decide) (by omega) (by omega) (by decide), mf 45 (by decide) (by decide), mf 30 (by decide) (by decide), mf 31 (by decide) (by decide)]
  refine ⟨?_, g1, g2, ⟨g3, g4, ?_, ?_⟩, ⟨⟨?_, Or.inl t41⟩, ⟨?_, Or.inl t411⟩⟩, ?_, ⟨iv_hm h8 (mf 42 (by decide) (by decide)) (mf 43 (by decide) (by decide)) (mf 44 (by decide) (by decide)), iv_hm h9 (mf 42 (by decide) (by decide)) (mf 43 (by decide) (by decide)) (mf 44 (by decide) (by decide)), iv_hm h10 (mf 42 (by decide) (by decide)) (mf 43 (by decide) (by decide)) (mf 44 (by decide) (by decide)), iv_hm h11 (mf 42 (by decide) (by decide)) (mf 43 (by decide) (by decide)) (mf 44 (by decide) (by decide))⟩, ?_, h13, h14⟩
  · unfold iv_R at hR ⊢
    rw [z0, z0, oz_n (by decide), w1, w2, w3, w4]
    omega
  · rw [oz_n (by decide), w6]
    exact dr_B dr_f (by omega) (by omega)
  · rw [oz_n (by decide), w6]
    refine dr_F dr_f (fun j a b => ?_)
    rw [t0 j (by omega) (by omega)]
    exact z86 j (by omega) (by omega)
  · rw [oz_n (by decide), w7]; exact t41.symm
  · rw [oz_n (by decide), w8]; exact t411.symm
  · unfold iv_T
    rw [oz_n (by decide), w9 2 (by decide) (by decide) (by decide) (by decide) (by decide), zf_2 hp2 hs2, tf 22 (by decide) (by decide), ou_f (by decide), ou_s]
    exact ⟨by decide, rfl, fun i a b => by omega⟩
  · rw [z0, w5 10 (by decide) (by decide), zf_0 hp2 hs2 (by decide)]
    exact h12
end ub
end mg_73ub
section mg_74uc
section uc
variable {Z W Y : dz_Z} {p s n : Nat} {R R' P S T m m' m1 m2 mt : ob_O} {x : Int}
theorem zf_114 (hp : p = 25 ∨ p = 4) (hs : s = 36 ∨ s = 15) : ob_z (so_zf Z p s R P S) 114 (Z 114) = so_zf Z p s R P S := by
  have : so_zf Z p s R P S 114 = Z 114 := zf_b (by decide) (by decide) (by decide) (by omega) (by omega)
  rw [← this, oz_i]
theorem op_organ (h : iv_Z n Z) : dz_p (jf_O_organ Z) (fun q => dz_p (jf_M_organ q.2) (fun q' => iv_Z (n + 1) q'.2 ∧ dz_c q.1 = dz_c q'.1)) := by
  have hR := h.1
  have h7 := h.2.2.2.2.2.1
  have h30 := h.2.2.2.2.2.2.2.2.1
  have h31 := h.2.2.2.2.2.2.2.2.2
  obtain ⟨p, hp⟩ : ∃ p, p = (Z 1 1 0).toNat := ⟨_, rfl⟩
  obtain ⟨s, hs⟩ : ∃ s, s = (Z 1 2 0).toNat := ⟨_, rfl⟩
  have hp2 : p = 25 ∨ p = 4 := by unfold iv_R at hR; omega
  have hs2 : s = 36 ∨ s = 15 := by unfold iv_R at hR; omega
  have hT : so_tp (Z 2) := ⟨h7.1, fun i a b => (h7.2.2 i a b).1⟩
  have htm : so_tm (Z 2) (Z 114) := ⟨h7.2.1, fun i a b => (h7.2.2 i a b).2⟩
  -- the page is cleared, the first token looked at
  generalize hC : so_cl (so_mz (Z 114)) 140 = C
  have cf : ∀ f : Nat, f ≠ 11 → f ≠ 16 → C f = so_mz (Z 114) f := fun f a b => by rw [← hC, cl_f a b]
  have zf : ∀ f : Nat, f ≠ 24 → f ≠ 26 → f ≠ 20 → f ≠ 17 → f ≠ 18 → f ≠ 19 → so_mz (Z 114) f = Z 114 f := fun f a1 a2 a3 a4 a5 a6 => by unfold so_mz; rw [ou_ff a6, ou_ff a5, ou_ff a4, ou_ff a3, ou_ff a2, ou_ff a1]
  have c24 : C 24 0 = 0 := by rw [cf 24 (by decide) (by decide)]; unfold so_mz; rw [ou_f (by decide), ou_f (by decide), ou_f (by decide), ou_f (by decide), ou_f (by decide), ou_s]
  have c26 : C 26 0 = 0 := by rw [cf 26 (by decide) (by decide)]; unfold so_mz; rw [ou_f (by decide), ou_f (by decide), ou_f (by decide), ou_f (by decide), ou_s]
  have c20 : C 20 0 = 0 := by rw [cf 20 (by decide) (by decide)]; unfold so_mz; rw [ou_f (by decide), ou_f (by decide), ou_f (by decide), ou_s]
  have c17 : C 17 0 = 0 := by rw [cf 17 (by decide) (by decide)]; unfold so_mz; rw [ou_f (by decide), ou_f (by decide), ou_s]
  have c18 : C 18 0 = -1 := by rw [cf 18 (by decide) (by decide)]; unfold so_mz; rw [ou_f (by decide), ou_s]
  have c19 : C 19 0 = -1 := by rw [cf 19 (by decide) (by decide)]; unfold so_mz; rw [ou_s]
  have ctm : so_tm (Z 2) C := tm_m htm (by rw [cf 21 (by decide) (by decide), zf 21 (by decide) (by decide) (by decide) (by decide) (by decide) (by decide)]) (by rw [cf 22 (by decide) (by decide), zf 22 (by decide) (by decide) (by decide) (by decide) (by decide) (by decide)])
  obtain ⟨st, e, k, ht⟩ := tk_ex (T := Z 2) (a := 0) hT (by have := hT.1; omega)
  obtain ⟨m1, s1, s2, s3⟩ := st_eq hT ctm c24 c26 ht
  have hke : ke (Z 114) m1 := fun f q => by rw [s3 f (by omega), cf f (by omega) (by omega), zf f (by omega) (by omega) (by omega) (by omega) (by omega) (by omega)]
  have hmo : ∀ Y, jf_M_organ (ob_z Y 114 (Z 114)) = so_wr (dz_lp so_ob (5000 - 0) (((0 : Nat) : Int), ob_z Y 114 m1)) := by
    intro Y
    rw [mo_eq, hC, s1, Option.bind_some]
    rfl
  have hR1 : ((Z 1) 1 0).toNat = p := hp.symm
  have hR2 : ((Z 1) 2 0).toNat = s := hs.symm
  have hsf : so_sf (Z 2) m1 := by
    refine ⟨tm_m ctm (s3 21 (by decide)) (s3 22 (by decide)), ?_, ?_, ?_⟩
    · rw [s3 30 (by decide), cf 30 (by decide) (by decide), zf 30 (by decide) (by decide) (by decide) (by decide) (by decide) (by decide)]; exact h30
    · rw [s3 31 (by decide), cf 31 (by decide) (by decide), zf 31 (by decide) (by decide) (by decide) (by decide) (by decide) (by decide)]; exact h31
    · have a1 := s2.2.1
      have a2 := s2.2.2.1
      have a3 := s2.1.1
      omega
  unfold jf_O_organ
  have hbg := bg_cls (Z := Z) (P := Z p) (S := Z s) hp2 hs2 hR1 hR2
  rw [rk_i hp2 hs2] at hbg
  refine dp_bi (dp_eq hbg ?_)
  refine dp_lp (fun k q => ∃ (i : Nat) (R' P' S' m' : ob_O) (a : Int), i + k = 160 ∧ 2 * (i : Int) ≤ a ∧ q = ((i : Int), rk Z p s R' P' S') ∧ (∀ Y, jf_M_organ (ob_z Y 114 (Z 114)) = so_wr (dz_lp so_ob (5000 - i) ((i : Int), ob_z Y 114 m'))) ∧ tkL (Z 2) R' m' a ∧ rg_A R' P' S' m' ∧ kp3 (Z 1) R' ∧ ke (Z 114) m') ?_ 5000 160 _ (by omega) ⟨0, _, _, _, m1, 0, by omega, by omega, rfl, hmo, ⟨ou_s, ?_, ⟨st, e, k, s2⟩, hsf⟩, ?_, ?_, hke⟩
  · rintro j _ ⟨i, R1, P1, S1, m', a, hij, hia, rfl, heq, hL, hr, hk3, hk⟩
    have ei : dz_c (i : Int) = i := dz_ci (by omega) (by omega)
    have R11 : (R1 1 0).toNat = p := by rw [hk3 1 (by decide)]; exact hR1
    have R12 : (R1 2 0).toNat = s := by rw [hk3 2 (by decide)]; exact hR2
    obtain ⟨q, hq⟩ : ∃ q, 5000 - i = q + 2 := ⟨4998 - i, by omega⟩
    rw [hq] at heq
    simp only [ei]
    refine dp_no (by omega) ?_
    have hc := hr.1
    have b18 := hr.2.2.2.2.2.2.2.2.2.1.1
    have b19 := hr.2.2.2.2.2.2.2.2.2.2.1
    -- a fault: both answer with its place
    have bad : ∀ (R2 P2 S2 m2 : ob_O), (∀ Y, jf_M_organ (ob_z Y 114 (Z 114)) = some (-10 - m2 25 0, ob_z Y 114 (ob_u (ob_u m2 22 0 0) 23 0 (m2 24 0)))) → tkF (Z 2) R2 m2 → kp3 (Z 1) R2 → ke (Z 114) m2 → dz_p (dz_a (dz_u (rk Z p s R2 P2 S2) 2 1 0 0) fun Z10 => dz_a (dz_u Z10 0 9 0 (Z10 1 3 0)) fun Z11 => if dz_c (Z11 0 9 0) = 0 then (Option.bind (jf_O_takeWhatWasRead Z11) fun q13 => some (Sum.inr ((i : Int), q13))) else (some (Sum.inr ((-10) - (Z11 1 4 0), Z11)))) (Sum.elim (fun s' : Int × dz_Z => ∃ k' : Nat, k' < j ∧ ∃ (i : Nat) (R' P' S' m' : ob_O) (a : Int), i + k' = 160 ∧ 2 * (i : Int) ≤ a ∧ s' = ((i : Int), rk Z p s R' P' S') ∧ (∀ Y, jf_M_organ (ob_z Y 114 (Z 114)) = so_wr (dz_lp so_ob (5000 - i) ((i : Int), ob_z Y 114 m'))) ∧ tkL (Z 2) R' m' a ∧ rg_A R' P' S' m' ∧ kp3 (Z 1) R' ∧ ke (Z 114) m') (fun q => dz_p (jf_M_organ q.2) (fun q' => iv_Z (n + 1) q'.2 ∧ dz_c q.1 = dz_c q'.1))) := by
      intro R2 P2 S2 m2 he hF k2 k3
      have e31 : dz_u (rk Z p s R2 P2 S2) 2 1 0 0 1 = R2 := by rw [oz_u, oz_n (by decide), rk_1]
      refine dp_le (dp_le ?_)
      rw [e31]
      show dz_p (if dz_c (so_zf Z p s R2 P2 S2 0 9 0) = 0 then _ else _) _
      have hf := hF.1
      rw [zf_9, dz_ci (x := R2 3 0) (by omega) (by omega)]
      refine dp_no (by omega) (dp_sm ?_)
      show dz_p (jf_M_organ (so_zf Z p s R2 P2 S2)) (fun q' => iv_Z (n + 1) q'.2 ∧ dz_c (-10 - so_zf Z p s R2 P2 S2 1 4 0) = dz_c q'.1)
      have he' := he (so_zf Z p s R2 P2 S2)
      rw [zf_114 hp2 hs2] at he'
      refine dp_eq he' ⟨oF h hp hs k2 k3, ?_⟩
      rw [zf_1, hF.2.2.1]
    refine dp_bi (lk_line hp2 hs2 hT rfl R11 R12 hL hr (fun R2 P2 S2 m2 b x1 x2 x3 x4 x5 x6 x7 => ?_) (fun R2 P2 S2 m2 x1 x2 x3 x5 x7 => ?_) (fun R2 x3 x5 => ?_) (fun R2 x1 x2 x3 x4 x5 x6 => ?_) (fun R2 m2 x1 x2 x3 x4 x5 x6 x7 => ?_))
    · have hb : b ≤ 320 := by
        obtain ⟨_, _, _, y⟩ := x3.2.2.1
        have := y.1.1
        have := hT.1
        omega
      refine dp_no (by intro q; cases q) (dp_sm ⟨j - 1, by omega, i + 1, R2, P2, S2, m2, b, by omega, by omega, rfl, fun Y => ?_, x3, x6, fun f y => by rw [x5 f y, hk3 f y], ke_t hk x7⟩)
      rw [heq Y, show 5000 - (i + 1) = q + 1 by omega]
      exact congrArg so_wr (lp_l (n := q + 1) (ob_l x1.1 x1.2 x2))
    · refine dp_ck rfl (bad R2 P2 S2 m2 (fun Y => ?_) x3 (fun f y => by rw [x5 f y, hk3 f y]) (ke_t hk x7))
      rw [heq Y]
      exact congrArg so_wr ((lp_l (n := q + 1) (ob_l x1.1 x1.2 x2)).trans (lp_r (n := q) (ob_b x3.2.1)))
    · refine dp_ck rfl (bad R2 P1 S1 m' (fun Y => ?_) x3 (fun f y => by rw [x5 f y, hk3 f y]) hk)
      rw [heq Y]
      exact congrArg so_wr (lp_r (n := q + 1) (ob_b x3.2.1))
    · -- the text is taken
      refine dp_ck rfl ?_
      have e31 : dz_u (rk Z p s R2 P1 S1) 2 1 0 0 1 = R2 := by rw [oz_u, oz_n (by decide), rk_1]
      refine dp_le (dp_le ?_)
      rw [e31]
      show dz_p (if dz_c (so_zf Z p s R2 P1 S1 0 9 0) = 0 then (Option.bind (jf_O_takeWhatWasRead (so_zf Z p s R2 P1 S1)) fun q13 => some (Sum.inr ((i : Int), q13))) else _) _
      have k2 : kp3 (Z 1) R2 := fun f y => by rw [x6 f (Or.inl y), hk3 f y]
      rw [zf_9, x5]
      refine dp_ck (by decide) (dp_bi (dz_pm (tw_cls ?_) (fun V hV => dp_sm ?_)))
      · unfold iv_R at hR ⊢
        rw [zf_1, zf_0 hp2 hs2 (by decide), zf_0 hp2 hs2 (by decide), k2 1 (by decide), k2 2 (by decide)]
        exact hR
      · show dz_p (jf_M_organ V) (fun q' => iv_Z (n + 1) q'.2 ∧ dz_c (i : Int) = dz_c q'.1)
        have v114 : ob_z V 114 (Z 114) = V := by
          have : V 114 = Z 114 := by rw [hV.2.2.2.2.2.2.2.2 114 (by decide) (by decide) (by decide) (by decide) (by decide), zf_b (by decide) (by decide) (by decide) (by omega) (by omega)]
          rw [← this, oz_i]
        have he := heq V
        rw [v114] at he
        rw [he, lp_u, ob_e x1 x2 b18 b19 (by rw [hc.2.1.1]; exact hc.2.1.2) (by rw [hc.2.2.1.1]; exact hc.2.2.1.2) (by rw [hc.2.1.1]; exact x3) (by rw [hc.2.2.1.1]; exact x4)]
        obtain ⟨_, t1, mt, rfl, t2⟩ := tk_ref (Y := V) (m := ob_u (ob_u m' 22 0 0) 23 0 0)
        rw [t1]
        exact ⟨((i : Int), ob_z V 114 mt), rfl, oS h hp hs k2 hk hr x4 hV t2, rfl⟩
    · refine dp_ck rfl (bad R2 P1 S1 m2 (fun Y => ?_) x5 (fun f y => by rw [x6 f y, hk3 f y]) (ke_t hk (ke_k x7)))
      rw [heq Y]
      exact congrArg so_wr (lp_r (n := q + 1) (ob_m x1 x2 b18 b19 (by rw [hc.2.1.1]; exact hc.2.1.2) (by rw [hc.2.2.1.1]; exact hc.2.2.1.2) (by rw [hc.2.1.1, hc.2.2.1.1]; exact x3) x4 x5.2.1))
  · rw [ou_f (by decide), ou_f (by decide), ou_s]
  · refine rg_0 ?_ ?_ ?_ ?_ ?_ ?_ ?_ ?_ ?_ ?_ (fun j a b => ?_) (fun j a b => ?_) ?_ ?_ ?_ ?_
    · rw [ou_f (by decide), ou_f (by decide), ou_f (by decide), ou_f (by decide), ou_f (by decide), ou_s]
    · rw [ou_f (by decide), ou_f (by decide), ou_f (by decide), ou_f (by decide), ou_s]
    · rw [ou_f (by decide), ou_f (by decide), ou_f (by decide), ou_s]
    · rw [ou_f (by decide), ou_f (by decide), ou_s]
    · rw [ou_f (by decide), ou_s]
    · rw [ou_s]
    · rw [ou_f (by decide), ou_f (by decide), ou_f (by decide), ou_s]
    · rw [ou_ff (by decide), of_n (by decide), of_s]
    · rw [ou_ff (by decide), of_s]
    · rw [ou_s]
    · rw [s3 16 (by decide), ← hC]; exact cl_16 140 j a b (by omega)
    · rw [s3 11 (by decide), ← hC]; exact cl_11 140 j a (by omega)
    · rw [s3 17 (by decide)]; exact c17
    · rw [s3 18 (by decide)]; exact c18
    · rw [s3 19 (by decide)]; exact c19
    · rw [s3 20 (by decide)]; exact c20
  · intro f q
    rw [ou_ff (by omega), ou_ff (by omega), ou_ff (by omega), ou_ff (by omega)]
end uc
end mg_74uc
