/-! seconds -/
/-- whatever else is written, the end of the line is a fault -/
def so_lf (T R m : ob_O) : Prop := ∀ m2 : ob_O, kq m m2 → ∃ m3 : ob_O, (∀ Y, so_le (ob_z Y 114 m2) = some (ob_z Y 114 m3)) ∧ tkF T R m3 ∧ kpm m2 m3
/-- whatever else is written, the line ends well, at b -/
def so_lz (T R m : ob_O) (b : Int) : Prop := ∀ m2 : ob_O, kq m m2 → ∃ m3 : ob_O, (∀ Y, so_le (ob_z Y 114 m2) = some (ob_z Y 114 m3)) ∧ tkL T R m3 b ∧ kpm m2 m3
def so_rb (a1 a2 : Int) : Int × dz_Z → Option ((Int × dz_Z) ⊕ dz_Z) := fun (s1 : Int × dz_Z) => if dz_c (s1.2 114 24 0) ≠ 0 then (if 0 ≤ dz_c a1 ∧ dz_c a1 < 140 then dz_a (dz_u s1.2 114 11 (dz_c a1) s1.1) fun Z5 => some (Sum.inr Z5) else none) else (if dz_c s1.1 = 0 then (Option.bind (α := dz_Z) (if dz_c (s1.2 114 28 0) ≠ 2 then (some s1.2) else (if dz_c s1.1 ≠ 12 then (some s1.2) else (Option.bind (jf_M_fails 5 s1.2) fun q17 => some q17))) (fun (q10 : dz_Z) => Option.bind (jf_M_number 0 a2 q10) fun q11 => if dz_c (q11.2 114 24 0) ≠ 0 then (some (Sum.inl (s1.1, q11.2))) else (if 0 ≤ dz_c ((a1 + 1) + s1.1) ∧ dz_c ((a1 + 1) + s1.1) < 140 then dz_a (dz_u q11.2 114 11 (dz_c ((a1 + 1) + s1.1)) q11.1) fun Z14 => some (Sum.inl (s1.1 + 1, Z14)) else none))) else (if dz_c (s1.2 114 28 0) ≠ 2 then (if 0 ≤ dz_c a1 ∧ dz_c a1 < 140 then dz_a (dz_u s1.2 114 11 (dz_c a1) s1.1) fun Z20 => some (Sum.inr Z20) else none) else (Option.bind (α := dz_Z) (if dz_c (s1.2 114 28 0) ≠ 2 then (some s1.2) else (if dz_c s1.1 ≠ 12 then (some s1.2) else (Option.bind (jf_M_fails 5 s1.2) fun q31 => some q31))) (fun (q24 : dz_Z) => Option.bind (jf_M_number 0 a2 q24) fun q25 => if dz_c (q25.2 114 24 0) ≠ 0 then (some (Sum.inl (s1.1, q25.2))) else (if 0 ≤ dz_c ((a1 + 1) + s1.1) ∧ dz_c ((a1 + 1) + s1.1) < 140 then dz_a (dz_u q25.2 114 11 (dz_c ((a1 + 1) + s1.1)) q25.1) fun Z28 => some (Sum.inl (s1.1 + 1, Z28)) else none)))))
section tg
variable {Z Y : dz_Z} {p s : Nat} {R R' P S T m m' m1 m2 m3 m4 m5 : ob_O} {a b e k i v st x lo hi w g N n a1 a2 : Int}
theorem lf_F (h : tkF T R m) : so_lf T R m := fun m2 hk => ⟨m2, le_b (tF_m h hk).2.1, tF_m h hk, kp_i⟩
theorem lf_I (hT : so_tp T) (h : tkI T R m a st e k) (hk : k ≠ 4) (h4 : R' 4 0 = st) (h3 : R' 3 0 = 2) : so_lf T R' m := fun m2 hq => by
  have hI := tI_m h hq
  have hkb := I_k hI
  have hmk := mk_b hkb
  have m24 := hI.2.2.2.2.2.2.1
  have e28 := tm_24 hT hI.2.2.2.2.2.2.2.2.2.2.2 hI
  obtain ⟨f1, f2, f3⟩ := lk_fl hI (w := 2) (w' := 2) (by omega) (by omega)
  refine ⟨_, fun Y => ?_, tF_R f1 ?_ ?_, f2⟩
  · have ho := hI.2.1.1
    unfold so_le
    rw [oz_s, m24, e28, if_neg (by decide), if_neg (by have := hmk.2.2.2.2.2 ho; omega), fl_eq m24, Option.bind_some, Option.bind_some, sp_b f1.2.1]
    rfl
  · rw [h4, ou_s]
  · rw [h3, ou_f (by decide), ou_s]
theorem ls_I (hT : so_tp T) (h : tkI T R m a st e 4) : so_lz T R m e := fun m2 hq => by
  have hI := tI_m h hq
  have m24 := hI.2.2.2.2.2.2.1
  have e28 := tm_24 hT hI.2.2.2.2.2.2.2.2.2.2.2 hI
  obtain ⟨m', g1, g2, g3⟩ := lk_st hT hI
  refine ⟨m', fun Y => ?_, g2 R hI.2.2.1 hI.2.2.2.2.2.1, g3⟩
  unfold so_le
  rw [oz_s, m24, e28, if_neg (by decide), if_pos (by decide), Option.bind_some, g1]
  rfl
theorem rs_lp : jf_M_readSeconds a1 a2 Z = dz_lp (so_rb a1 a2) 5000 (0, Z) := rfl
theorem lp_l {S R : Type} {body : S → Option (S ⊕ R)} {n : Nat} {s s' : S} (h : body s = some (.inl s')) : dz_lp body (n + 1) s = dz_lp body n s' := by
  show (body s).bind _ = _
  rw [h]
  rfl
theorem lp_r {S R : Type} {body : S → Option (S ⊕ R)} {n : Nat} {s : S} {r : R} (h : body s = some (.inr r)) : dz_lp body (n + 1) s = some r := by
  show (body s).bind _ = _
  rw [h]
  rfl
theorem if_2 {α : Type} {c d : Prop} [Decidable c] [Decidable d] {x y : α} (h : d) : (if c then x else (if d then x else y)) = x := by
  by_cases hc : c
  · rw [if_pos hc]
  · rw [if_neg hc, if_pos h]
theorem rb_n (h24 : m 24 0 = 0) (hn : 0 ≤ n ∧ n < 12) (ht : n = 0 ∨ m 28 0 = 2) (hnu : ∀ Y, jf_M_number 0 a2 (ob_z Y 114 m) = some (v, ob_z Y 114 m')) (h24' : m' 24 0 = 0) (ha : 0 ≤ a1 ∧ a1 ≤ 120) : ∀ Y, so_rb a1 a2 (n, ob_z Y 114 m) = some (.inl (n + 1, ob_z Y 114 (ob_u m' 11 (a1 + 1 + n) v))) := by
  intro Y
  have en : dz_c n = n := dz_ci (by omega) (by omega)
  have h12 : n ≠ 12 := by omega
  have fin : (if dz_c (ob_z Y 114 m' 114 24 0) ≠ 0 then (some (Sum.inl (n, ob_z Y 114 m'))) else (if 0 ≤ dz_c ((a1 + 1) + n) ∧ dz_c ((a1 + 1) + n) < 140 then dz_a (dz_u (ob_z Y 114 m') 114 11 (dz_c ((a1 + 1) + n)) v) fun Z14 => some (Sum.inl (n + 1, Z14)) else none) : Option ((Int × dz_Z) ⊕ dz_Z)) = some (.inl (n + 1, ob_z Y 114 (ob_u m' 11 (a1 + 1 + n) v))) := by
    rw [oz_s, h24', if_neg (by decide), dz_ci (x := a1 + 1 + n) (by omega) (by omega), if_pos (by omega)]
    show some (Sum.inl (n + 1, dz_u (ob_z Y 114 m') 114 11 (a1 + 1 + n) v)) = _
    rw [oz_uz]
  unfold so_rb
  simp only [oz_s, h24, en]
  rw [if_neg (by decide)]
  by_cases c : n = 0
  · rw [if_pos c, if_2 h12, Option.bind_some, hnu, Option.bind_some]
    exact fin
  · have h28 : m 28 0 = 2 := by omega
    simp only [h28]
    rw [if_neg c, if_neg (by decide), if_neg (by decide), if_pos h12, Option.bind_some, hnu, Option.bind_some]
    exact fin
theorem rb_f (h24 : m 24 0 = 0) (hn : 0 ≤ n ∧ n < 12) (ht : n = 0 ∨ m 28 0 = 2) (hnu : ∀ Y, jf_M_number 0 a2 (ob_z Y 114 m) = some (v, ob_z Y 114 m')) (h24' : 1 ≤ m' 24 0 ∧ m' 24 0 ≤ 6) : ∀ Y, so_rb a1 a2 (n, ob_z Y 114 m) = some (.inl (n, ob_z Y 114 m')) := by
  intro Y
  have en : dz_c n = n := dz_ci (by omega) (by omega)
  have h12 : n ≠ 12 := by omega
  have e24 : dz_c (m' 24 0) ≠ 0 := by rw [dz_ci (x := m' 24 0) (by omega) (by omega)]; omega
  unfold so_rb
  simp only [oz_s, h24, en]
  rw [if_neg (by decide)]
  by_cases c : n = 0
  · rw [if_pos c, if_2 h12, Option.bind_some, hnu, Option.bind_some]
    simp only [oz_s]
    rw [if_pos e24]
  · have h28 : m 28 0 = 2 := by omega
    simp only [h28]
    rw [if_neg c, if_neg (by decide), if_neg (by decide), if_pos h12, Option.bind_some, hnu, Option.bind_some]
    simp only [oz_s]
    rw [if_pos e24]
theorem rb_12 (h24 : m 24 0 = 0) (h28 : m 28 0 = 2) : ∀ Y, so_rb a1 a2 (12, ob_z Y 114 m) = some (.inl (12, ob_z Y 114 (ob_u (ob_u m 24 0 5) 25 0 (m 27 0)))) := by
  intro Y
  have q24 : ob_u (ob_u m 24 0 5) 25 0 (m 27 0) 24 0 = 5 := by rw [ou_f (by decide), ou_s]
  unfold so_rb
  simp only [oz_s, h24, h28]
  rw [if_neg (by decide), if_neg (by decide), if_neg (by decide), if_neg (by decide), if_neg (by decide), fl_eq h24, Option.bind_some, Option.bind_some, nu_b (by rw [q24]; decide), Option.bind_some]
  simp only [oz_s, q24]
  rw [if_pos (by decide)]
theorem rb_b (h24 : 1 ≤ m 24 0 ∧ m 24 0 ≤ 6) (ha : 0 ≤ a1 ∧ a1 ≤ 120) : ∀ Y, so_rb a1 a2 (n, ob_z Y 114 m) = some (.inr (ob_z Y 114 (ob_u m 11 a1 n))) := by
  intro Y
  have e24 : dz_c (m 24 0) ≠ 0 := by rw [dz_ci (x := m 24 0) (by omega) (by omega)]; omega
  unfold so_rb
  simp only [oz_s]
  rw [if_pos e24, dz_ci (x := a1) (by omega) (by omega), if_pos (by omega)]
  show some (Sum.inr (dz_u (ob_z Y 114 m) 114 11 a1 n)) = _
  rw [oz_uz]
theorem rb_e (h24 : m 24 0 = 0) (hn : 1 ≤ n ∧ n ≤ 12) (h28 : dz_c (m 28 0) ≠ 2) (ha : 0 ≤ a1 ∧ a1 ≤ 120) : ∀ Y, so_rb a1 a2 (n, ob_z Y 114 m) = some (.inr (ob_z Y 114 (ob_u m 11 a1 n))) := by
  intro Y
  unfold so_rb
  simp only [oz_s, h24]
  rw [if_neg (by decide), dz_ci (x := n) (by omega) (by omega), if_neg (by omega), if_pos h28, dz_ci (x := a1) (by omega) (by omega), if_pos (by omega)]
  show some (Sum.inr (dz_u (ob_z Y 114 m) 114 11 a1 n)) = _
  rw [oz_uz]
/-- the reference takes a number on which it stands -/
theorem nu_t (hT : so_tp T) (hI : tkI T R m a st e 3) (c1 : dz_c lo = lo) (c2 : dz_c hi = hi) (hb : lo ≤ so_nm T st (e - st).toNat ∧ so_nm T st (e - st).toNat ≤ hi) : ∃ m' : ob_O, (∀ Y, jf_M_number lo hi (ob_z Y 114 m) = some (so_nm T st (e - st).toNat, ob_z Y 114 m')) ∧ (∀ R' : ob_O, R' 6 0 = e → R' 3 0 = 0 → tkL T R' m' e) ∧ kpm m m' := by
  obtain ⟨m', g1, g2, g3⟩ := lk_st hT hI
  refine ⟨m', fun Y => ?_, g2, g3⟩
  unfold jf_M_number
  rw [lo_t hI c1 c2 hb, Option.bind_some, oz_s, hI.2.2.2.2.2.2.1, if_neg (by decide), Option.bind_some, g1, hI.2.2.2.2.2.2.2.2.2.2.1 rfl]
  rfl
/-- what seconds leave of the reference's page -/
def so_sk (a1 : Int) (m m' : ob_O) : Prop := (∀ j : Int, (j < a1 ∨ a1 + 13 ≤ j) → m' 11 j = m 11 j) ∧ (∀ f : Nat, (f < 11 ∨ (11 < f ∧ f < 24) ∨ 29 < f) → m' f = m f)
theorem sk_i : so_sk a1 m m := ⟨fun _ _ => rfl, fun _ _ => rfl⟩
theorem sk_k (h : so_sk a1 m m') (hk : kpm m' m2) : so_sk a1 m m2 := ⟨fun j q => by rw [hk 11 (by decide)]; exact h.1 j q, fun f q => by rw [hk f (by omega)]; exact h.2 f q⟩
theorem sk_u (h : so_sk a1 m m') (hi : a1 ≤ i ∧ i < a1 + 13) : so_sk a1 m (ob_u m' 11 i v) := ⟨fun j q => by rw [ou_i (by omega)]; exact h.1 j q, fun f q => by rw [ou_ff (by omega)]; exact h.2 f q⟩
theorem sk_e (h : so_sk a1 m m') : ke m m' := fun f q => h.2 f (by omega)
theorem is_cls (hp : p = 25 ∨ p = 4) (hs : s = 36 ∨ s = 15) (hT : so_tp T) (hZ : Z 2 = T) (hI : tkI T R m a st e k) (hi : 1 ≤ i ∧ i ≤ 12) (h2 : 0 ≤ a2 ∧ a2 ≤ 999) {K : Bool × dz_Z → Prop} (kT : k = 3 → so_nm T st (e - st).toNat ≤ a2 → i < 12 → ∀ R' : ob_O, tkI T R' m a st e k → R' 9 0 = so_nm T st (e - st).toNat → kpR R R' → K (true, rk Z p s R' P S)) (kF : (k ≠ 3 ∨ (k = 3 ∧ (i = 12 ∨ (i < 12 ∧ a2 < so_nm T st (e - st).toNat)))) → ∀ (R' : ob_O) (w : Int), R' 4 0 = st → R' 3 0 = w → (1 ≤ w ∧ w ≤ 6) → (k ≠ 3 → w = 2) → kpR R R' → K (false, rk Z p s R' P S)) : dz_p (jf_R_isSecond i a2 (rk Z p s R P S)) K := by
  have hk := I_k hI
  have r8 := hI.2.2.2.2.1
  have r7 := hI.2.2.2.1
  have e2 : dz_c a2 = a2 := dz_ci (by omega) (by omega)
  have ei : dz_c i = i := dz_ci (by omega) (by omega)
  unfold jf_R_isSecond
  simp only [rk_1, r8, dc_ir hk.1 (show k ≤ 2147483647 by omega)]
  by_cases c : k = 3
  · subst c
    have hnm := nm_t hI
    have hst := hI.1.1
    refine dp_ck rfl (dp_bi (dp_eq (nr_cls (e := e) (st := st) hT ((rk_2 hp hs).trans hZ) (by rw [rk_1]; exact hI.2.2.1) (by rw [rk_1]; exact r7) (by omega)) (dp_le ?_)))
    simp only [rk_u1, rk_1, ou_s, e2, ei, dc_ir hnm.1 (show so_nm T st (e - st).toNat ≤ 2147483647 by omega)]
    have r79 : ob_u R 9 0 (so_nm T st (e - st).toNat) 7 0 = st := by rw [ou_f (by decide), r7]
    refine dp_br (fun x => dp_br (fun y => dp_sm ?_) (fun y => dp_bi (fl_cls r79 (dp_ck rfl (dp_sm ?_))))) (fun x => dp_bi (fl_cls r79 (dp_sm ?_)))
    · refine kT rfl x y _ ?_ ou_s (fun f q => by rw [ou_ff (by omega)])
      obtain ⟨i1, i2, i3, i4, i5, i6, i7⟩ := hI
      exact ⟨i1, i2, by rw [ou_f (by decide)]; exact i3, by rw [ou_f (by decide)]; exact i4, by rw [ou_f (by decide)]; exact i5, by rw [ou_f (by decide)]; exact i6, i7⟩
    · exact kF (Or.inr ⟨rfl, Or.inl (by omega)⟩) _ 5 ou_s (by rw [ou_f (by decide), ou_s]) (by omega) (fun q => absurd rfl q) (fun f q => by rw [ou_ff (by omega), ou_ff (by omega), ou_ff (by omega)])
    · exact kF (Or.inr ⟨rfl, by omega⟩) _ 3 ou_s (by rw [ou_f (by decide), ou_s]) (by omega) (fun q => absurd rfl q) (fun f q => by rw [ou_ff (by omega), ou_ff (by omega), ou_ff (by omega)])
  · exact dp_no c (dp_bi (fl_cls r7 (dp_sm (kF (Or.inl c) _ 2 ou_s (by rw [ou_f (by decide), ou_s]) (by omega) (fun _ => rfl) (fun f q => by rw [ou_ff (by omega), ou_ff (by omega)])))))
theorem rb_x (h24 : m 24 0 = 0) (hn : 0 ≤ n ∧ n < 12) (ht : n = 0 ∨ m 28 0 = 2) (hnu : ∀ Y, jf_M_number 0 a2 (ob_z Y 114 m) = some (v, ob_z Y 114 m')) (hL : tkL T R m' b) (ha : 0 ≤ a1 ∧ a1 ≤ 120) : ∃ (nn : Int) (m2 : ob_O), (∀ Y, so_rb a1 a2 (n, ob_z Y 114 m) = some (.inl (nn, ob_z Y 114 m2))) ∧ tkL T R m2 b ∧ (m2 24 0 = 0 → nn = n + 1 ∧ m2 11 = ob_u m' 11 (a1 + 1 + n) v 11) ∧ (∀ m0 : ob_O, so_sk a1 m0 m' → so_sk a1 m0 m2) := by
  have h : m' 24 0 = 0 ∨ m' 24 0 = 1 := by
    obtain ⟨st, e, k, q⟩ := hL.2.2.1
    rcases q.2.2.2 with q | q
    · exact Or.inl q.2.1
    · exact Or.inr q.2.1
  rcases h with h | h
  · exact ⟨n + 1, _, rb_n h24 hn ht hnu h ha, tL_m hL (kq_u (by decide)), fun _ => ⟨rfl, rfl⟩, fun m0 q => sk_u q (by omega)⟩
  · exact ⟨n, m', rb_f h24 hn ht hnu (by omega), hL, fun q => by omega, fun m0 q => q⟩
/-- seconds -/
theorem lk_sec (hp : p = 25 ∨ p = 4) (hs : s = 36 ∨ s = 15) (hT : so_tp T) (hZ : Z 2 = T) (hL : tkL T R m a) (ha : 0 ≤ a1 ∧ a1 ≤ 120) (h2 : 0 ≤ a2 ∧ a2 ≤ 999) {f : Nat} {K : Int × dz_Z → Prop} (kT : ∀ (R' S' m' : ob_O) (n b : Int), (∀ Y, jf_M_readSeconds a1 a2 (ob_z Y 114 m) = some (ob_z Y 114 m')) → so_lz T R' m' b → a + 1 < b → (1 ≤ n ∧ n ≤ 12) → kpR R R' → (∀ f' : Nat, f' ≠ f → S' f' = S f') → (∀ i : Int, 0 ≤ i → i < n → m' 11 (a1 + 1 + i) = S' f i ∧ 0 ≤ S' f i ∧ S' f i ≤ a2) → m' 11 a1 = n → so_sk a1 m m' → K (n, rk Z p s R' P S')) (kF : ∀ (R' S' m' : ob_O), (∀ Y, jf_M_readSeconds a1 a2 (ob_z Y 114 m) = some (ob_z Y 114 m')) → so_lf T R' m' → kpR R R' → so_sk a1 m m' → K (0, rk Z p s R' P S')) : dz_p (jf_R_readSeconds s f 12 a2 (rk Z p s R P S)) K := by
  have e2 : dz_c a2 = a2 := dz_ci (by omega) (by omega)
  -- a fault that the reference finds on the number where it stands
  have bad : ∀ (R0 R2 m' : ob_O) (a st e w wl n : Int), tkI T R0 m' a st e 3 ∨ n = 0 → (∃ k, tkI T R0 m' a st e k) → (0 ≤ n ∧ n < 12) → (1 ≤ wl ∧ wl ≤ 6) → (∀ Y, jf_M_looks 0 a2 (ob_z Y 114 m') = some (ob_z Y 114 (ob_u (ob_u m' 24 0 wl) 25 0 (m' 27 0)))) → R2 4 0 = st → R2 3 0 = w → (1 ≤ w ∧ w ≤ 6) → ∀ q : Nat, ∃ m2 : ob_O, (∀ Y, dz_lp (so_rb a1 a2) (q + 2) (n, ob_z Y 114 m') = some (ob_z Y 114 m2)) ∧ so_lf T R2 m2 ∧ (so_sk a1 m m' → so_sk a1 m m2) := by
    intro R0 R2 m' a st e w wl n h3 ⟨k, hI⟩ hn hwl hlo h4 h3' hw q
    obtain ⟨f1, f2, f3⟩ := lk_fl hI (w := w) (w' := wl) hw hwl
    have f1' : tkF T R2 (ob_u (ob_u m' 24 0 wl) 25 0 (m' 27 0)) := tF_R f1 (by rw [h4, ou_s]) (by rw [h3', ou_f (by decide), ou_s])
    refine ⟨ob_u (ob_u (ob_u m' 24 0 wl) 25 0 (m' 27 0)) 11 a1 n, fun Y => ?_, lf_F (tF_m f1' (kq_u (by decide))), fun h => sk_u (sk_k h f2) (by omega)⟩
    have m24 := hI.2.2.2.2.2.2.1
    have e28 := tm_24 hT hI.2.2.2.2.2.2.2.2.2.2.2 hI
    refine (lp_l (n := q + 1) (rb_f m24 hn ?_ (nu_f hlo f1.2.1) f1.2.1 Y)).trans (lp_r (n := q) (rb_b f1.2.1 ha Y))
    rcases h3 with h3 | h3
    · have := h3.2.2.2.2.2.2.2.2.2.1
      exact Or.inr (by rw [this]; decide)
    · exact Or.inl h3
  unfold jf_R_readSeconds
  refine dp_bi (lk_nn hp hs hT hZ hL (by decide) e2 (fun R1 st e hI h9 hlo hhi kR => ?_) (fun R1 hF h1 kR => ?_) (fun R0 R1 st e k w hI hbad h4 h3 hw kR => ?_))
  · obtain ⟨m1, n1, n2, n3⟩ := nu_t hT hI (by decide) e2 ⟨hlo, hhi⟩
    have hnm := nm_t hI
    have h83 := hI.1.2.2.2.2.1 (Or.inr rfl)
    have hst := hI.1.1
    have m24 := hI.2.2.2.2.2.2.1
    obtain ⟨nn, m2, x1, x2, x3, x4⟩ := rb_x m24 (n := 0) (by omega) (Or.inl rfl) n1 (n2 R1 hI.2.2.1 hI.2.2.2.2.2.1) ha
    generalize hv : so_nm T st (e - st).toNat = v at *
    refine dp_ck rfl (dp_ck (by omega) (dp_le ?_))
    simp only [rk_1, h9]
    rw [rk_us hp hs]
    refine dp_lp (fun k q => ∃ (i : Nat) (R' S' m' : ob_O) (b nn : Int), i + k = 13 ∧ 1 ≤ i ∧ i ≤ 12 ∧ q = ((i : Int), rk Z p s R' P S') ∧ (∀ Y, jf_M_readSeconds a1 a2 (ob_z Y 114 m) = dz_lp (so_rb a1 a2) (5000 - i) (nn, ob_z Y 114 m')) ∧ tkL T R' m' b ∧ a < b ∧ kpR R R' ∧ (∀ f' : Nat, f' ≠ f → S' f' = S f') ∧ (m' 24 0 = 0 → nn = i ∧ ∀ j : Int, 0 ≤ j → j < i → m' 11 (a1 + 1 + j) = S' f j) ∧ (∀ j : Int, 0 ≤ j → j < i → 0 ≤ S' f j ∧ S' f j ≤ a2) ∧ so_sk a1 m m') ?_ 5000 12 _ (by omega) ⟨1, R1, ob_u S f 0 v, m2, e, nn, by omega, by omega, by omega, rfl, fun Y => ?_, x2, by omega, kR, fun f' q => ou_ff q, fun q => ?_, fun j y z => ?_, x4 m (sk_k sk_i n3)⟩
    · rintro k _ ⟨i, R', S', m', b, nn, g1, g2, g3, rfl, heq, hL', hab, kR', hS', hm', hv', hsk⟩
      have ei : dz_c (i : Int) = i := dz_ci (by omega) (by omega)
      obtain ⟨q, hq⟩ : ∃ q, 5000 - i = q + 2 := ⟨4998 - i, by omega⟩
      rw [hq] at heq
      simp only [ei]
      refine dp_no (by omega) (dp_bi (lk_nt hp hs hT hZ hL' (fun R2 st2 en2 k2 hI2 kR2 => ?_) (fun R2 hF _ kR2 => ?_)))
      · have hk := I_k hI2
        have r8 := hI2.2.2.2.2.1
        have m24' := hI2.2.2.2.2.2.2.1
        have e28 := tm_24 hT hI2.2.2.2.2.2.2.2.2.2.2.2 hI2
        have hst2 := hI2.1.1
        obtain ⟨hnn, hent⟩ := hm' m24'
        subst hnn
        refine dp_ck rfl ?_
        simp only [rk_1, r8, dc_ir hk.1 (show k2 ≤ 2147483647 by omega)]
        by_cases c4 : k2 = 4
        · have h9 := hI2.1.2.2.2.2.2.1 c4
          subst c4
          refine dp_no (by omega) (dp_sm (kT R2 S' (ob_u m' 11 a1 i) i en2 (fun Y => ?_) (ls_I hT (tI_m hI2 (kq_u (by decide)))) (by omega) (by omega) (kR_t kR' kR2) hS' (fun j y z => ⟨?_, hv' j y z⟩) ou_s (sk_u hsk (by omega))))
          · rw [heq Y]
            exact lp_r (n := q + 1) (rb_e m24' (by omega) (by rw [e28]; decide) ha Y)
          · rw [ou_i (by omega)]; exact hent j y z
        · refine dp_ck c4 (dp_bi (is_cls hp hs hT hZ hI2 (by omega) h2 (fun c3 hle hi12 R3 hI3 h39 kR3 => ?_) (fun hbad R3 w h34 h33 hw hw2 kR3 => ?_)))
          · subst c3
            have hnm3 := nm_t hI3
            have h832 := hI2.1.2.2.2.2.1 (Or.inr rfl)
            obtain ⟨m3, n31, n32, n33⟩ := nu_t hT hI3 (by decide) e2 ⟨hnm3.1, hle⟩
            obtain ⟨nn', m4, x1, x2, x3, x4⟩ := rb_x m24' (n := i) (by omega) (Or.inr (by rw [hI3.2.2.2.2.2.2.2.2.2.1]; decide)) n31 (n32 R3 hI3.2.2.1 hI3.2.2.2.2.2.1) ha
            generalize hu : so_nm T st2 (en2 - st2).toNat = u at *
            refine dp_ck rfl (dp_ck (by omega) (dp_le (dp_sm ?_)))
            simp only [rk_1, h39]
            rw [rk_us hp hs]
            refine ⟨k - 1, by omega, i + 1, R3, ob_u S' f i u, m4, en2, nn', by omega, by omega, by omega, rfl, fun Y => ?_, x2, by omega, kR_t kR' (kR_t kR2 kR3), fun f' y => by rw [ou_ff y]; exact hS' f' y, fun y => ?_, fun j y z => ?_, x4 m (sk_k hsk n33)⟩
            · rw [heq Y, show 5000 - (i + 1) = q + 1 by omega]
              exact lp_l (n := q + 1) (x1 Y)
            · obtain ⟨y1, y2⟩ := x3 y
              refine ⟨by omega, fun j z1 z2 => ?_⟩
              rw [y2, ou_a, ou_a, n33 11 (by decide)]
              by_cases c : j = i
              · rw [if_pos (by omega), if_pos c]
              · rw [if_neg (by omega), if_neg c]; exact hent j z1 (by omega)
            · rw [ou_a]
              by_cases c : j = i
              · rw [if_pos c]; omega
              · rw [if_neg c]; exact hv' j y (by omega)
          · refine dp_no (by intro q; cases q) (dp_sm ?_)
            rcases hbad with c3 | ⟨c3, c12 | ⟨c12, cv⟩⟩
            · have hmk := mk_b hk
              refine kF R3 S' (ob_u m' 11 a1 i) (fun Y => ?_) (lf_I hT (tI_m hI2 (kq_u (by decide))) c4 h34 (by rw [h33, hw2 c3])) (kR_t kR' (kR_t kR2 kR3)) (sk_u hsk (by omega))
              rw [heq Y]
              exact lp_r (n := q + 1) (rb_e m24' (by omega) (by rw [e28]; omega) ha Y)
            · subst c3
              obtain ⟨f1, f2, f3⟩ := lk_fl hI2 (w := w) (w' := 5) hw (by omega)
              have f1' : tkF T R3 (ob_u (ob_u m' 24 0 5) 25 0 (m' 27 0)) := tF_R f1 (by rw [h34, ou_s]) (by rw [h33, ou_f (by decide), ou_s])
              refine kF R3 S' _ (fun Y => ?_) (lf_F (tF_m f1' (kq_u (m := ob_u (ob_u m' 24 0 5) 25 0 (m' 27 0)) (f := 11) (j := a1) (v := 12) (by decide)))) (kR_t kR' (kR_t kR2 kR3)) (sk_u (sk_k hsk f2) (by omega))
              rw [heq Y, c12]
              exact (lp_l (n := q + 1) (rb_12 m24' (by rw [hI2.2.2.2.2.2.2.2.2.2.1]; decide) Y)).trans (lp_r (n := q) (rb_b f1.2.1 ha Y))
            · subst c3
              obtain ⟨wl, w1, w2⟩ := lo_f hI2 (lo := 0) (hi := a2) (by decide) e2 (Or.inr (by omega))
              obtain ⟨m3, b1, b2, b3⟩ := bad R2 R3 m' b st2 en2 w wl i (Or.inl hI2) ⟨3, hI2⟩ (by omega) w1 w2 h34 h33 hw q
              exact kF R3 S' m3 (fun Y => by rw [heq Y]; exact b1 Y) b2 (kR_t kR' (kR_t kR2 kR3)) (b3 hsk)
      · have hq' := hF.2.1
        refine dp_no (by intro q; cases q) (dp_sm (kF R2 S' (ob_u m' 11 a1 nn) (fun Y => ?_) (lf_F (tF_m hF (kq_u (by decide)))) (kR_t kR' kR2) (sk_u hsk (by omega))))
        rw [heq Y]
        exact lp_r (n := q + 1) (rb_b hq' ha Y)
    · rw [rs_lp]
      exact lp_l (n := 4999) (x1 Y)
    · obtain ⟨y1, y2⟩ := x3 q
      refine ⟨by omega, fun j z1 z2 => ?_⟩
      have : j = 0 := by omega
      subst this
      rw [y2, ou_a, ou_s, if_pos rfl]
    · have : j = 0 := by omega
      subst this
      rw [ou_s]
      omega
  · have hq := hF.2.1
    refine dp_no (by intro q; cases q) (dp_sm (kF R1 S (ob_u m 11 a1 0) (fun Y => ?_) (lf_F (tF_m hF (kq_u (by decide)))) kR (sk_u sk_i (by omega))))
    rw [rs_lp]
    exact lp_r (n := 4999) (rb_b hq ha Y)
  · obtain ⟨wl, w1, w2⟩ := lo_f hI (by decide) e2 hbad
    obtain ⟨m2, b1, b2, b3⟩ := bad R0 R1 m a st e w wl 0 (Or.inr rfl) ⟨k, hI⟩ (by omega) w1 w2 h4 h3 hw 4998
    exact dp_no (by intro q; cases q) (dp_sm (kF R1 S m2 b1 b2 kR (b3 sk_i)))
end tg
