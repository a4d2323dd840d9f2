/-! the reference reads a text -/
def so_ob : Int × dz_Z → Option ((Int × dz_Z) ⊕ ((Int × dz_Z) ⊕ (Int × dz_Z))) := fun (s10 : Int × dz_Z) => if dz_c (s10.2 114 24 0) ≠ 0 then (Option.bind (α := dz_Z) (if dz_c (s10.2 114 24 0) ≠ 0 then (some s10.2) else (if dz_c (s10.2 114 16 1) ≤ dz_c (s10.2 114 18 0) then (Option.bind (jf_M_fails 6 s10.2) fun q24 => some q24) else (if dz_c (s10.2 114 19 0) < dz_c (s10.2 114 16 2) then (some s10.2) else (Option.bind (jf_M_fails 6 s10.2) fun q26 => some q26)))) (fun (q17 : dz_Z) => dz_a (dz_u q17 114 22 0 0) fun Z18 => dz_a (dz_u Z18 114 23 0 (Z18 114 24 0)) fun Z19 => if dz_c (Z19 114 24 0) ≤ 0 then (Option.bind (jf_M_takes Z19) fun q21 => some (Sum.inr (Sum.inr (s10.1, q21)))) else (some (Sum.inr (Sum.inr ((-10) - (Z19 114 25 0), Z19)))))) else (if dz_c (s10.2 114 28 0) = 0 then (Option.bind (α := dz_Z) (if dz_c (s10.2 114 24 0) ≠ 0 then (some s10.2) else (if dz_c (s10.2 114 16 1) ≤ dz_c (s10.2 114 18 0) then (Option.bind (jf_M_fails 6 s10.2) fun q40 => some q40) else (if dz_c (s10.2 114 19 0) < dz_c (s10.2 114 16 2) then (some s10.2) else (Option.bind (jf_M_fails 6 s10.2) fun q42 => some q42)))) (fun (q33 : dz_Z) => dz_a (dz_u q33 114 22 0 0) fun Z34 => dz_a (dz_u Z34 114 23 0 (Z34 114 24 0)) fun Z35 => if dz_c (Z35 114 24 0) ≤ 0 then (Option.bind (jf_M_takes Z35) fun q37 => some (Sum.inr (Sum.inr (s10.1, q37)))) else (some (Sum.inr (Sum.inr ((-10) - (Z35 114 25 0), Z35)))))) else (Option.bind (jf_M_readLine s10.2) fun q43 => some (Sum.inl (s10.1 + 1, q43))))
def so_oo : Int × dz_Z → Option ((Int × dz_Z) ⊕ (Int × dz_Z)) := fun (s7 : Int × dz_Z) => if 140 ≤ dz_c s7.1 then (Option.bind (jf_M_step s7.2) fun q9 => dz_lp so_ob 5000 (0, q9)) else (if 0 ≤ dz_c s7.1 ∧ dz_c s7.1 < 140 then dz_a (dz_u s7.2 114 11 (dz_c s7.1) 0) fun Z45 => if 0 ≤ dz_c (Int.tmod (dz_c s7.1) 5) ∧ dz_c (Int.tmod (dz_c s7.1) 5) < 5 then dz_a (dz_u Z45 114 16 (dz_c (Int.tmod (dz_c s7.1) 5)) 0) fun Z47 => some (Sum.inl (s7.1 + 1, Z47)) else none else none)
def so_mz (m : ob_O) : ob_O := ob_u (ob_u (ob_u (ob_u (ob_u (ob_u m 24 0 0) 26 0 0) 20 0 0) 17 0 0) 18 0 (-1)) 19 0 (-1)
def so_cl (m : ob_O) : Nat → ob_O
  | 0 => m
  | i + 1 => ob_u (ob_u (so_cl m i) 11 (i : Int) 0) 16 (Int.tmod (i : Int) 5) 0
def so_wr (o : Option ((Int × dz_Z) ⊕ (Int × dz_Z))) : Option (Int × dz_Z) := o.bind (fun q => match q with
  | .inl s' => dz_lp so_oo 4859 s'
  | .inr r => some r)
section ua
variable {Z Y : dz_Z} {R P S T m m' m1 m2 : ob_O} {n : Int}
theorem cl_11 : ∀ (i : Nat) (j : Int), 0 ≤ j → j < i → so_cl m i 11 j = 0
  | 0, j, a, b => by omega
  | i + 1, j, a, b => by
    show ob_u (ob_u (so_cl m i) 11 (i : Int) 0) 16 (Int.tmod (i : Int) 5) 0 11 j = 0
    rw [ou_f (by decide), ou_a]
    by_cases c : j = i
    · rw [if_pos c]
    · rw [if_neg c]; exact cl_11 i j a (by omega)
theorem tm_5 (i : Nat) : Int.tmod (i : Int) 5 = (i : Int) % 5 := Int.tmod_eq_emod_of_nonneg (by omega)
theorem cl_16 : ∀ (i : Nat) (j : Int), 0 ≤ j → j < 5 → j < i → so_cl m i 16 j = 0
  | 0, j, a, _, b => by omega
  | i + 1, j, a, c5, b => by
    show ob_u (ob_u (so_cl m i) 11 (i : Int) 0) 16 (Int.tmod (i : Int) 5) 0 16 j = 0
    rw [ou_a, tm_5]
    by_cases c : j = (i : Int) % 5
    · rw [if_pos c]
    · rw [if_neg c, ou_f (by decide)]; exact cl_16 i j a c5 (by omega)
theorem cl_f {f : Nat} (h : f ≠ 11) (h' : f ≠ 16) : ∀ i : Nat, so_cl m i f = m f
  | 0 => rfl
  | i + 1 => by
    show ob_u (ob_u (so_cl m i) 11 (i : Int) 0) 16 (Int.tmod (i : Int) 5) 0 f = m f
    rw [ou_ff h', ou_ff h, cl_f h h' i]
theorem oo_l {i : Nat} (hi : i < 140) : so_oo ((i : Int), ob_z Y 114 m) = some (.inl ((i : Int) + 1, ob_z Y 114 (ob_u (ob_u m 11 (i : Int) 0) 16 (Int.tmod (i : Int) 5) 0))) := by
  have e1 : dz_c (i : Int) = i := dz_ci (by omega) (by omega)
  have e2 : dz_c (Int.tmod (i : Int) 5) = Int.tmod (i : Int) 5 := dz_ci (by rw [tm_5]; omega) (by rw [tm_5]; omega)
  have h5 : 0 ≤ Int.tmod (i : Int) 5 ∧ Int.tmod (i : Int) 5 < 5 := by rw [tm_5]; omega
  unfold so_oo
  simp only [e1, e2, dz_a, oz_uz]
  rw [if_neg (by omega), if_pos (by omega), if_pos h5]
theorem oo_r : so_oo (140, Z) = Option.bind (jf_M_step Z) fun q9 => dz_lp so_ob 5000 (0, q9) := by
  unfold so_oo
  have : (140 : Int) ≤ dz_c 140 := by decide
  simp only [if_pos this]
theorem cl_lp : ∀ i : Nat, i ≤ 140 → dz_lp so_oo 5000 (0, ob_z Y 114 m) = dz_lp so_oo (5000 - i) ((i : Int), ob_z Y 114 (so_cl m i))
  | 0, _ => rfl
  | i + 1, h => by
    rw [cl_lp i (by omega)]
    obtain ⟨q, hq⟩ : ∃ q, 5000 - i = q + 1 := ⟨4999 - i, by omega⟩
    rw [hq, show 5000 - (i + 1) = q by omega]
    exact lp_l (oo_l (by omega))
theorem lp_u {S R : Type} {body : S → Option (S ⊕ R)} {n : Nat} {s : S} : dz_lp body (n + 1) s = (body s).bind (fun q => match q with
  | .inl s' => dz_lp body n s'
  | .inr r => some r) := rfl
theorem dz_ae {α β : Type} {x : α} {f : α → β} : dz_a x f = f x := by rw [dz_a]
theorem mo_e : jf_M_organ Z = dz_lp so_oo 5000 (0, dz_u (dz_u (dz_u (dz_u (dz_u (dz_u Z 114 24 0 0) 114 26 0 0) 114 20 0 0) 114 17 0 0) 114 18 0 (-1)) 114 19 0 (-1)) := by
  unfold jf_M_organ
  rw [dz_ae, dz_ae, dz_ae, dz_ae, dz_ae, dz_ae]
  rfl
theorem mo_eq : jf_M_organ (ob_z Y 114 m) = so_wr (Option.bind (jf_M_step (ob_z Y 114 (so_cl (so_mz m) 140))) fun q9 => dz_lp so_ob 5000 (0, q9)) := by
  rw [mo_e]
  simp only [oz_uz]
  show dz_lp so_oo 5000 (0, ob_z Y 114 (so_mz m)) = _
  rw [cl_lp 140 (by omega), ← oo_r]
  generalize so_cl (so_mz m) 140 = M
  rw [show 5000 - 140 = 4859 + 1 from rfl, lp_u, show ((140 : Nat) : Int) = 140 from rfl]
  unfold so_wr
  congr 1
  funext q
  cases q <;> rfl
theorem wr_r {r : Int × dz_Z} : so_wr (some (.inr r)) = some r := rfl
theorem ob_l (h24 : m 24 0 = 0) (h28 : dz_c (m 28 0) ≠ 0) (hl : ∀ Y, jf_M_readLine (ob_z Y 114 m) = some (ob_z Y 114 m')) : so_ob (n, ob_z Y 114 m) = some (.inl (n + 1, ob_z Y 114 m')) := by
  unfold so_ob
  simp only [oz_s, h24]
  rw [if_neg (by decide), if_neg h28, hl, Option.bind_some]
theorem ob_b (h24 : 1 ≤ m 24 0 ∧ m 24 0 ≤ 6) : so_ob (n, ob_z Y 114 m) = some (.inr (.inr (-10 - m 25 0, ob_z Y 114 (ob_u (ob_u m 22 0 0) 23 0 (m 24 0))))) := by
  have e24 : dz_c (m 24 0) ≠ 0 := by rw [dz_ci (x := m 24 0) (by omega) (by omega)]; omega
  have e24' : ¬ dz_c (m 24 0) ≤ 0 := by rw [dz_ci (x := m 24 0) (by omega) (by omega)]; omega
  unfold so_ob
  simp only [oz_s]
  rw [if_pos e24, if_pos e24, Option.bind_some]
  simp only [dz_a, oz_s, oz_uz, ou_f (show (24 : Nat) ≠ 22 by decide), ou_f (show (24 : Nat) ≠ 23 by decide), ou_f (show (25 : Nat) ≠ 22 by decide), ou_f (show (25 : Nat) ≠ 23 by decide)]
  rw [if_neg e24']
theorem ob_e (h24 : m 24 0 = 0) (h28 : m 28 0 = 0) (b1 : -1 ≤ m 18 0 ∧ m 18 0 ≤ 4) (b2 : -1 ≤ m 19 0 ∧ m 19 0 ≤ 7) (b3 : 0 ≤ m 16 1 ∧ m 16 1 ≤ 5) (b4 : 0 ≤ m 16 2 ∧ m 16 2 ≤ 8) (h : m 18 0 < m 16 1) (h' : m 19 0 < m 16 2) : so_ob (n, ob_z Y 114 m) = (jf_M_takes (ob_z Y 114 (ob_u (ob_u m 22 0 0) 23 0 0))).bind (fun q37 => some (.inr (.inr (n, q37)))) := by
  unfold so_ob
  simp only [oz_s, h24, h28]
  rw [if_neg (by decide), if_pos (by decide), if_neg (by decide), dz_ci (x := m 16 1) (by omega) (by omega), dz_ci (x := m 18 0) (by omega) (by omega), dz_ci (x := m 16 2) (by omega) (by omega), dz_ci (x := m 19 0) (by omega) (by omega), if_neg (by omega), if_pos h', Option.bind_some]
  simp only [dz_a, oz_s, oz_uz, ou_f (show (24 : Nat) ≠ 22 by decide), ou_f (show (24 : Nat) ≠ 23 by decide), h24]
  rw [if_pos (by decide)]
theorem ob_m (h24 : m 24 0 = 0) (h28 : m 28 0 = 0) (b1 : -1 ≤ m 18 0 ∧ m 18 0 ≤ 4) (b2 : -1 ≤ m 19 0 ∧ m 19 0 ≤ 7) (b3 : 0 ≤ m 16 1 ∧ m 16 1 ≤ 5) (b4 : 0 ≤ m 16 2 ∧ m 16 2 ≤ 8) (h : ¬(m 18 0 < m 16 1 ∧ m 19 0 < m 16 2)) (hf : ∀ Y, jf_M_fails 6 (ob_z Y 114 m) = some (ob_z Y 114 m')) (h24' : 1 ≤ m' 24 0 ∧ m' 24 0 ≤ 6) : so_ob (n, ob_z Y 114 m) = some (.inr (.inr (-10 - m' 25 0, ob_z Y 114 (ob_u (ob_u m' 22 0 0) 23 0 (m' 24 0))))) := by
  have e24' : ¬ dz_c (m' 24 0) ≤ 0 := by rw [dz_ci (x := m' 24 0) (by omega) (by omega)]; omega
  unfold so_ob
  simp only [oz_s, h24, h28]
  rw [if_neg (by decide), if_pos (by decide), if_neg (by decide), dz_ci (x := m 16 1) (by omega) (by omega), dz_ci (x := m 18 0) (by omega) (by omega), dz_ci (x := m 16 2) (by omega) (by omega), dz_ci (x := m 19 0) (by omega) (by omega), hf, Option.bind_some]
  have e : (if m 16 1 ≤ m 18 0 then some (ob_z Y 114 m') else if m 19 0 < m 16 2 then some (ob_z Y 114 m) else some (ob_z Y 114 m')) = some (ob_z Y 114 m') := by
    by_cases c : m 16 1 ≤ m 18 0
    · rw [if_pos c]
    · rw [if_neg c, if_neg (by omega)]
  rw [e, Option.bind_some]
  simp only [dz_a, oz_s, oz_uz, ou_f (show (24 : Nat) ≠ 22 by decide), ou_f (show (24 : Nat) ≠ 23 by decide), ou_f (show (25 : Nat) ≠ 22 by decide), ou_f (show (25 : Nat) ≠ 23 by decide)]
  rw [if_neg e24']
/-- what was read is taken -/
theorem tk_ref : dz_p (jf_M_takes (ob_z Y 114 m)) (fun q => ∃ mt : ob_O, q = ob_z Y 114 mt ∧ (∀ j : Int, 0 ≤ j → j < 140 → mt 0 j = m 11 j) ∧ (∀ j : Int, 140 ≤ j → mt 0 j = m 0 j) ∧ (∀ j : Int, 0 ≤ j → j < 8 → mt 7 j = m 12 j) ∧ (∀ j : Int, 0 ≤ j → j < 10 → mt 8 j = m 13 j) ∧ (∀ j : Int, 0 ≤ j → j < 8 → mt 9 j = m 14 j) ∧ (∀ j : Int, 0 ≤ j → j < 12 → mt 10 j = m 15 j) ∧ mt 1 0 = m 16 0 ∧ mt 2 0 = m 16 1 ∧ mt 3 0 = m 16 2 ∧ mt 4 0 = m 16 3 ∧ mt 5 0 = m 16 4 ∧ mt 6 0 = m 17 0 ∧ mt 41 0 = 0 ∧ mt 41 1 = 0 ∧ (∀ f : Nat, 10 < f → f ≠ 41 → mt f = m f)) := by
  unfold jf_M_takes
  refine dp_lp (fun n q => ∃ (i : Nat) (m' : ob_O), i + n = 140 ∧ q = ((i : Int), ob_z Y 114 m') ∧ (∀ j : Int, 0 ≤ j → j < i → m' 0 j = m 11 j) ∧ (∀ j : Int, 140 ≤ j → m' 0 j = m 0 j) ∧ (∀ f : Nat, f ≠ 0 → m' f = m f)) ?_ 5000 140 _ (by omega) ⟨0, m, by omega, rfl, fun j a b => by omega, fun j _ => rfl, fun f _ => rfl⟩
  rintro n _ ⟨i, m1, hin, rfl, h0, h1, hf⟩
  have e1 : dz_c (i : Int) = i := dz_ci (by omega) (by omega)
  simp only [e1]
  by_cases c : i = 140
  · refine dp_ck (by omega) ?_
    refine dp_lp (fun n q => ∃ (i : Nat) (m' : ob_O), i + n = 12 ∧ q = ((i : Int), ob_z Y 114 m') ∧ m' 0 = m1 0 ∧ (∀ j : Int, 0 ≤ j → j < 8 → j < i → m' 7 j = m 12 j) ∧ (∀ j : Int, 0 ≤ j → j < 10 → j < i → m' 8 j = m 13 j) ∧ (∀ j : Int, 0 ≤ j → j < 8 → j < i → m' 9 j = m 14 j) ∧ (∀ j : Int, 0 ≤ j → j < 12 → j < i → m' 10 j = m 15 j) ∧ (∀ f : Nat, f ≠ 0 → f ≠ 7 → f ≠ 8 → f ≠ 9 → f ≠ 10 → m' f = m f)) ?_ 5000 12 _ (by omega) ⟨0, m1, by omega, rfl, rfl, fun j a b c => by omega, fun j a b c => by omega, fun j a b c => by omega, fun j a b c => by omega, fun f a _ _ _ _ => hf f a⟩
    rintro n2 _ ⟨k, m2, hkn, rfl, k0, k7, k8, k9, k10, kf⟩
    have e2 : dz_c (k : Int) = k := dz_ci (by omega) (by omega)
    have t8 : Int.tmod (k : Int) 8 = (k : Int) % 8 := Int.tmod_eq_emod_of_nonneg (by omega)
    have t10 : Int.tmod (k : Int) 10 = (k : Int) % 10 := Int.tmod_eq_emod_of_nonneg (by omega)
    simp only [e2, t8, t10]
    rw [dz_ci (x := (k : Int) % 8) (by omega) (by omega), dz_ci (x := (k : Int) % 10) (by omega) (by omega)]
    by_cases d : k = 12
    · refine dp_ck (by omega) ?_
      simp only [dz_a, oz_uz, oz_s, ou_f (show (16 : Nat) ≠ 1 by decide), ou_f (show (16 : Nat) ≠ 2 by decide), ou_f (show (16 : Nat) ≠ 3 by decide), ou_f (show (16 : Nat) ≠ 4 by decide), ou_f (show (17 : Nat) ≠ 1 by decide), ou_f (show (17 : Nat) ≠ 2 by decide), ou_f (show (17 : Nat) ≠ 3 by decide), ou_f (show (17 : Nat) ≠ 4 by decide), ou_f (show (17 : Nat) ≠ 5 by decide)]
      refine dp_sm ⟨_, rfl, ?_⟩
      have q16 : m2 16 = m 16 := kf 16 (by decide) (by decide) (by decide) (by decide) (by decide)
      have q17 : m2 17 = m 17 := kf 17 (by decide) (by decide) (by decide) (by decide) (by decide)
      refine ⟨fun j a b => ?_, fun j a => ?_, fun j a b => ?_, fun j a b => ?_, fun j a b => ?_, fun j a b => ?_, ?_, ?_, ?_, ?_, ?_, ?_, ?_, ?_, fun f a b => ?_⟩
      · rw [ou_f (by decide), ou_f (by decide), ou_f (by decide), ou_f (by decide), ou_f (by decide), ou_f (by decide), ou_f (by decide), ou_f (by decide), k0]; exact h0 j a (by omega)
      · rw [ou_f (by decide), ou_f (by decide), ou_f (by decide), ou_f (by decide), ou_f (by decide), ou_f (by decide), ou_f (by decide), ou_f (by decide), k0]; exact h1 j a
      · rw [ou_f (by decide), ou_f (by decide), ou_f (by decide), ou_f (by decide), ou_f (by decide), ou_f (by decide), ou_f (by decide), ou_f (by decide)]; exact k7 j a b (by omega)
      · rw [ou_f (by decide), ou_f (by decide), ou_f (by decide), ou_f (by decide), ou_f (by decide), ou_f (by decide), ou_f (by decide), ou_f (by decide)]; exact k8 j a b (by omega)
      · rw [ou_f (by decide), ou_f (by decide), ou_f (by decide), ou_f (by decide), ou_f (by decide), ou_f (by decide), ou_f (by decide), ou_f (by decide)]; exact k9 j a b (by omega)
      · rw [ou_f (by decide), ou_f (by decide), ou_f (by decide), ou_f (by decide), ou_f (by decide), ou_f (by decide), ou_f (by decide), ou_f (by decide)]; exact k10 j a b (by omega)
      · rw [ou_f (by decide), ou_f (by decide), ou_f (by decide), ou_f (by decide), ou_f (by decide), ou_f (by decide), ou_f (by decide), ou_s, q16]
      · rw [ou_f (by decide), ou_f (by decide), ou_f (by decide), ou_f (by decide), ou_f (by decide), ou_f (by decide), ou_s, q16]
      · rw [ou_f (by decide), ou_f (by decide), ou_f (by decide), ou_f (by decide), ou_f (by decide), ou_s, q16]
      · rw [ou_f (by decide), ou_f (by decide), ou_f (by decide), ou_f (by decide), ou_s, q16]
      · rw [ou_f (by decide), ou_f (by decide), ou_f (by decide), ou_s, q16]
      · rw [ou_f (by decide), ou_f (by decide), ou_s, q17]
      · rw [ou_i (by decide), ou_s]
      · rw [ou_s]
      · rw [ou_ff b, ou_ff b, ou_ff (by omega), ou_ff (by omega), ou_ff (by omega), ou_ff (by omega), ou_ff (by omega), ou_ff (by omega)]
        exact kf f (by omega) (by omega) (by omega) (by omega) (by omega)
    · refine dp_no (by omega) (dp_ck (by omega) (dp_le (dp_ck (by omega) (dp_le (dp_le (dp_ck (by omega) (dp_le (dp_sm ?_))))))))
      simp only [oz_uz, oz_s, ou_f (show (13 : Nat) ≠ 7 by decide), ou_f (show (14 : Nat) ≠ 8 by decide), ou_f (show (14 : Nat) ≠ 7 by decide), ou_f (show (15 : Nat) ≠ 9 by decide), ou_f (show (15 : Nat) ≠ 8 by decide), ou_f (show (15 : Nat) ≠ 7 by decide)]
      have q12 : m2 12 = m 12 := kf 12 (by decide) (by decide) (by decide) (by decide) (by decide)
      have q13 : m2 13 = m 13 := kf 13 (by decide) (by decide) (by decide) (by decide) (by decide)
      have q14 : m2 14 = m 14 := kf 14 (by decide) (by decide) (by decide) (by decide) (by decide)
      have q15 : m2 15 = m 15 := kf 15 (by decide) (by decide) (by decide) (by decide) (by decide)
      rw [q12, q13, q14, q15]
      refine ⟨n2 - 1, by omega, k + 1, _, by omega, rfl, ?_, fun j a b c => ?_, fun j a b c => ?_, fun j a b c => ?_, fun j a b c => ?_, fun f a1 a2 a3 a4 a5 => ?_⟩
      · rw [ou_ff (by decide), ou_ff (by decide), ou_ff (by decide), ou_ff (by decide), k0]
      · rw [ou_f (by decide), ou_f (by decide), ou_f (by decide), ou_a]
        by_cases q : j = (k : Int) % 8
        · rw [if_pos q, q]
        · rw [if_neg q]; exact k7 j a b (by omega)
      · rw [ou_f (by decide), ou_f (by decide), ou_a, ou_f (by decide)]
        by_cases q : j = (k : Int) % 10
        · rw [if_pos q, q]
        · rw [if_neg q]; exact k8 j a b (by omega)
      · rw [ou_f (by decide), ou_a, ou_f (by decide), ou_f (by decide)]
        by_cases q : j = (k : Int) % 8
        · rw [if_pos q, q]
        · rw [if_neg q]; exact k9 j a b (by omega)
      · rw [ou_a, ou_f (by decide), ou_f (by decide), ou_f (by decide)]
        by_cases q : j = (k : Int)
        · rw [if_pos q, q]
        · rw [if_neg q]; exact k10 j a b (by omega)
      · rw [ou_ff a5, ou_ff a4, ou_ff a3, ou_ff a2]; exact kf f a1 a2 a3 a4 a5
  · refine dp_no (by omega) (dp_ck (by omega) (dp_ck (by omega) (dp_le (dp_sm ?_))))
    simp only [oz_uz, oz_s]
    rw [hf 11 (by decide)]
    refine ⟨n - 1, by omega, i + 1, _, by omega, rfl, fun j a b => ?_, fun j a => ?_, fun f a => ?_⟩
    · rw [ou_a]
      by_cases q : j = (i : Int)
      · rw [if_pos q, q]
      · rw [if_neg q]; exact h0 j a (by omega)
    · rw [ou_i (by omega)]; exact h1 j a
    · rw [ou_ff a]; exact hf f a
end ua
