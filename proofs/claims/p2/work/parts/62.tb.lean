/-! the reference's step -/
def so_nm (T : ob_O) (s : Int) : Nat → Int
  | 0 => 0
  | j + 1 => so_nm T s j * 10 + T 0 (s + j) - 48
def so_mk (k : Int) : Int := if k = 1 then 0 else if k = 2 then 1 else if k = 3 then 2 else 3
/-- the tape of both -/
def so_tm (T m : ob_O) : Prop := m 22 0 = T 1 0 ∧ ∀ i : Int, 0 ≤ i → i < T 1 0 → m 21 i = T 0 i % 256
/-- the reference has looked at the token behind a -/
def so_ah (T m : ob_O) (a s e k : Int) : Prop := so_tk T a s e k ∧ m 27 0 = s ∧ (s ≤ m 26 0 ∧ m 26 0 ≤ T 1 0) ∧ ((so_ok k s e ∧ m 24 0 = 0 ∧ m 26 0 = e ∧ m 28 0 = so_mk k ∧ (k = 3 → m 29 0 = so_nm T s (e - s).toNat)) ∨ (¬ so_ok k s e ∧ m 24 0 = 1 ∧ m 25 0 = s ∧ (m 28 0 = 2 ∨ m 28 0 = 3)))
section tb
variable {Z Y : dz_Z} {R P S T m m' : ob_O} {a b e k i v st : Int}
theorem nm_b (h : ∀ i : Int, 0 ≤ i → i < 3 → 48 ≤ T 0 (st + i) ∧ T 0 (st + i) ≤ 57) : 0 ≤ so_nm T st 3 ∧ so_nm T st 3 ≤ 999 := by
  have h0 := h 0 (by omega) (by omega)
  have h1 := h 1 (by omega) (by omega)
  have h2 := h 2 (by omega) (by omega)
  show 0 ≤ ((0 * 10 + T 0 (st + (0 : Nat)) - 48) * 10 + T 0 (st + (1 : Nat)) - 48) * 10 + T 0 (st + (2 : Nat)) - 48 ∧ ((0 * 10 + T 0 (st + (0 : Nat)) - 48) * 10 + T 0 (st + (1 : Nat)) - 48) * 10 + T 0 (st + (2 : Nat)) - 48 ≤ 999
  rw [show st + ((0 : Nat) : Int) = st + 0 by rfl, show st + ((1 : Nat) : Int) = st + 1 by rfl, show st + ((2 : Nat) : Int) = st + 2 by rfl]
  omega
theorem nm_b' : ∀ n : Nat, n ≤ 3 → (∀ i : Int, 0 ≤ i → i < n → 48 ≤ T 0 (st + i) ∧ T 0 (st + i) ≤ 57) → 0 ≤ so_nm T st n ∧ so_nm T st n ≤ 999 ∧ (n ≤ 2 → so_nm T st n ≤ 99) ∧ (n ≤ 1 → so_nm T st n ≤ 9) ∧ (n = 0 → so_nm T st n = 0)
  | 0, _, _ => by show (0 : Int) ≤ 0 ∧ (0 : Int) ≤ 999 ∧ _ ∧ _ ∧ _; exact ⟨by omega, by omega, fun _ => by show (0 : Int) ≤ 99; omega, fun _ => by show (0 : Int) ≤ 9; omega, fun _ => rfl⟩
  | n + 1, hn, h => by
    have ih := nm_b' n (by omega) (fun i a b => h i a (by omega))
    have hd := h n (by omega) (by omega)
    have key : so_nm T st (n + 1) = so_nm T st n * 10 + T 0 (st + n) - 48 := rfl
    rw [key]
    obtain ⟨i1, i2, i3, i4, i5⟩ := ih
    have : n = 0 ∨ n = 1 ∨ n = 2 := by omega
    rcases this with q | q | q
    · have := i5 q; exact ⟨by omega, by omega, fun _ => by omega, fun _ => by omega, fun _ => by omega⟩
    · have := i4 (by omega); exact ⟨by omega, by omega, fun _ => by omega, fun _ => by omega, fun _ => by omega⟩
    · have := i3 (by omega); exact ⟨by omega, by omega, fun _ => by omega, fun _ => by omega, fun _ => by omega⟩
theorem kd_2 {k : Int} (h : so_kd T i = k) (hk : k = 2 ∨ k = 3) : i < T 1 0 ∧ (k = 2 → 97 ≤ T 0 i ∧ T 0 i ≤ 122) ∧ (k = 3 → 48 ≤ T 0 i ∧ T 0 i ≤ 57) := by
  unfold so_kd at h
  by_cases c : i < T 1 0
  · rw [if_pos c] at h
    by_cases c1 : 97 ≤ T 0 i ∧ T 0 i ≤ 122
    · rw [if_pos c1] at h
      exact ⟨c, fun _ => c1, fun q => by omega⟩
    · rw [if_neg c1] at h
      by_cases c2 : 48 ≤ T 0 i ∧ T 0 i ≤ 57
      · rw [if_pos c2] at h
        exact ⟨c, fun q => by omega, fun _ => c2⟩
      · rw [if_neg c2] at h
        split at h <;> omega
  · rw [if_neg c] at h; omega
theorem bt_eq (hT : so_tp T) (hm : so_tm T m) (hi : 0 ≤ i ∧ i ≤ 1000) : jf_M_byteAt i (ob_z Y 114 m) = some (if i < T 1 0 then T 0 i % 256 else -4) := by
  have hL := hT.1
  have e1 : dz_c i = i := dc_ir (by omega) (by omega)
  have e2 : dz_c (T 1 0) = T 1 0 := dc_ir (by omega) (by omega)
  unfold jf_M_byteAt
  rw [oz_s, hm.1, e1, e2]
  by_cases h : i < T 1 0
  · rw [if_neg (by omega), if_pos h, if_pos (by omega), hm.2 i hi.1 h]
  · rw [if_pos (by omega), if_neg h]
theorem ou_2 {f f' : Nat} {a b c d : Int} (h : f ≠ f') : ob_u (ob_u (ob_u (ob_u m f 0 a) f' 0 b) f 0 c) f' 0 d = ob_u (ob_u m f 0 c) f' 0 d := by
  funext g i
  unfold ob_u
  by_cases h1 : g = f' ∧ i = 0
  · simp only [if_pos h1]
  · by_cases h2 : g = f ∧ i = 0
    · simp only [if_neg h1, if_pos h2]
    · simp only [if_neg h1, if_neg h2]
theorem tm_u {f : Nat} {j v : Int} (h : so_tm T m) (h1 : f ≠ 21) (h2 : f ≠ 22) : so_tm T (ob_u m f j v) := by
  unfold so_tm
  rw [ou_ff (Ne.symm h1), ou_ff (Ne.symm h2)]
  exact h
theorem tm_m (h : so_tm T m) (h1 : m' 21 = m 21) (h2 : m' 22 = m 22) : so_tm T m' := by
  unfold so_tm
  rw [h1, h2]
  exact h
theorem st_eq (hT : so_tp T) (hm : so_tm T m) (h24 : m 24 0 = 0) (h26 : m 26 0 = a) (ht : so_tk T a st e k) : ∃ m' : ob_O, (∀ Y, jf_M_step (ob_z Y 114 m) = some (ob_z Y 114 m')) ∧ so_ah T m' a st e k ∧ ∀ f : Nat, (f < 24 ∨ 29 < f) → m' f = m f := by
  have ht' := ht
  obtain ⟨⟨t1, t2, t3, t4⟩, t5, t6, t7, t8, t9, t10⟩ := ht
  have hL := hT.1
  have kb := kd_b (T := T) (i := st)
  have bst : st < T 1 0 → -128 ≤ T 0 st ∧ T 0 st ≤ 127 := fun q => hT.2 st (by omega) q
  have base27 : ∀ x y z : Int, ob_u (ob_u (ob_u m 26 0 x) 27 0 y) 29 0 z 26 0 = x := fun x y z => by rw [ou_f (by decide), ou_f (by decide), ou_s]
  have go : ∀ (M : ob_O), (∀ (Y : dz_Z), dz_p ((fun (Z7 : dz_Z) (q6 : Int) => if dz_c q6 ≠ (-4) then (if ¬(97 ≤ dz_c q6 ∧ dz_c q6 ≤ 122) then (if ¬(48 ≤ dz_c q6 ∧ dz_c q6 ≤ 57) then (dz_a (dz_u Z7 114 28 0 3) fun Z11 => dz_a (dz_u Z11 114 26 0 ((Z11 114 26 0) + 1)) fun Z12 => if dz_c q6 = 59 then (some (Sum.inr Z12)) else (Option.bind (jf_M_fails 1 Z12) fun q14 => some (Sum.inr q14))) else (dz_lp (fun (s15 : dz_Z) => Option.bind (jf_M_byteAt (s15 114 26 0) s15) fun q16 => if ¬(48 ≤ dz_c q16 ∧ dz_c q16 ≤ 57) then (dz_a (dz_u s15 114 28 0 2) fun Z18 => if dz_c ((Z18 114 26 0) - (Z18 114 27 0)) ≤ 3 then (some (Sum.inr (Sum.inr Z18))) else (Option.bind (jf_M_fails 1 Z18) fun q20 => some (Sum.inr (Sum.inr q20)))) else (Option.bind (α := Int) (if 3 ≤ dz_c ((s15 114 26 0) - (s15 114 27 0)) then (some (s15 114 29 0)) else (Option.bind (jf_M_byteAt (s15 114 26 0) s15) fun q27 => some (((10 * (s15 114 29 0)) + q27) - 48))) (fun (q23 : Int) => dz_a (dz_u s15 114 29 0 q23) fun Z24 => dz_a (dz_u Z24 114 26 0 ((Z24 114 26 0) + 1)) fun Z25 => some (Sum.inl Z25)))) 5000 Z7)) else (dz_lp (fun (s28 : dz_Z) => Option.bind (jf_M_byteAt (s28 114 26 0) s28) fun q29 => if ¬(97 ≤ dz_c q29 ∧ dz_c q29 ≤ 122) then (dz_a (dz_u s28 114 28 0 1) fun Z31 => some (Sum.inr (Sum.inr Z31))) else (dz_a (dz_u s28 114 26 0 ((s28 114 26 0) + 1)) fun Z32 => some (Sum.inl Z32))) 5000 Z7)) else (dz_a (dz_u Z7 114 28 0 0) fun Z33 => some (Sum.inr Z33)) : dz_Z → Int → Option (dz_Z ⊕ dz_Z)) (ob_z Y 114 (ob_u (ob_u (ob_u m 26 0 st) 27 0 st) 29 0 0)) (if st < T 1 0 then T 0 st % 256 else -4)) (Sum.elim (fun _ => False) (fun q => q = ob_z Y 114 M))) → ∀ Y, jf_M_step (ob_z Y 114 m) = some (ob_z Y 114 M) := by
    intro M hM Y
    apply dp_is
    unfold jf_M_step
    rw [oz_s, h24]
    refine dp_ck (by decide) ?_
    refine dp_lp (fun n q => ∃ x : Int, a ≤ x ∧ x + n = st ∧ q = ob_z Y 114 (ob_u m 26 0 x)) ?_ 5000 (st - a).toNat _ (by omega) ⟨a, by omega, by omega, by rw [← h26, ou_m]⟩
    rintro n _ ⟨x, hx, hxn, rfl⟩
    have htx : so_tm T (ob_u m 26 0 x) := tm_u hm (by decide) (by decide)
    simp only [oz_s, ou_s]
    refine dp_bi (dp_eq (bt_eq hT htx (by omega)) ?_)
    by_cases hn : x = st
    · subst hn
      have c : ¬ dz_c (if x < T 1 0 then T 0 x % 256 else -4) = 32 := by
        by_cases q : x < T 1 0
        · rw [if_pos q, dc_ir (by omega) (by omega)]
          have := t6 q
          have := bst q
          omega
        · rw [if_neg q]; decide
      refine dp_ck c (dp_le ?_)
      simp only [oz_uz, oz_s, ou_f (show (26 : Nat) ≠ 27 by decide), ou_s]
      refine dp_bi (dp_eq (bt_eq hT (tm_u htx (by decide) (by decide)) (by omega)) (dp_le ?_))
      obtain ⟨q, e1, e2⟩ := hM Y
      refine ⟨q, ?_, ?_⟩
      · rw [← e1]
      · cases q with
        | inl _ => exact absurd e2 id
        | inr r => exact e2
    · have q := t5 x hx (by omega)
      rw [if_pos (show x < T 1 0 by omega), q]
      refine dp_no (by decide) (dp_le (dp_sm ⟨n - 1, by omega, x + 1, by omega, by omega, ?_⟩))
      rw [oz_uz, ou_u]
  generalize hb : ob_u (ob_u (ob_u m 26 0 st) 27 0 st) 29 0 0 = B at go
  have b24 : B 24 0 = 0 := by rw [← hb, ou_f (by decide), ou_f (by decide), ou_f (by decide), h24]
  have b26 : B 26 0 = st := by rw [← hb, ou_f (by decide), ou_f (by decide), ou_s]
  have b27 : B 27 0 = st := by rw [← hb, ou_f (by decide), ou_s]
  have b29 : B 29 0 = 0 := by rw [← hb, ou_s]
  have bf : ∀ f : Nat, (f < 24 ∨ 29 < f) → B f = m f := fun f q => by rw [← hb, ou_ff (by omega), ou_ff (by omega), ou_ff (by omega)]
  have btm : so_tm T B := tm_m hm (bf 21 (by decide)) (bf 22 (by decide))
  rcases (show ¬ st < T 1 0 ∨ st < T 1 0 by omega) with c1 | c1
  · -- the end
    have hk : k = 1 := by rw [t7]; unfold so_kd; rw [if_neg c1]
    have he := t10 (Or.inr hk)
    refine ⟨ob_u B 28 0 0, go _ (fun Y => ?_), ⟨ht', ?_, ?_, Or.inl ⟨⟨by omega, by omega⟩, ?_, ?_, ?_, fun q => by omega⟩⟩, fun f q => ?_⟩
    · dsimp only
      rw [if_neg c1]
      exact dp_no (by decide) (dp_le (dp_sm (show dz_u (ob_z Y 114 B) 114 28 0 0 = ob_z Y 114 (ob_u B 28 0 0) from oz_uz)))
    · rw [ou_f (by decide), b27]
    · rw [ou_f (by decide), b26]; omega
    · rw [ou_f (by decide), b24]
    · rw [ou_f (by decide), b26, he]
    · rw [ou_s, hk]; rfl
    · rw [ou_ff (by omega), bf f q]
  have hby := bst c1
  have hcu : dz_c (T 0 st % 256) = T 0 st % 256 := dc_ir (by omega) (by omega)
  have kst : k = if 97 ≤ T 0 st ∧ T 0 st ≤ 122 then 2 else if 48 ≤ T 0 st ∧ T 0 st ≤ 57 then 3 else if T 0 st = 59 then 4 else 0 := by rw [t7]; unfold so_kd; rw [if_pos c1]
  by_cases c2 : 97 ≤ T 0 st ∧ T 0 st ≤ 122
  · -- a name
    rw [if_pos c2] at kst
    obtain ⟨u1, u2, u3⟩ := t8 (Or.inl kst)
    refine ⟨ob_u (ob_u B 26 0 e) 28 0 1, go _ (fun Y => ?_), ⟨ht', ?_, ?_, Or.inl ⟨⟨by omega, by omega⟩, ?_, ?_, ?_, fun q => by omega⟩⟩, fun f q => ?_⟩
    · dsimp only
      rw [if_pos c1, hcu]
      refine dp_ck (by omega) (dp_no (by omega) ?_)
      refine dp_lp (fun n q => ∃ x : Int, st ≤ x ∧ x + n = e ∧ q = ob_z Y 114 (ob_u B 26 0 x)) ?_ 5000 (e - st).toNat _ (by omega) ⟨st, by omega, by omega, by rw [← b26, ou_m]⟩
      rintro n _ ⟨x, hx, hxn, rfl⟩
      simp only [oz_s, ou_s]
      refine dp_bi (dp_eq (bt_eq hT (tm_u btm (by decide) (by decide)) (by omega)) ?_)
      by_cases hxe : x = e
      · have c : ¬(97 ≤ dz_c (if x < T 1 0 then T 0 x % 256 else -4) ∧ dz_c (if x < T 1 0 then T 0 x % 256 else -4) ≤ 122) := by
          by_cases q : x < T 1 0
          · have := hT.2 x (by omega) q
            rw [if_pos q, dc_ir (by omega) (by omega)]
            have := u3 (by omega)
            rw [← hxe] at this
            unfold so_kd at this
            rw [if_pos q] at this
            intro h'
            rw [if_pos (by omega)] at this
            omega
          · rw [if_neg q]; decide
        refine dp_ck c (dp_le (dp_sm ?_))
        rw [oz_uz, hxe]
        rfl
      · have q := u2 x hx (by omega)
        have q2 := kd_2 q (Or.inl kst)
        have q3 := q2.2.1 kst
        rw [if_pos q2.1, dc_ir (by omega) (by omega)]
        refine dp_no (by omega) (dp_le (dp_sm ⟨n - 1, by omega, x + 1, by omega, by omega, ?_⟩))
        rw [oz_uz, ou_u]
    · rw [ou_f (by decide), ou_f (by decide), b27]
    · rw [ou_f (by decide), ou_s]; omega
    · rw [ou_f (by decide), ou_f (by decide), b24]
    · rw [ou_f (by decide), ou_s]
    · rw [ou_s, kst]; rfl
    · rw [ou_ff (by omega), ou_ff (by omega), bf f q]
  rw [if_neg c2] at kst
  by_cases c3 : 48 ≤ T 0 st ∧ T 0 st ≤ 57
  · -- a number
    rw [if_pos c3] at kst
    obtain ⟨u1, u2, u3⟩ := t8 (Or.inr kst)
    have dig : ∀ x : Int, st ≤ x → x < e → 48 ≤ T 0 x ∧ T 0 x ≤ 57 := fun x q1 q2 => (kd_2 (u2 x q1 q2) (Or.inr kst)).2.2 kst
    have run : ∀ (Y : dz_Z) (M : ob_O), (∀ Q : dz_Z ⊕ (dz_Z ⊕ dz_Z) → Prop, Q (Sum.inr (Sum.inr (ob_z Y 114 M))) → dz_p (if e - st ≤ 3 then (some (Sum.inr (Sum.inr (ob_z Y 114 (ob_u (ob_u (ob_u B 29 0 (so_nm T st (if e - st ≤ 3 then (e - st).toNat else 3))) 26 0 e) 28 0 2))))) else (Option.bind (jf_M_fails 1 (ob_z Y 114 (ob_u (ob_u (ob_u B 29 0 (so_nm T st (if e - st ≤ 3 then (e - st).toNat else 3))) 26 0 e) 28 0 2))) fun q20 => some (Sum.inr (Sum.inr q20)))) Q) → dz_p (dz_lp (fun (s15 : dz_Z) => Option.bind (jf_M_byteAt (s15 114 26 0) s15) fun q16 => if ¬(48 ≤ dz_c q16 ∧ dz_c q16 ≤ 57) then (dz_a (dz_u s15 114 28 0 2) fun Z18 => if dz_c ((Z18 114 26 0) - (Z18 114 27 0)) ≤ 3 then (some (Sum.inr (Sum.inr Z18))) else (Option.bind (jf_M_fails 1 Z18) fun q20 => some (Sum.inr (Sum.inr q20)))) else (Option.bind (α := Int) (if 3 ≤ dz_c ((s15 114 26 0) - (s15 114 27 0)) then (some (s15 114 29 0)) else (Option.bind (jf_M_byteAt (s15 114 26 0) s15) fun q27 => some (((10 * (s15 114 29 0)) + q27) - 48))) (fun (q23 : Int) => dz_a (dz_u s15 114 29 0 q23) fun Z24 => dz_a (dz_u Z24 114 26 0 ((Z24 114 26 0) + 1)) fun Z25 => some (Sum.inl Z25)))) 5000 (ob_z Y 114 B)) (Sum.elim (fun _ : dz_Z => False) (fun q : dz_Z => q = ob_z Y 114 M)) := by
      intro Y M hM
      refine dp_lp (fun n q => ∃ x : Int, st ≤ x ∧ x + n = e ∧ q = ob_z Y 114 (ob_u (ob_u B 29 0 (so_nm T st (if x - st ≤ 3 then (x - st).toNat else 3))) 26 0 x)) ?_ 5000 (e - st).toNat _ (by omega) ⟨st, by omega, by omega, ?_⟩
      · rintro n _ ⟨x, hx, hxn, rfl⟩
        have efx : dz_c (x - st) = x - st := dc_ir (by omega) (by omega)
        simp only [oz_s, ou_s, oz_uz, ou_f (show (27 : Nat) ≠ 28 by decide), ou_f (show (26 : Nat) ≠ 28 by decide), ou_f (show (27 : Nat) ≠ 26 by decide), ou_f (show (27 : Nat) ≠ 29 by decide), ou_f (show (29 : Nat) ≠ 26 by decide), ou_f (show (26 : Nat) ≠ 29 by decide), b27, efx]
        have htx : so_tm T (ob_u (ob_u B 29 0 (so_nm T st (if x - st ≤ 3 then (x - st).toNat else 3))) 26 0 x) := tm_u (tm_u btm (by decide) (by decide)) (by decide) (by decide)
        refine dp_bi (dp_eq (bt_eq hT htx (by omega)) ?_)
        by_cases hxe : x = e
        · have c : ¬(48 ≤ dz_c (if x < T 1 0 then T 0 x % 256 else -4) ∧ dz_c (if x < T 1 0 then T 0 x % 256 else -4) ≤ 57) := by
            by_cases q : x < T 1 0
            · have := hT.2 x (by omega) q
              rw [if_pos q, dc_ir (by omega) (by omega)]
              have := u3 (by omega)
              rw [← hxe] at this
              unfold so_kd at this
              rw [if_pos q] at this
              intro h'
              rw [if_neg (by omega), if_pos (by omega)] at this
              omega
            · rw [if_neg q]; decide
          refine dp_ck c (dp_le ?_)
          rw [hxe] at efx ⊢
          simp only [oz_s, ou_s, ou_f (show (27 : Nat) ≠ 28 by decide), ou_f (show (26 : Nat) ≠ 28 by decide), ou_f (show (27 : Nat) ≠ 26 by decide), ou_f (show (27 : Nat) ≠ 29 by decide), b27, efx]
          exact hM _ rfl
        · have q3 := dig x hx (by omega)
          rw [if_pos (show x < T 1 0 by omega), dc_ir (by omega) (by omega)]
          refine dp_no (by omega) (dp_bi ?_)
          have key : so_nm T st (if x + 1 - st ≤ 3 then (x + 1 - st).toNat else 3) = if 3 ≤ x - st then so_nm T st (if x - st ≤ 3 then (x - st).toNat else 3) else 10 * so_nm T st (if x - st ≤ 3 then (x - st).toNat else 3) + T 0 x % 256 - 48 := by
            by_cases c : 3 ≤ x - st
            · rw [if_pos c, if_neg (by omega)]
              by_cases c' : x - st ≤ 3
              · rw [if_pos c', show (x - st).toNat = 3 by omega]
              · rw [if_neg c']
            · rw [if_neg c, if_pos (by omega), if_pos (by omega), show (x + 1 - st).toNat = (x - st).toNat + 1 by omega]
              show so_nm T st (x - st).toNat * 10 + T 0 (st + ((x - st).toNat : Nat)) - 48 = _
              rw [show st + (((x - st).toNat : Nat) : Int) = x by omega]
              omega
          refine dp_br (fun c => dp_sm (dp_le (dp_le (dp_sm ⟨n - 1, by omega, x + 1, by omega, by omega, ?_⟩)))) (fun c => dp_bi (dp_eq (bt_eq hT htx (by omega)) (dp_sm (dp_le (dp_le (dp_sm ⟨n - 1, by omega, x + 1, by omega, by omega, ?_⟩))))))
          · rw [oz_s, oz_uz, ou_f (show (26 : Nat) ≠ 29 by decide), ou_s, ou_2 (show (29 : Nat) ≠ 26 by decide), key, if_pos c]
          · rw [oz_s, oz_uz, ou_f (show (26 : Nat) ≠ 29 by decide), ou_s, ou_2 (show (29 : Nat) ≠ 26 by decide), key, if_neg c, if_pos (show x < T 1 0 by omega)]
      · have : so_nm T st (if st - st ≤ 3 then (st - st).toNat else 3) = B 29 0 := by
          rw [if_pos (by omega), show (st - st).toNat = 0 by omega, b29]
          rfl
        have e2 : ob_u (ob_u B 29 0 (so_nm T st (if st - st ≤ 3 then (st - st).toNat else 3))) 26 0 st = B := by
          rw [this, ou_m, ← b26, ou_m]
        rw [e2]
    by_cases c4 : e - st ≤ 3
    · refine ⟨ob_u (ob_u (ob_u B 29 0 (so_nm T st (e - st).toNat)) 26 0 e) 28 0 2, go _ (fun Y => ?_), ⟨ht', ?_, ?_, Or.inl ⟨⟨by omega, by omega⟩, ?_, ?_, ?_, fun _ => ?_⟩⟩, fun f q => ?_⟩
      · dsimp only
        rw [if_pos c1, hcu]
        refine dp_ck (by omega) (dp_ck (by omega) (dp_no (by omega) (run Y _ (fun Q hQ => dp_ck c4 (dp_sm ?_)))))
        rw [if_pos c4]
        exact hQ
      · rw [ou_f (by decide), ou_f (by decide), ou_f (by decide), b27]
      · rw [ou_f (by decide), ou_s]; omega
      · rw [ou_f (by decide), ou_f (by decide), ou_f (by decide), b24]
      · rw [ou_f (by decide), ou_s]
      · rw [ou_s, kst]; rfl
      · rw [ou_f (by decide), ou_f (by decide), ou_s]
      · rw [ou_ff (by omega), ou_ff (by omega), ou_ff (by omega), bf f q]
    · refine ⟨ob_u (ob_u (ob_u (ob_u (ob_u B 29 0 (so_nm T st 3)) 26 0 e) 28 0 2) 24 0 1) 25 0 st, go _ (fun Y => ?_), ⟨ht', ?_, ?_, Or.inr ⟨fun q => q.2 (by omega), ?_, ?_, Or.inl ?_⟩⟩, fun f q => ?_⟩
      · dsimp only
        rw [if_pos c1, hcu]
        refine dp_ck (by omega) (dp_ck (by omega) (dp_no (by omega) (run Y _ (fun Q hQ => dp_no c4 (dp_bi ?_)))))
        rw [if_neg c4]
        unfold jf_M_fails
        have q24 : ob_u (ob_u (ob_u B 29 0 (so_nm T st 3)) 26 0 e) 28 0 2 24 0 = 0 := by rw [ou_f (by decide), ou_f (by decide), ou_f (by decide), b24]
        have q27 : ob_u (ob_u (ob_u B 29 0 (so_nm T st 3)) 26 0 e) 28 0 2 27 0 = st := by rw [ou_f (by decide), ou_f (by decide), ou_f (by decide), b27]
        simp only [oz_s, oz_uz, q24, ou_f (show (27 : Nat) ≠ 24 by decide), q27]
        refine dp_no (by decide) (dp_le (dp_le (dp_sm (dp_sm ?_))))
        rw [oz_uz, oz_s, ou_f (show (27 : Nat) ≠ 24 by decide), q27]
        exact hQ
      · rw [ou_f (by decide), ou_f (by decide), ou_f (by decide), ou_f (by decide), ou_f (by decide), b27]
      · rw [ou_f (by decide), ou_f (by decide), ou_f (by decide), ou_s]; omega
      · rw [ou_f (by decide), ou_s]
      · rw [ou_s]
      · rw [ou_f (by decide), ou_f (by decide), ou_s]
      · rw [ou_ff (by omega), ou_ff (by omega), ou_ff (by omega), ou_ff (by omega), ou_ff (by omega), bf f q]
  rw [if_neg c3] at kst
  by_cases c4 : T 0 st = 59
  · rw [if_pos c4] at kst
    have he := t9 kst
    refine ⟨ob_u (ob_u B 28 0 3) 26 0 e, go _ (fun Y => ?_), ⟨ht', ?_, ?_, Or.inl ⟨⟨by omega, by omega⟩, ?_, ?_, ?_, fun q => by omega⟩⟩, fun f q => ?_⟩
    · dsimp only
      rw [if_pos c1, hcu]
      refine dp_ck (by omega) (dp_ck (by omega) (dp_ck (by omega) (dp_le (dp_le (dp_ck (by omega) (dp_sm ?_))))))
      rw [oz_uz, oz_s, oz_uz, ou_f (show (26 : Nat) ≠ 28 by decide), b26, he]
      rfl
    · rw [ou_f (by decide), ou_f (by decide), b27]
    · rw [ou_s]; omega
    · rw [ou_f (by decide), ou_f (by decide), b24]
    · rw [ou_s]
    · rw [ou_f (by decide), ou_s, kst]; rfl
    · rw [ou_ff (by omega), ou_ff (by omega), bf f q]
  · rw [if_neg c4] at kst
    have he := t10 (Or.inl kst)
    refine ⟨ob_u (ob_u (ob_u (ob_u B 28 0 3) 26 0 (st + 1)) 24 0 1) 25 0 st, go _ (fun Y => ?_), ⟨ht', ?_, ?_, Or.inr ⟨fun q => q.1 kst, ?_, ?_, Or.inr ?_⟩⟩, fun f q => ?_⟩
    · dsimp only
      rw [if_pos c1, hcu]
      refine dp_ck (by omega) (dp_ck (by omega) (dp_ck (by omega) (dp_le (dp_le (dp_no (by omega) (dp_bi ?_))))))
      unfold jf_M_fails
      have q24 : ob_u (ob_u B 28 0 3) 26 0 (st + 1) 24 0 = 0 := by rw [ou_f (by decide), ou_f (by decide), b24]
      have q27 : ob_u (ob_u B 28 0 3) 26 0 (st + 1) 27 0 = st := by rw [ou_f (by decide), ou_f (by decide), b27]
      simp only [oz_s, oz_uz, ou_f (show (26 : Nat) ≠ 28 by decide), b26, q24, ou_f (show (27 : Nat) ≠ 24 by decide), q27]
      refine dp_no (by decide) (dp_le (dp_le (dp_sm (dp_sm ?_))))
      show dz_u _ 114 25 0 _ = _
      rw [oz_uz, oz_s, ou_f (show (27 : Nat) ≠ 24 by decide), q27]
    · rw [ou_f (by decide), ou_f (by decide), ou_f (by decide), ou_f (by decide), b27]
    · rw [ou_f (by decide), ou_f (by decide), ou_s]; omega
    · rw [ou_f (by decide), ou_s]
    · rw [ou_s]
    · rw [ou_f (by decide), ou_f (by decide), ou_f (by decide), ou_s]
    · rw [ou_ff (by omega), ou_ff (by omega), ou_ff (by omega), ou_ff (by omega), bf f q]
end tb
