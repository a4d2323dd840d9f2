section mg_61ta
/-! tokens -/
def so_kd (T : ob_O) (i : Int) : Int := if i < T 1 0 then (if 97 ≤ T 0 i ∧ T 0 i ≤ 122 then 2 else if 48 ≤ T 0 i ∧ T 0 i ≤ 57 then 3 else if T 0 i = 59 then 4 else 0) else 1
def so_tk (T : ob_O) (a s e k : Int) : Prop := (0 ≤ a ∧ a ≤ s ∧ s ≤ e ∧ e ≤ T 1 0) ∧ (∀ i : Int, a ≤ i → i < s → T 0 i = 32) ∧ (s < T 1 0 → T 0 s ≠ 32) ∧ k = so_kd T s ∧ ((k = 2 ∨ k = 3) → s < e ∧ (∀ i : Int, s ≤ i → i < e → so_kd T i = k) ∧ (e < T 1 0 → so_kd T e ≠ k)) ∧ (k = 4 → e = s + 1) ∧ ((k = 0 ∨ k = 1) → e = s)
def so_ok (k s e : Int) : Prop := k ≠ 0 ∧ ¬(k = 3 ∧ 3 < e - s)
/-- the tape -/
def so_tp (T : ob_O) : Prop := (0 ≤ T 1 0 ∧ T 1 0 ≤ 320) ∧ ∀ i : Int, 0 ≤ i → i < T 1 0 → -128 ≤ T 0 i ∧ T 0 i ≤ 127
/-- the class while it reads: reader, plan, setup -/
def rk (Z : dz_Z) (p s : Nat) (R P S : ob_O) : dz_Z := fun b => if b = 1 then R else if b = p then P else if b = s then S else Z b
section ta
variable {Z : dz_Z} {p s : Nat} {R P S T : ob_O} {a b e k i v st : Int}
theorem kd_b : 0 ≤ so_kd T i ∧ so_kd T i ≤ 4 := by
  unfold so_kd
  repeat' split
  all_goals omega
theorem run_e (g : Int → Prop) [DecidablePred g] {a L : Int} (h : a ≤ L) : ∃ x : Int, a ≤ x ∧ x ≤ L ∧ (∀ i : Int, a ≤ i → i < x → g i) ∧ (x < L → ¬ g x) := by
  obtain ⟨t, h1, h2, h3⟩ := rd_t (fun j : Nat => g (a + j)) (L - a).toNat
  refine ⟨a + t, by omega, by omega, fun i x y => ?_, fun x => ?_⟩
  · have := h2 (i - a).toNat (by omega)
    rw [show a + ((i - a).toNat : Int) = i by omega] at this
    exact this
  · rcases h3 with q | q
    · omega
    · exact q
theorem tk_ex (hT : so_tp T) (h : 0 ≤ a ∧ a ≤ T 1 0) : ∃ s e k : Int, so_tk T a s e k := by
  obtain ⟨s, s1, s2, s3, s4⟩ := run_e (fun i => T 0 i = 32) h.2
  by_cases c : so_kd T s = 2 ∨ so_kd T s = 3
  · obtain ⟨e, e1, e2, e3, e4⟩ := run_e (fun i => so_kd T i = so_kd T s) s2
    have hs : s < T 1 0 := by
      by_cases q : s < T 1 0
      · exact q
      · unfold so_kd at c; rw [if_neg q] at c; omega
    refine ⟨s, e, so_kd T s, ⟨by omega, s1, e1, e2⟩, s3, s4, rfl, fun _ => ⟨?_, e3, e4⟩, fun q => by omega, fun q => by omega⟩
    by_cases q : s < e
    · exact q
    · have : e = s := by omega
      rw [this] at e4
      exact absurd rfl (e4 hs)
  · by_cases d : so_kd T s = 4
    · have hs : s < T 1 0 := by
        by_cases q : s < T 1 0
        · exact q
        · unfold so_kd at d; rw [if_neg q] at d; omega
      exact ⟨s, s + 1, so_kd T s, ⟨by omega, s1, by omega, by omega⟩, s3, s4, rfl, fun q => absurd q c, fun _ => rfl, fun q => by omega⟩
    · exact ⟨s, s, so_kd T s, ⟨by omega, s1, by omega, by omega⟩, s3, s4, rfl, fun q => absurd q c, fun q => absurd q d, fun _ => rfl⟩
theorem rk_1 : rk Z p s R P S 1 = R := by unfold rk; rw [if_pos rfl]
theorem rk_p (hp : p = 25 ∨ p = 4) : rk Z p s R P S p = P := by unfold rk; rw [if_neg (by omega), if_pos rfl]
theorem rk_s (hp : p = 25 ∨ p = 4) (hs : s = 36 ∨ s = 15) : rk Z p s R P S s = S := by unfold rk; rw [if_neg (by omega), if_neg (by omega), if_pos rfl]
theorem rk_n {b : Nat} (h1 : b ≠ 1) (h2 : b ≠ p) (h3 : b ≠ s) : rk Z p s R P S b = Z b := by unfold rk; rw [if_neg h1, if_neg h2, if_neg h3]
theorem rk_2 (hp : p = 25 ∨ p = 4) (hs : s = 36 ∨ s = 15) : rk Z p s R P S 2 = Z 2 := rk_n (by decide) (by omega) (by omega)
theorem rk_u1 {f : Nat} : dz_u (rk Z p s R P S) 1 f i v = rk Z p s (ob_u R f i v) P S := by
  rw [oz_u, rk_1]
  funext b
  unfold ob_z rk
  split
  · rfl
  · rfl
theorem rk_up (hp : p = 25 ∨ p = 4) {f : Nat} : dz_u (rk Z p s R P S) p f i v = rk Z p s R (ob_u P f i v) S := by
  rw [oz_u, rk_p hp]
  funext b
  unfold ob_z rk
  by_cases h : b = p
  · rw [if_pos h, if_neg (by omega), if_pos h]
  · rw [if_neg h, if_neg h, if_neg h]
theorem rk_us (hp : p = 25 ∨ p = 4) (hs : s = 36 ∨ s = 15) {f : Nat} : dz_u (rk Z p s R P S) s f i v = rk Z p s R P (ob_u S f i v) := by
  rw [oz_u, rk_s hp hs]
  funext b
  unfold ob_z rk
  by_cases h : b = s
  · rw [if_pos h, if_neg (by omega), if_neg (by omega), if_pos h]
  · rw [if_neg h, if_neg h, if_neg h]
theorem kd_cls (hT : so_tp T) (hZ : Z 2 = T) (hi : 0 ≤ i ∧ i ≤ 320) : jf_R_kindAt i Z = some (so_kd T i) := by
  have hL := hT.1
  have e1 : dz_c i = i := dc_ir (by omega) (by omega)
  have e2 : dz_c (T 1 0) = T 1 0 := dc_ir (by omega) (by omega)
  unfold jf_R_kindAt so_kd
  rw [hZ, e1, e2]
  by_cases h : i < T 1 0
  · have hb := hT.2 i hi.1 h
    have e3 : dz_c (T 0 i) = T 0 i := dz_ci (by omega) (by omega)
    rw [if_pos h, if_pos h, if_pos (by omega), e3]
    generalize T 0 i = x at *
    by_cases c1 : x < 97
    · rw [if_pos c1, if_neg (show ¬(97 ≤ x ∧ x ≤ 122) by omega)]
      by_cases c2 : x < 48
      · rw [if_pos c2, if_neg (show ¬(48 ≤ x ∧ x ≤ 57) by omega)]
        by_cases c3 : x = 59
        · omega
        · rw [if_pos c3, if_neg c3]
      · rw [if_neg c2]
        by_cases c3 : 57 < x
        · rw [if_pos c3, if_neg (show ¬(48 ≤ x ∧ x ≤ 57) by omega)]
          by_cases c4 : x = 59
          · rw [if_neg (by omega), if_pos c4]
          · rw [if_pos c4, if_neg c4]
        · rw [if_neg c3, if_pos (show 48 ≤ x ∧ x ≤ 57 by omega)]
    · rw [if_neg c1]
      by_cases c2 : 122 < x
      · rw [if_pos c2, if_neg (show ¬ x < 48 by omega), if_pos (show 57 < x by omega), if_pos (show x ≠ 59 by omega), if_neg (show ¬(97 ≤ x ∧ x ≤ 122) by omega), if_neg (show ¬(48 ≤ x ∧ x ≤ 57) by omega), if_neg (show ¬ x = 59 by omega)]
      · rw [if_neg c2, if_pos (show 97 ≤ x ∧ x ≤ 122 by omega)]
  · rw [if_neg h, if_neg h]
theorem dp_two {α : Type} {c i d : Prop} [Decidable c] [Decidable i] [Decidable d] {x y : Option α} {K : α → Prop} (h : c ∨ (¬c ∧ i ∧ d)) (k : dz_p x K) : dz_p (if c then x else if i then (if d then x else y) else none) K := by
  rcases h with h | h
  · exact dp_ck h k
  · exact dp_no h.1 (dp_ck h.2.1 (dp_ck h.2.2 k))
/-- the next token of the class -/
theorem nt_cls (hp : p = 25 ∨ p = 4) (hs : s = 36 ∨ s = 15) (hT : so_tp T) (hZ : Z 2 = T) (ha : R 6 0 = a) (ht : so_tk T a st e k) {K : Bool × dz_Z → Prop} (kT : so_ok k st e → ∀ R' : ob_O, R' 6 0 = e → R' 7 0 = st → R' 8 0 = k → (∀ f : Nat, f ≠ 6 → f ≠ 7 → f ≠ 8 → R' f = R f) → K (true, rk Z p s R' P S)) (kF : ¬ so_ok k st e → ∀ R' : ob_O, R' 3 0 = 1 → R' 4 0 = st → (∀ f : Nat, f ≠ 3 → f ≠ 4 → f ≠ 6 → f ≠ 7 → f ≠ 8 → R' f = R f) → K (false, rk Z p s R' P S)) : dz_p (jf_R_nextToken (rk Z p s R P S)) K := by
  obtain ⟨⟨t1, t2, t3, t4⟩, t5, t6, t7, t8, t9, t10⟩ := ht
  have hL := hT.1
  have eL : dz_c (T 1 0) = T 1 0 := dc_ir (by omega) (by omega)
  have r2 : ∀ R : ob_O, rk Z p s R P S 2 = T := fun R => by rw [rk_2 hp hs, hZ]
  have kb := kd_b (T := T) (i := st)
  unfold jf_R_nextToken
  refine dp_lp (fun n q => ∃ x : Int, a ≤ x ∧ x + n = st ∧ q = rk Z p s (ob_u R 6 0 x) P S) ?_ 5000 (st - a).toNat _ (by omega) ⟨a, by omega, by omega, by rw [← ha, ou_m]⟩
  rintro n _ ⟨x, hx, hxn, rfl⟩
  have ex : dz_c x = x := dc_ir (by omega) (by omega)
  simp only [r2, rk_1, ou_s, ex, eL]
  by_cases hn : x = st
  · subst hn
    refine dp_two ?_ ?_
    · by_cases q : x < T 1 0
      · have := hT.2 x (by omega) q
        rw [dz_ci (by omega) (by omega)]
        exact Or.inr ⟨by omega, by omega, t6 q⟩
      · exact Or.inl (by omega)
    refine dp_le ?_
    simp only [rk_u1, rk_1, ou_f (show (6 : Nat) ≠ 7 by decide), ou_s]
    refine dp_bi (dp_eq (kd_cls hT (r2 _) (by omega)) (dp_le ?_))
    rw [← t7]
    simp only [rk_u1, rk_1, ou_s]
    have ek : dz_c k = k := dc_ir (by omega) (by omega)
    rw [ek]
    -- what is behind the token
    have fin : ∀ R' : ob_O, R' 6 0 = e → R' 7 0 = x → R' 8 0 = k → (∀ f : Nat, f ≠ 6 → f ≠ 7 → f ≠ 8 → R' f = R f) → dz_p (Option.bind (α := Int) (if dz_c (rk Z p s R' P S 1 8 0) ≠ 3 then (some 0) else (if dz_c ((rk Z p s R' P S 1 6 0) - (rk Z p s R' P S 1 7 0)) ≤ 3 then (some 0) else (some 1))) (fun (q23 : Int) => if dz_c (rk Z p s R' P S 1 8 0) = 0 then (Option.bind (jf_R_fail 1 (rk Z p s R' P S)) fun q25 => if q25.1 = false then (some (Sum.inr (false, q25.2))) else (some (Sum.inr (true, q25.2)))) else (if dz_c q23 = 0 then (some (Sum.inr (true, rk Z p s R' P S))) else (Option.bind (jf_R_fail 1 (rk Z p s R' P S)) fun q28 => if q28.1 = false then (some (Sum.inr (false, q28.2))) else (some (Sum.inr (true, q28.2))))))) (Sum.elim (fun s' : dz_Z => ∃ k' : Nat, k' < n ∧ ∃ y : Int, a ≤ y ∧ y + (k' : Int) = x ∧ s' = rk Z p s (ob_u R 6 0 y) P S) K) := by
      intro R' h6 h7 h8 hf
      have efx : dz_c (e - x) = e - x := dc_ir (by omega) (by omega)
      simp only [rk_1, h6, h7, h8, ek, efx]
      have bad : ¬ so_ok k x e → dz_p (Option.bind (jf_R_fail 1 (rk Z p s R' P S)) fun q25 => if q25.1 = false then (some (Sum.inr (false, q25.2))) else (some (Sum.inr (true, q25.2)))) (Sum.elim (fun s' : dz_Z => ∃ k' : Nat, k' < n ∧ ∃ y : Int, a ≤ y ∧ y + (k' : Int) = x ∧ s' = rk Z p s (ob_u R 6 0 y) P S) K) := by
        intro hb
        unfold jf_R_fail
        refine dp_bi (dp_le (dp_le (dp_sm (dp_ck rfl (dp_sm ?_)))))
        simp only [rk_u1, rk_1, ou_f (show (7 : Nat) ≠ 3 by decide), h7]
        refine kF hb _ ?_ ou_s (fun f a1 a2 a3 a4 a5 => ?_)
        · rw [ou_f (by decide), ou_s]
        · rw [ou_ff a2, ou_ff a1, hf f a3 a4 a5]
      by_cases c0 : k = 0
      · refine dp_bi (dp_ck (by omega) (dp_sm (dp_ck c0 (bad (fun q => q.1 c0)))))
      · by_cases c3 : k = 3
        · by_cases c4 : e - x ≤ 3
          · refine dp_bi (dp_no (by omega) (dp_ck c4 (dp_sm (dp_no c0 (dp_ck (by decide) (dp_sm (kT ⟨c0, by omega⟩ R' h6 h7 h8 hf)))))))
          · refine dp_bi (dp_no (by omega) (dp_no c4 (dp_sm (dp_no c0 (dp_no (by decide) (bad (fun q => q.2 (by omega))))))))
        · refine dp_bi (dp_ck c3 (dp_sm (dp_no c0 (dp_ck (by decide) (dp_sm (kT ⟨c0, by omega⟩ R' h6 h7 h8 hf))))))
    have run : (k = 2 ∨ k = 3) → ∀ Q : dz_Z → Prop, (∀ R' : ob_O, R' 6 0 = e → R' 7 0 = x → R' 8 0 = k → (∀ f : Nat, f ≠ 6 → f ≠ 7 → f ≠ 8 → R' f = R f) → Q (rk Z p s R' P S)) → dz_p (dz_lp (fun (s33 : dz_Z) => if dz_c (s33 2 1 0) ≤ dz_c (s33 1 6 0) then (some (Sum.inr s33)) else (Option.bind (jf_R_kindAt (s33 1 6 0) s33) fun q35 => if dz_c q35 ≠ dz_c (s33 1 8 0) then (some (Sum.inr s33)) else (dz_a (dz_u s33 1 6 0 ((s33 1 6 0) + 1)) fun Z37 => some (Sum.inl Z37)))) 5000 (rk Z p s (ob_u (ob_u (ob_u R 6 0 x) 7 0 x) 8 0 k) P S)) Q := by
      intro hk Q hQ
      obtain ⟨u1, u2, u3⟩ := t8 hk
      refine dp_lp (fun n q => ∃ (y : Int) (R' : ob_O), x ≤ y ∧ y + n = e ∧ q = rk Z p s R' P S ∧ R' 6 0 = y ∧ R' 7 0 = x ∧ R' 8 0 = k ∧ (∀ f : Nat, f ≠ 6 → f ≠ 7 → f ≠ 8 → R' f = R f)) ?_ 5000 (e - x).toNat _ (by omega) ⟨x, _, by omega, by omega, rfl, by rw [ou_f (by decide), ou_f (by decide), ou_s], by rw [ou_f (by decide), ou_s], ou_s, fun f a1 a2 a3 => by rw [ou_ff a3, ou_ff a2, ou_ff a1]⟩
      rintro n2 _ ⟨y, R', hy, hyn, rfl, h6, h7, h8, hf⟩
      have ey : dz_c y = y := dc_ir (by omega) (by omega)
      simp only [r2, rk_1, h6, h8, ey, eL, ek]
      by_cases hye : y = e
      · subst hye
        by_cases q : y < T 1 0
        · have kb2 := kd_b (T := T) (i := y)
          refine dp_no (by omega) (dp_bi (dp_eq (kd_cls hT (r2 _) (by omega)) ?_))
          rw [dc_ir kb2.1 (by omega)]
          exact dp_ck (u3 q) (dp_sm (hQ R' h6 h7 h8 hf))
        · exact dp_ck (by omega) (dp_sm (hQ R' h6 h7 h8 hf))
      · have q := u2 y hy (by omega)
        refine dp_no (by omega) (dp_bi (dp_eq (kd_cls hT (r2 _) (by omega)) ?_))
        rw [q, ek]
        refine dp_no (by omega) (dp_le (dp_sm ⟨n2 - 1, by omega, y + 1, _, by omega, by omega, rk_u1, ou_s, by rw [ou_f (by decide), h7], by rw [ou_f (by decide), h8], fun f a1 a2 a3 => by rw [ou_ff a1, hf f a1 a2 a3]⟩))
    by_cases c2 : k = 2
    · exact dp_bi (dp_ck c2 (run (Or.inl c2) _ (fun R' h6 h7 h8 hf => fin R' h6 h7 h8 hf)))
    · refine dp_bi (dp_no c2 ?_)
      by_cases c3 : k = 3
      · exact dp_no (by omega) (run (Or.inr c3) _ (fun R' h6 h7 h8 hf => fin R' h6 h7 h8 hf))
      · refine dp_ck c3 ?_
        by_cases c4 : k = 4
        · refine dp_no (by omega) (dp_le (dp_sm ?_))
          refine fin _ ?_ ?_ ?_ ?_
          · rw [ou_s, ou_f (by decide), ou_f (by decide), ou_s]; exact (t9 c4).symm
          · rw [ou_f (by decide), ou_f (by decide), ou_s]
          · rw [ou_f (by decide), ou_s]
          · intro f a1 a2 a3; rw [ou_ff a1, ou_ff a3, ou_ff a2, ou_ff a1]
        · have he := t10 (by omega)
          refine dp_ck c4 (dp_sm ?_)
          refine fin _ ?_ ?_ ?_ ?_
          · rw [ou_f (by decide), ou_f (by decide), ou_s, he]
          · rw [ou_f (by decide), ou_s]
          · rw [ou_s]
          · intro f a1 a2 a3; rw [ou_ff a3, ou_ff a2, ou_ff a1]
  · have q := t5 x hx (by omega)
    refine dp_no (by omega) (dp_ck (by omega) (dp_no (by rw [q]; decide) (dp_le (dp_sm ⟨n - 1, by omega, x + 1, by omega, by omega, ?_⟩))))
    rw [rk_u1, ou_u]
end ta
end mg_61ta
section mg_62tb
/-! the reference's step -/
def so_nm (T : ob_O) (s : Int) : Nat → Int
  | 0 => 0
  | j + 1 => so_nm T s j * 10 + T 0 (s + j) - 48
def so_mk (k : Int) : Int := if k = 1 then 0 else if k = 2 then 1 else if k = 3 then 2 else 3
/-- the tape of both -/
def so_tm (T m : ob_O) : Prop := m 22 0 = T 1 0 ∧ ∀ i : Int, 0 ≤ i → i < T 1 0 → m 21 i = T 0 i % 256
/-- the reference has looked at the token behind a -/
def so_ah (T m : ob_O) (a s e k : Int) : Prop := so_tk T a s e k ∧ m 27 0 = s ∧ (s ≤ m 26 0 ∧ m 26 0 ≤ T 1 0) ∧ ((so_ok k s e ∧ m 24 0 = 0 ∧ m 26 0 = e ∧ m 28 0 = so_mk k ∧ (k = 3 → m 29 0 = so_nm T s (e - s).toNat)) ∨ (¬ so_ok k s e ∧ m 24 0 = 1 ∧ m 25 0 = s ∧ (m 28 0 = 2 ∨ m 28 0 = 3)))
section tb
variable {Z Y : dz_Z} {R P S T m m' : ob_O} {a b e k i v st : Int}
theorem nm_b (h : ∀ i : Int, 0 ≤ i → i < 3 → 48 ≤ T 0 (st + i) ∧ T 0 (st + i) ≤ 57) : 0 ≤ so_nm T st 3 ∧ so_nm T st 3 ≤ 999 := by
  have h0 := h 0 (by omega) (by omega)
  have h1 := h 1 (by omega) (by omega)
  have h2 := h 2 (by omega) (by omega)
  show 0 ≤ ((0 * 10 + T 0 (st + (0 : Nat)) - 48) * 10 + T 0 (st + (1 : Nat)) - 48) * 10 + T 0 (st + (2 : Nat)) - 48 ∧ ((0 * 10 + T 0 (st + (0 : Nat)) - 48) * 10 + T 0 (st + (1 : Nat)) - 48) * 10 + T 0 (st + (2 : Nat)) - 48 ≤ 999
  rw [show st + ((0 : Nat) : Int) = st + 0 by rfl, show st + ((1 : Nat) : Int) = st + 1 by rfl, show st + ((2 : Nat) : Int) = st + 2 by rfl]
  omega
theorem nm_b' : ∀ n : Nat, n ≤ 3 → (∀ i : Int, 0 ≤ i → i < n → 48 ≤ T 0 (st + i) ∧ T 0 (st + i) ≤ 57) → 0 ≤ so_nm T st n ∧ so_nm T st n ≤ 999 ∧ (n ≤ 2 → so_nm T st n ≤ 99) ∧ (n ≤ 1 → so_nm T st n ≤ 9) ∧ (n = 0 → so_nm T st n = 0)
  | 0, _, _ => by show (0 : Int) ≤ 0 ∧ (0 : Int) ≤ 999 ∧ _ ∧ _ ∧ _; exact ⟨by omega, by omega, fun _ => by show (0 : Int) ≤ 99; omega, fun _ => by show (0 : Int) ≤ 9; omega, fun _ => rfl⟩
  | n + 1, hn, h => by
    have ih := nm_b' n (by omega) (fun i a b => h i a (by omega))
    have hd := h n (by omega) (by omega)
    have key : so_nm T st (n + 1) = so_nm T st n * 10 + T 0 (st + n) - 48 := rfl
    rw [key]
    obtain ⟨i1, i2, i3, i4, i5⟩ := ih
    have : n = 0 ∨ n = 1 ∨ n = 2 := by omega
    rcases this with q | q | q
    · have := i5 q; exact ⟨by omega, by omega, fun _ => by omega, fun _ => by omega, fun _ => by omega⟩
    · have := i4 (by omega); exact ⟨by omega, by omega, fun _ => by omega, fun _ => by omega, fun _ => by omega⟩
    · have := i3 (by omega); exact ⟨by omega, by omega, fun _ => by omega, fun _ => by omega, fun _ => by omega⟩
theorem kd_2 {k : Int} (h : so_kd T i = k) (hk : k = 2 ∨ k = 3) : i < T 1 0 ∧ (k = 2 → 97 ≤ T 0 i ∧ T 0 i ≤ 122) ∧ (k = 3 → 48 ≤ T 0 i ∧ T 0 i ≤ 57) := by
  unfold so_kd at h
  by_cases c : i < T 1 0
  · rw [if_pos c] at h
    by_cases c1 : 97 ≤ T 0 i ∧ T 0 i ≤ 122
    · rw [if_pos c1] at h
      exact ⟨c, fun _ => c1, fun q => by omega⟩
    · rw [if_neg c1] at h
      by_cases c2 : 48 ≤ T 0 i ∧ T 0 i ≤ 57
      · rw [if_pos c2] at h
        exact ⟨c, fun q => by omega, fun _ => c2⟩
      · rw [if_neg c2] at h
        split at h <;> omega
  · rw [if_neg c] at h; omega
theorem bt_eq (hT : so_tp T) (hm : so_tm T m) (hi : 0 ≤ i ∧ i ≤ 1000) : jf_M_byteAt i (ob_z Y 114 m) = some (if i < T 1 0 then T 0 i % 256 else -4) := by
  have hL := hT.1
  have e1 : dz_c i = i := dc_ir (by omega) (by omega)
  have e2 : dz_c (T 1 0) = T 1 0 := dc_ir (by omega) (by omega)
  unfold jf_M_byteAt
  rw [oz_s, hm.1, e1, e2]
  by_cases h : i < T 1 0
  · rw [if_neg (by omega), if_pos h, if_pos (by omega), hm.2 i hi.1 h]
  · rw [if_pos (by omega), if_neg h]
theorem ou_2 {f f' : Nat} {a b c d : Int} (h : f ≠ f') : ob_u (ob_u (ob_u (ob_u m f 0 a) f' 0 b) f 0 c) f' 0 d = ob_u (ob_u m f 0 c) f' 0 d := by
  funext g i
  unfold ob_u
  by_cases h1 : g = f' ∧ i = 0
  · simp only [if_pos h1]
  · by_cases h2 : g = f ∧ i = 0
    · simp only [if_neg h1, if_pos h2]
    · simp only [if_neg h1, if_neg h2]
theorem tm_u {f : Nat} {j v : Int} (h : so_tm T m) (h1 : f ≠ 21) (h2 : f ≠ 22) : so_tm T (ob_u m f j v) := by
  unfold so_tm
  rw [ou_ff (Ne.symm h1), ou_ff (Ne.symm h2)]
  exact h
theorem tm_m (h : so_tm T m) (h1 : m' 21 = m 21) (h2 : m' 22 = m 22) : so_tm T m' := by
  unfold so_tm
  rw [h1, h2]
  exact h
theorem st_eq (hT : so_tp T) (hm : so_tm T m) (h24 : m 24 0 = 0) (h26 : m 26 0 = a) (ht : so_tk T a st e k) : ∃ m' : ob_O, (∀ Y, jf_M_step (ob_z Y 114 m) = some (ob_z Y 114 m')) ∧ so_ah T m' a st e k ∧ ∀ f : Nat, (f < 24 ∨ 29 < f) → m' f = m f := by
  have ht' := ht
  obtain ⟨⟨t1, t2, t3, t4⟩, t5, t6, t7, t8, t9, t10⟩ := ht
  have hL := hT.1
  have kb := kd_b (T := T) (i := st)
  have bst : st < T 1 0 → -128 ≤ T 0 st ∧ T 0 st ≤ 127 := fun q => hT.2 st (by omega) q
  have base27 : ∀ x y z : Int, ob_u (ob_u (ob_u m 26 0 x) 27 0 y) 29 0 z 26 0 = x := fun x y z => by rw [ou_f (by decide), ou_f (by decide), ou_s]
  have go : ∀ (M : ob_O), (∀ (Y : dz_Z), dz_p ((fun (Z7 : dz_Z) (q6 : Int) => if dz_c q6 ≠ (-4) then (if ¬(97 ≤ dz_c q6 ∧ dz_c q6 ≤ 122) then (if ¬(48 ≤ dz_c q6 ∧ dz_c q6 ≤ 57) then (dz_a (dz_u Z7 114 28 0 3) fun Z11 => dz_a (dz_u Z11 114 26 0 ((Z11 114 26 0) + 1)) fun Z12 => if dz_c q6 = 59 then (some (Sum.inr Z12)) else (Option.bind (jf_M_fails 1 Z12) fun q14 => some (Sum.inr q14))) else (dz_lp (fun (s15 : dz_Z) => Option.bind (jf_M_byteAt (s15 114 26 0) s15) fun q16 => if ¬(48 ≤ dz_c q16 ∧ dz_c q16 ≤ 57) then (dz_a (dz_u s15 114 28 0 2) fun Z18 => if dz_c ((Z18 114 26 0) - (Z18 114 27 0)) ≤ 3 then (some (Sum.inr (Sum.inr Z18))) else (Option.bind (jf_M_fails 1 Z18) fun q20 => some (Sum.inr (Sum.inr q20)))) else (Option.bind (α := Int) (if 3 ≤ dz_c ((s15 114 26 0) - (s15 114 27 0)) then (some (s15 114 29 0)) else (Option.bind (jf_M_byteAt (s15 114 26 0) s15) fun q27 => some (((10 * (s15 114 29 0)) + q27) - 48))) (fun (q23 : Int) => dz_a (dz_u s15 114 29 0 q23) fun Z24 => dz_a (dz_u Z24 114 26 0 ((Z24 114 26 0) + 1)) fun Z25 => some (Sum.inl Z25)))) 5000 Z7)) else (dz_lp (fun (s28 : dz_Z) => Option.bind (jf_M_byteAt (s28 114 26 0) s28) fun q29 => if ¬(97 ≤ dz_c q29 ∧ dz_c q29 ≤ 122) then (dz_a (dz_u s28 114 28 0 1) fun Z31 => some (Sum.inr (Sum.inr Z31))) else (dz_a (dz_u s28 114 26 0 ((s28 114 26 0) + 1)) fun Z32 => some (Sum.inl Z32))) 5000 Z7)) else (dz_a (dz_u Z7 114 28 0 0) fun Z33 => some (Sum.inr Z33)) : dz_Z → Int → Option (dz_Z ⊕ dz_Z)) (ob_z Y 114 (ob_u (ob_u (ob_u m 26 0 st) 27 0 st) 29 0 0)) (if st < T 1 0 then T 0 st % 256 else -4)) (Sum.elim (fun _ => False) (fun q => q = ob_z Y 114 M))) → ∀ Y, jf_M_step (ob_z Y 114 m) = some (ob_z Y 114 M) := by
    intro M hM Y
    apply dp_is
    unfold jf_M_step
    rw [oz_s, h24]
    refine dp_ck (by decide) ?_
    refine dp_lp (fun n q => ∃ x : Int, a ≤ x ∧ x + n = st ∧ q = ob_z Y 114 (ob_u m 26 0 x)) ?_ 5000 (st - a).toNat _ (by omega) ⟨a, by omega, by omega, by rw [← h26, ou_m]⟩
    rintro n _ ⟨x, hx, hxn, rfl⟩
    have htx : so_tm T (ob_u m 26 0 x) := tm_u hm (by decide) (by decide)
    simp only [oz_s, ou_s]
    refine dp_bi (dp_eq (bt_eq hT htx (by omega)) ?_)
    by_cases hn : x = st
    · subst hn
      have c : ¬ dz_c (if x < T 1 0 then T 0 x % 256 else -4) = 32 := by
        by_cases q : x < T 1 0
        · rw [if_pos q, dc_ir (by omega) (by omega)]
          have := t6 q
          have := bst q
          omega
        · rw [if_neg q]; decide
      refine dp_ck c (dp_le ?_)
      simp only [oz_uz, oz_s, ou_f (show (26 : Nat) ≠ 27 by decide), ou_s]
      refine dp_bi (dp_eq (bt_eq hT (tm_u htx (by decide) (by decide)) (by omega)) (dp_le ?_))
      obtain ⟨q, e1, e2⟩ := hM Y
      refine ⟨q, ?_, ?_⟩
      · rw [← e1]
      · cases q with
        | inl _ => exact absurd e2 id
        | inr r => exact e2
    · have q := t5 x hx (by omega)
      rw [if_pos (show x < T 1 0 by omega), q]
      refine dp_no (by decide) (dp_le (dp_sm ⟨n - 1, by omega, x + 1, by omega, by omega, ?_⟩))
      rw [oz_uz, ou_u]
  generalize hb : ob_u (ob_u (ob_u m 26 0 st) 27 0 st) 29 0 0 = B at go
  have b24 : B 24 0 = 0 := by rw [← hb, ou_f (by decide), ou_f (by decide), ou_f (by decide), h24]
  have b26 : B 26 0 = st := by rw [← hb, ou_f (by decide), ou_f (by decide), ou_s]
  have b27 : B 27 0 = st := by rw [← hb, ou_f (by decide), ou_s]
  have b29 : B 29 0 = 0 := by rw [← hb, ou_s]
  have bf : ∀ f : Nat, (f < 24 ∨ 29 < f) → B f = m f := fun f q => by rw [← hb, ou_ff (by omega), ou_ff (by omega), ou_ff (by omega)]
  have btm : so_tm T B := tm_m hm (bf 21 (by decide)) (bf 22 (by decide))
  rcases (show ¬ st < T 1 0 ∨ st < T 1 0 by omega) with c1 | c1
  · -- the end
    have hk : k = 1 := by rw [t7]; unfold so_kd; rw [if_neg c1]
    have he := t10 (Or.inr hk)
    refine ⟨ob_u B 28 0 0, go _ (fun Y => ?_), ⟨ht', ?_, ?_, Or.inl ⟨⟨by omega, by omega⟩, ?_, ?_, ?_, fun q => by omega⟩⟩, fun f q => ?_⟩
    · dsimp only
      rw [if_neg c1]
      exact dp_no (by decide) (dp_le (dp_sm (show dz_u (ob_z Y 114 B) 114 28 0 0 = ob_z Y 114 (ob_u B 28 0 0) from oz_uz)))
    · rw [ou_f (by decide), b27]
    · rw [ou_f (by decide), b26]; omega
    · rw [ou_f (by decide), b24]
    · rw [ou_f (by decide), b26, he]
    · rw [ou_s, hk]; rfl
    · rw [ou_ff (by omega), bf f q]
  have hby := bst c1
  have hcu : dz_c (T 0 st % 256) = T 0 st % 256 := dc_ir (by omega) (by omega)
  have kst : k = if 97 ≤ T 0 st ∧ T 0 st ≤ 122 then 2 else if 48 ≤ T 0 st ∧ T 0 st ≤ 57 then 3 else if T 0 st = 59 then 4 else 0 := by rw [t7]; unfold so_kd; rw [if_pos c1]
  by_cases c2 : 97 ≤ T 0 st ∧ T 0 st ≤ 122
  · -- a name
    rw [if_pos c2] at kst
    obtain ⟨u1, u2, u3⟩ := t8 (Or.inl kst)
    refine ⟨ob_u (ob_u B 26 0 e) 28 0 1, go _ (fun Y => ?_), ⟨ht', ?_, ?_, Or.inl ⟨⟨by omega, by omega⟩, ?_, ?_, ?_, fun q => by omega⟩⟩, fun f q => ?_⟩
    · dsimp only
      rw [if_pos c1, hcu]
      refine dp_ck (by omega) (dp_no (by omega) ?_)
      refine dp_lp (fun n q => ∃ x : Int, st ≤ x ∧ x + n = e ∧ q = ob_z Y 114 (ob_u B 26 0 x)) ?_ 5000 (e - st).toNat _ (by omega) ⟨st, by omega, by omega, by rw [← b26, ou_m]⟩
      rintro n _ ⟨x, hx, hxn, rfl⟩
      simp only [oz_s, ou_s]
      refine dp_bi (dp_eq (bt_eq hT (tm_u btm (by decide) (by decide)) (by omega)) ?_)
      by_cases hxe : x = e
      · have c : ¬(97 ≤ dz_c (if x < T 1 0 then T 0 x % 256 else -4) ∧ dz_c (if x < T 1 0 then T 0 x % 256 else -4) ≤ 122) := by
          by_cases q : x < T 1 0
          · have := hT.2 x (by omega) q
            rw [if_pos q, dc_ir (by omega) (by omega)]
            have := u3 (by omega)
            rw [← hxe] at this
            unfold so_kd at this
            rw [if_pos q] at this
            intro h'
            rw [if_pos (by omega)] at this
            omega
          · rw [if_neg q]; decide
        refine dp_ck c (dp_le (dp_sm ?_))
        rw [oz_uz, hxe]
        rfl
      · have q := u2 x hx (by omega)
        have q2 := kd_2 q (Or.inl kst)
        have q3 := q2.2.1 kst
        rw [if_pos q2.1, dc_ir (by omega) (by omega)]
        refine dp_no (by omega) (dp_le (dp_sm ⟨n - 1, by omega, x + 1, by omega, by omega, ?_⟩))
        rw [oz_uz, ou_u]
    · rw [ou_f (by decide), ou_f (by decide), b27]
    · rw [ou_f (by decide), ou_s]; omega
    · rw [ou_f (by decide), ou_f (by decide), b24]
    · rw [ou_f (by decide), ou_s]
    · rw [ou_s, kst]; rfl
    · rw [ou_ff (by omega), ou_ff (by omega), bf f q]
  rw [if_neg c2] at kst
  by_cases c3 : 48 ≤ T 0 st ∧ T 0 st ≤ 57
  · -- a number
    rw [if_pos c3] at kst
    obtain ⟨u1, u2, u3⟩ := t8 (Or.inr kst)
    have dig : ∀ x : Int, st ≤ x → x < e → 48 ≤ T 0 x ∧ T 0 x ≤ 57 := fun x q1 q2 => (kd_2 (u2 x q1 q2) (Or.inr kst)).2.2 kst
    have run : ∀ (Y : dz_Z) (M : ob_O), (∀ Q : dz_Z ⊕ (dz_Z ⊕ dz_Z) → Prop, Q (Sum.inr (Sum.inr (ob_z Y 114 M))) → dz_p (if e - st ≤ 3 then (some (Sum.inr (Sum.inr (ob_z Y 114 (ob_u (ob_u (ob_u B 29 0 (so_nm T st (if e - st ≤ 3 then (e - st).toNat else 3))) 26 0 e) 28 0 2))))) else (Option.bind (jf_M_fails 1 (ob_z Y 114 (ob_u (ob_u (ob_u B 29 0 (so_nm T st (if e - st ≤ 3 then (e - st).toNat else 3))) 26 0 e) 28 0 2))) fun q20 => some (Sum.inr (Sum.inr q20)))) Q) → dz_p (dz_lp (fun (s15 : dz_Z) => Option.bind (jf_M_byteAt (s15 114 26 0) s15) fun q16 => if ¬(48 ≤ dz_c q16 ∧ dz_c q16 ≤ 57) then (dz_a (dz_u s15 114 28 0 2) fun Z18 => if dz_c ((Z18 114 26 0) - (Z18 114 27 0)) ≤ 3 then (some (Sum.inr (Sum.inr Z18))) else (Option.bind (jf_M_fails 1 Z18) fun q20 => some (Sum.inr (Sum.inr q20)))) else (Option.bind (α := Int) (if 3 ≤ dz_c ((s15 114 26 0) - (s15 114 27 0)) then (some (s15 114 29 0)) else (Option.bind (jf_M_byteAt (s15 114 26 0) s15) fun q27 => some (((10 * (s15 114 29 0)) + q27) - 48))) (fun (q23 : Int) => dz_a (dz_u s15 114 29 0 q23) fun Z24 => dz_a (dz_u Z24 114 26 0 ((Z24 114 26 0) + 1)) fun Z25 => some (Sum.inl Z25)))) 5000 (ob_z Y 114 B)) (Sum.elim (fun _ : dz_Z => False) (fun q : dz_Z => q = ob_z Y 114 M)) := by
      intro Y M hM
      refine dp_lp (fun n q => ∃ x : Int, st ≤ x ∧ x + n = e ∧ q = ob_z Y 114 (ob_u (ob_u B 29 0 (so_nm T st (if x - st ≤ 3 then (x - st).toNat else 3))) 26 0 x)) ?_ 5000 (e - st).toNat _ (by omega) ⟨st, by omega, by omega, ?_⟩
      · rintro n _ ⟨x, hx, hxn, rfl⟩
        have efx : dz_c (x - st) = x - st := dc_ir (by omega) (by omega)
        simp only [oz_s, ou_s, oz_uz, ou_f (show (27 : Nat) ≠ 28 by decide), ou_f (show (26 : Nat) ≠ 28 by decide), ou_f (show (27 : Nat) ≠ 26 by decide), ou_f (show (27 : Nat) ≠ 29 by decide), ou_f (show (29 : Nat) ≠ 26 by decide), ou_f (show (26 : Nat) ≠ 29 by decide), b27, efx]
        have htx : so_tm T (ob_u (ob_u B 29 0 (so_nm T st (if x - st ≤ 3 then (x - st).toNat else 3))) 26 0 x) := tm_u (tm_u btm (by decide) (by decide)) (by decide) (by decide)
        refine dp_bi (dp_eq (bt_eq hT htx (by omega)) ?_)
        by_cases hxe : x = e
        · have c : ¬(48 ≤ dz_c (if x < T 1 0 then T 0 x % 256 else -4) ∧ dz_c (if x < T 1 0 then T 0 x % 256 else -4) ≤ 57) := by
            by_cases q : x < T 1 0
            · have := hT.2 x (by omega) q
              rw [if_pos q, dc_ir (by omega) (by omega)]
              have := u3 (by omega)
              rw [← hxe] at this
              unfold so_kd at this
              rw [if_pos q] at this
              intro h'
              rw [if_neg (by omega), if_pos (by omega)] at this
              omega
            · rw [if_neg q]; decide
          refine dp_ck c (dp_le ?_)
          rw [hxe] at efx ⊢
          simp only [oz_s, ou_s, ou_f (show (27 : Nat) ≠ 28 by decide), ou_f (show (26 : Nat) ≠ 28 by decide), ou_f (show (27 : Nat) ≠ 26 by decide), ou_f (show (27 : Nat) ≠ 29 by decide), b27, efx]
          exact hM _ rfl
        · have q3 := dig x hx (by omega)
          rw [if_pos (show x < T 1 0 by omega), dc_ir (by omega) (by omega)]
          refine dp_no (by omega) (dp_bi ?_)
          have key : so_nm T st (if x + 1 - st ≤ 3 then (x + 1 - st).toNat else 3) = if 3 ≤ x - st then so_nm T st (if x - st ≤ 3 then (x - st).toNat else 3) else 10 * so_nm T st (if x - st ≤ 3 then (x - st).toNat else 3) + T 0 x % 256 - 48 := by
            by_cases c : 3 ≤ x - st
            · rw [if_pos c, if_neg (by omega)]
              by_cases c' : x - st ≤ 3
              · rw [if_pos c', show (x - st).toNat = 3 by omega]
              · rw [if_neg c']
            · rw [if_neg c, if_pos (by omega), if_pos (by omega), show (x + 1 - st).toNat = (x - st).toNat + 1 by omega]
              show so_nm T st (x - st).toNat * 10 + T 0 (st + ((x - st).toNat : Nat)) - 48 = _
              rw [show st + (((x - st).toNat : Nat) : Int) = x by omega]
              omega
          refine dp_br (fun c => dp_sm (dp_le (dp_le (dp_sm ⟨n - 1, by omega, x + 1, by omega, by omega, ?_⟩)))) (fun c => dp_bi (dp_eq (bt_eq hT htx (by omega)) (dp_sm (dp_le (dp_le (dp_sm ⟨n - 1, by omega, x + 1, by omega, by omega, ?_⟩))))))
          · rw [oz_s, oz_uz, ou_f (show (26 : Nat) ≠ 29 by decide), ou_s, ou_2 (show (29 : Nat) ≠ 26 by decide), key, if_pos c]
          · rw [oz_s, oz_uz, ou_f (show (26 : Nat) ≠ 29 by decide), ou_s, ou_2 (show (29 : Nat) ≠ 26 by decide), key, if_neg c, if_pos (show x < T 1 0 by omega)]
      · have : so_nm T st (if st - st ≤ 3 then (st - st).toNat else 3) = B 29 0 := by
          rw [if_pos (by omega), show (st - st).toNat = 0 by omega, b29]
          rfl
        have e2 : ob_u (ob_u B 29 0 (so_nm T st (if st - st ≤ 3 then (st - st).toNat else 3))) 26 0 st = B := by
          rw [this, ou_m, ← b26, ou_m]
        rw [e2]
    by_cases c4 : e - st ≤ 3
    · refine ⟨ob_u (ob_u (ob_u B 29 0 (so_nm T st (e - st).toNat)) 26 0 e) 28 0 2, go _ (fun Y => ?_), ⟨ht', ?_, ?_, Or.inl ⟨⟨by omega, by omega⟩, ?_, ?_, ?_, fun _ => ?_⟩⟩, fun f q => ?_⟩
      · dsimp only
        rw [if_pos c1, hcu]
        refine dp_ck (by omega) (dp_ck (by omega) (dp_no (by omega) (run Y _ (fun Q hQ => dp_ck c4 (dp_sm ?_)))))
        rw [if_pos c4]
        exact hQ
      · rw [ou_f (by decide), ou_f (by decide), ou_f (by decide), b27]
      · rw [ou_f (by decide), ou_s]; omega
      · rw [ou_f (by decide), ou_f (by decide), ou_f (by decide), b24]
      · rw [ou_f (by decide), ou_s]
      · rw [ou_s, kst]; rfl
      · rw [ou_f (by decide), ou_f (by decide), ou_s]
      · rw [ou_ff (by omega), ou_ff (by omega), ou_ff (by omega), bf f q]
    · refine ⟨ob_u (ob_u (ob_u (ob_u (ob_u B 29 0 (so_nm T st 3)) 26 0 e) 28 0 2) 24 0 1) 25 0 st, go _ (fun Y => ?_), ⟨ht', ?_, ?_, Or.inr ⟨fun q => q.2 (by omega), ?_, ?_, Or.inl ?_⟩⟩, fun f q => ?_⟩
      · dsimp only
        rw [if_pos c1, hcu]
        refine dp_ck (by omega) (dp_ck (by omega) (dp_no (by omega) (run Y _ (fun Q hQ => dp_no c4 (dp_bi ?_)))))
        rw [if_neg c4]
        unfold jf_M_fails
        have q24 : ob_u (ob_u (ob_u B 29 0 (so_nm T st 3)) 26 0 e) 28 0 2 24 0 = 0 := by rw [ou_f (by decide), ou_f (by decide), ou_f (by decide), b24]
        have q27 : ob_u (ob_u (ob_u B 29 0 (so_nm T st 3)) 26 0 e) 28 0 2 27 0 = st := by rw [ou_f (by decide), ou_f (by decide), ou_f (by decide), b27]
        simp only [oz_s, oz_uz, q24, ou_f (show (27 : Nat) ≠ 24 by decide), q27]
        refine dp_no (by decide) (dp_le (dp_le (dp_sm (dp_sm ?_))))
        rw [oz_uz, oz_s, ou_f (show (27 : Nat) ≠ 24 by decide), q27]
        exact hQ
      · rw [ou_f (by decide), ou_f (by decide), ou_f (by decide), ou_f (by decide), ou_f (by decide), b27]
      · rw [ou_f (by decide), ou_f (by decide), ou_f (by decide), ou_s]; omega
      · rw [ou_f (by decide), ou_s]
      · rw [ou_s]
      · rw [ou_f (by decide), ou_f (by decide), ou_s]
      · rw [ou_ff (by omega), ou_ff (by omega), ou_ff (by omega), ou_ff (by omega), ou_ff (by omega), bf f q]
  rw [if_neg c3] at kst
  by_cases c4 : T 0 st = 59
  · rw [if_pos c4] at kst
    have he := t9 kst
    refine ⟨ob_u (ob_u B 28 0 3) 26 0 e, go _ (fun Y => ?_), ⟨ht', ?_, ?_, Or.inl ⟨⟨by omega, by omega⟩, ?_, ?_, ?_, fun q => by omega⟩⟩, fun f q => ?_⟩
    · dsimp only
      rw [if_pos c1, hcu]
      refine dp_ck (by omega) (dp_ck (by omega) (dp_ck (by omega) (dp_le (dp_le (dp_ck (by omega) (dp_sm ?_))))))
      rw [oz_uz, oz_s, oz_uz, ou_f (show (26 : Nat) ≠ 28 by decide), b26, he]
      rfl
    · rw [ou_f (by decide), ou_f (by decide), b27]
    · rw [ou_s]; omega
    · rw [ou_f (by decide), ou_f (by decide), b24]
    · rw [ou_s]
    · rw [ou_f (by decide), ou_s, kst]; rfl
    · rw [ou_ff (by omega), ou_ff (by omega), bf f q]
  · rw [if_neg c4] at kst
    have he := t10 (Or.inl kst)
    refine ⟨ob_u (ob_u (ob_u (ob_u B 28 0 3) 26 0 (st + 1)) 24 0 1) 25 0 st, go _ (fun Y => ?_), ⟨ht', ?_, ?_, Or.inr ⟨fun q => q.1 kst, ?_, ?_, Or.inr ?_⟩⟩, fun f q => ?_⟩
    · dsimp only
      rw [if_pos c1, hcu]
      refine dp_ck (by omega) (dp_ck (by omega) (dp_ck (by omega) (dp_le (dp_le (dp_no (by omega) (dp_bi ?_))))))
      unfold jf_M_fails
      have q24 : ob_u (ob_u B 28 0 3) 26 0 (st + 1) 24 0 = 0 := by rw [ou_f (by decide), ou_f (by decide), b24]
      have q27 : ob_u (ob_u B 28 0 3) 26 0 (st + 1) 27 0 = st := by rw [ou_f (by decide), ou_f (by decide), b27]
      simp only [oz_s, oz_uz, ou_f (show (26 : Nat) ≠ 28 by decide), b26, q24, ou_f (show (27 : Nat) ≠ 24 by decide), q27]
      refine dp_no (by decide) (dp_le (dp_le (dp_sm (dp_sm ?_))))
      show dz_u _ 114 25 0 _ = _
      rw [oz_uz, oz_s, ou_f (show (27 : Nat) ≠ 24 by decide), q27]
    · rw [ou_f (by decide), ou_f (by decide), ou_f (by decide), ou_f (by decide), b27]
    · rw [ou_f (by decide), ou_f (by decide), ou_s]; omega
    · rw [ou_f (by decide), ou_s]
    · rw [ou_s]
    · rw [ou_f (by decide), ou_f (by decide), ou_f (by decide), ou_s]
    · rw [ou_ff (by omega), ou_ff (by omega), ou_ff (by omega), ou_ff (by omega), bf f q]
end tb
end mg_62tb
section mg_63tc
/-! names, numbers -/
def so_wd (T : ob_O) (s e : Int) : List Int := (List.range (e - s).toNat).map (fun i : Nat => T 0 (s + i))
def so_cn (c : Nat) : List Int := (List.range (jf_len c).toNat).map (fun i : Nat => jf_chr c i)
def so_mn (j : Nat) : List Int := (List.range (dz_0 114 30 (j + 1) - dz_0 114 30 j).toNat).map (fun i : Nat => dz_0 114 31 (dz_0 114 30 j + i))
def so_ni (w : List Int) : Nat → Int
  | 0 => -4
  | k + 1 => if w = so_mn (14 - k) then ((14 - k : Nat) : Int) else so_ni w k
def so_sg (c : Nat) : Nat := [0, 1, 7, 2, 8, 9, 10, 11, 12, 13, 14, 3, 5, 4, 6].getD c 0
section tc
variable {Z Y : dz_Z} {R P S T m m' : ob_O} {a b e k i v st x : Int} {w : List Int} {c : Nat}
theorem cn_b : ∀ c : Fin 15, 0 ≤ jf_len c.val ∧ jf_len c.val ≤ 10 ∧ so_cn c.val = so_mn (so_sg c.val) ∧ so_sg c.val < 15 := by decide +kernel
theorem cn_ch : ∀ (c : Fin 15) (i : Fin 10), 0 ≤ jf_chr c.val (i.val : Int) ∧ jf_chr c.val (i.val : Int) ≤ 127 := by decide +kernel
theorem mn_b : ∀ j : Fin 15, 0 ≤ dz_0 114 30 (j.val : Int) ∧ dz_0 114 30 (j.val : Int) ≤ dz_0 114 30 ((j.val : Int) + 1) ∧ dz_0 114 30 ((j.val : Int) + 1) ≤ 67 := by decide +kernel
theorem mn_l : ∀ i : Fin 67, 0 ≤ dz_0 114 31 (i.val : Int) ∧ dz_0 114 31 (i.val : Int) ≤ 127 := by decide +kernel
theorem ni_mn : ∀ j : Fin 15, so_ni (so_mn j.val) 15 = (j.val : Int) := by decide +kernel
theorem ni_x : ∀ k : Nat, k ≤ 15 → so_ni w k = -4 ∨ ∃ j : Nat, j < 15 ∧ so_ni w k = (j : Int) ∧ w = so_mn j
  | 0, _ => Or.inl rfl
  | k + 1, hk => by
    show (if w = so_mn (14 - k) then ((14 - k : Nat) : Int) else so_ni w k) = -4 ∨ ∃ j : Nat, j < 15 ∧ (if w = so_mn (14 - k) then ((14 - k : Nat) : Int) else so_ni w k) = (j : Int) ∧ w = so_mn j
    by_cases c : w = so_mn (14 - k)
    · rw [if_pos c]
      exact Or.inr ⟨14 - k, by omega, rfl, c⟩
    · rw [if_neg c]
      exact ni_x k (by omega)
theorem ni_iff {j : Nat} (hj : j < 15) : so_ni w 15 = (j : Int) ↔ w = so_mn j := by
  constructor
  · intro h
    rcases ni_x (w := w) 15 (by omega) with q | ⟨i, i1, i2, i3⟩
    · omega
    · have : i = j := by omega
      rw [← this]; exact i3
  · intro h
    rw [h]
    exact ni_mn ⟨j, hj⟩
theorem ni_b : -4 ≤ so_ni w 15 ∧ so_ni w 15 ≤ 14 ∧ (so_ni w 15 = -4 ∨ 0 ≤ so_ni w 15) := by
  rcases ni_x (w := w) 15 (by omega) with q | ⟨i, i1, i2, i3⟩ <;> omega
theorem in_cls (hT : so_tp T) (hZ : Z 2 = T) (h6 : Z 1 6 0 = e) (h7 : Z 1 7 0 = st) (hs : 0 ≤ st ∧ st ≤ e ∧ e ≤ T 1 0) (hc : c < 15) : jf_R_isNamed c Z = some (decide (so_ni (so_wd T st e) 15 = (so_sg c : Int))) := by
  have hL := hT.1
  obtain ⟨b1, b2, b3, b4⟩ := cn_b ⟨c, hc⟩
  dsimp only at b1 b2 b3 b4
  have e1 : dz_c (jf_len c) = jf_len c := dc_ir b1 (by omega)
  have e2 : dz_c (e - st) = e - st := dc_ir (by omega) (by omega)
  have hd : decide (so_ni (so_wd T st e) 15 = (so_sg c : Int)) = decide (so_wd T st e = so_cn c) := by
    rw [b3]
    exact decide_eq_decide.mpr (ni_iff b4)
  rw [hd]
  apply dp_is
  unfold jf_R_isNamed
  rw [h6, h7, hZ, e1, e2]
  by_cases hl : e - st = jf_len c
  · refine dp_ck hl ?_
    have hw : so_wd T st e = so_cn c ↔ ∀ i : Nat, i < (jf_len c).toNat → T 0 (st + i) = jf_chr c i := by
      unfold so_wd so_cn
      rw [hl, List.map_inj_left]
      constructor
      · intro q i hi; exact q i (List.mem_range.mpr hi)
      · intro q i hi; exact q i (List.mem_range.mp hi)
    refine dp_lp (fun n q => ∃ r : Nat, r + n = (jf_len c).toNat ∧ q = (r : Int) ∧ ∀ i : Nat, i < r → T 0 (st + i) = jf_chr c i) ?_ 5000 (jf_len c).toNat 0 (by omega) ⟨0, by omega, rfl, fun i hi => absurd hi (by omega)⟩
    rintro n _ ⟨r, hr, rfl, hi⟩
    have er : dz_c (r : Int) = r := dc_ir (by omega) (by omega)
    have es : dz_c (st + (r : Int)) = st + r := dc_ir (by omega) (by omega)
    rw [er, es]
    by_cases hk : r = (jf_len c).toNat
    · refine dp_ck (by omega) (dp_sm ?_)
      show true = decide _
      rw [decide_eq_true (hw.mpr (fun i q => hi i (by omega)))]
    · have hb := hT.2 (st + r) (by omega) (by omega)
      have hch := cn_ch ⟨c, hc⟩ ⟨r, by omega⟩
      dsimp only at hch
      rw [dz_ci (x := T 0 (st + r)) (by omega) (by omega), dc_ir (x := jf_chr c r) (by omega) (by omega)]
      refine dp_no (by omega) (dp_ck (by omega) (dp_ck (by omega) (dp_br (fun q => dp_sm ⟨n - 1, by omega, r + 1, by omega, by omega, fun i hi' => ?_⟩) (fun q => dp_sm ?_))))
      · by_cases e : i = r
        · rw [e]; exact q
        · exact hi i (by omega)
      · show false = decide _
        rw [decide_eq_false (fun h => q (hw.mp h r (by omega)))]
  · refine dp_no hl (dp_sm ?_)
    rw [decide_eq_false]
    intro h
    have := congrArg List.length h
    unfold so_wd so_cn at this
    rw [List.length_map, List.length_map, List.length_range, List.length_range] at this
    omega
theorem nh_eq (hT : so_tp T) (hm : so_tm T m) (h27 : m 27 0 = st) (h26 : m 26 0 = x) (hs : 0 ≤ st ∧ st ≤ x ∧ x ≤ T 1 0) (h30 : m 30 = dz_0 114 30) (h31 : m 31 = dz_0 114 31) : jf_M_nameHere (ob_z Y 114 m) = some (if dz_c (m 28 0) = 1 then so_ni (so_wd T st x) 15 else -4) := by
  have hL := hT.1
  apply dp_is
  unfold jf_M_nameHere
  by_cases h28 : dz_c (m 28 0) = 1
  · rw [if_pos h28]
    refine dp_lp (fun n q => ∃ j : Nat, j + n = 15 ∧ q = (j : Int) ∧ so_ni (so_wd T st x) 15 = so_ni (so_wd T st x) n) ?_ 5000 15 0 (by omega) ⟨0, by omega, rfl, rfl⟩
    rintro n _ ⟨j, hj, rfl, hn⟩
    have ej : dz_c (j : Int) = j := dc_ir (by omega) (by omega)
    have ej1 : dz_c ((j : Int) + 1) = j + 1 := dc_ir (by omega) (by omega)
    have exs : dz_c (x - st) = x - st := dc_ir (by omega) (by omega)
    simp only [oz_s, h27, h26, h28, h30, h31, ej, ej1, exs]
    by_cases hk : j = 15
    · refine dp_ck (by omega) (dp_sm ?_)
      show (-4 : Int) = _
      rw [hn, show n = 0 by omega]
      rfl
    · obtain ⟨b1, b2, b3⟩ := mn_b ⟨j, by omega⟩
      dsimp only at b1 b2 b3
      obtain ⟨n', rfl⟩ : ∃ n', n = n' + 1 := ⟨n - 1, by omega⟩
      have hj14 : 14 - n' = j := by omega
      have key : so_ni (so_wd T st x) (n' + 1) = if so_wd T st x = so_mn j then (j : Int) else so_ni (so_wd T st x) n' := by
        show (if so_wd T st x = so_mn (14 - n') then ((14 - n' : Nat) : Int) else so_ni (so_wd T st x) n') = _
        rw [hj14]
      have el : dz_c (dz_0 114 30 ((j : Int) + 1) - dz_0 114 30 j) = dz_0 114 30 ((j : Int) + 1) - dz_0 114 30 j := dc_ir (by omega) (by omega)
      rw [el]
      refine dp_no (by omega) (dp_no (by decide) (dp_ck (by omega) (dp_ck (by omega) (dp_bi ?_))))
      have no : ∀ (r : Int), ¬ so_wd T st x = so_mn j → dz_p (dz_lp (fun (s10 : Int × Int) => if dz_c s10.1 = 0 then (if dz_c s10.1 = 0 then (some (Sum.inr (Sum.inl ((j : Int) + 1)))) else (some (Sum.inr (Sum.inr (j : Int))))) else (if x - st ≤ dz_c s10.2 then (if dz_c s10.1 = 0 then (some (Sum.inr (Sum.inl ((j : Int) + 1)))) else (some (Sum.inr (Sum.inr (j : Int))))) else (Option.bind (jf_M_byteAt (st + s10.2) (ob_z Y 114 m)) fun q15 => if 0 ≤ dz_c ((dz_0 114 30 (j : Int)) + s10.2) ∧ dz_c ((dz_0 114 30 (j : Int)) + s10.2) < 67 then if dz_c q15 ≠ dz_c (dz_0 114 31 (dz_c ((dz_0 114 30 (j : Int)) + s10.2))) then (some (Sum.inl (0, s10.2 + 1))) else (some (Sum.inl (1, s10.2 + 1))) else none))) 5000 (0, r)) (Sum.elim (fun s' => ∃ k', k' < n' + 1 ∧ ∃ j : Nat, j + k' = 15 ∧ s' = (j : Int) ∧ so_ni (so_wd T st x) 15 = so_ni (so_wd T st x) k') (fun q => q = so_ni (so_wd T st x) 15)) := by
        intro r hne
        refine dp_lp (fun _ q => q = (0, r)) ?_ 5000 0 _ (by omega) rfl
        rintro _ _ rfl
        refine dp_ck (by dsimp only; decide) (dp_ck (by dsimp only; decide) (dp_sm ⟨n', by omega, j + 1, by omega, by omega, ?_⟩))
        rw [hn, key, if_neg hne]
      by_cases hl : x - st = dz_0 114 30 ((j : Int) + 1) - dz_0 114 30 j
      · refine dp_no (by omega) (dp_sm ?_)
        have hw : so_wd T st x = so_mn j ↔ ∀ i : Nat, i < (x - st).toNat → T 0 (st + i) = dz_0 114 31 (dz_0 114 30 j + i) := by
          unfold so_wd so_mn
          rw [← hl, List.map_inj_left]
          constructor
          · intro q i hi; exact q i (List.mem_range.mpr hi)
          · intro q i hi; exact q i (List.mem_range.mp hi)
        refine dp_lp (fun n q => (∃ r : Nat, r + n = (x - st).toNat + 1 ∧ q = (1, (r : Int)) ∧ r ≤ (x - st).toNat ∧ ∀ i : Nat, i < r → T 0 (st + i) = dz_0 114 31 (dz_0 114 30 j + i)) ∨ (∃ r : Int, q = (0, r)) ∧ ¬ so_wd T st x = so_mn j) ?_ 5000 ((x - st).toNat + 1) (1, 0) (by omega) (Or.inl ⟨0, by omega, rfl, by omega, fun i hi => absurd hi (by omega)⟩)
        rintro k2 _ (⟨r, hr, rfl, hrx, hi⟩ | ⟨⟨r, rfl⟩, hne⟩)
        · have er : dz_c (r : Int) = r := dc_ir (by omega) (by omega)
          refine dp_no (by dsimp only; decide) ?_
          dsimp only
          rw [er]
          by_cases hk2 : r = (x - st).toNat
          · refine dp_ck (by omega) (dp_no (by decide) (dp_sm ?_))
            show (j : Int) = _
            rw [hn, key, if_pos (hw.mpr (fun i q => hi i (by omega)))]
          · have hb := hT.2 (st + r) (by omega) (by omega)
            have ec : dz_c (dz_0 114 30 (j : Int) + r) = dz_0 114 30 j + r := dc_ir (by omega) (by omega)
            have hch := mn_l ⟨(dz_0 114 30 (j : Int) + r).toNat, by omega⟩
            dsimp only at hch
            rw [show (((dz_0 114 30 (j : Int) + r).toNat : Nat) : Int) = dz_0 114 30 j + r by omega] at hch
            rw [ec]
            refine dp_no (by omega) (dp_bi (dp_eq (bt_eq hT hm (by omega)) (dp_ck (by omega) ?_)))
            rw [if_pos (show st + (r : Int) < T 1 0 by omega), dc_ir (x := T 0 (st + r) % 256) (by omega) (by omega), dc_ir (x := dz_0 114 31 (dz_0 114 30 j + r)) (by omega) (by omega)]
            refine dp_br (fun q => dp_sm ⟨0, by omega, Or.inr ⟨⟨(r : Int) + 1, rfl⟩, fun h => ?_⟩⟩) (fun q => dp_sm ⟨k2 - 1, by omega, Or.inl ⟨r + 1, by omega, rfl, by omega, fun i hi' => ?_⟩⟩)
            · have := hw.mp h r (by omega)
              omega
            · by_cases e : i = r
              · rw [e]; omega
              · exact hi i (by omega)
        · refine dp_ck (by dsimp only; decide) (dp_ck (by dsimp only; decide) (dp_sm ⟨n', by omega, j + 1, by omega, by omega, ?_⟩))
          rw [hn, key, if_neg hne]
      · refine dp_ck hl (dp_sm (no 0 (fun h => hl ?_)))
        have := congrArg List.length h
        unfold so_wd so_mn at this
        rw [List.length_map, List.length_map, List.length_range, List.length_range] at this
        omega
  · rw [if_neg h28]
    refine dp_lp (fun _ q => q = 0) ?_ 5000 0 0 (by omega) rfl
    rintro _ _ rfl
    rw [oz_s]
    exact dp_no (by decide) (dp_ck h28 (dp_sm rfl))
theorem nr_cls (hT : so_tp T) (hZ : Z 2 = T) (h6 : Z 1 6 0 = e) (h7 : Z 1 7 0 = st) (hs : 0 ≤ st ∧ st ≤ e ∧ e ≤ T 1 0) : jf_R_numberRead Z = some (so_nm T st (e - st).toNat) := by
  have hL := hT.1
  have e1 : dz_c e = e := dc_ir (by omega) (by omega)
  apply dp_is
  unfold jf_R_numberRead
  rw [h6, h7, hZ, e1]
  refine dp_lp (fun n q => ∃ r : Nat, (r : Int) + n = e - st ∧ q = (so_nm T st r, st + (r : Int))) ?_ 5000 (e - st).toNat (0, st) (by omega) ⟨0, by omega, by rw [show st + ((0 : Nat) : Int) = st by omega]; rfl⟩
  rintro n _ ⟨r, hr, rfl⟩
  have er : dz_c (st + (r : Int)) = st + r := dc_ir (by omega) (by omega)
  dsimp only
  rw [er]
  by_cases hk : (r : Int) = e - st
  · refine dp_ck (by omega) (dp_sm ?_)
    rw [show (e - st).toNat = r by omega]
    rfl
  · refine dp_no (by omega) (dp_ck (by omega) (dp_sm ⟨n - 1, by omega, r + 1, by omega, ?_⟩))
    show (_, _) = (so_nm T st r * 10 + T 0 (st + r) - 48, st + ((r + 1 : Nat) : Int))
    rw [show st + ((r + 1 : Nat) : Int) = st + (r : Int) + 1 by omega]
end tc
end mg_63tc
section mg_64td
/-! class and reference, token by token -/
/-- the reference can look at what it stands on -/
def so_sf (T m : ob_O) : Prop := so_tm T m ∧ m 30 = dz_0 114 30 ∧ m 31 = dz_0 114 31 ∧ 0 ≤ m 27 0 ∧ m 27 0 ≤ m 26 0 ∧ m 26 0 ≤ T 1 0
/-- before the token behind a -/
def tkL (T R m : ob_O) (a : Int) : Prop := R 6 0 = a ∧ R 3 0 = 0 ∧ (∃ st e k : Int, so_ah T m a st e k) ∧ so_sf T m
/-- a fault was found -/
def tkF (T R m : ob_O) : Prop := (1 ≤ R 3 0 ∧ R 3 0 ≤ 6) ∧ (1 ≤ m 24 0 ∧ m 24 0 ≤ 6) ∧ m 25 0 = R 4 0 ∧ so_sf T m
/-- on a token -/
def tkI (T R m : ob_O) (a st e k : Int) : Prop := so_tk T a st e k ∧ so_ok k st e ∧ R 6 0 = e ∧ R 7 0 = st ∧ R 8 0 = k ∧ R 3 0 = 0 ∧ m 24 0 = 0 ∧ m 26 0 = e ∧ m 27 0 = st ∧ m 28 0 = so_mk k ∧ (k = 3 → m 29 0 = so_nm T st (e - st).toNat) ∧ so_sf T m
def kpR (R R' : ob_O) : Prop := ∀ f : Nat, (f ≤ 2 ∨ f = 5) → R' f = R f
def kpm (m m' : ob_O) : Prop := ∀ f : Nat, (f < 24 ∨ 29 < f) → m' f = m f
/-- the end of a line, in the reference -/
def so_le (q16 : dz_Z) : Option dz_Z := Option.bind (α := dz_Z) (if dz_c (q16 114 24 0) ≠ 0 then (some q16) else (if dz_c (q16 114 28 0) = 3 then (some q16) else (Option.bind (jf_M_fails 2 q16) fun q24 => some q24))) (fun (q20 : dz_Z) => Option.bind (jf_M_step q20) fun q21 => some q21)
section td
variable {Z Y : dz_Z} {p s : Nat} {R R' P S T m m' : ob_O} {a b e k i v st x lo hi w : Int}
theorem kp_i : kpm m m := fun _ _ => rfl
theorem kp_t {m'' : ob_O} (h : kpm m m') (h' : kpm m' m'') : kpm m m'' := fun f q => by rw [h' f q, h f q]
theorem kR_i : kpR R R := fun _ _ => rfl
theorem kR_t {R'' : ob_O} (h : kpR R R') (h' : kpR R' R'') : kpR R R'' := fun f q => by rw [h' f q, h f q]
theorem sf_k (h : so_sf T m) (hk : kpm m m') (h1 : 0 ≤ m' 27 0 ∧ m' 27 0 ≤ m' 26 0 ∧ m' 26 0 ≤ T 1 0) : so_sf T m' := ⟨tm_m h.1 (hk 21 (by decide)) (hk 22 (by decide)), by rw [hk 30 (by decide), h.2.1], by rw [hk 31 (by decide), h.2.2.1], h1⟩
theorem fl_cls (hI : R 7 0 = st) {K : Bool × dz_Z → Prop} (k : K (false, rk Z p s (ob_u (ob_u R 3 0 w) 4 0 st) P S)) : dz_p (jf_R_fail w (rk Z p s R P S)) K := by
  unfold jf_R_fail
  refine dp_le (dp_le (dp_sm ?_))
  simp only [rk_u1, rk_1, ou_f (show (7 : Nat) ≠ 3 by decide), hI]
  exact k
theorem fl_eq (h24 : m 24 0 = 0) : ∀ Y, jf_M_fails w (ob_z Y 114 m) = some (ob_z Y 114 (ob_u (ob_u m 24 0 w) 25 0 (m 27 0))) := by
  intro Y
  apply dp_is
  unfold jf_M_fails
  rw [oz_s, h24]
  refine dp_no (by decide) (dp_le (dp_le (dp_sm ?_)))
  simp only [oz_uz, oz_s, ou_f (show (27 : Nat) ≠ 24 by decide)]
theorem fl_b (h24 : 1 ≤ m 24 0 ∧ m 24 0 ≤ 6) : ∀ Y, jf_M_fails w (ob_z Y 114 m) = some (ob_z Y 114 m) := by
  intro Y
  unfold jf_M_fails
  rw [oz_s, dc_ir (by omega) (by omega), if_pos (by omega)]
theorem sp_b (h24 : 1 ≤ m 24 0 ∧ m 24 0 ≤ 6) : ∀ Y, jf_M_step (ob_z Y 114 m) = some (ob_z Y 114 m) := by
  intro Y
  unfold jf_M_step
  rw [oz_s, dc_ir (by omega) (by omega), if_neg (by omega)]
theorem lo_b (h24 : 1 ≤ m 24 0 ∧ m 24 0 ≤ 6) : ∀ Y, jf_M_looks lo hi (ob_z Y 114 m) = some (ob_z Y 114 m) := by
  intro Y
  unfold jf_M_looks
  rw [oz_s, dc_ir (x := m 24 0) (by omega) (by omega), if_pos (show m 24 0 ≠ 0 by omega)]
  show (if dz_c (ob_z Y 114 m 114 24 0) ≠ 0 then _ else _) = _
  rw [oz_s, dc_ir (x := m 24 0) (by omega) (by omega), if_pos (show m 24 0 ≠ 0 by omega)]
theorem nu_b (h24 : 1 ≤ m 24 0 ∧ m 24 0 ≤ 6) : ∀ Y, jf_M_number lo hi (ob_z Y 114 m) = some (lo, ob_z Y 114 m) := by
  intro Y
  unfold jf_M_number
  rw [lo_b h24, Option.bind_some, oz_s, dc_ir (x := m 24 0) (by omega) (by omega), if_pos (show m 24 0 ≠ 0 by omega), Option.bind_some, sp_b h24]
  rfl
theorem le_b (h24 : 1 ≤ m 24 0 ∧ m 24 0 ≤ 6) : ∀ Y, so_le (ob_z Y 114 m) = some (ob_z Y 114 m) := by
  intro Y
  unfold so_le
  rw [oz_s, dc_ir (x := m 24 0) (by omega) (by omega), if_pos (show m 24 0 ≠ 0 by omega), Option.bind_some, sp_b h24]
  rfl
theorem mk_b (hk : 0 ≤ k ∧ k ≤ 4) : 0 ≤ so_mk k ∧ so_mk k ≤ 3 ∧ (so_mk k = 1 ↔ k = 2) ∧ (so_mk k = 2 ↔ k = 3) ∧ (so_mk k = 0 ↔ k = 1) ∧ (k ≠ 0 → (so_mk k = 3 ↔ k = 4)) := by
  unfold so_mk
  repeat' split
  all_goals omega
theorem I_k (h : tkI T R m a st e k) : 0 ≤ k ∧ k ≤ 4 := by
  have := kd_b (T := T) (i := st)
  rw [← h.1.2.2.2.1] at this
  exact this
/-- the class takes the next token -/
theorem lk_nt (hp : p = 25 ∨ p = 4) (hs : s = 36 ∨ s = 15) (hT : so_tp T) (hZ : Z 2 = T) (hL : tkL T R m a) {K : Bool × dz_Z → Prop} (kT : ∀ (R' : ob_O) (st e k : Int), tkI T R' m a st e k → kpR R R' → K (true, rk Z p s R' P S)) (kF : ∀ R' : ob_O, tkF T R' m → (m 24 0 = 1 ∧ dz_c (m 28 0) ≠ 1) → kpR R R' → K (false, rk Z p s R' P S)) : dz_p (jf_R_nextToken (rk Z p s R P S)) K := by
  obtain ⟨h6, h3, ⟨st, e, k, ht, h27, h26, hc⟩, hsf⟩ := hL
  refine nt_cls hp hs hT hZ h6 ht (fun ho R' r6 r7 r8 rf => ?_) (fun ho R' r3 r4 rf => ?_)
  · rcases hc with q | q
    · refine kT R' st e k ⟨ht, ho, r6, r7, r8, ?_, q.2.1, q.2.2.1, h27, q.2.2.2.1, q.2.2.2.2, hsf⟩ (fun f hf => rf f (by omega) (by omega) (by omega))
      rw [rf 3 (by decide) (by decide) (by decide), h3]
    · exact absurd ho q.1
  · rcases hc with q | q
    · exact absurd q.1 ho
    · exact kF R' ⟨by omega, by omega, by rw [q.2.2.1, r4], hsf⟩ ⟨q.2.1, by rcases q.2.2.2 with h | h <;> rw [h] <;> decide⟩ (fun f hf => rf f (by omega) (by omega) (by omega) (by omega) (by omega))
/-- the reference goes on -/
theorem lk_st (hT : so_tp T) (hI : tkI T R m a st e k) : ∃ m' : ob_O, (∀ Y, jf_M_step (ob_z Y 114 m) = some (ob_z Y 114 m')) ∧ (∀ R' : ob_O, R' 6 0 = e → R' 3 0 = 0 → tkL T R' m' e) ∧ kpm m m' := by
  obtain ⟨ht, ho, r6, r7, r8, r3, m24, m26, m27, m28, m29, hsf⟩ := hI
  obtain ⟨s2, e2, k2, ht2⟩ := tk_ex (T := T) (a := e) hT (by have := ht.1; omega)
  obtain ⟨m', h1, h2, h3⟩ := st_eq hT hsf.1 m24 m26 ht2
  have hb := ht2.1
  exact ⟨m', h1, fun R' q1 q2 => ⟨q1, q2, ⟨s2, e2, k2, h2⟩, sf_k hsf h3 (by have := h2.2.1; have := h2.2.2.1; omega)⟩, h3⟩
/-- both find a fault on the token -/
theorem lk_fl (hI : tkI T R m a st e k) {w w' : Int} (hw : 1 ≤ w ∧ w ≤ 6) (hw' : 1 ≤ w' ∧ w' ≤ 6) : tkF T (ob_u (ob_u R 3 0 w) 4 0 st) (ob_u (ob_u m 24 0 w') 25 0 (m 27 0)) ∧ kpm m (ob_u (ob_u m 24 0 w') 25 0 (m 27 0)) ∧ kpR R (ob_u (ob_u R 3 0 w) 4 0 st) := by
  obtain ⟨ht, ho, r6, r7, r8, r3, m24, m26, m27, m28, m29, hsf⟩ := hI
  have hk : kpm m (ob_u (ob_u m 24 0 w') 25 0 (m 27 0)) := fun f q => by rw [ou_ff (by omega), ou_ff (by omega)]
  refine ⟨⟨?_, ?_, ?_, sf_k hsf hk ?_⟩, hk, fun f q => by rw [ou_ff (by omega), ou_ff (by omega)]⟩
  · rw [ou_f (by decide), ou_s]; exact hw
  · rw [ou_f (by decide), ou_s]; exact hw'
  · rw [ou_s, ou_s, m27]
  · rw [ou_f (by decide), ou_f (by decide), ou_f (by decide), ou_f (by decide)]; exact hsf.2.2.2
theorem nm_t (hI : tkI T R m a st e 3) : 0 ≤ so_nm T st (e - st).toNat ∧ so_nm T st (e - st).toNat ≤ 999 := by
  have h8 := hI.1.2.2.2.2.1 (Or.inr rfl)
  have ho := hI.2.1
  have := nm_b' (T := T) (st := st) (e - st).toNat (by unfold so_ok at ho; omega) (fun i x y => (kd_2 (h8.2.1 (st + i) (by omega) (by omega)) (Or.inr rfl)).2.2 rfl)
  exact ⟨this.1, this.2.1⟩
/-- the reference looks for a number and there is none fit -/
theorem lo_f (hI : tkI T R m a st e k) (c1 : dz_c lo = lo) (c2 : dz_c hi = hi) (hb : k ≠ 3 ∨ ¬(lo ≤ so_nm T st (e - st).toNat ∧ so_nm T st (e - st).toNat ≤ hi)) : ∃ w : Int, (1 ≤ w ∧ w ≤ 6) ∧ ∀ Y, jf_M_looks lo hi (ob_z Y 114 m) = some (ob_z Y 114 (ob_u (ob_u m 24 0 w) 25 0 (m 27 0))) := by
  have hk := I_k hI
  have hmk := mk_b hk
  have hI' := hI
  obtain ⟨ht, ho, r6, r7, r8, r3, m24, m26, m27, m28, m29, hsf⟩ := hI
  by_cases c : k = 3
  · refine ⟨3, by omega, fun Y => ?_⟩
    subst c
    have hnm := nm_t hI'
    unfold jf_M_looks
    rw [oz_s, m24, m28, if_neg (by decide), if_pos (by decide), Option.bind_some, oz_s, m24, if_neg (by decide), m29 rfl, c1, c2, dc_ir (x := so_nm T st (e - st).toNat) (by omega) (by omega), if_neg (by omega), fl_eq m24]
    rfl
  · refine ⟨2, by omega, fun Y => ?_⟩
    have e28 : dz_c (so_mk k) = so_mk k := dc_ir (by omega) (by omega)
    have q24 : dz_c (ob_u (ob_u m 24 0 2) 25 0 (m 27 0) 24 0) ≠ 0 := by rw [ou_f (by decide), ou_s]; decide
    unfold jf_M_looks
    rw [oz_s, m24, m28, if_neg (by decide), e28, if_neg (by omega), fl_eq m24, Option.bind_some, Option.bind_some, oz_s, if_pos q24]
theorem lo_t (hI : tkI T R m a st e 3) (c1 : dz_c lo = lo) (c2 : dz_c hi = hi) (hb : lo ≤ so_nm T st (e - st).toNat ∧ so_nm T st (e - st).toNat ≤ hi) : ∀ Y, jf_M_looks lo hi (ob_z Y 114 m) = some (ob_z Y 114 m) := by
  intro Y
  have hnm := nm_t hI
  obtain ⟨ht, ho, r6, r7, r8, r3, m24, m26, m27, m28, m29, hsf⟩ := hI
  unfold jf_M_looks
  rw [oz_s, m24, m28, if_neg (by decide), if_pos (by decide), Option.bind_some, oz_s, m24, if_neg (by decide), m29 rfl, c1, c2, dc_ir (x := so_nm T st (e - st).toNat) (by omega) (by omega), if_pos hb]
theorem nu_f (h : ∀ Y, jf_M_looks lo hi (ob_z Y 114 m) = some (ob_z Y 114 m')) (h24 : 1 ≤ m' 24 0 ∧ m' 24 0 ≤ 6) : ∀ Y, jf_M_number lo hi (ob_z Y 114 m) = some (lo, ob_z Y 114 m') := by
  intro Y
  unfold jf_M_number
  rw [h, Option.bind_some, oz_s, dc_ir (x := m' 24 0) (by omega) (by omega), if_pos (show m' 24 0 ≠ 0 by omega), Option.bind_some, sp_b h24]
  rfl
/-- a number, as the class takes it -/
theorem lk_nn (hp : p = 25 ∨ p = 4) (hs : s = 36 ∨ s = 15) (hT : so_tp T) (hZ : Z 2 = T) (hL : tkL T R m a) (c1 : dz_c lo = lo) (c2 : dz_c hi = hi) {K : Bool × dz_Z → Prop} (kT : ∀ (R' : ob_O) (st e : Int), tkI T R' m a st e 3 → R' 9 0 = so_nm T st (e - st).toNat → lo ≤ so_nm T st (e - st).toNat → so_nm T st (e - st).toNat ≤ hi → kpR R R' → K (true, rk Z p s R' P S)) (kB : ∀ R' : ob_O, tkF T R' m → (m 24 0 = 1 ∧ dz_c (m 28 0) ≠ 1) → kpR R R' → K (false, rk Z p s R' P S)) (kF : ∀ (R0 R' : ob_O) (st e k w : Int), tkI T R0 m a st e k → (k ≠ 3 ∨ ¬(lo ≤ so_nm T st (e - st).toNat ∧ so_nm T st (e - st).toNat ≤ hi)) → R' 4 0 = st → R' 3 0 = w → (1 ≤ w ∧ w ≤ 6) → kpR R R' → K (false, rk Z p s R' P S)) : dz_p (jf_R_needsNumber lo hi (rk Z p s R P S)) K := by
  unfold jf_R_needsNumber
  refine dp_bi (lk_nt hp hs hT hZ hL (fun R' st e k hI kR => ?_) (fun R' hF h1 kR => ?_))
  · have hk := I_k hI
    have r8 := hI.2.2.2.2.1
    have r7 := hI.2.2.2.1
    refine dp_ck rfl ?_
    simp only [rk_1, r8, dc_ir hk.1 (show k ≤ 2147483647 by omega)]
    by_cases c : k = 3
    · subst c
      have hnm := nm_t hI
      have hst := hI.1.1
      refine dp_ck rfl (dp_bi (dp_eq (nr_cls (e := e) (st := st) hT ((rk_2 hp hs).trans hZ) (by rw [rk_1]; exact hI.2.2.1) (by rw [rk_1]; exact r7) (by omega)) (dp_le ?_)))
      simp only [rk_u1, rk_1, ou_s, c1, c2, dc_ir hnm.1 (show so_nm T st (e - st).toNat ≤ 2147483647 by omega)]
      have out : ¬(lo ≤ so_nm T st (e - st).toNat ∧ so_nm T st (e - st).toNat ≤ hi) → K (false, rk Z p s (ob_u (ob_u (ob_u R' 9 0 (so_nm T st (e - st).toNat)) 3 0 3) 4 0 st) P S) := by
        intro hb
        exact kF R' _ st e 3 3 hI (Or.inr hb) ou_s (by rw [ou_f (by decide), ou_s]) (by omega) (fun f q => by rw [ou_ff (by omega), ou_ff (by omega), ou_ff (by omega), kR f q])
      have r79 : ob_u R' 9 0 (so_nm T st (e - st).toNat) 7 0 = st := by rw [ou_f (by decide), r7]
      refine dp_br (fun x => dp_bi (fl_cls r79 (dp_ck rfl (dp_sm (out (by omega)))))) (fun x => dp_br (fun y => dp_sm ?_) (fun y => dp_bi (fl_cls r79 (dp_ck rfl (dp_sm (out (by omega)))))))
      refine kT _ st e ?_ ou_s (by omega) y (fun f q => by rw [ou_ff (by omega), kR f q])
      obtain ⟨i1, i2, i3, i4, i5, i6, i7⟩ := hI
      exact ⟨i1, i2, by rw [ou_f (by decide)]; exact i3, by rw [ou_f (by decide)]; exact i4, by rw [ou_f (by decide)]; exact i5, by rw [ou_f (by decide)]; exact i6, i7⟩
    · exact dp_no c (dp_bi (fl_cls r7 (dp_sm (kF R' _ st e k 2 hI (Or.inl c) ou_s (by rw [ou_f (by decide), ou_s]) (by omega) (fun f q => by rw [ou_ff (by omega), ou_ff (by omega), kR f q])))))
  · refine dp_no (by intro q; cases q) (dp_sm (kB R' hF h1 kR))
/-- a number within bounds -/
theorem lk_num (hp : p = 25 ∨ p = 4) (hs : s = 36 ∨ s = 15) (hT : so_tp T) (hZ : Z 2 = T) (hL : tkL T R m a) (c1 : dz_c lo = lo) (c2 : dz_c hi = hi) {K : Bool × dz_Z → Prop} (kT : ∀ (R' m' : ob_O) (v b : Int), (∀ Y, jf_M_number lo hi (ob_z Y 114 m) = some (v, ob_z Y 114 m')) → tkL T R' m' b → a < b → R' 9 0 = v → lo ≤ v → v ≤ hi → 0 ≤ v → v ≤ 999 → kpR R R' → kpm m m' → K (true, rk Z p s R' P S)) (kF : ∀ (R' m' : ob_O) (v : Int), (∀ Y, jf_M_number lo hi (ob_z Y 114 m) = some (v, ob_z Y 114 m')) → tkF T R' m' → kpR R R' → kpm m m' → K (false, rk Z p s R' P S)) : dz_p (jf_R_needsNumber lo hi (rk Z p s R P S)) K := by
  unfold jf_R_needsNumber
  refine dp_bi (lk_nt hp hs hT hZ hL (fun R' st e k hI kR => ?_) (fun R' hF h1 kR => ?_))
  · have hk := I_k hI
    have r8 := hI.2.2.2.2.1
    have r7 := hI.2.2.2.1
    refine dp_ck rfl ?_
    simp only [rk_1, r8, dc_ir hk.1 (show k ≤ 2147483647 by omega)]
    by_cases c : k = 3
    · subst c
      have hnm := nm_t hI
      have hst := hI.1.1
      refine dp_ck rfl (dp_bi (dp_eq (nr_cls (e := e) (st := st) hT ((rk_2 hp hs).trans hZ) (by rw [rk_1]; exact hI.2.2.1) (by rw [rk_1]; exact r7) (by omega)) (dp_le ?_)))
      simp only [rk_u1, rk_1, ou_s, c1, c2, dc_ir hnm.1 (show so_nm T st (e - st).toNat ≤ 2147483647 by omega)]
      generalize hv : so_nm T st (e - st).toNat = v at hnm
      have out : ¬(lo ≤ v ∧ v ≤ hi) → K (false, rk Z p s (ob_u (ob_u (ob_u R' 9 0 v) 3 0 3) 4 0 st) P S) := by
        intro hb
        obtain ⟨w, w1, w2⟩ := lo_f hI c1 c2 (Or.inr (by rw [hv]; exact hb))
        obtain ⟨f1, f2, f3⟩ := lk_fl hI (w := 3) (by omega) w1
        refine kF _ _ lo (nu_f w2 (by rw [ou_f (by decide), ou_s]; exact w1)) ⟨?_, f1.2.1, ?_, f1.2.2.2⟩ (fun f q => by rw [ou_ff (by omega), ou_ff (by omega), ou_ff (by omega), kR f q]) f2
        · rw [ou_f (by decide), ou_s]; omega
        · rw [ou_s, ou_s, hI.2.2.2.2.2.2.2.2.1]
      have r79 : ob_u R' 9 0 v 7 0 = st := by rw [ou_f (by decide), r7]
      refine dp_br (fun x => dp_bi (fl_cls r79 (dp_ck rfl (dp_sm (out (by omega)))))) (fun x => dp_br (fun y => dp_sm ?_) (fun y => dp_bi (fl_cls r79 (dp_ck rfl (dp_sm (out (by omega)))))))
      obtain ⟨m', g1, g2, g3⟩ := lk_st hT hI
      have hL' : ∀ Y, jf_M_number lo hi (ob_z Y 114 m) = some (v, ob_z Y 114 m') := by
        intro Y
        unfold jf_M_number
        rw [lo_t hI c1 c2 (by rw [hv]; omega), Option.bind_some, oz_s, hI.2.2.2.2.2.2.1, if_neg (by decide), Option.bind_some, g1, hI.2.2.2.2.2.2.2.2.2.2.1 rfl, hv]
        rfl
      have h8 := hI.1.2.2.2.2.1 (Or.inr rfl)
      exact kT _ m' v e hL' (g2 _ (by rw [ou_f (by decide)]; exact hI.2.2.1) (by rw [ou_f (by decide)]; exact hI.2.2.2.2.2.1)) (by omega) ou_s (by omega) y hnm.1 hnm.2 (fun f q => by rw [ou_ff (by omega), kR f q]) g3
    · obtain ⟨w, w1, w2⟩ := lo_f hI c1 c2 (Or.inl c)
      obtain ⟨f1, f2, f3⟩ := lk_fl hI (w := 2) (by omega) w1
      refine dp_no c (dp_bi (fl_cls r7 (dp_sm (kF _ _ lo (nu_f w2 (by rw [ou_f (by decide), ou_s]; exact w1)) f1 (kR_t kR f3) f2))))
  · refine dp_no (by intro q; cases q) (dp_sm (kF R' m lo (nu_b (by omega)) hF kR kp_i))
/-- a name is wanted -/
theorem lk_nm (hp : p = 25 ∨ p = 4) (hs : s = 36 ∨ s = 15) (hT : so_tp T) (hZ : Z 2 = T) (hL : tkL T R m a) {K : Bool × dz_Z → Prop} (kT : ∀ (R' : ob_O) (st e : Int), tkI T R' m a st e 2 → kpR R R' → K (true, rk Z p s R' P S)) (kF : ∀ (R' m' : ob_O), dz_c (m 28 0) ≠ 1 → (∀ Y, jf_M_fails 2 (ob_z Y 114 m) = some (ob_z Y 114 m')) → tkF T R' m' → kpR R R' → kpm m m' → K (false, rk Z p s R' P S)) : dz_p (jf_R_needs 2 (rk Z p s R P S)) K := by
  unfold jf_R_needs
  refine dp_bi (lk_nt hp hs hT hZ hL (fun R' st e k hI kR => ?_) (fun R' hF h1 kR => ?_))
  · have hk := I_k hI
    have hmk := mk_b hk
    have r8 := hI.2.2.2.2.1
    refine dp_no (by intro q; cases q) ?_
    simp only [rk_1, r8, dc_ir hk.1 (show k ≤ 2147483647 by omega)]
    by_cases c : k = 2
    · subst c
      exact dp_ck rfl (dp_sm (kT R' st e hI kR))
    · obtain ⟨f1, f2, f3⟩ := lk_fl hI (w := 2) (w' := 2) (by omega) (by omega)
      refine dp_no (show ¬ k = 2 from c) (dp_bi (fl_cls hI.2.2.2.1 (dp_ck rfl (dp_sm (kF _ _ ?_ (fl_eq hI.2.2.2.2.2.2.1) f1 (kR_t kR f3) f2)))))
      rw [hI.2.2.2.2.2.2.2.2.2.1, dc_ir (by omega) (by omega)]
      omega
  · exact dp_ck rfl (dp_sm (kF R' m h1.2 (fl_b (by omega)) hF kR kp_i))
theorem tm_24 (hT : so_tp T) (hs : so_sf T m) (h : tkI T R m a st e k) : dz_c (m 28 0) = so_mk k := by
  have hk := I_k h
  have hmk := mk_b hk
  rw [h.2.2.2.2.2.2.2.2.2.1, dc_ir (by omega) (by omega)]
/-- the sign at the end of a line -/
theorem lk_se (hp : p = 25 ∨ p = 4) (hs : s = 36 ∨ s = 15) (hT : so_tp T) (hZ : Z 2 = T) (hL : tkL T R m a) {K : Bool × dz_Z → Prop} (kT : ∀ (R' m' : ob_O) (b : Int), (∀ Y, so_le (ob_z Y 114 m) = some (ob_z Y 114 m')) → tkL T R' m' b → a < b → kpR R R' → kpm m m' → K (true, rk Z p s R' P S)) (kF : ∀ (R' m' : ob_O), (∀ Y, so_le (ob_z Y 114 m) = some (ob_z Y 114 m')) → tkF T R' m' → kpR R R' → kpm m m' → K (false, rk Z p s R' P S)) : dz_p (jf_R_needs 4 (rk Z p s R P S)) K := by
  unfold jf_R_needs
  refine dp_bi (lk_nt hp hs hT hZ hL (fun R' st e k hI kR => ?_) (fun R' hF h1 kR => ?_))
  · have hk := I_k hI
    have hmk := mk_b hk
    have r8 := hI.2.2.2.2.1
    have m24 := hI.2.2.2.2.2.2.1
    have e28 := tm_24 hT hI.2.2.2.2.2.2.2.2.2.2.2 hI
    refine dp_no (by intro q; cases q) ?_
    simp only [rk_1, r8, dc_ir hk.1 (show k ≤ 2147483647 by omega)]
    by_cases c : k = 4
    · obtain ⟨m', g1, g2, g3⟩ := lk_st hT hI
      have h9 := hI.1.2.2.2.2.2.1 c
      have hst := hI.1.1
      refine dp_ck c (dp_sm (kT R' m' e (fun Y => ?_) (g2 R' hI.2.2.1 hI.2.2.2.2.2.1) (by omega) kR g3))
      unfold so_le
      rw [oz_s, m24, e28, if_neg (by decide), if_pos (by rw [c]; decide), Option.bind_some, g1]
      rfl
    · obtain ⟨f1, f2, f3⟩ := lk_fl hI (w := 2) (w' := 2) (by omega) (by omega)
      refine dp_no (show ¬ k = 4 from c) (dp_bi (fl_cls hI.2.2.2.1 (dp_ck rfl (dp_sm (kF _ _ (fun Y => ?_) f1 (kR_t kR f3) f2)))))
      have ho := hI.2.1.1
      unfold so_le
      rw [oz_s, m24, e28, if_neg (by decide), if_neg (by have := hmk.2.2.2.2.2 ho; omega), fl_eq m24, Option.bind_some, Option.bind_some, sp_b f1.2.1]
      rfl
  · exact dp_ck rfl (dp_sm (kF R' m (le_b (by omega)) hF kR kp_i))
end td
end mg_64td
section mg_65te
/-! ways and cups -/
def kq (m m' : ob_O) : Prop := ∀ f : Nat, (f = 21 ∨ f = 22 ∨ (24 ≤ f ∧ f ≤ 31)) → m' f = m f
/-- all but the highest gutter, the highest spout and the place -/
def kw (m m' : ob_O) : Prop := ∀ f : Nat, (f < 18 ∨ (19 < f ∧ f < 24) ∨ 29 < f) → m' f = m f
section te
variable {Z Y : dz_Z} {p s : Nat} {R R' P S T m m' m1 m2 m3 m4 : ob_O} {a b e k i v st x lo hi w g N : Int}
theorem kq_u {f : Nat} {j v : Int} (h : f < 21 ∨ f = 23 ∨ 31 < f) : kq m (ob_u m f j v) := fun f' q => by rw [ou_ff (by omega)]
theorem sf_q (h : so_sf T m) (hk : kq m m') : so_sf T m' := ⟨tm_m h.1 (hk 21 (by decide)) (hk 22 (by decide)), by rw [hk 30 (by decide), h.2.1], by rw [hk 31 (by decide), h.2.2.1], by rw [hk 26 (by decide), hk 27 (by decide)]; exact h.2.2.2⟩
theorem tL_m (h : tkL T R m a) (hk : kq m m') : tkL T R m' a := by
  obtain ⟨h1, h2, ⟨st, e, k, q1, q2, q3, q4⟩, h4⟩ := h
  refine ⟨h1, h2, ⟨st, e, k, q1, ?_⟩, sf_q h4 hk⟩
  rw [hk 24 (by decide), hk 25 (by decide), hk 26 (by decide), hk 27 (by decide), hk 28 (by decide), hk 29 (by decide)]
  exact ⟨q2, q3, q4⟩
theorem tI_m (h : tkI T R m a st e k) (hk : kq m m') : tkI T R m' a st e k := by
  obtain ⟨ht, ho, r6, r7, r8, r3, m24, m26, m27, m28, m29, hsf⟩ := h
  refine ⟨ht, ho, r6, r7, r8, r3, ?_⟩
  rw [hk 24 (by decide), hk 26 (by decide), hk 27 (by decide), hk 28 (by decide), hk 29 (by decide)]
  exact ⟨m24, m26, m27, m28, m29, sf_q hsf hk⟩
theorem tF_m (h : tkF T R m) (hk : kq m m') : tkF T R m' := by
  obtain ⟨h1, h2, h3, h4⟩ := h
  refine ⟨h1, ?_⟩
  rw [hk 24 (by decide), hk 25 (by decide)]
  exact ⟨h2, h3, sf_q h4 hk⟩
theorem tL_R (h : tkL T R m a) (h6 : R' 6 0 = R 6 0) (h3 : R' 3 0 = R 3 0) : tkL T R' m a := ⟨by rw [h6]; exact h.1, by rw [h3]; exact h.2.1, h.2.2⟩
theorem tF_R (h : tkF T R m) (h4 : R' 4 0 = R 4 0) (h3 : R' 3 0 = R 3 0) : tkF T R' m := ⟨by rw [h3]; exact h.1, h.2.1, by rw [h4]; exact h.2.2.1, h.2.2.2⟩
theorem kw_k (h : kpm m m') : kw m m' := fun f q => h f (by omega)
theorem kw_t {m'' : ob_O} (h : kw m m') (h' : kw m' m'') : kw m m'' := fun f q => by rw [h' f q, h f q]
theorem if_some {α : Type} {c : Prop} [Decidable c] {a b : α} : (if c then some a else some b) = some (if c then a else b) := by split <;> rfl
theorem I_nh (hT : so_tp T) (h : tkI T R m a st e 2) : ∀ Y, jf_M_nameHere (ob_z Y 114 m) = some (so_ni (so_wd T st e) 15) := by
  intro Y
  obtain ⟨ht, ho, r6, r7, r8, r3, m24, m26, m27, m28, m29, hsf⟩ := h
  rw [nh_eq hT hsf.1 m27 m26 (by have := ht.1; omega) hsf.2.1 hsf.2.2.1, m28, if_pos (by decide)]
theorem n_nh (hT : so_tp T) (hs : so_sf T m) (h : dz_c (m 28 0) ≠ 1) : ∀ Y, jf_M_nameHere (ob_z Y 114 m) = some (-4) := by
  intro Y
  rw [nh_eq hT hs.1 rfl rfl (by have := hs.2.2.2; omega) hs.2.1 hs.2.2.1, if_neg h]
theorem I_in {c : Nat} (hp : p = 25 ∨ p = 4) (hs : s = 36 ∨ s = 15) (hT : so_tp T) (hZ : Z 2 = T) (h : tkI T R m a st e k) (hc : c < 15) : jf_R_isNamed c (rk Z p s R P S) = some (decide (so_ni (so_wd T st e) 15 = (so_sg c : Int))) := in_cls hT ((rk_2 hp hs).trans hZ) (by rw [rk_1]; exact h.2.2.1) (by rw [rk_1]; exact h.2.2.2.1) (by have := h.1.1; omega) hc
theorem wy_7 (hn : ∀ Y, jf_M_nameHere (ob_z Y 114 m) = some 7) (hs : ∀ Y, jf_M_step (ob_z Y 114 m) = some (ob_z Y 114 m1)) (hl : ∀ Y, jf_M_looks 0 4 (ob_z Y 114 m1) = some (ob_z Y 114 m2)) (hf : ∀ Y, (if dz_c (m2 24 0) ≠ 0 then (some (ob_z Y 114 m2)) else (if dz_c g < dz_c (m2 29 0) then (some (ob_z Y 114 m2)) else (Option.bind (jf_M_fails 3 (ob_z Y 114 m2)) fun q32 => some q32))) = some (ob_z Y 114 m3)) (hv : v = if dz_c (m3 24 0) ≠ 0 then 0 else m3 29 0) (hx : x = if dz_c v ≤ dz_c (m3 18 0) then m3 18 0 else v) (hs2 : ∀ Y, jf_M_step (ob_z Y 114 (ob_u m3 18 0 x)) = some (ob_z Y 114 m4)) : ∀ Y, jf_M_readWay g (ob_z Y 114 m) = some (v, ob_z Y 114 m4) := by
  intro Y
  unfold jf_M_readWay
  rw [hn, Option.bind_some, if_neg (by decide), hs, Option.bind_some, hl, Option.bind_some, oz_s, hf, Option.bind_some, oz_s, if_some, ← hv, Option.bind_some, if_some, ← hx, Option.bind_some]
  show (Option.bind (jf_M_step (dz_u (ob_z Y 114 m3) 114 18 0 x)) fun q27 => some (v, q27)) = _
  rw [oz_uz, hs2]
  rfl
theorem wy_2 (hn : ∀ Y, jf_M_nameHere (ob_z Y 114 m) = some 2) (hs : ∀ Y, jf_M_step (ob_z Y 114 m) = some (ob_z Y 114 m1)) (hl : ∀ Y, jf_M_number 0 7 (ob_z Y 114 m1) = some (v, ob_z Y 114 m2)) (hx : x = if dz_c v ≤ dz_c (m2 19 0) then m2 19 0 else v) : ∀ Y, jf_M_readWay g (ob_z Y 114 m) = some (10 + v, ob_z Y 114 (ob_u m2 19 0 x)) := by
  intro Y
  unfold jf_M_readWay
  rw [hn, Option.bind_some, if_pos (by decide), if_neg (by decide), hs, Option.bind_some, hl, Option.bind_some]
  show (Option.bind (α := Int) (if dz_c v ≤ dz_c (ob_z Y 114 m2 114 19 0) then (some (ob_z Y 114 m2 114 19 0)) else (some v)) (fun (q13 : Int) => dz_a (dz_u (ob_z Y 114 m2) 114 19 0 q13) fun Z14 => some (10 + v, Z14))) = _
  rw [oz_s, if_some, ← hx, Option.bind_some, oz_uz]
  rfl
theorem wy_8 (hn : ∀ Y, jf_M_nameHere (ob_z Y 114 m) = some 8) (hs : ∀ Y, jf_M_step (ob_z Y 114 m) = some (ob_z Y 114 m1)) : ∀ Y, jf_M_readWay g (ob_z Y 114 m) = some (20, ob_z Y 114 m1) := by
  intro Y
  unfold jf_M_readWay
  rw [hn, Option.bind_some, if_pos (by decide), if_pos (by decide), if_pos (by decide), Option.bind_some, hs]
  rfl
theorem wy_f (hn : ∀ Y, jf_M_nameHere (ob_z Y 114 m) = some N) (hN : -4 ≤ N ∧ N ≤ 14 ∧ N ≠ 7 ∧ N ≠ 2 ∧ N ≠ 8) (hf : ∀ Y, jf_M_fails 2 (ob_z Y 114 m) = some (ob_z Y 114 m1)) (h24 : 1 ≤ m1 24 0 ∧ m1 24 0 ≤ 6) : ∀ Y, jf_M_readWay g (ob_z Y 114 m) = some (20, ob_z Y 114 m1) := by
  intro Y
  have eN : dz_c N = N := dz_ci (by omega) (by omega)
  unfold jf_M_readWay
  rw [hn, Option.bind_some, eN, if_pos hN.2.2.1, if_pos hN.2.2.2.1, if_neg hN.2.2.2.2, hf, Option.bind_some, Option.bind_some, sp_b h24]
  rfl
/-- a way -/
theorem lk_way (hp : p = 25 ∨ p = 4) (hs : s = 36 ∨ s = 15) (hT : so_tp T) (hZ : Z 2 = T) (hL : tkL T R m a) (hg : 0 ≤ g ∧ g < 5) (h18 : -1 ≤ m 18 0 ∧ m 18 0 ≤ 4) (h19 : -1 ≤ m 19 0 ∧ m 19 0 ≤ 7) {K : Bool × dz_Z → Prop} (kT : ∀ (R' m' : ob_O) (v b : Int), (∀ Y, jf_M_readWay g (ob_z Y 114 m) = some (v, ob_z Y 114 m')) → tkL T R' m' b → a < b → R' 9 0 = v → so_way v → kpR R R' → kw m m' → m' 18 0 = (if v < 5 ∧ m 18 0 < v then v else m 18 0) → m' 19 0 = (if 10 ≤ v ∧ v < 18 ∧ m 19 0 < v - 10 then v - 10 else m 19 0) → K (true, rk Z p s R' P S)) (kF : ∀ (R' m' : ob_O) (v : Int), (∀ Y, jf_M_readWay g (ob_z Y 114 m) = some (v, ob_z Y 114 m')) → tkF T R' m' → kpR R R' → kw m m' → K (false, rk Z p s R' P S)) : dz_p (jf_R_readWay g (rk Z p s R P S)) K := by
  unfold jf_R_readWay
  refine dp_bi (lk_nm hp hs hT hZ hL (fun R1 st e hI kR => ?_) (fun R1 m1 h28 hfl hF kR km => ?_))
  · have hnh := I_nh hT hI
    have h8 := hI.1.2.2.2.2.1 (Or.inl rfl)
    have hst := hI.1.1
    refine dp_ck rfl (dp_bi (dp_eq (I_in hp hs hT hZ hI (by decide)) ?_))
    dsimp only
    have i3 := I_in (P := P) (S := S) (c := 3) hp hs hT hZ hI (by decide)
    have i4 := I_in (P := P) (S := S) (c := 4) hp hs hT hZ hI (by decide)
    have hb := ni_b (w := so_wd T st e)
    generalize so_ni (so_wd T st e) 15 = N at *
    rw [show ((so_sg 2 : Nat) : Int) = 7 by decide]
    rw [show ((so_sg 3 : Nat) : Int) = 2 by decide] at i3
    rw [show ((so_sg 4 : Nat) : Int) = 8 by decide] at i4
    obtain ⟨m1, s1, s2, s3⟩ := lk_st hT hI
    have hL1 := s2 R1 hI.2.2.1 hI.2.2.2.2.2.1
    have e18 : dz_c (m 18 0) = m 18 0 := dz_ci (by omega) (by omega)
    have e19 : dz_c (m 19 0) = m 19 0 := dz_ci (by omega) (by omega)
    by_cases c7 : N = 7
    · subst c7
      refine dp_no (by decide) ?_
      refine dp_bi (lk_nn hp hs hT hZ hL1 (dz_ci (by omega) (by omega)) (by decide) (fun R2 st2 e2 hI2 h9 hlo hhi kR2 => dp_sm ?_) (fun R2 hF h1 kR2 => dp_sm ?_) (fun R0 R2 st2 e2 k2 w hI2 hbad h4 h3 hw kR2 => dp_sm ?_))
      · -- it is there
        have hnm := nm_t hI2
        generalize hv : so_nm T st2 (e2 - st2).toNat = v at *
        have m24 := hI2.2.2.2.2.2.2.1
        have m29 := hI2.2.2.2.2.2.2.2.2.2.2.1 rfl
        rw [hv] at m29
        have ev : dz_c v = v := dz_ci (by omega) (by omega)
        have q18 : m1 18 = m 18 := s3 18 (by decide)
        have q19 : m1 19 = m 19 := s3 19 (by decide)
        obtain ⟨m4, t1, t2, t3⟩ := lk_st hT (tI_m hI2 (kq_u (f := 18) (j := 0) (v := if v ≤ m 18 0 then m 18 0 else v) (by decide)))
        have h82 := hI2.1.2.2.2.2.1 (Or.inr rfl)
        have hst2 := hI2.1.1
        refine kT R2 m4 v e2 (wy_7 hnh s1 (lo_t hI2 (by decide) (by decide) (by rw [hv]; omega)) (m3 := m1) (fun Y => ?_) ?_ (x := if v ≤ m 18 0 then m 18 0 else v) ?_ t1) (t2 R2 hI2.2.2.1 hI2.2.2.2.2.2.1) (by omega) h9 (Or.inl (by omega)) (kR_t kR kR2) (kw_t (kw_k s3) (kw_t (fun f q => by rw [ou_ff (by omega)]) (kw_k t3))) ?_ ?_
        · rw [m24, m29, ev, dz_ci (x := g) (by omega) (by omega), if_neg (by decide), if_pos (by omega)]
        · rw [m24, m29, if_neg (by decide)]
        · rw [ev, q18, e18]
        · rw [t3 18 (by decide), ou_s]
          by_cases c : v ≤ m 18 0
          · rw [if_pos c, if_neg (by omega)]
          · rw [if_neg c, if_pos (by omega)]
        · rw [t3 19 (by decide), ou_f (by decide), q19, if_neg (by omega)]
      · have hq := hF.2.1
        have hF' := tF_m hF (kq_u (m := m1) (f := 18) (j := 0) (v := if dz_c 0 ≤ dz_c (m1 18 0) then m1 18 0 else 0) (by decide))
        refine kF R2 _ 0 (wy_7 hnh s1 (lo_b hq) (m3 := m1) (fun Y => ?_) ?_ (x := if dz_c 0 ≤ dz_c (m1 18 0) then m1 18 0 else 0) rfl (sp_b hF'.2.1)) hF' (kR_t kR kR2) (kw_t (kw_k s3) (fun f q => by rw [ou_ff (by omega)]))
        · rw [dc_ir (x := m1 24 0) (by omega) (by omega), if_pos (by omega)]
        · rw [dc_ir (x := m1 24 0) (by omega) (by omega), if_pos (by omega)]
      · -- a fault
        have m27 := hI2.2.2.2.2.2.2.2.2.1
        have m24 := hI2.2.2.2.2.2.2.1
        obtain ⟨m3, wl, wl2, hm3, hlo3⟩ : ∃ (m3 : ob_O) (wl : Int), (1 ≤ wl ∧ wl ≤ 6) ∧ m3 = ob_u (ob_u m1 24 0 wl) 25 0 (m1 27 0) ∧ ∃ m2 : ob_O, (∀ Y, jf_M_looks 0 4 (ob_z Y 114 m1) = some (ob_z Y 114 m2)) ∧ (∀ Y, (if dz_c (m2 24 0) ≠ 0 then (some (ob_z Y 114 m2)) else (if dz_c g < dz_c (m2 29 0) then (some (ob_z Y 114 m2)) else (Option.bind (jf_M_fails 3 (ob_z Y 114 m2)) fun q32 => some q32))) = some (ob_z Y 114 m3)) := by
          by_cases c : k2 ≠ 3 ∨ ¬(0 ≤ so_nm T st2 (e2 - st2).toNat ∧ so_nm T st2 (e2 - st2).toNat ≤ 4)
          · obtain ⟨wl, w1, w2⟩ := lo_f hI2 (by decide) (by decide) c
            refine ⟨_, wl, w1, rfl, _, w2, fun Y => ?_⟩
            rw [if_pos (by rw [ou_f (by decide), ou_s, dc_ir (by omega) (by omega)]; omega)]
          · have ck : k2 = 3 := by omega
            subst ck
            have hnm := nm_t hI2
            have m29 := hI2.2.2.2.2.2.2.2.2.2.2.1 rfl
            refine ⟨_, 3, by omega, rfl, m1, lo_t hI2 (by decide) (by decide) (by omega), fun Y => ?_⟩
            rw [m24, m29, if_neg (by decide), dz_ci (x := g) (by omega) (by omega), dc_ir (x := so_nm T st2 (e2 - st2).toNat) (by omega) (by omega), if_neg (by omega), fl_eq m24]
            rfl
        obtain ⟨m2, hl2, hf2⟩ := hlo3
        have q24 : m3 24 0 = wl := by rw [hm3, ou_f (by decide), ou_s]
        have hk3 : kpm m1 m3 := fun f q => by rw [hm3, ou_ff (by omega), ou_ff (by omega)]
        have hF3 : tkF T R2 m3 := by
          refine ⟨by rw [h3]; exact hw, by rw [q24]; exact wl2, ?_, sf_k hI2.2.2.2.2.2.2.2.2.2.2.2 hk3 ?_⟩
          · rw [hm3, ou_s, h4, m27]
          · rw [hm3, ou_f (by decide), ou_f (by decide), ou_f (by decide), ou_f (by decide)]; exact hI2.2.2.2.2.2.2.2.2.2.2.2.2.2.2
        have hF' := tF_m hF3 (kq_u (m := m3) (f := 18) (j := 0) (v := if dz_c 0 ≤ dz_c (m3 18 0) then m3 18 0 else 0) (by decide))
        refine kF R2 _ 0 (wy_7 hnh s1 hl2 hf2 ?_ (x := if dz_c 0 ≤ dz_c (m3 18 0) then m3 18 0 else 0) rfl (sp_b hF'.2.1)) hF' (kR_t kR kR2) (kw_t (kw_k s3) (kw_t (kw_k hk3) (fun f q => by rw [ou_ff (by omega)])))
        rw [q24, dc_ir (x := wl) (by omega) (by omega), if_pos (by omega)]
    · rw [decide_eq_false c7]
      refine dp_ck rfl (dp_bi (dp_eq i3 ?_))
      by_cases c2 : N = 2
      · subst c2
        refine dp_no (by decide) (dp_bi (lk_num hp hs hT hZ hL1 (by decide) (by decide) (fun R2 m2 v b hnu hL2 hab h9 hlo hhi _ _ kR2 km => dp_le (dp_sm ?_)) (fun R2 m2 v hnu hF kR2 km => dp_le (dp_sm ?_))))
        · simp only [rk_1, rk_u1, h9]
          have q19 : m2 19 = m 19 := by rw [km 19 (by decide), s3 19 (by decide)]
          have q18 : m2 18 = m 18 := by rw [km 18 (by decide), s3 18 (by decide)]
          have ev : dz_c v = v := dz_ci (by omega) (by omega)
          refine kT _ _ (10 + v) b (wy_2 hnh s1 hnu rfl) (tL_m (tL_R hL2 (by rw [ou_f (by decide)]) (by rw [ou_f (by decide)])) (kq_u (by decide))) (by omega) ?_ (Or.inr (Or.inl (by omega))) (fun f q => by rw [ou_ff (by omega), kR2 f q, kR f q]) (kw_t (kw_k s3) (kw_t (kw_k km) (fun f q => by rw [ou_ff (by omega)]))) ?_ ?_
          · rw [ou_s]; omega
          · rw [ou_f (by decide), q18, if_neg (by omega)]
          · rw [ou_s, q19, ev, e19]
            by_cases c : v ≤ m 19 0
            · rw [if_pos c, if_neg (by omega)]
            · rw [if_neg c, if_pos (by omega)]; omega
        · simp only [rk_1, rk_u1]
          exact kF _ _ (10 + v) (wy_2 hnh s1 hnu rfl) (tF_m (tF_R hF (by rw [ou_f (by decide)]) (by rw [ou_f (by decide)])) (kq_u (by decide))) (fun f q => by rw [ou_ff (by omega), kR2 f q, kR f q]) (kw_t (kw_k s3) (kw_t (kw_k km) (fun f q => by rw [ou_ff (by omega)])))
      · rw [decide_eq_false c2]
        refine dp_ck rfl (dp_bi (dp_eq i4 ?_))
        by_cases c8 : N = 8
        · subst c8
          refine dp_no (by decide) (dp_le (dp_sm ?_))
          simp only [rk_u1]
          refine kT _ m1 20 e (wy_8 hnh s1) (tL_R hL1 (by rw [ou_f (by decide)]) (by rw [ou_f (by decide)])) (by omega) ou_s (Or.inr (Or.inr rfl)) (fun f q => by rw [ou_ff (by omega), kR f q]) (kw_k s3) ?_ ?_
          · rw [s3 18 (by decide), if_neg (by omega)]
          · rw [s3 19 (by decide), if_neg (by omega)]
        · rw [decide_eq_false c8]
          obtain ⟨f1, f2, f3⟩ := lk_fl hI (w := 2) (w' := 2) (by omega) (by omega)
          exact dp_ck rfl (dp_bi (fl_cls hI.2.2.2.1 (dp_sm (kF _ _ 20 (wy_f hnh ⟨by omega, by omega, c7, c2, c8⟩ (fl_eq hI.2.2.2.2.2.2.1) f1.2.1) f1 (kR_t kR f3) (kw_k f2)))))
  · exact dp_no (by intro q; cases q) (dp_sm (kF R1 m1 20 (wy_f (n_nh hT hL.2.2.2 h28) (by decide) hfl hF.2.1) hF kR (kw_k km)))
end te
end mg_65te
section mg_66tf
/-! cups -/
def ke (m m' : ob_O) : Prop := ∀ f : Nat, (f < 11 ∨ (20 < f ∧ f < 24) ∨ 29 < f) → m' f = m f
/-- what a cup leaves -/
def so_cu (P S m P' S' m' : ob_O) (i : Int) : Prop := (∀ f : Nat, f ≠ 8 → f ≠ 9 → P' f = P f) ∧ (∀ j : Int, j ≠ i → P' 8 j = P 8 j ∧ P' 9 j = P 9 j) ∧ (∀ f : Nat, f ≠ 2 → S' f = S f) ∧ (∀ j : Int, j ≠ i → S' 2 j = S 2 j) ∧ (0 ≤ S' 2 i ∧ S' 2 i ≤ 5) ∧ m' 11 (10 + i) = S' 2 i ∧ ((S' 2 i ≠ 0 ∧ S' 2 i ≠ 5) → m' 11 (18 + i) = P' 8 i ∧ 1 ≤ P' 8 i ∧ P' 8 i ≤ 30) ∧ ((S' 2 i = 0 ∨ S' 2 i = 5) → m' 11 (18 + i) = m 11 (18 + i)) ∧ (S' 2 i = 4 → m' 11 (26 + i) = P' 9 i ∧ (0 ≤ P' 9 i ∧ P' 9 i < 8) ∧ m' 19 0 = if m 19 0 < P' 9 i then P' 9 i else m 19 0) ∧ (S' 2 i ≠ 4 → m' 11 (26 + i) = -4 ∧ m' 19 0 = m 19 0) ∧ (∀ j : Int, j ≠ 10 + i → j ≠ 18 + i → j ≠ 26 + i → m' 11 j = m 11 j) ∧ (∀ f : Nat, (f < 11 ∨ (11 < f ∧ f < 19) ∨ (19 < f ∧ f < 24) ∨ 29 < f) → m' f = m f)
section tf
variable {Z Y : dz_Z} {p s : Nat} {R R' P S T m m' m1 m2 m3 m4 m5 : ob_O} {a b e k i v st x lo hi w g N kd q20 : Int}
theorem ke_k (h : kpm m m') : ke m m' := fun f q => h f (by omega)
theorem ke_w (h : kw m m') : ke m m' := fun f q => h f (by omega)
theorem ke_t {m'' : ob_O} (h : ke m m') (h' : ke m' m'') : ke m m'' := fun f q => by rw [h' f q, h f q]
theorem ke_u {f : Nat} {j v : Int} (h : 11 ≤ f ∧ f ≤ 20) : ke m (ob_u m f j v) := fun f' q => by rw [ou_ff (by omega)]
theorem nk_cls (hp : p = 25 ∨ p = 4) (hs : s = 36 ∨ s = 15) (hT : so_tp T) (hZ : Z 2 = T) (h : tkI T R m a st e k) : jf_R_namedKind (rk Z p s R P S) = some (if 9 ≤ so_ni (so_wd T st e) 15 then so_ni (so_wd T st e) 15 - 9 else -4) := by
  have hb := ni_b (w := so_wd T st e)
  unfold jf_R_namedKind
  rw [I_in hp hs hT hZ h (by decide), I_in hp hs hT hZ h (by decide), I_in hp hs hT hZ h (by decide), I_in hp hs hT hZ h (by decide), I_in hp hs hT hZ h (by decide), I_in hp hs hT hZ h (by decide)]
  rw [show ((so_sg 5 : Nat) : Int) = 9 by decide, show ((so_sg 6 : Nat) : Int) = 10 by decide, show ((so_sg 7 : Nat) : Int) = 11 by decide, show ((so_sg 8 : Nat) : Int) = 12 by decide, show ((so_sg 9 : Nat) : Int) = 13 by decide, show ((so_sg 10 : Nat) : Int) = 14 by decide]
  generalize so_ni (so_wd T st e) 15 = N at *
  by_cases c : 9 ≤ N
  · rw [if_pos c]
    have : N = 9 ∨ N = 10 ∨ N = 11 ∨ N = 12 ∨ N = 13 ∨ N = 14 := by omega
    rcases this with rfl | rfl | rfl | rfl | rfl | rfl <;> rfl
  · rw [if_neg c, decide_eq_false (show ¬ N = 9 by omega), decide_eq_false (show ¬ N = 10 by omega), decide_eq_false (show ¬ N = 11 by omega), decide_eq_false (show ¬ N = 12 by omega), decide_eq_false (show ¬ N = 13 by omega), decide_eq_false (show ¬ N = 14 by omega)]
    rfl
theorem cu_f (hn : ∀ Y, jf_M_nameHere (ob_z Y 114 m) = some N) (hN : -4 ≤ N ∧ N < 9) (hf : ∀ Y, jf_M_fails 2 (ob_z Y 114 m) = some (ob_z Y 114 m1)) : ∀ Y, jf_M_readCup i (ob_z Y 114 m) = some (ob_z Y 114 m1) := by
  intro Y
  unfold jf_M_readCup
  rw [hn, Option.bind_some, dz_ci (x := N - 9) (by omega) (by omega), if_neg (by omega), hf]
  rfl
theorem cu_0 (hn : ∀ Y, jf_M_nameHere (ob_z Y 114 m) = some (kd + 9)) (hk : kd = 0 ∨ kd = 5) (hi : 0 ≤ i ∧ i < 8) (hs : ∀ Y, jf_M_step (ob_z Y 114 m) = some (ob_z Y 114 m1)) : ∀ Y, jf_M_readCup i (ob_z Y 114 m) = some (ob_z Y 114 (ob_u (ob_u m1 11 (10 + i) kd) 11 (26 + i) (-4))) := by
  intro Y
  have e1 : kd + 9 - 9 = kd := by omega
  unfold jf_M_readCup
  rw [hn, Option.bind_some, e1, dz_ci (x := kd) (by omega) (by omega), dz_ci (x := 10 + i) (by omega) (by omega), dz_ci (x := 26 + i) (by omega) (by omega), dz_ci (x := 18 + i) (by omega) (by omega), if_pos (by omega), hs, Option.bind_some, if_pos (by omega)]
  simp only [dz_a, oz_uz]
  rw [if_pos (by omega), if_pos (by omega), Option.bind_some, if_pos (by omega)]
theorem cu_1 (hn : ∀ Y, jf_M_nameHere (ob_z Y 114 m) = some (kd + 9)) (hk : 1 ≤ kd ∧ kd ≤ 3) (hi : 0 ≤ i ∧ i < 8) (hs : ∀ Y, jf_M_step (ob_z Y 114 m) = some (ob_z Y 114 m1)) (h2 : ∀ Y, jf_M_number 1 30 (ob_z Y 114 (ob_u (ob_u m1 11 (10 + i) kd) 11 (26 + i) (-4))) = some (v, ob_z Y 114 m2)) : ∀ Y, jf_M_readCup i (ob_z Y 114 m) = some (ob_z Y 114 (ob_u m2 11 (18 + i) v)) := by
  intro Y
  have e1 : kd + 9 - 9 = kd := by omega
  unfold jf_M_readCup
  rw [hn, Option.bind_some, e1, dz_ci (x := kd) (by omega) (by omega), dz_ci (x := 10 + i) (by omega) (by omega), dz_ci (x := 26 + i) (by omega) (by omega), dz_ci (x := 18 + i) (by omega) (by omega), if_pos (by omega), hs, Option.bind_some, if_pos (by omega)]
  simp only [dz_a, oz_uz]
  rw [if_pos (by omega), if_neg (by omega), h2, Option.bind_some, if_pos (by omega), Option.bind_some, if_pos (by omega)]
  simp only [oz_uz]
theorem cu_4 (hn : ∀ Y, jf_M_nameHere (ob_z Y 114 m) = some 13) (hi : 0 ≤ i ∧ i < 8) (hs : ∀ Y, jf_M_step (ob_z Y 114 m) = some (ob_z Y 114 m1)) (h2 : ∀ Y, jf_M_number 1 30 (ob_z Y 114 (ob_u (ob_u m1 11 (10 + i) 4) 11 (26 + i) (-4))) = some (v, ob_z Y 114 m2)) (h3 : ∀ Y, jf_M_looks 0 7 (ob_z Y 114 (ob_u m2 11 (18 + i) v)) = some (ob_z Y 114 m3)) (hf : ∀ Y, (if dz_c (m3 24 0) ≠ 0 then (some (ob_z Y 114 m3)) else (if dz_c (m3 29 0) ≠ i then (some (ob_z Y 114 m3)) else (Option.bind (jf_M_fails 3 (ob_z Y 114 m3)) fun q32 => some q32))) = some (ob_z Y 114 m4)) (hq : q20 = if dz_c (m4 24 0) ≠ 0 then 0 else m4 29 0) (hx : x = if dz_c (m4 29 0) ≤ dz_c (m4 19 0) then m4 19 0 else (if dz_c (m4 24 0) ≠ 0 then m4 19 0 else m4 29 0)) (hs2 : ∀ Y, jf_M_step (ob_z Y 114 (ob_u (ob_u m4 11 (26 + i) q20) 19 0 x)) = some (ob_z Y 114 m5)) : ∀ Y, jf_M_readCup i (ob_z Y 114 m) = some (ob_z Y 114 m5) := by
  intro Y
  unfold jf_M_readCup
  rw [hn, Option.bind_some, show (13 : Int) - 9 = 4 by rfl, dz_ci (x := 4) (by omega) (by omega), dz_ci (x := 10 + i) (by omega) (by omega), dz_ci (x := 26 + i) (by omega) (by omega), dz_ci (x := 18 + i) (by omega) (by omega), if_pos (by omega), hs, Option.bind_some, if_pos (by omega)]
  simp only [dz_a, oz_uz]
  rw [if_pos (by omega), if_neg (by omega), h2, Option.bind_some, if_pos (by omega), Option.bind_some, if_neg (by decide)]
  simp only [oz_uz]
  rw [h3, Option.bind_some, oz_s, dz_ci (x := i) (by omega) (by omega), hf, Option.bind_some, oz_s, if_some, ← hq, Option.bind_some]
  simp only [oz_uz, oz_s, ou_f (show (29 : Nat) ≠ 11 by decide), ou_f (show (19 : Nat) ≠ 11 by decide), ou_f (show (24 : Nat) ≠ 11 by decide), if_some]
  rw [← hx, Option.bind_some, hs2]
  rfl
theorem hs_cls (hk : 0 ≤ kd ∧ kd ≤ 5) : jf_O_hasSize kd = some (decide (kd ≠ 0 ∧ kd ≠ 5)) := by
  have : kd = 0 ∨ kd = 1 ∨ kd = 2 ∨ kd = 3 ∨ kd = 4 ∨ kd = 5 := by omega
  rcases this with rfl | rfl | rfl | rfl | rfl | rfl <;> rfl
/-- a cup -/
theorem lk_cup (hp : p = 25 ∨ p = 4) (hs : s = 36 ∨ s = 15) (hT : so_tp T) (hZ : Z 2 = T) (hR1 : (R 1 0).toNat = p) (hR2 : (R 2 0).toNat = s) (hL : tkL T R m a) (hi : 0 ≤ i ∧ i < 8) (h19 : -1 ≤ m 19 0 ∧ m 19 0 ≤ 7) {K : Bool × dz_Z → Prop} (kT : ∀ (R' m' P' S' : ob_O) (b : Int), (∀ Y, jf_M_readCup i (ob_z Y 114 m) = some (ob_z Y 114 m')) → tkL T R' m' b → a < b → kpR R R' → so_cu P S m P' S' m' i → K (true, rk Z p s R' P' S')) (kF : ∀ (R' m' P' S' : ob_O), (∀ Y, jf_M_readCup i (ob_z Y 114 m) = some (ob_z Y 114 m')) → tkF T R' m' → kpR R R' → ke m m' → K (false, rk Z p s R' P' S')) : dz_p (jf_R_readCup i (rk Z p s R P S)) K := by
  have hisP : hz_isP p := by unfold hz_isP; omega
  have hisS : hz_isS s := by unfold hz_isS; omega
  have ei : dz_c i = i := dz_ci (by omega) (by omega)
  unfold jf_R_readCup
  refine dp_bi (lk_nm hp hs hT hZ hL (fun R1 st e hI kR => ?_) (fun R1 m1 h28 hfl hF kR km => ?_))
  · have hnh := I_nh hT hI
    have h8 := hI.1.2.2.2.2.1 (Or.inl rfl)
    have hst := hI.1.1
    have hb := ni_b (w := so_wd T st e)
    refine dp_ck rfl (dp_bi (dp_eq (nk_cls hp hs hT hZ hI) ?_))
    dsimp only
    generalize so_ni (so_wd T st e) 15 = N at *
    have R12 : (R1 2 0).toNat = s := by rw [kR 2 (by decide)]; exact hR2
    have R11 : (R1 1 0).toNat = p := by rw [kR 1 (by decide)]; exact hR1
    by_cases c9 : 9 ≤ N
    · obtain ⟨kd, rfl⟩ : ∃ kd, N = kd + 9 := ⟨N - 9, by omega⟩
      have ek : kd + 9 - 9 = kd := by omega
      have ekd : dz_c kd = kd := dz_ci (by omega) (by omega)
      simp only [if_pos c9, ek, ekd, rk_1, R12, ei]
      refine dp_ck (by omega) (dp_ck hisS (dp_ck hi (dp_le ?_)))
      rw [rk_us hp hs]
      refine dp_bi (dp_eq (hs_cls (by omega)) ?_)
      simp only [decide_eq_true_eq]
      obtain ⟨m1, s1, s2, s3⟩ := lk_st hT hI
      have hL1 := s2 R1 hI.2.2.1 hI.2.2.2.2.2.1
      by_cases c5 : kd = 0 ∨ kd = 5
      · refine dp_no (by omega) (dp_sm (kT R1 _ P _ e (cu_0 hnh c5 hi s1) (tL_m hL1 (fun f q => by rw [ou_ff (by omega), ou_ff (by omega)])) (by omega) kR ?_))
        have s11 : m1 11 = m 11 := s3 11 (by decide)
        have s19 : m1 19 = m 19 := s3 19 (by decide)
        refine ⟨fun f _ _ => rfl, fun j _ => ⟨rfl, rfl⟩, fun f q => ou_ff q, fun j q => ou_i q, by rw [ou_s]; omega, ?_, fun q => ?_, fun q => ?_, fun q => ?_, fun q => ⟨?_, ?_⟩, fun j q1 q2 q3 => ?_, fun f q => ?_⟩
        · rw [ou_s, ou_i (by omega), ou_s]
        · rw [ou_s] at q; omega
        · rw [ou_i (by omega), ou_i (by omega), s11]
        · rw [ou_s] at q; omega
        · rw [ou_s]
        · rw [ou_f (by decide), ou_f (by decide), s19]
        · rw [ou_i q3, ou_i q1, s11]
        · rw [ou_ff (by omega), ou_ff (by omega), s3 f (by omega)]
      · refine dp_ck (by omega) ?_
        have hL1' := tL_m hL1 (m' := ob_u (ob_u m1 11 (10 + i) kd) 11 (26 + i) (-4)) (fun f q => by rw [ou_ff (by omega), ou_ff (by omega)])
        refine dp_bi (lk_num hp hs hT hZ hL1' (by decide) (by decide) (fun R2 m2 v b hnu hL2 hab h9 hlo hhi _ _ kR2 km => ?_) (fun R2 m2 v hnu hF kR2 km => ?_))
        · have R21 : (R2 1 0).toNat = p := by rw [kR2 1 (by decide)]; exact R11
          have R22 : (R2 2 0).toNat = s := by rw [kR2 2 (by decide)]; exact R12
          refine dp_ck rfl ?_
          simp only [rk_1, R21, h9]
          refine dp_ck hisP (dp_le ?_)
          rw [rk_up hp]
          have q11 : m2 11 = ob_u (ob_u m1 11 (10 + i) kd) 11 (26 + i) (-4) 11 := km 11 (by decide)
          have q19 : m2 19 = m 19 := by rw [km 19 (by decide), ou_ff (by decide), ou_ff (by decide), s3 19 (by decide)]
          have s11 : m1 11 = m 11 := s3 11 (by decide)
          by_cases c4 : kd = 4
          · subst c4
            refine dp_ck (by decide) ?_
            have hL2' := tL_m hL2 (m' := ob_u m2 11 (18 + i) v) (kq_u (by decide))
            refine dp_bi (lk_nn hp hs hT hZ hL2' (by decide) (by decide) (fun R3 st3 e3 hI3 h39 hlo3 hhi3 kR3 => ?_) (fun R3 hF h1 kR3 => ?_) (fun R0 R3 st3 e3 k3 w hI3 hbad h34 h33 hw kR3 => ?_))
            · have R31 : (R3 1 0).toNat = p := by rw [kR3 1 (by decide)]; exact R21
              have hnm := nm_t hI3
              generalize hv : so_nm T st3 (e3 - st3).toNat = u at *
              refine dp_ck rfl ?_
              simp only [rk_1, R31, h39]
              refine dp_ck hisP (dp_le ?_)
              rw [rk_up hp]
              simp only [rk_1, h39]
              rw [dz_ci (x := u) (by omega) (by omega)]
              have m24 := hI3.2.2.2.2.2.2.1
              have m29 := hI3.2.2.2.2.2.2.2.2.2.2.1 rfl
              rw [hv] at m29
              by_cases cu : u = i
              · -- into itself
                obtain ⟨f1, f2, f3⟩ := lk_fl hI3 (w := 3) (w' := 3) (by omega) (by omega)
                refine dp_no (by omega) (dp_bi (fl_cls hI3.2.2.2.1 (dp_ck rfl (dp_sm ?_))))
                generalize hm4 : ob_u (ob_u (ob_u m2 11 (18 + i) v) 24 0 3) 25 0 (ob_u m2 11 (18 + i) v 27 0) = m4 at f1 f2
                have q24 : m4 24 0 = 3 := by rw [← hm4, ou_f (by decide), ou_s]
                have hF' := tF_m f1 (m' := ob_u (ob_u m4 11 (26 + i) 0) 19 0 (if dz_c (m4 29 0) ≤ dz_c (m4 19 0) then m4 19 0 else (if dz_c (m4 24 0) ≠ 0 then m4 19 0 else m4 29 0))) (fun f q => by rw [ou_ff (by omega), ou_ff (by omega)])
                refine kF _ _ _ _ (cu_4 hnh hi s1 hnu (lo_t hI3 (by decide) (by decide) (by rw [hv]; omega)) (m4 := m4) (fun Y => ?_) (q20 := 0) ?_ rfl (sp_b hF'.2.1)) hF' (kR_t kR (kR_t kR2 (kR_t kR3 f3))) ?_
                · rw [m24, m29, if_neg (by decide), dz_ci (x := u) (by omega) (by omega), if_neg (by omega), fl_eq m24, hm4]
                  rfl
                · rw [q24]; rfl
                · exact ke_t (ke_k s3) (ke_t (ke_t (ke_u (by decide)) (ke_u (by decide))) (ke_t (ke_k km) (ke_t (ke_u (by decide)) (ke_t (ke_k f2) (ke_t (ke_u (by decide)) (ke_u (by decide)))))))
              · have h83 := hI3.1.2.2.2.2.1 (Or.inr rfl)
                have hst3 := hI3.1.1
                refine dp_ck cu (dp_sm ?_)
                have m29' : m2 29 0 = u := by rw [ou_f (by decide)] at m29; exact m29
                have q19' : ob_u m2 11 (18 + i) v 19 0 = m 19 0 := by rw [ou_f (by decide), q19]
                obtain ⟨m5, t1, t2, t3⟩ := lk_st hT (tI_m hI3 (m' := ob_u (ob_u (ob_u m2 11 (18 + i) v) 11 (26 + i) u) 19 0 (if u ≤ m 19 0 then m 19 0 else u)) (fun f q => by rw [ou_ff (by omega), ou_ff (by omega)]))
                have eu : dz_c u = u := dz_ci (by omega) (by omega)
                refine kT R3 m5 _ _ e3 (cu_4 hnh hi s1 hnu (lo_t hI3 (by decide) (by decide) (by rw [hv]; omega)) (m4 := ob_u m2 11 (18 + i) v) (fun Y => ?_) (q20 := u) ?_ (x := if u ≤ m 19 0 then m 19 0 else u) ?_ t1) (t2 R3 hI3.2.2.1 hI3.2.2.2.2.2.1) (by omega) (kR_t kR (kR_t kR2 kR3)) ?_
                · rw [m24, m29, if_neg (by decide), eu, if_pos cu]
                · rw [m24, m29, if_neg (by decide)]
                · rw [m24, m29, q19', eu, dz_ci (x := m 19 0) (by omega) (by omega), if_neg (show ¬ dz_c 0 ≠ 0 by decide)]
                · have t11 : ∀ j : Int, m5 11 j = if j = 26 + i then u else if j = 18 + i then v else if j = 10 + i then 4 else m 11 j := fun j => by
                    rw [t3 11 (by decide), ou_f (by decide), ou_a, ou_a, q11, ou_a, ou_a, s11]
                    by_cases j1 : j = 26 + i
                    · rw [if_pos j1, if_pos j1]
                    · rw [if_neg j1, if_neg j1, if_neg j1]
                  refine ⟨fun f a1 a2 => by rw [ou_ff a2, ou_ff a1], fun j q => ⟨by rw [ou_f (by decide), ou_i q], by rw [ou_i q, ou_f (by decide)]⟩, fun f q => ou_ff q, fun j q => ou_i q, by rw [ou_s]; omega, ?_, fun _ => ⟨?_, ?_⟩, fun q => ?_, fun _ => ⟨?_, ?_, ?_⟩, fun q => ?_, fun j q1 q2 q3 => ?_, fun f q => ?_⟩
                  · rw [t11, if_neg (by omega), if_neg (by omega), if_pos rfl, ou_s]
                  · rw [t11, if_neg (by omega), if_pos rfl, ou_f (by decide), ou_s]
                  · rw [ou_f (by decide), ou_s]; omega
                  · rw [ou_s] at q; omega
                  · rw [t11, if_pos rfl, ou_s]
                  · rw [ou_s]; omega
                  · rw [t3 19 (by decide), ou_s, ou_s]
                    by_cases c : u ≤ m 19 0
                    · rw [if_pos c, if_neg (by omega)]
                    · rw [if_neg c, if_pos (by omega)]
                  · rw [ou_s] at q; omega
                  · rw [t11, if_neg q3, if_neg q2, if_neg q1]
                  · rw [t3 f (by omega), ou_ff (by omega), ou_ff (by omega), ou_ff (by omega), km f (by omega), ou_ff (by omega), ou_ff (by omega), s3 f (by omega)]
            · have hq := hF.2.1
              have hF' := tF_m hF (m' := ob_u (ob_u (ob_u m2 11 (18 + i) v) 11 (26 + i) 0) 19 0 (if dz_c (ob_u m2 11 (18 + i) v 29 0) ≤ dz_c (ob_u m2 11 (18 + i) v 19 0) then ob_u m2 11 (18 + i) v 19 0 else (if dz_c (ob_u m2 11 (18 + i) v 24 0) ≠ 0 then ob_u m2 11 (18 + i) v 19 0 else ob_u m2 11 (18 + i) v 29 0))) (fun f q => by rw [ou_ff (by omega), ou_ff (by omega)])
              refine dp_no (by intro q; cases q) (dp_sm (kF _ _ _ _ (cu_4 hnh hi s1 hnu (lo_b hq) (m4 := ob_u m2 11 (18 + i) v) (fun Y => ?_) (q20 := 0) ?_ rfl (sp_b hF'.2.1)) hF' (kR_t kR (kR_t kR2 kR3)) ?_))
              · rw [dc_ir (x := ob_u m2 11 (18 + i) v 24 0) (by omega) (by omega), if_pos (by omega)]
              · rw [dc_ir (x := ob_u m2 11 (18 + i) v 24 0) (by omega) (by omega), if_pos (by omega)]
              · exact ke_t (ke_k s3) (ke_t (ke_t (ke_u (by decide)) (ke_u (by decide))) (ke_t (ke_k km) (ke_t (ke_u (by decide)) (ke_t (ke_u (by decide)) (ke_u (by decide))))))
            · obtain ⟨wl, w1, w2⟩ := lo_f hI3 (by decide) (by decide) hbad
              have m27 := hI3.2.2.2.2.2.2.2.2.1
              generalize hm4 : ob_u (ob_u (ob_u m2 11 (18 + i) v) 24 0 wl) 25 0 (ob_u m2 11 (18 + i) v 27 0) = m4 at w2
              have q24 : m4 24 0 = wl := by rw [← hm4, ou_f (by decide), ou_s]
              have hk4 : kpm (ob_u m2 11 (18 + i) v) m4 := fun f q => by rw [← hm4, ou_ff (by omega), ou_ff (by omega)]
              have hF4 : tkF T R3 m4 := by
                refine ⟨by rw [h33]; exact hw, by rw [q24]; exact w1, ?_, sf_k hI3.2.2.2.2.2.2.2.2.2.2.2 hk4 ?_⟩
                · rw [← hm4, ou_s, h34, m27]
                · rw [← hm4, ou_f (f' := 27) (by decide), ou_f (f' := 27) (by decide), ou_f (f' := 26) (by decide), ou_f (f' := 26) (by decide)]; exact hI3.2.2.2.2.2.2.2.2.2.2.2.2.2.2
              have hF' := tF_m hF4 (m' := ob_u (ob_u m4 11 (26 + i) 0) 19 0 (if dz_c (m4 29 0) ≤ dz_c (m4 19 0) then m4 19 0 else (if dz_c (m4 24 0) ≠ 0 then m4 19 0 else m4 29 0))) (fun f q => by rw [ou_ff (by omega), ou_ff (by omega)])
              refine dp_no (by intro q; cases q) (dp_sm (kF _ _ _ _ (cu_4 hnh hi s1 hnu w2 (m4 := m4) (fun Y => ?_) (q20 := 0) ?_ rfl (sp_b hF'.2.1)) hF' (kR_t kR (kR_t kR2 kR3)) ?_))
              · rw [q24, dc_ir (x := wl) (by omega) (by omega), if_pos (by omega)]
              · rw [q24, dc_ir (x := wl) (by omega) (by omega), if_pos (by omega)]
              · exact ke_t (ke_k s3) (ke_t (ke_t (ke_u (by decide)) (ke_u (by decide))) (ke_t (ke_k km) (ke_t (ke_u (by decide)) (ke_t (ke_k hk4) (ke_t (ke_u (by decide)) (ke_u (by decide)))))))
          · refine dp_no c4 (dp_sm (kT R2 _ _ _ b (cu_1 hnh (by omega) hi s1 hnu) (tL_m hL2 (kq_u (by decide))) (by omega) (kR_t kR kR2) ?_))
            refine ⟨fun f a1 a2 => by rw [ou_ff a1], fun j q => ⟨by rw [ou_i q], by rw [ou_f (by decide)]⟩, fun f q => ou_ff q, fun j q => ou_i q, by rw [ou_s]; omega, ?_, fun _ => ⟨?_, ?_⟩, fun q => ?_, fun q => ?_, fun q => ⟨?_, ?_⟩, fun j q1 q2 q3 => ?_, fun f q => ?_⟩
            · rw [ou_s, ou_i (by omega), q11, ou_i (by omega), ou_s]
            · rw [ou_s, ou_s]
            · rw [ou_s]; omega
            · rw [ou_s] at q; omega
            · rw [ou_s] at q; omega
            · rw [ou_i (by omega), q11, ou_s]
            · rw [ou_f (by decide), q19]
            · rw [ou_i q2, q11, ou_i q3, ou_i q1, s11]
            · rw [ou_ff (by omega), km f (by omega), ou_ff (by omega), ou_ff (by omega), s3 f (by omega)]
        · -- no size
          refine dp_no (by intro q; cases q) (dp_sm ?_)
          have hq := hF.2.1
          by_cases c4 : kd = 4
          · subst c4
            have hF1 := tF_m hF (m' := ob_u m2 11 (18 + i) v) (kq_u (by decide))
            have hF' := tF_m hF1 (m' := ob_u (ob_u (ob_u m2 11 (18 + i) v) 11 (26 + i) 0) 19 0 (if dz_c (ob_u m2 11 (18 + i) v 29 0) ≤ dz_c (ob_u m2 11 (18 + i) v 19 0) then ob_u m2 11 (18 + i) v 19 0 else (if dz_c (ob_u m2 11 (18 + i) v 24 0) ≠ 0 then ob_u m2 11 (18 + i) v 19 0 else ob_u m2 11 (18 + i) v 29 0))) (fun f q => by rw [ou_ff (by omega), ou_ff (by omega)])
            have hq1 := hF1.2.1
            refine kF _ _ _ _ (cu_4 hnh hi s1 hnu (lo_b hF1.2.1) (m4 := ob_u m2 11 (18 + i) v) (fun Y => ?_) (q20 := 0) ?_ rfl (sp_b hF'.2.1)) hF' (kR_t kR kR2) ?_
            · rw [dc_ir (x := ob_u m2 11 (18 + i) v 24 0) (by omega) (by omega), if_pos (by omega)]
            · rw [dc_ir (x := ob_u m2 11 (18 + i) v 24 0) (by omega) (by omega), if_pos (by omega)]
            · exact ke_t (ke_k s3) (ke_t (ke_t (ke_u (by decide)) (ke_u (by decide))) (ke_t (ke_k km) (ke_t (ke_u (by decide)) (ke_t (ke_u (by decide)) (ke_u (by decide))))))
          · exact kF _ _ _ _ (cu_1 hnh (by omega) hi s1 hnu) (tF_m hF (kq_u (by decide))) (kR_t kR kR2) (ke_t (ke_k s3) (ke_t (ke_t (ke_u (by decide)) (ke_u (by decide))) (ke_t (ke_k km) (ke_u (by decide)))))
    · rw [if_neg c9]
      obtain ⟨f1, f2, f3⟩ := lk_fl hI (w := 2) (w' := 2) (by omega) (by omega)
      exact dp_no (by decide) (dp_bi (fl_cls hI.2.2.2.1 (dp_sm (kF _ _ _ _ (cu_f hnh (by omega) (fl_eq hI.2.2.2.2.2.2.1)) f1 (kR_t kR f3) (ke_k f2)))))
  · exact dp_no (by intro q; cases q) (dp_sm (kF R1 m1 _ _ (cu_f (n_nh hT hL.2.2.2 h28) (by decide) hfl) hF kR (ke_k km)))
end tf
end mg_66tf
