/-! tokens -/
def so_kd (T : ob_O) (i : Int) : Int := if i < T 1 0 then (if 97 ≤ T 0 i ∧ T 0 i ≤ 122 then 2 else if 48 ≤ T 0 i ∧ T 0 i ≤ 57 then 3 else if T 0 i = 59 then 4 else 0) else 1
def so_tk (T : ob_O) (a s e k : Int) : Prop := (0 ≤ a ∧ a ≤ s ∧ s ≤ e ∧ e ≤ T 1 0) ∧ (∀ i : Int, a ≤ i → i < s → T 0 i = 32) ∧ (s < T 1 0 → T 0 s ≠ 32) ∧ k = so_kd T s ∧ ((k = 2 ∨ k = 3) → s < e ∧ (∀ i : Int, s ≤ i → i < e → so_kd T i = k) ∧ (e < T 1 0 → so_kd T e ≠ k)) ∧ (k = 4 → e = s + 1) ∧ ((k = 0 ∨ k = 1) → e = s)
def so_ok (k s e : Int) : Prop := k ≠ 0 ∧ ¬(k = 3 ∧ 3 < e - s)
/-- the tape -/
def so_tp (T : ob_O) : Prop := (0 ≤ T 1 0 ∧ T 1 0 ≤ 320) ∧ ∀ i : Int, 0 ≤ i → i < T 1 0 → -128 ≤ T 0 i ∧ T 0 i ≤ 127
/-- the class while it reads: reader, plan, setup -/
def rk (Z : dz_Z) (p s : Nat) (R P S : ob_O) : dz_Z := fun b => if b = 1 then R else if b = p then P else if b = s then S else Z b
section ta
variable {Z : dz_Z} {p s : Nat} {R P S T : ob_O} {a b e k i v st : Int}
theorem kd_b : 0 ≤ so_kd T i ∧ so_kd T i ≤ 4 := by
  unfold so_kd
  repeat' split
  all_goals omega
theorem run_e (g : Int → Prop) [DecidablePred g] {a L : Int} (h : a ≤ L) : ∃ x : Int, a ≤ x ∧ x ≤ L ∧ (∀ i : Int, a ≤ i → i < x → g i) ∧ (x < L → ¬ g x) := by
  obtain ⟨t, h1, h2, h3⟩ := rd_t (fun j : Nat => g (a + j)) (L - a).toNat
  refine ⟨a + t, by omega, by omega, fun i x y => ?_, fun x => ?_⟩
  · have := h2 (i - a).toNat (by omega)
    rw [show a + ((i - a).toNat : Int) = i by omega] at this
    exact this
  · rcases h3 with q | q
    · omega
    · exact q
theorem tk_ex (hT : so_tp T) (h : 0 ≤ a ∧ a ≤ T 1 0) : ∃ s e k : Int, so_tk T a s e k := by
  obtain ⟨s, s1, s2, s3, s4⟩ := run_e (fun i => T 0 i = 32) h.2
  by_cases c : so_kd T s = 2 ∨ so_kd T s = 3
  · obtain ⟨e, e1, e2, e3, e4⟩ := run_e (fun i => so_kd T i = so_kd T s) s2
    have hs : s < T 1 0 := by
      by_cases q : s < T 1 0
      · exact q
      · unfold so_kd at c; rw [if_neg q] at c; omega
    refine ⟨s, e, so_kd T s, ⟨by omega, s1, e1, e2⟩, s3, s4, rfl, fun _ => ⟨?_, e3, e4⟩, fun q => by omega, fun q => by omega⟩
    by_cases q : s < e
    · exact q
    · have : e = s := by omega
      rw [this] at e4
      exact absurd rfl (e4 hs)
  · by_cases d : so_kd T s = 4
    · have hs : s < T 1 0 := by
        by_cases q : s < T 1 0
        · exact q
        · unfold so_kd at d; rw [if_neg q] at d; omega
      exact ⟨s, s + 1, so_kd T s, ⟨by omega, s1, by omega, by omega⟩, s3, s4, rfl, fun q => absurd q c, fun _ => rfl, fun q => by omega⟩
    · exact ⟨s, s, so_kd T s, ⟨by omega, s1, by omega, by omega⟩, s3, s4, rfl, fun q => absurd q c, fun q => absurd q d, fun _ => rfl⟩
theorem rk_1 : rk Z p s R P S 1 = R := by unfold rk; rw [if_pos rfl]
theorem rk_p (hp : p = 25 ∨ p = 4) : rk Z p s R P S p = P := by unfold rk; rw [if_neg (by omega), if_pos rfl]
theorem rk_s (hp : p = 25 ∨ p = 4) (hs : s = 36 ∨ s = 15) : rk Z p s R P S s = S := by unfold rk; rw [if_neg (by omega), if_neg (by omega), if_pos rfl]
theorem rk_n {b : Nat} (h1 : b ≠ 1) (h2 : b ≠ p) (h3 : b ≠ s) : rk Z p s R P S b = Z b := by unfold rk; rw [if_neg h1, if_neg h2, if_neg h3]
theorem rk_2 (hp : p = 25 ∨ p = 4) (hs : s = 36 ∨ s = 15) : rk Z p s R P S 2 = Z 2 := rk_n (by decide) (by omega) (by omega)
theorem rk_u1 {f : Nat} : dz_u (rk Z p s R P S) 1 f i v = rk Z p s (ob_u R f i v) P S := by
  rw [oz_u, rk_1]
  funext b
  unfold ob_z rk
  split
  · rfl
  · rfl
theorem rk_up (hp : p = 25 ∨ p = 4) {f : Nat} : dz_u (rk Z p s R P S) p f i v = rk Z p s R (ob_u P f i v) S := by
  rw [oz_u, rk_p hp]
  funext b
  unfold ob_z rk
  by_cases h : b = p
  · rw [if_pos h, if_neg (by omega), if_pos h]
  · rw [if_neg h, if_neg h, if_neg h]
theorem rk_us (hp : p = 25 ∨ p = 4) (hs : s = 36 ∨ s = 15) {f : Nat} : dz_u (rk Z p s R P S) s f i v = rk Z p s R P (ob_u S f i v) := by
  rw [oz_u, rk_s hp hs]
  funext b
  unfold ob_z rk
  by_cases h : b = s
  · rw [if_pos h, if_neg (by omega), if_neg (by omega), if_pos h]
  · rw [if_neg h, if_neg h, if_neg h]
theorem kd_cls (hT : so_tp T) (hZ : Z 2 = T) (hi : 0 ≤ i ∧ i ≤ 320) : jf_R_kindAt i Z = some (so_kd T i) := by
  have hL := hT.1
  have e1 : dz_c i = i := dc_ir (by omega) (by omega)
  have e2 : dz_c (T 1 0) = T 1 0 := dc_ir (by omega) (by omega)
  unfold jf_R_kindAt so_kd
  rw [hZ, e1, e2]
  by_cases h : i < T 1 0
  · have hb := hT.2 i hi.1 h
    have e3 : dz_c (T 0 i) = T 0 i := dz_ci (by omega) (by omega)
    rw [if_pos h, if_pos h, if_pos (by omega), e3]
    generalize T 0 i = x at *
    by_cases c1 : x < 97
    · rw [if_pos c1, if_neg (show ¬(97 ≤ x ∧ x ≤ 122) by omega)]
      by_cases c2 : x < 48
      · rw [if_pos c2, if_neg (show ¬(48 ≤ x ∧ x ≤ 57) by omega)]
        by_cases c3 : x = 59
        · omega
        · rw [if_pos c3, if_neg c3]
      · rw [if_neg c2]
        by_cases c3 : 57 < x
        · rw [if_pos c3, if_neg (show ¬(48 ≤ x ∧ x ≤ 57) by omega)]
          by_cases c4 : x = 59
          · rw [if_neg (by omega), if_pos c4]
          · rw [if_pos c4, if_neg c4]
        · rw [if_neg c3, if_pos (show 48 ≤ x ∧ x ≤ 57 by omega)]
    · rw [if_neg c1]
      by_cases c2 : 122 < x
      · rw [if_pos c2, if_neg (show ¬ x < 48 by omega), if_pos (show 57 < x by omega), if_pos (show x ≠ 59 by omega), if_neg (show ¬(97 ≤ x ∧ x ≤ 122) by omega), if_neg (show ¬(48 ≤ x ∧ x ≤ 57) by omega), if_neg (show ¬ x = 59 by omega)]
      · rw [if_neg c2, if_pos (show 97 ≤ x ∧ x ≤ 122 by omega)]
  · rw [if_neg h, if_neg h]
theorem dp_two {α : Type} {c i d : Prop} [Decidable c] [Decidable i] [Decidable d] {x y : Option α} {K : α → Prop} (h : c ∨ (¬c ∧ i ∧ d)) (k : dz_p x K) : dz_p (if c then x else if i then (if d then x else y) else none) K := by
  rcases h with h | h
  · exact dp_ck h k
  · exact dp_no h.1 (dp_ck h.2.1 (dp_ck h.2.2 k))
/-- the next token of the class -/
theorem nt_cls (hp : p = 25 ∨ p = 4) (hs : s = 36 ∨ s = 15) (hT : so_tp T) (hZ : Z 2 = T) (ha : R 6 0 = a) (ht : so_tk T a st e k) {K : Bool × dz_Z → Prop} (kT : so_ok k st e → ∀ R' : ob_O, R' 6 0 = e → R' 7 0 = st → R' 8 0 = k → (∀ f : Nat, f ≠ 6 → f ≠ 7 → f ≠ 8 → R' f = R f) → K (true, rk Z p s R' P S)) (kF : ¬ so_ok k st e → ∀ R' : ob_O, R' 3 0 = 1 → R' 4 0 = st → (∀ f : Nat, f ≠ 3 → f ≠ 4 → f ≠ 6 → f ≠ 7 → f ≠ 8 → R' f = R f) → K (false, rk Z p s R' P S)) : dz_p (jf_R_nextToken (rk Z p s R P S)) K := by
  obtain ⟨⟨t1, t2, t3, t4⟩, t5, t6, t7, t8, t9, t10⟩ := ht
  have hL := hT.1
  have eL : dz_c (T 1 0) = T 1 0 := dc_ir (by omega) (by omega)
  have r2 : ∀ R : ob_O, rk Z p s R P S 2 = T := fun R => by rw [rk_2 hp hs, hZ]
  have kb := kd_b (T := T) (i := st)
  unfold jf_R_nextToken
  refine dp_lp (fun n q => ∃ x : Int, a ≤ x ∧ x + n = st ∧ q = rk Z p s (ob_u R 6 0 x) P S) ?_ 5000 (st - a).toNat _ (by omega) ⟨a, by omega, by omega, by rw [← ha, ou_m]⟩
  rintro n _ ⟨x, hx, hxn, rfl⟩
  have ex : dz_c x = x := dc_ir (by omega) (by omega)
  simp only [r2, rk_1, ou_s, ex, eL]
  by_cases hn : x = st
  · subst hn
    refine dp_two ?_ ?_
    · by_cases q : x < T 1 0
      · have := hT.2 x (by omega) q
        rw [dz_ci (by omega) (by omega)]
        exact Or.inr ⟨by omega, by omega, t6 q⟩
      · exact Or.inl (by omega)
    refine dp_le ?_
    simp only [rk_u1, rk_1, ou_f (show (6 : Nat) ≠ 7 by decide), ou_s]
    refine dp_bi (dp_eq (kd_cls hT (r2 _) (by omega)) (dp_le ?_))
    rw [← t7]
    simp only [rk_u1, rk_1, ou_s]
    have ek : dz_c k = k := dc_ir (by omega) (by omega)
    rw [ek]
    -- what is behind the token
    have fin : ∀ R' : ob_O, R' 6 0 = e → R' 7 0 = x → R' 8 0 = k → (∀ f : Nat, f ≠ 6 → f ≠ 7 → f ≠ 8 → R' f = R f) → dz_p (Option.bind (α := Int) (if dz_c (rk Z p s R' P S 1 8 0) ≠ 3 then (some 0) else (if dz_c ((rk Z p s R' P S 1 6 0) - (rk Z p s R' P S 1 7 0)) ≤ 3 then (some 0) else (some 1))) (fun (q23 : Int) => if dz_c (rk Z p s R' P S 1 8 0) = 0 then (Option.bind (jf_R_fail 1 (rk Z p s R' P S)) fun q25 => if q25.1 = false then (some (Sum.inr (false, q25.2))) else (some (Sum.inr (true, q25.2)))) else (if dz_c q23 = 0 then (some (Sum.inr (true, rk Z p s R' P S))) else (Option.bind (jf_R_fail 1 (rk Z p s R' P S)) fun q28 => if q28.1 = false then (some (Sum.inr (false, q28.2))) else (some (Sum.inr (true, q28.2))))))) (Sum.elim (fun s' : dz_Z => ∃ k' : Nat, k' < n ∧ ∃ y : Int, a ≤ y ∧ y + (k' : Int) = x ∧ s' = rk Z p s (ob_u R 6 0 y) P S) K) := by
      intro R' h6 h7 h8 hf
      have efx : dz_c (e - x) = e - x := dc_ir (by omega) (by omega)
      simp only [rk_1, h6, h7, h8, ek, efx]
      have bad : ¬ so_ok k x e → dz_p (Option.bind (jf_R_fail 1 (rk Z p s R' P S)) fun q25 => if q25.1 = false then (some (Sum.inr (false, q25.2))) else (some (Sum.inr (true, q25.2)))) (Sum.elim (fun s' : dz_Z => ∃ k' : Nat, k' < n ∧ ∃ y : Int, a ≤ y ∧ y + (k' : Int) = x ∧ s' = rk Z p s (ob_u R 6 0 y) P S) K) := by
        intro hb
        unfold jf_R_fail
        refine dp_bi (dp_le (dp_le (dp_sm (dp_ck rfl (dp_sm ?_)))))
        simp only [rk_u1, rk_1, ou_f (show (7 : Nat) ≠ 3 by decide), h7]
        refine kF hb _ ?_ ou_s (fun f a1 a2 a3 a4 a5 => ?_)
        · rw [ou_f (by decide), ou_s]
        · rw [ou_ff a2, ou_ff a1, hf f a3 a4 a5]
      by_cases c0 : k = 0
      · refine dp_bi (dp_ck (by omega) (dp_sm (dp_ck c0 (bad (fun q => q.1 c0)))))
      · by_cases c3 : k = 3
        · by_cases c4 : e - x ≤ 3
          · refine dp_bi (dp_no (by omega) (dp_ck c4 (dp_sm (dp_no c0 (dp_ck (by decide) (dp_sm (kT ⟨c0, by omega⟩ R' h6 h7 h8 hf)))))))
          · refine dp_bi (dp_no (by omega) (dp_no c4 (dp_sm (dp_no c0 (dp_no (by decide) (bad (fun q => q.2 (by omega))))))))
        · refine dp_bi (dp_ck c3 (dp_sm (dp_no c0 (dp_ck (by decide) (dp_sm (kT ⟨c0, by omega⟩ R' h6 h7 h8 hf))))))
    have run : (k = 2 ∨ k = 3) → ∀ Q : dz_Z → Prop, (∀ R' : ob_O, R' 6 0 = e → R' 7 0 = x → R' 8 0 = k → (∀ f : Nat, f ≠ 6 → f ≠ 7 → f ≠ 8 → R' f = R f) → Q (rk Z p s R' P S)) → dz_p (dz_lp (fun (s33 : dz_Z) => if dz_c (s33 2 1 0) ≤ dz_c (s33 1 6 0) then (some (Sum.inr s33)) else (Option.bind (jf_R_kindAt (s33 1 6 0) s33) fun q35 => if dz_c q35 ≠ dz_c (s33 1 8 0) then (some (Sum.inr s33)) else (dz_a (dz_u s33 1 6 0 ((s33 1 6 0) + 1)) fun Z37 => some (Sum.inl Z37)))) 5000 (rk Z p s (ob_u (ob_u (ob_u R 6 0 x) 7 0 x) 8 0 k) P S)) Q := by
      intro hk Q hQ
      obtain ⟨u1, u2, u3⟩ := t8 hk
      refine dp_lp (fun n q => ∃ (y : Int) (R' : ob_O), x ≤ y ∧ y + n = e ∧ q = rk Z p s R' P S ∧ R' 6 0 = y ∧ R' 7 0 = x ∧ R' 8 0 = k ∧ (∀ f : Nat, f ≠ 6 → f ≠ 7 → f ≠ 8 → R' f = R f)) ?_ 5000 (e - x).toNat _ (by omega) ⟨x, _, by omega, by omega, rfl, by rw [ou_f (by decide), ou_f (by decide), ou_s], by rw [ou_f (by decide), ou_s], ou_s, fun f a1 a2 a3 => by rw [ou_ff a3, ou_ff a2, ou_ff a1]⟩
      rintro n2 _ ⟨y, R', hy, hyn, rfl, h6, h7, h8, hf⟩
      have ey : dz_c y = y := dc_ir (by omega) (by omega)
      simp only [r2, rk_1, h6, h8, ey, eL, ek]
      by_cases hye : y = e
      · subst hye
        by_cases q : y < T 1 0
        · have kb2 := kd_b (T := T) (i := y)
          refine dp_no (by omega) (dp_bi (dp_eq (kd_cls hT (r2 _) (by omega)) ?_))
          rw [dc_ir kb2.1 (by omega)]
          exact dp_ck (u3 q) (dp_sm (hQ R' h6 h7 h8 hf))
        · exact dp_ck (by omega) (dp_sm (hQ R' h6 h7 h8 hf))
      · have q := u2 y hy (by omega)
        refine dp_no (by omega) (dp_bi (dp_eq (kd_cls hT (r2 _) (by omega)) ?_))
        rw [q, ek]
        refine dp_no (by omega) (dp_le (dp_sm ⟨n2 - 1, by omega, y + 1, _, by omega, by omega, rk_u1, ou_s, by rw [ou_f (by decide), h7], by rw [ou_f (by decide), h8], fun f a1 a2 a3 => by rw [ou_ff a1, hf f a1 a2 a3]⟩))
    by_cases c2 : k = 2
    · exact dp_bi (dp_ck c2 (run (Or.inl c2) _ (fun R' h6 h7 h8 hf => fin R' h6 h7 h8 hf)))
    · refine dp_bi (dp_no c2 ?_)
      by_cases c3 : k = 3
      · exact dp_no (by omega) (run (Or.inr c3) _ (fun R' h6 h7 h8 hf => fin R' h6 h7 h8 hf))
      · refine dp_ck c3 ?_
        by_cases c4 : k = 4
        · refine dp_no (by omega) (dp_le (dp_sm ?_))
          refine fin _ ?_ ?_ ?_ ?_
          · rw [ou_s, ou_f (by decide), ou_f (by decide), ou_s]; exact (t9 c4).symm
          · rw [ou_f (by decide), ou_f (by decide), ou_s]
          · rw [ou_f (by decide), ou_s]
          · intro f a1 a2 a3; rw [ou_ff a1, ou_ff a3, ou_ff a2, ou_ff a1]
        · have he := t10 (by omega)
          refine dp_ck c4 (dp_sm ?_)
          refine fin _ ?_ ?_ ?_ ?_
          · rw [ou_f (by decide), ou_f (by decide), ou_s, he]
          · rw [ou_f (by decide), ou_s]
          · rw [ou_s]
          · intro f a1 a2 a3; rw [ou_ff a3, ou_ff a2, ou_ff a1]
  · have q := t5 x hx (by omega)
    refine dp_no (by omega) (dp_ck (by omega) (dp_no (by rw [q]; decide) (dp_le (dp_sm ⟨n - 1, by omega, x + 1, by omega, by omega, ?_⟩))))
    rw [rk_u1, ou_u]
end ta
