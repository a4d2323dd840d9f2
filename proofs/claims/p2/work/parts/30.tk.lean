/-! tools for the programs: what a program comes to, told from the front; objects as functions -/
section dp
variable {α β : Type} {K : α → Prop} {c : Prop}
theorem dp_sm {r : α} (k : K r) : dz_p (some r) K := ⟨r, rfl, k⟩
theorem dp_ck [Decidable c] {a b : Option α} (h : c) (k : dz_p a K) : dz_p (if c then a else b) K := by rw [if_pos h]; exact k
theorem dp_no [Decidable c] {a b : Option α} (h : ¬c) (k : dz_p b K) : dz_p (if c then a else b) K := by rw [if_neg h]; exact k
theorem dp_br [Decidable c] {a b : Option α} (k1 : c → dz_p a K) (k2 : ¬c → dz_p b K) : dz_p (if c then a else b) K := by
  by_cases h : c
  · exact dp_ck h (k1 h)
  · exact dp_no h (k2 h)
theorem dp_bi {x : Option β} {f : β → Option α} (k : dz_p x (fun a => dz_p (f a) K)) : dz_p (x.bind f) K := by
  obtain ⟨a, rfl, k⟩ := k
  exact k
theorem dp_le {e : β} {f : β → Option α} (k : dz_p (f e) K) : dz_p (dz_a e f) K := k
theorem dp_eq {o : Option α} {a : α} (h : o = some a) (k : K a) : dz_p o K := ⟨a, h, k⟩
theorem dp_is {o : Option α} {a : α} (h : dz_p o (fun q => q = a)) : o = some a := by
  obtain ⟨b, rfl, rfl⟩ := h
  rfl
theorem dp_lp {S : Type} {body : S → Option (S ⊕ α)} (I : Nat → S → Prop) (hb : ∀ k s, I k s → dz_p (body s) (Sum.elim (fun s' => ∃ k', k' < k ∧ I k' s') K)) : ∀ (n k : Nat) (s : S), k < n → I k s → dz_p (dz_lp body n s) K
  | 0, k, s, hk, _ => absurd hk (by omega)
  | n + 1, k, s, hk, hi => by
    obtain ⟨q, e, H⟩ := hb k s hi
    unfold dz_lp
    refine dp_bi ⟨q, e, ?_⟩
    cases q with
    | inl s' =>
      obtain ⟨k', h1, h2⟩ := H
      exact dp_lp I hb n k' s' (by omega) h2
    | inr r => exact dp_sm (r := r) (K := K) H
end dp
abbrev ob_O : Type := Nat → Int → Int
def ob_u (o : ob_O) (f : Nat) (i v : Int) : ob_O := fun f' i' => if f' = f ∧ i' = i then v else o f' i'
def ob_f (o : ob_O) (f : Nat) (g : Int → Int) : ob_O := fun f' i' => if f' = f then g i' else o f' i'
def ob_z (Z : dz_Z) (b : Nat) (o : ob_O) : dz_Z := fun b' => if b' = b then o else Z b'
theorem oz_s {Z : dz_Z} {b : Nat} {o : ob_O} : ob_z Z b o b = o := by unfold ob_z; rw [if_pos rfl]
theorem oz_n {Z : dz_Z} {b c : Nat} {o : ob_O} (h : c ≠ b) : ob_z Z b o c = Z c := by unfold ob_z; rw [if_neg h]
theorem oz_i {Z : dz_Z} {b : Nat} : ob_z Z b (Z b) = Z := by
  funext b'
  unfold ob_z
  split
  · next h => rw [h]
  · rfl
theorem oz_z {Z : dz_Z} {b : Nat} {o o' : ob_O} : ob_z (ob_z Z b o) b o' = ob_z Z b o' := by
  funext b'
  unfold ob_z
  split <;> rfl
theorem oz_u {Z : dz_Z} {b f : Nat} {i v : Int} : dz_u Z b f i v = ob_z Z b (ob_u (Z b) f i v) := by
  funext b' f' i'
  unfold dz_u ob_z ob_u
  by_cases h : b' = b
  · subst h
    simp only [true_and, if_true]
  · rw [if_neg (fun q => h q.1), if_neg h]
theorem oz_f {Z : dz_Z} {b f : Nat} {g : Int → Int} : dz_f Z b f g = ob_z Z b (ob_f (Z b) f g) := by
  funext b' f' i'
  unfold dz_f ob_z ob_f
  by_cases h : b' = b
  · subst h
    simp only [true_and, if_true]
  · rw [if_neg (fun q => h q.1), if_neg h]
theorem oz_uz {Z : dz_Z} {b f : Nat} {i v : Int} {o : ob_O} : dz_u (ob_z Z b o) b f i v = ob_z Z b (ob_u o f i v) := by rw [oz_u, oz_s, oz_z]
theorem oz_fz {Z : dz_Z} {b f : Nat} {g : Int → Int} {o : ob_O} : dz_f (ob_z Z b o) b f g = ob_z Z b (ob_f o f g) := by rw [oz_f, oz_s, oz_z]
theorem ou_s {o : ob_O} {f : Nat} {i v : Int} : ob_u o f i v f i = v := by unfold ob_u; rw [if_pos ⟨rfl, rfl⟩]
theorem ou_f {o : ob_O} {f f' : Nat} {i i' v : Int} (h : f' ≠ f) : ob_u o f i v f' i' = o f' i' := by unfold ob_u; rw [if_neg (fun q => h q.1)]
theorem ou_i {o : ob_O} {f : Nat} {i i' v : Int} (h : i' ≠ i) : ob_u o f i v f i' = o f i' := by unfold ob_u; rw [if_neg (fun q => h q.2)]
theorem ou_a {o : ob_O} {f : Nat} {i i' v : Int} : ob_u o f i v f i' = if i' = i then v else o f i' := by unfold ob_u; simp only [true_and]
theorem ou_u {o : ob_O} {f : Nat} {i v w : Int} : ob_u (ob_u o f i v) f i w = ob_u o f i w := by
  funext f' i'
  unfold ob_u
  split <;> rfl
theorem ou_m {o : ob_O} {f : Nat} {i : Int} : ob_u o f i (o f i) = o := by
  funext f' i'
  unfold ob_u
  split
  · next h => rw [h.1, h.2]
  · rfl
theorem of_s {o : ob_O} {f : Nat} {g : Int → Int} : ob_f o f g f = g := by funext i; unfold ob_f; rw [if_pos rfl]
theorem of_n {o : ob_O} {f f' : Nat} {g : Int → Int} (h : f' ≠ f) : ob_f o f g f' = o f' := by funext i; unfold ob_f; rw [if_neg h]
theorem dc_or (x y : Int) : dz_c (dz_or x y) = dz_or x y := by unfold dz_c dz_or; rw [Int32.ofInt_toInt]
theorem dc_an (x y : Int) : dz_c (dz_an x y) = dz_an x y := by unfold dz_c dz_an; rw [Int32.ofInt_toInt]
theorem dc_o0 (x : Int) : dz_or x 0 = dz_c x := by
  unfold dz_or dz_c
  congr 1
  exact Int32.or_zero
theorem dc_ir {x : Int} (h : 0 ≤ x) (h' : x ≤ 2147483647) : dz_c x = x := dz_ci (by omega) h'
