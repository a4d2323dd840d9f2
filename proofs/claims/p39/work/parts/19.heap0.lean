section mg_19heap0
def mm_dE : DecidableEq mm_E := instDecidableEqSum
def mm_dH : DecidableEq mm_H := @instDecidableEqList mm_E mm_dE
def mm_dQ : DecidableEq (Option (Option Value × mm_H)) := letI := mm_dH; inferInstance
theorem mm_dec {a b : Option (Option Value × mm_H)} (h : (@decide (a = b) (mm_dQ a b)) = true) : a = b := @of_decide_eq_true _ (mm_dQ a b) h
/-! the heap behind both constructors: cells 0 to 113 are the class's, from 114 on the reference's -/
def hp_a : mm_H := [.inr (9, [.ref 1, .ref 2, .ref 25, .ref 36, .ref 46, .ref 54, .ref 65, .ref 66, .ref 67, .int 0, .int 0]),
  .inr (5, [.ref 2, .ref 4, .ref 15, .int 0, .int 0, .int 0, .int 0, .int 0, .int 0, .int 0]),
  .inr (8, [.ref 3, .int 0]),
  .inl (2, .inl (List.replicate 320 0)),
  .inr (4, [.int 0, .ref 5, .ref 6, .int 0, .ref 7, .ref 8, .int 0, .ref 9, .ref 10, .ref 11, .int 0, .int 0, .ref 12, .ref 13, .ref 14, .int 0]),
  .inl (0, .inl ([0, 0, 0, 0])),
  .inl (0, .inl ([0, 0, 0, 0])),
  .inl (0, .inl ([0, 0, 0, 0, 0])),
  .inl (0, .inl ([0, 0, 0, 0, 0])),
  .inl (0, .inl ([0, 0, 0, 0, 0, 0, 0, 0])),
  .inl (0, .inl ([0, 0, 0, 0, 0, 0, 0, 0])),
  .inl (0, .inl ([0, 0, 0, 0, 0, 0, 0, 0])),
  .inl (0, .inl ([0, 0, 0, 0])),
  .inl (0, .inl ([0, 0, 0, 0])),
  .inl (0, .inl ([0, 0, 0, 0])),
  .inr (6, [.ref 16, .ref 17, .ref 18, .ref 19, .ref 20, .ref 24, .int 0]),
  .inl (0, .inl ([0, 0, 0, 0, 0])),
  .inl (0, .inl ([0, 0, 0, 0, 0])),
  .inl (0, .inl ([0, 0, 0, 0, 0, 0, 0, 0])),
  .inl (0, .inl ([0, 0, 0])),
  .inl (4, .inr (.inr ([(some 21), (some 22), (some 23)]))),
  .inl (0, .inl (List.replicate 12 0)),
  .inl (0, .inl (List.replicate 12 0)),
  .inl (0, .inl (List.replicate 12 0)),
  .inl (0, .inl (List.replicate 12 0)),
  .inr (4, [.int 0, .ref 26, .ref 27, .int 0, .ref 28, .ref 29, .int 0, .ref 30, .ref 31, .ref 32, .int 0, .int 0, .ref 33, .ref 34, .ref 35, .int 0]),
  .inl (0, .inl ([0, 0, 0, 0])),
  .inl (0, .inl ([0, 0, 0, 0])),
  .inl (0, .inl ([0, 0, 0, 0, 0])),
  .inl (0, .inl ([0, 0, 0, 0, 0])),
  .inl (0, .inl ([0, 0, 0, 0, 0, 0, 0, 0])),
  .inl (0, .inl ([0, 0, 0, 0, 0, 0, 0, 0])),
  .inl (0, .inl ([0, 0, 0, 0, 0, 0, 0, 0])),
  .inl (0, .inl ([0, 0, 0, 0])),
  .inl (0, .inl ([0, 0, 0, 0])),
  .inl (0, .inl ([0, 0, 0, 0])),
  .inr (6, [.ref 37, .ref 38, .ref 39, .ref 40, .ref 41, .ref 45, .int 0]),
  .inl (0, .inl ([0, 0, 0, 0, 0])),
  .inl (0, .inl ([0, 0, 0, 0, 0])),
  .inl (0, .inl ([0, 0, 0, 0, 0, 0, 0, 0])),
  .inl (0, .inl ([0, 0, 0])),
  .inl (4, .inr (.inr ([(some 42), (some 43), (some 44)]))),
  .inl (0, .inl (List.replicate 12 0)),
  .inl (0, .inl (List.replicate 12 0)),
  .inl (0, .inl (List.replicate 12 0)),
  .inl (0, .inl (List.replicate 12 0)),
  .inr (2, [.ref 47, .ref 48, .ref 49, .ref 50, .ref 51, .int 0, .int 0, .int 0, .int 0, .int 0, .ref 52, .ref 53]),
  .inl (0, .inl ([0, 0, 0, 0, 0, 0, 0, 0])),
  .inl (0, .inl ([0, 0, 0, 0, 0, 0, 0, 0])),
  .inl (1, .inr (.inl ([0, 0, 0, 0, 0, 0, 0, 0]))),
  .inl (0, .inl ([0, 0, 0, 0, 0, 0, 0, 0])),
  .inl (0, .inl ([0, 0, 0, 0, 0, 0, 0, 0])),
  .inl (0, .inl ([0, 0, 0, 0, 0])),
  .inl (0, .inl ([0, 0, 0, 0, 0, 0, 0, 0])),
  .inr (1, [.ref 55, .ref 63, .ref 64, .int 0]),
  .inr (2, [.ref 56, .ref 57, .ref 58, .ref 59, .ref 60, .int 0, .int 0, .int 0, .int 0, .int 0, .ref 61, .ref 62]),
  .inl (0, .inl ([0, 0, 0, 0, 0, 0, 0, 0])),
  .inl (0, .inl ([0, 0, 0, 0, 0, 0, 0, 0])),
  .inl (1, .inr (.inl ([0, 0, 0, 0, 0, 0, 0, 0]))),
  .inl (0, .inl ([0, 0, 0, 0, 0, 0, 0, 0])),
  .inl (0, .inl ([0, 0, 0, 0, 0, 0, 0, 0])),
  .inl (0, .inl ([0, 0, 0, 0, 0])),
  .inl (0, .inl ([0, 0, 0, 0, 0, 0, 0, 0])),
  .inl (0, .inl (List.replicate 12 0)),
  .inl (0, .inl (List.replicate 12 0)),
  .inr (0, [.int 0, .int 0, .int 0, .int 0, .int 0, .int 0, .int 0, .int 0]),
  .inl (5, .inr (.inr ([(some 68), (some 87)]))),
  .inl (6, .inr (.inr ([(some 106), (some 108), (some 110), (some 112)]))),
  .inr (3, [.ref 69, .ref 79, .int 0]),
  .inr (6, [.ref 70, .ref 71, .ref 72, .ref 73, .ref 74, .ref 78, .int 0]),
  .inl (0, .inl ([0, 0, 0, 0, 0])),
  .inl (0, .inl ([0, 0, 0, 0, 0])),
  .inl (0, .inl ([0, 0, 0, 0, 0, 0, 0, 0])),
  .inl (0, .inl ([0, 0, 0])),
  .inl (4, .inr (.inr ([(some 75), (some 76), (some 77)]))),
  .inl (0, .inl (List.replicate 12 0)),
  .inl (0, .inl (List.replicate 12 0)),
  .inl (0, .inl (List.replicate 12 0)),
  .inl (0, .inl (List.replicate 12 0)),
  .inr (2, [.ref 80, .ref 81, .ref 82, .ref 83, .ref 84, .int 0, .int 0, .int 0, .int 0, .int 0, .ref 85, .ref 86]),
  .inl (0, .inl ([0, 0, 0, 0, 0, 0, 0, 0])),
  .inl (0, .inl ([0, 0, 0, 0, 0, 0, 0, 0])),
  .inl (1, .inr (.inl ([0, 0, 0, 0, 0, 0, 0, 0]))),
  .inl (0, .inl ([0, 0, 0, 0, 0, 0, 0, 0])),
  .inl (0, .inl ([0, 0, 0, 0, 0, 0, 0, 0])),
  .inl (0, .inl ([0, 0, 0, 0, 0])),
  .inl (0, .inl ([0, 0, 0, 0, 0, 0, 0, 0])),
  .inr (3, [.ref 88, .ref 98, .int 0]),
  .inr (6, [.ref 89, .ref 90, .ref 91, .ref 92, .ref 93, .ref 97, .int 0]),
  .inl (0, .inl ([0, 0, 0, 0, 0])),
  .inl (0, .inl ([0, 0, 0, 0, 0])),
  .inl (0, .inl ([0, 0, 0, 0, 0, 0, 0, 0])),
  .inl (0, .inl ([0, 0, 0])),
  .inl (4, .inr (.inr ([(some 94), (some 95), (some 96)]))),
  .inl (0, .inl (List.replicate 12 0)),
  .inl (0, .inl (List.replicate 12 0)),
  .inl (0, .inl (List.replicate 12 0)),
  .inl (0, .inl (List.replicate 12 0)),
  .inr (2, [.ref 99, .ref 100, .ref 101, .ref 102, .ref 103, .int 0, .int 0, .int 0, .int 0, .int 0, .ref 104, .ref 105]),
  .inl (0, .inl ([0, 0, 0, 0, 0, 0, 0, 0])),
  .inl (0, .inl ([0, 0, 0, 0, 0, 0, 0, 0])),
  .inl (1, .inr (.inl ([0, 0, 0, 0, 0, 0, 0, 0]))),
  .inl (0, .inl ([0, 0, 0, 0, 0, 0, 0, 0])),
  .inl (0, .inl ([0, 0, 0, 0, 0, 0, 0, 0])),
  .inl (0, .inl ([0, 0, 0, 0, 0])),
  .inl (0, .inl ([0, 0, 0, 0, 0, 0, 0, 0])),
  .inr (7, [.ref 107, .int 0, .int (-1)]),
  .inl (0, .inl (List.replicate 40 0)),
  .inr (7, [.ref 109, .int 0, .int (-1)]),
  .inl (0, .inl (List.replicate 40 0)),
  .inr (7, [.ref 111, .int 0, .int (-1)]),
  .inl (0, .inl (List.replicate 40 0)),
  .inr (7, [.ref 113, .int 0, .int (-1)]),
  .inl (0, .inl (List.replicate 40 0))]
def hp_b : mm_H := [.inr (10, [.ref 115, .int 0, .int 0, .int 0, .int 0, .int 0, .int 0, .ref 116, .ref 117, .ref 118, .ref 119, .ref 120, .ref 121, .ref 122, .ref 123, .ref 124, .ref 125, .int 0, .int 0, .int 0, .int 0, .ref 126, .int 0, .int 0, .int 0, .int 0, .int 0, .int 0, .int 0, .int 0, .ref 127, .ref 128, .ref 129, .ref 130, .int 0, .ref 131, .ref 132, .int 0, .int 0, .int 0, .int 0, .ref 133, .ref 134, .ref 135, .ref 136, .int 0]),
  .inl (0, .inl (List.replicate 700 0)),
  .inl (0, .inl ([0, 0, 0, 0, 0, 0, 0, 0])),
  .inl (0, .inl (List.replicate 10 0)),
  .inl (0, .inl ([0, 0, 0, 0, 0, 0, 0, 0])),
  .inl (0, .inl (List.replicate 12 0)),
  .inl (0, .inl (List.replicate 140 0)),
  .inl (0, .inl ([0, 0, 0, 0, 0, 0, 0, 0])),
  .inl (0, .inl (List.replicate 10 0)),
  .inl (0, .inl ([0, 0, 0, 0, 0, 0, 0, 0])),
  .inl (0, .inl (List.replicate 12 0)),
  .inl (0, .inl ([0, 0, 0, 0, 0])),
  .inl (0, .inl (List.replicate 320 0)),
  .inl (0, .inl ([0, 4, 7, 12, 16, 21, 25, 29, 35, 41, 46, 49, 53, 57, 61, 67])),
  .inl (0, .inl ([114, 111, 111, 102, 112, 101, 103, 115, 112, 111, 117, 116, 114, 97, 105, 110, 115, 108, 101, 101, 112, 116, 117, 110, 101, 119, 101, 97, 114, 103, 117, 116, 116, 101, 114, 103, 114, 111, 117, 110, 100, 115, 108, 97, 116, 101, 116, 105, 112, 108, 101, 97, 107, 101, 97, 99, 104, 106, 111, 105, 110, 102, 114, 111, 122, 101, 110])),
  .inl (0, .inl ([0, 0, 0, 0, 0])),
  .inl (0, .inl ([0, 0, 0, 0, 0, 0, 0, 0])),
  .inl (0, .inl (List.replicate 12 0)),
  .inl (0, .inl (List.replicate 12 0)),
  .inl (3, .inl ([0, 0])),
  .inl (0, .inl ([(-4), (-4), (-4), (-4)])),
  .inl (0, .inl ([0, 0, 0, 0])),
  .inl (0, .inl (List.replicate 160 0))]
def hp_0 : mm_H := hp_a ++ hp_b
set_option maxRecDepth 20000 in
theorem hp_ia : mm_x none 2000 12 mm_r63 0 (mm_en mm_r63 [.ref 0]) [] [.inr (9, mm_dfs 9)] = some (none, hp_a) := mm_dec (by decide +kernel)
set_option maxRecDepth 20000 in
theorem hp_ib : mm_x none 2000 12 mm_r119 0 (mm_en mm_r119 [.ref 114]) [] (hp_a ++ [.inr (10, mm_dfs 10)]) = some (none, hp_0) := mm_dec (by decide +kernel)
end mg_19heap0
section mg_20dz
/-! what a heap of the law's run is, told by numbers: Z b f i = the i-th number of field f of the object whose cell is b (numbers count modulo 2^32, 2^64) -/
abbrev dz_Z : Type := Nat → Nat → Int → Int
abbrev dz_I (x : Int) : Value := .int (Int32.ofInt x)
abbrev dz_J (x : Int) : Value := .long (Int64.ofInt x)
abbrev dz_B (b : Bool) : Value := .int (bif b then 1 else 0)
def dz_c (x : Int) : Int := (Int32.ofInt x).toInt
def dz_l (x : Int) : Int := (Int64.ofInt x).toInt
def dz_u (Z : dz_Z) (b f : Nat) (i v : Int) : dz_Z := fun b' f' i' => if b' = b ∧ f' = f ∧ i' = i then v else Z b' f' i'
def dz_f (Z : dz_Z) (b f : Nat) (g : Int → Int) : dz_Z := fun b' f' i' => if b' = b ∧ f' = f then g i' else Z b' f' i'
def dz_w (n : Nat) (g : Int → Int) : List Int32 := (List.range n).map (fun i : Nat => Int32.ofInt (g (i : Int)))
def dz_x (n : Nat) (g : Int → Int) : List Int64 := (List.range n).map (fun i : Nat => Int64.ofInt (g (i : Int)))
def dz_sl (x y : Int) : Int := (Int32.ofInt x <<< (Int32.ofInt y &&& 31)).toInt
def dz_sr (x y : Int) : Int := (Int32.ofInt x >>> (Int32.ofInt y &&& 31)).toInt
def dz_ur (x y : Int) : Int := (((Int32.ofInt x).toUInt32 >>> ((Int32.ofInt y).toUInt32 &&& Int32.toUInt32 31)).toInt32).toInt
def dz_an (x y : Int) : Int := (Int32.ofInt x &&& Int32.ofInt y).toInt
def dz_or (x y : Int) : Int := (Int32.ofInt x ||| Int32.ofInt y).toInt
def dz_xo (x y : Int) : Int := (Int32.ofInt x ^^^ Int32.ofInt y).toInt
def dz_lsr (x y : Int) : Int := (Int64.ofInt x >>> ((Int32.ofInt y).toInt64 &&& 63)).toInt
def dz_lur (x y : Int) : Int := ((Int64.ofInt x).toUInt64 >>> ((Int32.ofInt y).toInt64.toUInt64 &&& Int64.toUInt64 63)).toInt64.toInt
def dz_lsl (x y : Int) : Int := (Int64.ofInt x <<< ((Int32.ofInt y).toInt64 &&& 63)).toInt
def dz_lan (x y : Int) : Int := (Int64.ofInt x &&& Int64.ofInt y).toInt
def dz_lor (x y : Int) : Int := (Int64.ofInt x ||| Int64.ofInt y).toInt
def dz_b (x : Int) : Int := (Int32.ofInt x).toInt8.toInt32.toInt
def dz_s (x : Int) : Int := (Int32.ofInt x).toInt16.toInt32.toInt
def dz_li (x : Int) : Int := (Int64.ofInt x).toInt32.toInt
-- programs: what they come to
def dz_p {α : Type} (o : Option α) (K : α → Prop) : Prop := ∃ a, o = some a ∧ K a
def dz_a {α β : Type} (x : α) (f : α → β) : β := f x
def dz_lp {S R : Type} (body : S → Option (S ⊕ R)) : Nat → S → Option R
  | 0, _ => none
  | n + 1, s => (body s).bind (fun q => match q with
    | .inl s' => dz_lp body n s'
    | .inr r => some r)
section dzp
variable {α β : Type} {K : α → Prop} {c : Prop}
theorem dz_no {P : Prop} (H : dz_p (none : Option α) K) : P := by
  obtain ⟨a, h, -⟩ := H
  cases h
theorem dz_sm {r : α} (H : dz_p (some r) K) : K r := by
  obtain ⟨a, h, k⟩ := H
  cases h
  exact k
theorem dz_ck [Decidable c] {a : Option α} (H : dz_p (if c then a else none) K) : c ∧ dz_p a K := by
  by_cases h : c
  · rw [if_pos h] at H; exact ⟨h, H⟩
  · rw [if_neg h] at H; exact dz_no H
theorem dz_it [Decidable c] {a b : Option α} (h : c) (H : dz_p (if c then a else b) K) : dz_p a K := by rw [if_pos h] at H; exact H
theorem dz_if [Decidable c] {a b : Option α} (h : ¬c) (H : dz_p (if c then a else b) K) : dz_p b K := by rw [if_neg h] at H; exact H
theorem dz_bi {x : Option β} {f : β → Option α} (H : dz_p (x.bind f) K) : dz_p x (fun a => dz_p (f a) K) := by
  cases x with
  | none => exact dz_no H
  | some a => exact ⟨a, rfl, H⟩
theorem dz_pm {x : Option α} {K' : α → Prop} (H : dz_p x K) (h : ∀ a, K a → K' a) : dz_p x K' := by
  obtain ⟨a, e, k⟩ := H
  exact ⟨a, e, h a k⟩
theorem dz_le {e : β} {f : β → Option α} (H : dz_p (dz_a e f) K) (z : β) (h : z = e) : dz_p (f z) K := by subst h; exact H
theorem dz_lpi {S : Type} {body : S → Option (S ⊕ α)} (P : S → Prop) (hb : ∀ s, dz_p (body s) (Sum.elim P K) → P s) : ∀ (n : Nat) (s : S), dz_p (dz_lp body n s) K → P s
  | 0, _, H => dz_no H
  | n + 1, s, H => by
    apply hb
    unfold dz_lp at H
    obtain ⟨q, e, H⟩ := dz_bi H
    refine ⟨q, e, ?_⟩
    cases q with
    | inl s' => exact dz_lpi P hb n s' H
    | inr r => exact (dz_sm (r := r) (K := K) H)
theorem dz_some {o : Option α} {a : α} (h : o = some a) (k : K a) : dz_p o K := ⟨a, h, k⟩
end dzp
-- numbers
theorem dz_oc (x : Int32) : Int32.ofInt x.toInt = x := Int32.ofInt_toInt x
theorem dz_ol (x : Int64) : Int64.ofInt x.toInt = x := Int64.ofInt_toInt x
theorem dz_cx (x : Int) : Int32.ofInt (dz_c x) = Int32.ofInt x := Int32.ofInt_toInt _
theorem dz_cb (x : Int) : -2147483648 ≤ dz_c x ∧ dz_c x ≤ 2147483647 := ⟨Int32.le_toInt _, Int32.toInt_le _⟩
theorem dz_ci {x : Int} (h : -2147483648 ≤ x) (h' : x ≤ 2147483647) : dz_c x = x := by
  unfold dz_c
  exact Int32.toInt_ofInt_of_le h (by omega)
theorem dz_li' {x : Int} (h : -9223372036854775808 ≤ x) (h' : x ≤ 9223372036854775807) : dz_l x = x := by
  unfold dz_l
  exact Int64.toInt_ofInt_of_le h (by omega)
theorem dz_lc (x : Int) : dz_l (dz_c x) = dz_c x := dz_li' (by have := dz_cb x; omega) (by have := dz_cb x; omega)
theorem dz_lcc (x y : Int) : dz_l (dz_c x + dz_c y) = dz_c x + dz_c y := dz_li' (by have := dz_cb x; have := dz_cb y; omega) (by have := dz_cb x; have := dz_cb y; omega)
theorem dz_cc (x : Int) : dz_c (dz_c x) = dz_c x := by unfold dz_c; rw [Int32.ofInt_toInt]
-- operations
theorem op_add (x y : Int) : mm_s2 .iadd (Int32.ofInt x) (Int32.ofInt y) = some (Int32.ofInt (x + y)) := congrArg some (Int32.ofInt_add x y).symm
theorem op_sub (x y : Int) : mm_s2 .isub (Int32.ofInt x) (Int32.ofInt y) = some (Int32.ofInt (x - y)) := congrArg some (Int32.ofInt_sub x y).symm
theorem op_mul (x y : Int) : mm_s2 .imul (Int32.ofInt x) (Int32.ofInt y) = some (Int32.ofInt (x * y)) := congrArg some (Int32.ofInt_mul x y).symm
theorem op_and (x y : Int) : mm_s2 .iand (Int32.ofInt x) (Int32.ofInt y) = some (Int32.ofInt (dz_an x y)) := congrArg some (dz_oc _).symm
theorem op_or (x y : Int) : mm_s2 .ior (Int32.ofInt x) (Int32.ofInt y) = some (Int32.ofInt (dz_or x y)) := congrArg some (dz_oc _).symm
theorem op_xor (x y : Int) : mm_s2 .ixor (Int32.ofInt x) (Int32.ofInt y) = some (Int32.ofInt (dz_xo x y)) := congrArg some (dz_oc _).symm
theorem op_shl (x y : Int) : mm_s2 .ishl (Int32.ofInt x) (Int32.ofInt y) = some (Int32.ofInt (dz_sl x y)) := congrArg some (dz_oc _).symm
theorem op_shr (x y : Int) : mm_s2 .ishr (Int32.ofInt x) (Int32.ofInt y) = some (Int32.ofInt (dz_sr x y)) := congrArg some (dz_oc _).symm
theorem op_ushr (x y : Int) : mm_s2 .iushr (Int32.ofInt x) (Int32.ofInt y) = some (Int32.ofInt (dz_ur x y)) := congrArg some (dz_oc _).symm
theorem dz_dv (x y : Int) : Int32.ofInt x / Int32.ofInt y = Int32.ofInt ((dz_c x).tdiv (dz_c y)) := by
  apply Int32.toInt_inj.mp
  rw [Int32.toInt_div, Int32.toInt_ofInt (n := (dz_c x).tdiv (dz_c y))]
  rfl
theorem op_div {x y x' y' : Int} (hx : dz_c x = x') (hy : dz_c y = y') (h : y' ≠ 0) : mm_s2 .idiv (Int32.ofInt x) (Int32.ofInt y) = some (Int32.ofInt (x'.tdiv y')) := by
  subst hx hy
  show (if Int32.ofInt y = 0 then none else some (Int32.ofInt x / Int32.ofInt y)) = _
  rw [if_neg (fun e => h (by unfold dz_c; rw [e]; rfl)), dz_dv]
theorem op_rem {x y x' y' : Int} (hx : dz_c x = x') (hy : dz_c y = y') (h : y' ≠ 0) : mm_s2 .irem (Int32.ofInt x) (Int32.ofInt y) = some (Int32.ofInt (x'.tmod y')) := by
  subst hx hy
  show (if Int32.ofInt y = 0 then none else some (Int32.ofInt x - Int32.ofInt x / Int32.ofInt y * Int32.ofInt y)) = _
  rw [if_neg (fun e => h (by unfold dz_c; rw [e]; rfl)), dz_dv]
  have e : (dz_c x).tmod (dz_c y) = dz_c x - (dz_c x).tdiv (dz_c y) * dz_c y := by have := Int.tmod_add_mul_tdiv (dz_c x) (dz_c y); rw [Int.mul_comm] at this; omega
  rw [e, Int32.ofInt_sub, Int32.ofInt_mul, dz_cx, dz_cx]
theorem oq_i2l (x : Int) : mm_s3 .i2l (dz_I x) = some (dz_J (dz_c x)) := by
  show some (Value.long (Int32.ofInt x).toInt64) = _
  rw [← Int64.ofInt_toInt (Int32.ofInt x).toInt64, Int32.toInt_toInt64]
  rfl
theorem oq_i2l' {x x' : Int} (h : dz_c x = x') : mm_s3 .i2l (dz_I x) = some (dz_J x') := by subst h; exact oq_i2l x
theorem oq_i2b (x : Int) : mm_s3 .i2b (dz_I x) = some (dz_I (dz_b x)) := by
  show some (Value.int _) = _
  rw [← dz_oc (Int32.ofInt x).toInt8.toInt32]
  rfl
theorem oq_i2s (x : Int) : mm_s3 .i2s (dz_I x) = some (dz_I (dz_s x)) := by
  show some (Value.int _) = _
  rw [← dz_oc (Int32.ofInt x).toInt16.toInt32]
  rfl
theorem oq_l2i (x : Int) : mm_s3 .l2i (dz_J x) = some (dz_I (dz_li x)) := by
  show some (Value.int _) = _
  rw [← dz_oc (Int64.ofInt x).toInt32]
  rfl
theorem ol_add (x y : Int) : mm_s4 .ladd (dz_J x) (dz_J y) = some (dz_J (x + y)) := congrArg (fun z => some (Value.long z)) (Int64.ofInt_add x y).symm
theorem ol_and (x y : Int) : mm_s4 .land (dz_J x) (dz_J y) = some (dz_J (dz_lan x y)) := congrArg (fun z => some (Value.long z)) (dz_ol _).symm
theorem ol_or (x y : Int) : mm_s4 .lor (dz_J x) (dz_J y) = some (dz_J (dz_lor x y)) := congrArg (fun z => some (Value.long z)) (dz_ol _).symm
theorem ol_shl (x y : Int) : mm_s4 .lshl (dz_J x) (dz_I y) = some (dz_J (dz_lsl x y)) := congrArg (fun z => some (Value.long z)) (dz_ol _).symm
theorem ol_shr (x y : Int) : mm_s4 .lshr (dz_J x) (dz_I y) = some (dz_J (dz_lsr x y)) := congrArg (fun z => some (Value.long z)) (dz_ol _).symm
theorem ol_ushr (x y : Int) : mm_s4 .lushr (dz_J x) (dz_I y) = some (dz_J (dz_lur x y)) := congrArg (fun z => some (Value.long z)) (dz_ol _).symm
-- comparisons
section ccs
variable {x y x' y' : Int}
theorem cq_lt (hx : dz_c x = x') (hy : dz_c y = y') : mm_cc .lt (Int32.ofInt x) (Int32.ofInt y) = decide (x' < y') := by
  subst hx hy
  exact decide_eq_decide.mpr Int32.lt_iff_toInt_lt
theorem cq_ge (hx : dz_c x = x') (hy : dz_c y = y') : mm_cc .ge (Int32.ofInt x) (Int32.ofInt y) = decide (y' ≤ x') := by
  subst hx hy
  exact decide_eq_decide.mpr Int32.le_iff_toInt_le
theorem cq_gt (hx : dz_c x = x') (hy : dz_c y = y') : mm_cc .gt (Int32.ofInt x) (Int32.ofInt y) = decide (y' < x') := by
  subst hx hy
  exact decide_eq_decide.mpr Int32.lt_iff_toInt_lt
theorem cq_le (hx : dz_c x = x') (hy : dz_c y = y') : mm_cc .le (Int32.ofInt x) (Int32.ofInt y) = decide (x' ≤ y') := by
  subst hx hy
  exact decide_eq_decide.mpr Int32.le_iff_toInt_le
theorem cq_eq (hx : dz_c x = x') (hy : dz_c y = y') : mm_cc .eq (Int32.ofInt x) (Int32.ofInt y) = decide (x' = y') := by
  subst hx hy
  exact decide_eq_decide.mpr Int32.toInt_inj.symm
theorem cq_ne (hx : dz_c x = x') (hy : dz_c y = y') : mm_cc .ne (Int32.ofInt x) (Int32.ofInt y) = decide (x' ≠ y') := by
  have := cq_eq hx hy
  show (!(mm_cc .eq (Int32.ofInt x) (Int32.ofInt y))) = _
  rw [this, decide_not]
theorem cz_lt (hx : dz_c x = x') : mm_cc .lt (Int32.ofInt x) 0 = decide (x' < 0) := cq_lt (y := 0) hx rfl
theorem cz_ge (hx : dz_c x = x') : mm_cc .ge (Int32.ofInt x) 0 = decide (0 ≤ x') := cq_ge (y := 0) hx rfl
theorem cz_gt (hx : dz_c x = x') : mm_cc .gt (Int32.ofInt x) 0 = decide (0 < x') := cq_gt (y := 0) hx rfl
theorem cz_le (hx : dz_c x = x') : mm_cc .le (Int32.ofInt x) 0 = decide (x' ≤ 0) := cq_le (y := 0) hx rfl
theorem cz_eq (hx : dz_c x = x') : mm_cc .eq (Int32.ofInt x) 0 = decide (x' = 0) := cq_eq (y := 0) hx rfl
theorem cz_ne (hx : dz_c x = x') : mm_cc .ne (Int32.ofInt x) 0 = decide (x' ≠ 0) := cq_ne (y := 0) hx rfl
theorem cb_eq {b : Bool} : mm_cc .eq (bif b then 1 else 0) 0 = decide (b = false) := by cases b <;> decide
theorem cb_ne {b : Bool} : mm_cc .ne (bif b then 1 else 0) 0 = decide (b = true) := by cases b <;> decide
theorem cd_eq {p : Prop} [Decidable p] : mm_cc .eq (bif decide p then 1 else 0) 0 = decide (¬p) := by by_cases h : p <;> simp only [h, decide_true, decide_false, not_true, not_false_eq_true] <;> decide
theorem cd_ne {p : Prop} [Decidable p] : mm_cc .ne (bif decide p then 1 else 0) 0 = decide p := by by_cases h : p <;> simp only [h, decide_true, decide_false] <;> decide
theorem cl_v (x y : Int) : (lg_cmp (Int64.ofInt x) (Int64.ofInt y)).toInt = if dz_l y < dz_l x then 1 else if dz_l x = dz_l y then 0 else -1 := by
  unfold lg_cmp dz_l
  simp only [gt_iff_lt, Int64.lt_iff_toInt_lt, ← Int64.toInt_inj]
  split
  · rfl
  · split <;> rfl
theorem cl_w (c : ClassFile.Cond) (z : Int32) (b : Bool) (h : mm_cc c (Int32.ofInt z.toInt) 0 = b) : mm_cc c z 0 = b := by rw [dz_oc] at h; exact h
theorem cl_lt (hx : dz_l x = x') (hy : dz_l y = y') : mm_cc .lt (lg_cmp (Int64.ofInt x) (Int64.ofInt y)) 0 = decide (x' < y') := by
  subst hx hy
  apply cl_w
  rw [cz_lt (by unfold dz_c; rw [dz_oc, cl_v])]
  apply decide_eq_decide.mpr
  split
  · omega
  · split <;> omega
theorem cl_ge (hx : dz_l x = x') (hy : dz_l y = y') : mm_cc .ge (lg_cmp (Int64.ofInt x) (Int64.ofInt y)) 0 = decide (y' ≤ x') := by
  subst hx hy
  apply cl_w
  rw [cz_ge (by unfold dz_c; rw [dz_oc, cl_v])]
  apply decide_eq_decide.mpr
  split
  · omega
  · split <;> omega
theorem cl_gt (hx : dz_l x = x') (hy : dz_l y = y') : mm_cc .gt (lg_cmp (Int64.ofInt x) (Int64.ofInt y)) 0 = decide (y' < x') := by
  subst hx hy
  apply cl_w
  rw [cz_gt (by unfold dz_c; rw [dz_oc, cl_v])]
  apply decide_eq_decide.mpr
  split
  · omega
  · split <;> omega
theorem cl_le (hx : dz_l x = x') (hy : dz_l y = y') : mm_cc .le (lg_cmp (Int64.ofInt x) (Int64.ofInt y)) 0 = decide (x' ≤ y') := by
  subst hx hy
  apply cl_w
  rw [cz_le (by unfold dz_c; rw [dz_oc, cl_v])]
  apply decide_eq_decide.mpr
  split
  · omega
  · split <;> omega
end ccs
end mg_20dz
section mg_21hz
abbrev hz_S : Type := (Nat × Nat × Nat × Nat) ⊕ (Nat × Nat × List (Nat × Nat)) ⊕ (Nat × List Nat)
def hz_v (Z : dz_Z) (b : Nat) (q : Nat × Nat) : Value := match q.1 with
  | 0 => dz_I (Z b q.2 0)
  | 1 => .ref q.2
  | _ => .ref (Z b q.2 0).toNat
def hz_c (Z : dz_Z) (s : hz_S) : mm_E := match s with
  | .inl (1, b, f, n) => .inl (1, .inr (.inl (dz_x n (Z b f))))
  | .inl (t, b, f, n) => .inl (t, .inl (dz_w n (Z b f)))
  | .inr (.inl (c, b, fs)) => .inr (c, fs.map (hz_v Z b))
  | .inr (.inr (t, l)) => .inl (t, .inr (.inr (l.map some)))
def hz_l (s : hz_S) : List (Nat × Nat) := match s with
  | .inl (_, b, f, _) => [(b, f)]
  | .inr (.inl (_, b, fs)) => (fs.filter (fun q => !Nat.beq q.1 1)).map (fun q => (b, q.2))
  | .inr (.inr _) => []
def hz_bo (s : hz_S) : Option Nat := match s with
  | .inl (_, b, _, _) => some b
  | .inr (.inl (_, b, _)) => some b
  | .inr (.inr _) => none
def hz_m (b f : Nat) (s : hz_S) : Bool := (hz_l s).any (fun p => Nat.beq p.1 b && Nat.beq p.2 f)
def hz_dis (s s' : hz_S) : Bool := match hz_bo s, hz_bo s' with
  | some b, some b' => bif Nat.beq b b' then (hz_l s).all (fun p => !hz_m p.1 p.2 s') else true
  | _, _ => true
def hz_pw : List hz_S → Bool
  | [] => true
  | s :: t => t.all (hz_dis s) && hz_pw t
def hz_t : List hz_S := [.inr (.inl (9, 0, [(1, 1), (1, 2), (2, 2), (2, 3), (1, 46), (1, 54), (1, 65), (1, 66), (1, 67), (0, 9), (0, 10)])),
  .inr (.inl (5, 1, [(1, 2), (2, 1), (2, 2), (0, 3), (0, 4), (0, 5), (0, 6), (0, 7), (0, 8), (0, 9)])),
  .inr (.inl (8, 2, [(1, 3), (0, 1)])),
  .inl (2, 2, 0, 320),
  .inr (.inl (4, 4, [(0, 0), (1, 5), (1, 6), (0, 3), (1, 7), (1, 8), (0, 6), (1, 9), (1, 10), (1, 11), (0, 10), (0, 11), (1, 12), (1, 13), (1, 14), (0, 15)])),
  .inl (0, 4, 1, 4),
  .inl (0, 4, 2, 4),
  .inl (0, 4, 4, 5),
  .inl (0, 4, 5, 5),
  .inl (0, 4, 7, 8),
  .inl (0, 4, 8, 8),
  .inl (0, 4, 9, 8),
  .inl (0, 4, 12, 4),
  .inl (0, 4, 13, 4),
  .inl (0, 4, 14, 4),
  .inr (.inl (6, 15, [(1, 16), (1, 17), (1, 18), (1, 19), (1, 20), (1, 24), (0, 6)])),
  .inl (0, 15, 0, 5),
  .inl (0, 15, 1, 5),
  .inl (0, 15, 2, 8),
  .inl (0, 15, 3, 3),
  .inr (.inr (4, [21, 22, 23])),
  .inl (0, 15, 20, 12),
  .inl (0, 15, 21, 12),
  .inl (0, 15, 22, 12),
  .inl (0, 15, 5, 12),
  .inr (.inl (4, 25, [(0, 0), (1, 26), (1, 27), (0, 3), (1, 28), (1, 29), (0, 6), (1, 30), (1, 31), (1, 32), (0, 10), (0, 11), (1, 33), (1, 34), (1, 35), (0, 15)])),
  .inl (0, 25, 1, 4),
  .inl (0, 25, 2, 4),
  .inl (0, 25, 4, 5),
  .inl (0, 25, 5, 5),
  .inl (0, 25, 7, 8),
  .inl (0, 25, 8, 8),
  .inl (0, 25, 9, 8),
  .inl (0, 25, 12, 4),
  .inl (0, 25, 13, 4),
  .inl (0, 25, 14, 4),
  .inr (.inl (6, 36, [(1, 37), (1, 38), (1, 39), (1, 40), (1, 41), (1, 45), (0, 6)])),
  .inl (0, 36, 0, 5),
  .inl (0, 36, 1, 5),
  .inl (0, 36, 2, 8),
  .inl (0, 36, 3, 3),
  .inr (.inr (4, [42, 43, 44])),
  .inl (0, 36, 20, 12),
  .inl (0, 36, 21, 12),
  .inl (0, 36, 22, 12),
  .inl (0, 36, 5, 12),
  .inr (.inl (2, 46, [(1, 47), (1, 48), (1, 49), (1, 50), (1, 51), (0, 5), (0, 6), (0, 7), (0, 8), (0, 9), (1, 52), (1, 53)])),
  .inl (0, 46, 0, 8),
  .inl (0, 46, 1, 8),
  .inl (1, 46, 2, 8),
  .inl (0, 46, 3, 8),
  .inl (0, 46, 4, 8),
  .inl (0, 46, 10, 5),
  .inl (0, 46, 11, 8),
  .inr (.inl (1, 54, [(1, 55), (1, 63), (1, 64), (0, 3)])),
  .inr (.inl (2, 55, [(1, 56), (1, 57), (1, 58), (1, 59), (1, 60), (0, 5), (0, 6), (0, 7), (0, 8), (0, 9), (1, 61), (1, 62)])),
  .inl (0, 55, 0, 8),
  .inl (0, 55, 1, 8),
  .inl (1, 55, 2, 8),
  .inl (0, 55, 3, 8),
  .inl (0, 55, 4, 8),
  .inl (0, 55, 10, 5),
  .inl (0, 55, 11, 8),
  .inl (0, 54, 1, 12),
  .inl (0, 54, 2, 12),
  .inr (.inl (0, 65, [(0, 0), (0, 1), (0, 2), (0, 3), (0, 4), (0, 5), (0, 6), (0, 7)])),
  .inr (.inr (5, [68, 87])),
  .inr (.inr (6, [106, 108, 110, 112])),
  .inr (.inl (3, 68, [(1, 69), (1, 79), (0, 2)])),
  .inr (.inl (6, 69, [(1, 70), (1, 71), (1, 72), (1, 73), (1, 74), (1, 78), (0, 6)])),
  .inl (0, 69, 0, 5),
  .inl (0, 69, 1, 5),
  .inl (0, 69, 2, 8),
  .inl (0, 69, 3, 3),
  .inr (.inr (4, [75, 76, 77])),
  .inl (0, 69, 20, 12),
  .inl (0, 69, 21, 12),
  .inl (0, 69, 22, 12),
  .inl (0, 69, 5, 12),
  .inr (.inl (2, 79, [(1, 80), (1, 81), (1, 82), (1, 83), (1, 84), (0, 5), (0, 6), (0, 7), (0, 8), (0, 9), (1, 85), (1, 86)])),
  .inl (0, 79, 0, 8),
  .inl (0, 79, 1, 8),
  .inl (1, 79, 2, 8),
  .inl (0, 79, 3, 8),
  .inl (0, 79, 4, 8),
  .inl (0, 79, 10, 5),
  .inl (0, 79, 11, 8),
  .inr (.inl (3, 87, [(1, 88), (1, 98), (0, 2)])),
  .inr (.inl (6, 88, [(1, 89), (1, 90), (1, 91), (1, 92), (1, 93), (1, 97), (0, 6)])),
  .inl (0, 88, 0, 5),
  .inl (0, 88, 1, 5),
  .inl (0, 88, 2, 8),
  .inl (0, 88, 3, 3),
  .inr (.inr (4, [94, 95, 96])),
  .inl (0, 88, 20, 12),
  .inl (0, 88, 21, 12),
  .inl (0, 88, 22, 12),
  .inl (0, 88, 5, 12),
  .inr (.inl (2, 98, [(1, 99), (1, 100), (1, 101), (1, 102), (1, 103), (0, 5), (0, 6), (0, 7), (0, 8), (0, 9), (1, 104), (1, 105)])),
  .inl (0, 98, 0, 8),
  .inl (0, 98, 1, 8),
  .inl (1, 98, 2, 8),
  .inl (0, 98, 3, 8),
  .inl (0, 98, 4, 8),
  .inl (0, 98, 10, 5),
  .inl (0, 98, 11, 8),
  .inr (.inl (7, 106, [(1, 107), (0, 1), (0, 2)])),
  .inl (0, 106, 0, 40),
  .inr (.inl (7, 108, [(1, 109), (0, 1), (0, 2)])),
  .inl (0, 108, 0, 40),
  .inr (.inl (7, 110, [(1, 111), (0, 1), (0, 2)])),
  .inl (0, 110, 0, 40),
  .inr (.inl (7, 112, [(1, 113), (0, 1), (0, 2)])),
  .inl (0, 112, 0, 40),
  .inr (.inl (10, 114, [(1, 115), (0, 1), (0, 2), (0, 3), (0, 4), (0, 5), (0, 6), (1, 116), (1, 117), (1, 118), (1, 119), (1, 120), (1, 121), (1, 122), (1, 123), (1, 124), (1, 125), (0, 17), (0, 18), (0, 19), (0, 20), (1, 126), (0, 22), (0, 23), (0, 24), (0, 25), (0, 26), (0, 27), (0, 28), (0, 29), (1, 127), (1, 128), (1, 129), (1, 130), (0, 34), (1, 131), (1, 132), (0, 37), (0, 38), (0, 39), (0, 40), (1, 133), (1, 134), (1, 135), (1, 136), (0, 45)])),
  .inl (0, 114, 0, 700),
  .inl (0, 114, 7, 8),
  .inl (0, 114, 8, 10),
  .inl (0, 114, 9, 8),
  .inl (0, 114, 10, 12),
  .inl (0, 114, 11, 140),
  .inl (0, 114, 12, 8),
  .inl (0, 114, 13, 10),
  .inl (0, 114, 14, 8),
  .inl (0, 114, 15, 12),
  .inl (0, 114, 16, 5),
  .inl (0, 114, 21, 320),
  .inl (0, 114, 30, 16),
  .inl (0, 114, 31, 67),
  .inl (0, 114, 32, 5),
  .inl (0, 114, 33, 8),
  .inl (0, 114, 35, 12),
  .inl (0, 114, 36, 12),
  .inl (3, 114, 41, 2),
  .inl (0, 114, 42, 4),
  .inl (0, 114, 43, 4),
  .inl (0, 114, 44, 160)]
def hz_0 (Z : dz_Z) : mm_H := hz_t.map (hz_c Z)
set_option maxRecDepth 20000 in
theorem hz_ok : hz_pw hz_t = true := by decide +kernel
end mg_21hz
section mg_22wq
/-! the heap as a table over Z: lookups, writes, and the machine's steps over it -/
theorem hz_g {Z : dz_Z} {c : Nat} {s : hz_S} (h : hz_t[c]? = some s) : (hz_0 Z)[c]? = some (hz_c Z s) := by
  unfold hz_0
  rw [List.getElem?_map, h]
  rfl
theorem hz_pwl {s s' : hz_S} : ∀ (l : List hz_S) (i j : Nat), hz_pw l = true → i < j → l[i]? = some s → l[j]? = some s' → hz_dis s s' = true
  | [], i, j, _, _, hi, _ => by simp at hi
  | a :: t, 0, 0, _, hl, _, _ => by omega
  | a :: t, 0, j + 1, hp, _, hi, hj => by
    simp only [List.getElem?_cons_zero, Option.some.injEq] at hi
    simp only [List.getElem?_cons_succ] at hj
    subst hi
    unfold hz_pw at hp
    rw [Bool.and_eq_true, List.all_eq_true] at hp
    exact hp.1 _ (List.mem_of_getElem? hj)
  | a :: t, i + 1, 0, _, hl, _, _ => by omega
  | a :: t, i + 1, j + 1, hp, hl, hi, hj => by
    simp only [List.getElem?_cons_succ] at hi hj
    unfold hz_pw at hp
    rw [Bool.and_eq_true] at hp
    exact hz_pwl t i j hp.2 (by omega) hi hj
theorem hz_bs {b f : Nat} {s : hz_S} (h : hz_m b f s = true) : hz_bo s = some b := by
  unfold hz_m hz_l at h
  unfold hz_bo
  split at h
  · simp only [List.any_cons, List.any_nil, Bool.or_false, Bool.and_eq_true] at h
    rw [Nat.eq_of_beq_eq_true h.1]
  · rw [List.any_eq_true] at h
    obtain ⟨p, hp, hq⟩ := h
    obtain ⟨q, -, rfl⟩ := List.mem_map.mp hp
    rw [Bool.and_eq_true] at hq
    exact congrArg some (Nat.eq_of_beq_eq_true hq.1)
  · simp at h
theorem hz_dm {b f : Nat} {s s' : hz_S} (h : hz_m b f s = true) (h' : hz_m b f s' = true) (hd : hz_dis s s' = true) : False := by
  have e1 := hz_bs h
  have e2 := hz_bs h'
  unfold hz_dis at hd
  rw [e1, e2] at hd
  simp only [Nat.beq_refl, cond_true] at hd
  unfold hz_m at h
  rw [List.any_eq_true] at h
  obtain ⟨p, hp, hq⟩ := h
  rw [Bool.and_eq_true] at hq
  rw [List.all_eq_true] at hd
  have := hd p hp
  rw [Nat.eq_of_beq_eq_true hq.1, Nat.eq_of_beq_eq_true hq.2, h'] at this
  cases this
theorem hz_one {b f c c' : Nat} {s s' : hz_S} (h : hz_t[c]? = some s) (h' : hz_t[c']? = some s') (hn : c' ≠ c) (hm : hz_m b f s = true) : hz_m b f s' = false := by
  cases hm' : hz_m b f s' with
  | false => rfl
  | true =>
    exfalso
    rcases Nat.lt_or_gt_of_ne hn with hl | hl
    · exact hz_dm hm' hm (hz_pwl hz_t c' c hz_ok hl h' h)
    · exact hz_dm hm hm' (hz_pwl hz_t c c' hz_ok hl h h')
theorem hz_cm {Z Z' : dz_Z} {b f : Nat} (hz : ∀ b' f', ¬(b' = b ∧ f' = f) → Z' b' f' = Z b' f') {s : hz_S} (hm : hz_m b f s = false) : hz_c Z' s = hz_c Z s := by
  unfold hz_m hz_l at hm
  have hk : ∀ b' f', (Nat.beq b' b && Nat.beq f' f) = false → Z' b' f' = Z b' f' := by
    intro b' f' h
    apply hz
    rintro ⟨rfl, rfl⟩
    simp [Nat.beq_refl] at h
  unfold hz_c
  split
  · simp only [List.any_cons, List.any_nil, Bool.or_false] at hm
    rw [hk _ _ hm]
  · simp only [List.any_cons, List.any_nil, Bool.or_false] at hm
    rw [hk _ _ hm]
  · next b1 fs =>
    congr 2
    apply List.map_congr_left
    intro q hq
    rw [List.any_eq_false] at hm
    unfold hz_v
    split
    · next h0 => rw [hk _ _ (by have := hm (b1, q.2) (List.mem_map.mpr ⟨q, List.mem_filter.mpr ⟨hq, by rw [h0]; rfl⟩, rfl⟩); exact Bool.eq_false_iff.mpr this)]
    · rfl
    · next h0 h1 => rw [hk _ _ (by have := hm (b1, q.2) (List.mem_map.mpr ⟨q, List.mem_filter.mpr ⟨hq, by cases hb : Nat.beq q.1 1 with | false => rfl | true => exact absurd (Nat.eq_of_beq_eq_true hb) h1⟩, rfl⟩); exact Bool.eq_false_iff.mpr this)]
  · rfl
theorem hz_s {Z Z' : dz_Z} {b f c : Nat} {s : hz_S} (hc : hz_t[c]? = some s) (hm : hz_m b f s = true) (hz : ∀ b' f', ¬(b' = b ∧ f' = f) → Z' b' f' = Z b' f') : (hz_0 Z).set c (hz_c Z' s) = hz_0 Z' := by
  apply List.ext_getElem?
  intro k
  by_cases hk : k = c
  · subst hk
    rw [List.getElem?_set_self (mm_lt (hz_g hc)), hz_g hc]
  · rw [List.getElem?_set_ne (Ne.symm hk)]
    unfold hz_0
    rw [List.getElem?_map, List.getElem?_map]
    cases h : hz_t[k]? with
    | none => rfl
    | some s' => simp only [Option.map_some]; rw [hz_cm hz (hz_one hc h hk hm)]
theorem dz_uo {Z : dz_Z} {b f : Nat} {i v : Int} : ∀ b' f', ¬(b' = b ∧ f' = f) → dz_u Z b f i v b' f' = Z b' f' := by
  intro b' f' h
  funext i'
  unfold dz_u
  rw [if_neg (fun q => h ⟨q.1, q.2.1⟩)]
theorem dz_fo {Z : dz_Z} {b f : Nat} {g : Int → Int} : ∀ b' f', ¬(b' = b ∧ f' = f) → dz_f Z b f g b' f' = Z b' f' := by
  intro b' f' h
  funext i'
  unfold dz_f
  rw [if_neg h]
theorem dz_ws {Z : dz_Z} {b f n : Nat} {j v : Int} (h0 : 0 ≤ j) : (dz_w n (Z b f)).set j.toNat (Int32.ofInt v) = dz_w n (dz_u Z b f j v b f) := by
  apply List.ext_getElem?
  intro k
  unfold dz_w dz_u
  rw [List.getElem?_set]
  simp only [List.length_map, List.length_range, List.getElem?_map]
  by_cases hk : j.toNat = k
  · subst hk
    rw [if_pos rfl]
    by_cases hl : j.toNat < n
    · rw [if_pos hl, List.getElem?_range hl]
      simp only [Option.map_some, true_and]
      rw [if_pos (by omega)]
    · rw [if_neg hl, List.getElem?_eq_none (by simp; omega)]
      rfl
  · rw [if_neg hk]
    cases h : (List.range n)[k]? with
    | none => rfl
    | some k' =>
      have : k' = k := by have := List.getElem?_eq_some_iff.mp h; obtain ⟨h1, h2⟩ := this; simpa using h2.symm
      subst this
      simp only [Option.map_some, true_and]
      rw [if_neg (by omega)]
theorem dz_xs {Z : dz_Z} {b f n : Nat} {j v : Int} (h0 : 0 ≤ j) : (dz_x n (Z b f)).set j.toNat (Int64.ofInt v) = dz_x n (dz_u Z b f j v b f) := by
  apply List.ext_getElem?
  intro k
  unfold dz_x dz_u
  rw [List.getElem?_set]
  simp only [List.length_map, List.length_range, List.getElem?_map]
  by_cases hk : j.toNat = k
  · subst hk
    rw [if_pos rfl]
    by_cases hl : j.toNat < n
    · rw [if_pos hl, List.getElem?_range hl]
      simp only [Option.map_some, true_and]
      rw [if_pos (by omega)]
    · rw [if_neg hl, List.getElem?_eq_none (by simp; omega)]
      rfl
  · rw [if_neg hk]
    cases h : (List.range n)[k]? with
    | none => rfl
    | some k' =>
      have : k' = k := by have := List.getElem?_eq_some_iff.mp h; obtain ⟨h1, h2⟩ := this; simpa using h2.symm
      subst this
      simp only [Option.map_some, true_and]
      rw [if_neg (by omega)]
theorem dz_wn (n : Nat) (g : Int → Int) : (dz_w n g).length = n := by unfold dz_w; simp
theorem dz_xn (n : Nat) (g : Int → Int) : (dz_x n g).length = n := by unfold dz_x; simp
theorem dz_wg {n : Nat} {g : Int → Int} {j : Int} (h0 : 0 ≤ j) (h1 : j < n) : (dz_w n g).getD j.toNat 0 = Int32.ofInt (g j) := by
  unfold dz_w
  rw [List.getD_eq_getElem?_getD, List.getElem?_map, List.getElem?_range (by omega)]
  simp only [Option.map_some, Option.getD_some]
  rw [Int.toNat_of_nonneg h0]
theorem dz_xg {n : Nat} {g : Int → Int} {j : Int} (h0 : 0 ≤ j) (h1 : j < n) : (dz_x n g).getD j.toNat 0 = Int64.ofInt (g j) := by
  unfold dz_x
  rw [List.getD_eq_getElem?_getD, List.getElem?_map, List.getElem?_range (by omega)]
  simp only [Option.map_some, Option.getD_some]
  rw [Int.toNat_of_nonneg h0]
theorem dz_tn (j : Int) : (Int32.ofInt j).toNatClampNeg = (dz_c j).toNat := rfl
theorem dz_in {j j' : Int} {n : Nat} (hj : dz_c j = j') (h0 : 0 ≤ j') (h1 : j' < n) : mm_in (Int32.ofInt j) n = true := by
  subst hj
  unfold mm_in
  rw [dz_tn, Bool.and_eq_true, Bool.not_eq_true', decide_eq_false_iff_not]
  refine ⟨fun h => ?_, by rw [Nat.blt_eq]; omega⟩
  have : dz_c j < (0 : Int32).toInt := Int32.lt_iff_toInt_lt.mp h
  simp only [Int32.toInt_zero] at this
  omega
section wq
variable {X : Option (List Int32)} {Dp : Nat} {r : mm_R} {pc pc' n : Nat} {ls ls' : mm_L} {t : List Value} {h h' : mm_H} {Q : Option Value → mm_H → Prop} {i : Instr} {Z : dz_Z} {idx ci c b f k : Nat} {x y z j j' : Int} {fs : List (Nat × Nat)} {w : Int × List (Nat × Nat)}
theorem wq_2 (hat : mm_at r pc = some (i, 1)) (hk : mm_kd i = 1) (hop : mm_s2 i (Int32.ofInt x) (Int32.ofInt y) = some (Int32.ofInt z)) (hp : pc + 1 = pc') (kk : mm_Wp X Dp r pc' ls (dz_I z :: t) h Q) : mm_Wp X Dp r pc ls (dz_I y :: dz_I x :: t) h Q := by
  subst hp
  refine wp_s hat (ls' := ls) (st' := dz_I z :: t) (h' := h) ?_ kk
  unfold mm_go
  rw [hk]
  simp only [hop, Option.map_some]
theorem wq_3 {v v' : Value} (hat : mm_at r pc = some (i, 1)) (hk : mm_kd i = 2) (hop : mm_s3 i v = some v') (hp : pc + 1 = pc') (kk : mm_Wp X Dp r pc' ls (v' :: t) h Q) : mm_Wp X Dp r pc ls (v :: t) h Q := by
  subst hp
  refine wp_s hat (ls' := ls) (st' := v' :: t) (h' := h) ?_ kk
  unfold mm_go
  rw [hk]
  simp only [hop, Option.map_some]
theorem wq_4 {v v' u : Value} (hat : mm_at r pc = some (i, 1)) (hk : mm_kd i = 3) (hop : mm_s4 i v u = some v') (hp : pc + 1 = pc') (kk : mm_Wp X Dp r pc' ls (v' :: t) h Q) : mm_Wp X Dp r pc ls (u :: v :: t) h Q := by
  subst hp
  refine wp_s hat (ls' := ls) (st' := v' :: t) (h' := h) ?_ kk
  unfold mm_go
  rw [hk]
  simp only [hop, Option.map_some]
theorem wq_inc {d : Int} (hat : mm_at r pc = some (.iinc k d, 3)) (hl : mm_ld ls k = some (dz_I x)) (hs : mm_sv ls k (dz_I (x + d)) = some ls') (hp : pc + 3 = pc') (kk : mm_Wp X Dp r pc' ls' t h Q) : mm_Wp X Dp r pc ls t h Q := by
  subst hp
  refine wp_s hat (ls' := ls') (st' := t) (h' := h) ?_ kk
  show (Sum.inl ((mm_s7 (.iinc k d) 3 ls t).map (fun q : mm_L × List Value => (pc + 3, q.1, q.2, h))) : mm_O) = _
  unfold mm_s7
  simp only [hl]
  rw [← Int32.ofInt_add, hs]
  rfl
theorem wq_st (hat : mm_at r pc = some (i, n)) {v : Int32} (hk : mm_kd i = 6) (hi : mm_s7 i n ls (.int v :: t) = (mm_sv ls k (.int v)).map (fun q => (q, t))) (hs : mm_sv ls k (.int v) = some ls') (hp : pc + n = pc') (kk : mm_Wp X Dp r pc' ls' t h Q) : mm_Wp X Dp r pc ls (.int v :: t) h Q := by
  subst hp
  refine wp_s hat (ls' := ls') (st' := t) (h' := h) ?_ kk
  unfold mm_go
  rw [hk]
  simp only [hi, hs, Option.map_some]
theorem wq_sa {F : Int → mm_L} (hat : mm_at r pc = some (i, n)) (hk : mm_kd i = 6) (hi : ∀ z, mm_s7 i n ls (dz_I z :: t) = (mm_sv ls k (dz_I z)).map (fun q => (q, t))) (hs : ∀ z, mm_sv ls k (dz_I z) = some (F z)) (hp : pc + n = pc') (kk : ∀ z, z = x → mm_Wp X Dp r pc' (F z) t h Q) : mm_Wp X Dp r pc ls (dz_I x :: t) h Q := wq_st hat hk (hi x) (hs x) hp (kk x rfl)
theorem wq_if {q : ClassFile.Cond} {off : Int} {v : Int32} {tt : Nat} {p : Prop} [Decidable p] (hat : mm_at r pc = some (.ifCond q off, 3)) (ht : mm_tg pc off = some tt) (hc : mm_cc q v 0 = decide p) (hp : pc + 3 = pc') (kt : p → mm_Wp X Dp r tt ls t h Q) (kf : ¬p → mm_Wp X Dp r pc' ls t h Q) : mm_Wp X Dp r pc ls (.int v :: t) h Q := by
  subst hp
  exact wp_if hat ht (fun e => kt (of_decide_eq_true (hc ▸ e))) (fun e => kf (of_decide_eq_false (hc ▸ e)))
theorem wq_ic {q : ClassFile.Cond} {off : Int} {u v : Int32} {tt : Nat} {p : Prop} [Decidable p] (hat : mm_at r pc = some (.if_icmp q off, 3)) (ht : mm_tg pc off = some tt) (hc : mm_cc q u v = decide p) (hp : pc + 3 = pc') (kt : p → mm_Wp X Dp r tt ls t h Q) (kf : ¬p → mm_Wp X Dp r pc' ls t h Q) : mm_Wp X Dp r pc ls (.int v :: .int u :: t) h Q := by
  subst hp
  exact wp_ic hat ht (fun e => kt (of_decide_eq_true (hc ▸ e))) (fun e => kf (of_decide_eq_false (hc ▸ e)))
-- fields
theorem wq_gi (hat : mm_at r pc = some (.getfield idx, 3)) (hrk : mm_rk r.2.2.2 idx = some (idx, 0, ci, k, w)) (hc : hz_t[c]? = some (.inr (.inl (ci, b, fs)))) (hv : fs[k]? = some (0, k)) (hp : pc + 3 = pc') (kk : mm_Wp X Dp r pc' ls (dz_I (Z b k 0) :: t) (hz_0 Z) Q) : mm_Wp X Dp r pc ls (.ref c :: t) (hz_0 Z) Q :=
  wp_gf hat hrk (hz_g hc) (by show (fs.map (hz_v Z b))[k]? = _; rw [List.getElem?_map, hv]; rfl) hp kk
theorem wq_gr {a : Nat} (hat : mm_at r pc = some (.getfield idx, 3)) (hrk : mm_rk r.2.2.2 idx = some (idx, 0, ci, k, w)) (hc : hz_t[c]? = some (.inr (.inl (ci, b, fs)))) (hv : fs[k]? = some (1, a)) (hp : pc + 3 = pc') (kk : mm_Wp X Dp r pc' ls (.ref a :: t) (hz_0 Z) Q) : mm_Wp X Dp r pc ls (.ref c :: t) (hz_0 Z) Q :=
  wp_gf hat hrk (hz_g hc) (by show (fs.map (hz_v Z b))[k]? = _; rw [List.getElem?_map, hv]; rfl) hp kk
theorem wq_gd (hat : mm_at r pc = some (.getfield idx, 3)) (hrk : mm_rk r.2.2.2 idx = some (idx, 0, ci, k, w)) (hc : hz_t[c]? = some (.inr (.inl (ci, b, fs)))) (hv : fs[k]? = some (2, k)) (hp : pc + 3 = pc') (kk : mm_Wp X Dp r pc' ls (.ref (Z b k 0).toNat :: t) (hz_0 Z) Q) : mm_Wp X Dp r pc ls (.ref c :: t) (hz_0 Z) Q :=
  wp_gf hat hrk (hz_g hc) (by show (fs.map (hz_v Z b))[k]? = _; rw [List.getElem?_map, hv]; rfl) hp kk
theorem hz_ob {v : Value} {u : Nat} (hu : u ≠ 1) (hnd : ∀ (j : Nat) (p : Nat × Nat), fs[j]? = some p → p.1 ≠ 1 → p.2 = j) (hv : fs[k]? = some (u, k)) (hx : hz_v (dz_u Z b k 0 x) b (u, k) = v) : (fs.map (hz_v Z b)).set k v = fs.map (hz_v (dz_u Z b k 0 x) b) := by
  apply List.ext_getElem?
  intro j
  rw [List.getElem?_set]
  by_cases hj : k = j
  · subst hj
    rw [if_pos rfl, List.getElem?_map, hv, if_pos (by rw [List.length_map]; exact (List.getElem?_eq_some_iff.mp hv).1)]
    simp only [Option.map_some, hx]
  · rw [if_neg hj, List.getElem?_map, List.getElem?_map]
    cases hq : fs[j]? with
    | none => rfl
    | some p =>
      simp only [Option.map_some, Option.some.injEq]
      by_cases h1 : p.1 = 1
      · unfold hz_v; rw [h1]; rfl
      · have e := hnd j p hq h1
        unfold hz_v
        rw [dz_uo b p.2 (fun q => hj (by omega))]
theorem hz_mo {u : Nat} (hu : u ≠ 1) (hv : fs[k]? = some (u, k)) : hz_m b k (.inr (.inl (ci, b, fs))) = true := by
  unfold hz_m hz_l
  rw [List.any_eq_true]
  refine ⟨(b, k), List.mem_map.mpr ⟨(u, k), List.mem_filter.mpr ⟨List.mem_of_getElem? hv, ?_⟩, rfl⟩, by simp [Nat.beq_refl]⟩
  cases hb : Nat.beq u 1 with
  | false => rfl
  | true => exact absurd (Nat.eq_of_beq_eq_true hb) hu
def hz_nd (fs : List (Nat × Nat)) : Bool := (List.range fs.length).all (fun j => match fs[j]? with
  | some p => Nat.beq p.1 1 || Nat.beq p.2 j
  | none => true)
theorem hz_ndp (hb : hz_nd fs = true) : ∀ (j : Nat) (p : Nat × Nat), fs[j]? = some p → p.1 ≠ 1 → p.2 = j := by
  intro j p hj hp
  unfold hz_nd at hb
  rw [List.all_eq_true] at hb
  have := hb j (List.mem_range.mpr (List.getElem?_eq_some_iff.mp hj).1)
  rw [hj] at this
  simp only [Bool.or_eq_true] at this
  rcases this with h1 | h1
  · exact absurd (Nat.eq_of_beq_eq_true h1) hp
  · exact Nat.eq_of_beq_eq_true h1
theorem wq_pi {fin : Nat} {ps : List (Nat × Nat)} (hat : mm_at r pc = some (.putfield idx, 3)) (hrk : mm_rk r.2.2.2 idx = some (idx, 0, ci, k, .ofNat fin, ps)) (hfin : Nat.ble 2 fin = false) (hc : hz_t[c]? = some (.inr (.inl (ci, b, fs)))) (hfit : mm_fit (mm_ft ci k) (dz_I x) = true) (hv : fs[k]? = some (0, k)) (hb : hz_nd fs = true) (hp : pc + 3 = pc') (kk : ∀ Z', Z' = dz_u Z b k 0 x → mm_Wp X Dp r pc' ls t (hz_0 Z') Q) : mm_Wp X Dp r pc ls (dz_I x :: .ref c :: t) (hz_0 Z) Q := by
  refine wp_pf hat hrk hfin (hz_g hc) ?_ hfit (hz_ob (by decide) (hz_ndp hb) hv (by unfold hz_v dz_u; simp)) (hz_s (Z' := dz_u Z b k 0 x) hc (hz_mo (by decide) hv) dz_uo) hp (kk _ rfl)
  rw [Nat.blt_eq, List.length_map]
  exact (List.getElem?_eq_some_iff.mp hv).1
theorem wq_pr {a : Nat} {fin : Nat} {ps : List (Nat × Nat)} (hat : mm_at r pc = some (.putfield idx, 3)) (hrk : mm_rk r.2.2.2 idx = some (idx, 0, ci, k, .ofNat fin, ps)) (hfin : Nat.ble 2 fin = false) (hc : hz_t[c]? = some (.inr (.inl (ci, b, fs)))) (hfit : mm_fit (mm_ft ci k) (.ref a) = true) (hv : fs[k]? = some (2, k)) (hb : hz_nd fs = true) (hp : pc + 3 = pc') (kk : ∀ Z', Z' = dz_u Z b k 0 (a : Int) → mm_Wp X Dp r pc' ls t (hz_0 Z') Q) : mm_Wp X Dp r pc ls (.ref a :: .ref c :: t) (hz_0 Z) Q := by
  refine wp_pf hat hrk hfin (hz_g hc) ?_ hfit (hz_ob (by decide) (hz_ndp hb) hv (by unfold hz_v dz_u; simp)) (hz_s (Z' := dz_u Z b k 0 (a : Int)) hc (hz_mo (by decide) hv) dz_uo) hp (kk _ rfl)
  rw [Nat.blt_eq, List.length_map]
  exact (List.getElem?_eq_some_iff.mp hv).1
-- arrays
theorem hz_ma {tag n : Nat} : hz_m b f (.inl (tag, b, f, n)) = true := by unfold hz_m hz_l; simp [Nat.beq_refl]
theorem wq_ia (hat : mm_at r pc = some (.iaload, 1)) (hc : hz_t[c]? = some (.inl (0, b, f, n))) (hj : dz_c j = j') (h0 : 0 ≤ j') (h1 : j' < (n : Int)) (hp : pc + 1 = pc') (kk : mm_Wp X Dp r pc' ls (dz_I (Z b f j') :: t) (hz_0 Z) Q) : mm_Wp X Dp r pc ls (dz_I j :: .ref c :: t) (hz_0 Z) Q :=
  wp_ia hat (hz_g hc) (by rw [dz_wn]; exact dz_in hj h0 h1) (by rw [dz_tn, hj]; exact dz_wg h0 h1) hp kk
theorem wq_ba {tag : Nat} (hat : mm_at r pc = some (.baload, 1)) (htg : tag = 2 ∨ tag = 3) (hc : hz_t[c]? = some (.inl (tag, b, f, n))) (hj : dz_c j = j') (h0 : 0 ≤ j') (h1 : j' < (n : Int)) (hp : pc + 1 = pc') (kk : mm_Wp X Dp r pc' ls (dz_I (Z b f j') :: t) (hz_0 Z) Q) : mm_Wp X Dp r pc ls (dz_I j :: .ref c :: t) (hz_0 Z) Q := by
  refine wp_ba (l := dz_w n (Z b f)) hat ?_ (by rw [dz_wn]; exact dz_in hj h0 h1) (by rw [dz_tn, hj]; exact dz_wg h0 h1) hp kk
  rcases htg with rfl | rfl
  · exact Or.inl (hz_g hc)
  · exact Or.inr (hz_g hc)
theorem wq_la (hat : mm_at r pc = some (.laload, 1)) (hc : hz_t[c]? = some (.inl (1, b, f, n))) (hj : dz_c j = j') (h0 : 0 ≤ j') (h1 : j' < (n : Int)) (hp : pc + 1 = pc') (kk : mm_Wp X Dp r pc' ls (dz_J (Z b f j') :: t) (hz_0 Z) Q) : mm_Wp X Dp r pc ls (dz_I j :: .ref c :: t) (hz_0 Z) Q :=
  wp_la hat (hz_g hc) (by rw [dz_xn]; exact dz_in hj h0 h1) (by rw [dz_tn, hj]; exact dz_xg h0 h1) hp kk
theorem wq_aa {tag a : Nat} {l : List Nat} (hat : mm_at r pc = some (.aaload, 1)) (htg : tag = 4 ∨ tag = 5 ∨ tag = 6) (hc : hz_t[c]? = some (.inr (.inr (tag, l)))) (hj : dz_c j = j') (h0 : 0 ≤ j') (h1 : j' < (l.length : Int)) (ha : l[j'.toNat]? = some a) (hp : pc + 1 = pc') (kk : mm_Wp X Dp r pc' ls (.ref a :: t) (hz_0 Z) Q) : mm_Wp X Dp r pc ls (dz_I j :: .ref c :: t) (hz_0 Z) Q :=
  wp_aa hat htg (hz_g hc) (by rw [List.length_map]; exact dz_in hj h0 h1) (by rw [dz_tn, hj, List.getD_eq_getElem?_getD, List.getElem?_map, ha]; rfl) hp kk
theorem wq_is (hat : mm_at r pc = some (.iastore, 1)) (hc : hz_t[c]? = some (.inl (0, b, f, n))) (hj : dz_c j = j') (h0 : 0 ≤ j') (h1 : j' < (n : Int)) (hp : pc + 1 = pc') (kk : ∀ Z', Z' = dz_u Z b f j' x → mm_Wp X Dp r pc' ls t (hz_0 Z') Q) : mm_Wp X Dp r pc ls (dz_I x :: dz_I j :: .ref c :: t) (hz_0 Z) Q :=
  wp_is hat (hz_g hc) (by rw [dz_wn]; exact dz_in hj h0 h1) (by rw [dz_tn, hj]; exact dz_ws h0) (hz_s (Z' := dz_u Z b f j' x) hc hz_ma dz_uo) hp (kk _ rfl)
theorem wq_bs (hat : mm_at r pc = some (.bastore, 1)) (hc : hz_t[c]? = some (.inl (2, b, f, n))) (hj : dz_c j = j') (h0 : 0 ≤ j') (h1 : j' < (n : Int)) (hp : pc + 1 = pc') (kk : ∀ Z', Z' = dz_u Z b f j' (dz_b x) → mm_Wp X Dp r pc' ls t (hz_0 Z') Q) : mm_Wp X Dp r pc ls (dz_I x :: dz_I j :: .ref c :: t) (hz_0 Z) Q :=
  wp_bs hat (hz_g hc) (by rw [dz_wn]; exact dz_in hj h0 h1) (by rw [dz_tn, hj, ← dz_oc (Int32.ofInt x).toInt8.toInt32]; exact dz_ws h0) (hz_s (Z' := dz_u Z b f j' (dz_b x)) hc hz_ma dz_uo) hp (kk _ rfl)
theorem wq_zs (hat : mm_at r pc = some (.bastore, 1)) (hc : hz_t[c]? = some (.inl (3, b, f, n))) (hx : Int32.ofInt x &&& 1 = Int32.ofInt x) (hj : dz_c j = j') (h0 : 0 ≤ j') (h1 : j' < (n : Int)) (hp : pc + 1 = pc') (kk : ∀ Z', Z' = dz_u Z b f j' x → mm_Wp X Dp r pc' ls t (hz_0 Z') Q) : mm_Wp X Dp r pc ls (dz_I x :: dz_I j :: .ref c :: t) (hz_0 Z) Q :=
  wp_zs hat (hz_g hc) (by rw [dz_wn]; exact dz_in hj h0 h1) (by rw [dz_tn, hj, hx]; exact dz_ws h0) (hz_s (Z' := dz_u Z b f j' x) hc hz_ma dz_uo) hp (kk _ rfl)
theorem wq_ls (hat : mm_at r pc = some (.lastore, 1)) (hc : hz_t[c]? = some (.inl (1, b, f, n))) (hj : dz_c j = j') (h0 : 0 ≤ j') (h1 : j' < (n : Int)) (hp : pc + 1 = pc') (kk : ∀ Z', Z' = dz_u Z b f j' x → mm_Wp X Dp r pc' ls t (hz_0 Z') Q) : mm_Wp X Dp r pc ls (dz_J x :: dz_I j :: .ref c :: t) (hz_0 Z) Q :=
  wp_lst hat (hz_g hc) (by rw [dz_xn]; exact dz_in hj h0 h1) (by rw [dz_tn, hj]; exact dz_xs h0) (hz_s (Z' := dz_u Z b f j' x) hc hz_ma dz_uo) hp (kk _ rfl)
theorem wq_al (hat : mm_at r pc = some (.arraylength, 1)) {tag : Nat} (htg : tag = 0 ∨ tag = 1) (hc : hz_t[c]? = some (.inl (tag, b, f, n))) (hp : pc + 1 = pc') (kk : mm_Wp X Dp r pc' ls (dz_I (n : Int) :: t) (hz_0 Z) Q) : mm_Wp X Dp r pc ls (.ref c :: t) (hz_0 Z) Q := by
  subst hp
  refine wp_s hat (ls' := ls) (st' := dz_I (n : Int) :: t) (h' := hz_0 Z) ?_ kk
  have e : mm_g1 X .arraylength (.ref c :: t) (hz_0 Z) = some (dz_I (n : Int) :: t) := by
    unfold mm_g1
    rcases htg with rfl | rfl
    · have := hz_g (Z := Z) hc
      simp only [this, hz_c, dz_wn]
      rfl
    · have := hz_g (Z := Z) hc
      simp only [this, hz_c, dz_xn]
      rfl
  show (match mm_g1 X .arraylength (.ref c :: t) (hz_0 Z) with | some t => (.inl (some (pc + 1, ls, t, hz_0 Z)) : mm_O) | none => .inl ((mm_g2 .arraylength (.ref c :: t) (hz_0 Z)).map (fun q : List Value × mm_H => (pc + 1, ls, q.1, q.2)))) = _
  rw [e]
theorem hz_cpw {n : Nat} {g g' : Int → Int} : mm_cp (dz_w n g) (dz_w n g') 0 0 n = dz_w n g := by
  unfold mm_cp
  rw [List.take_zero, List.nil_append, List.drop_zero, List.take_of_length_le (by rw [dz_wn]; exact Nat.le_refl _), Nat.zero_add, List.drop_of_length_le (by rw [dz_wn]; exact Nat.le_refl _), List.append_nil]
theorem hz_cpx {n : Nat} {g g' : Int → Int} : mm_cp (dz_x n g) (dz_x n g') 0 0 n = dz_x n g := by
  unfold mm_cp
  rw [List.take_zero, List.nil_append, List.drop_zero, List.take_of_length_le (by rw [dz_xn]; exact Nat.le_refl _), Nat.zero_add, List.drop_of_length_le (by rw [dz_xn]; exact Nat.le_refl _), List.append_nil]
theorem dz_fe {g : Int → Int} : dz_f Z b f g b f = g := by funext i'; unfold dz_f; simp
theorem wq_cp {c2 b2 f2 tag : Nat} {y2 : Nat} (hat : mm_at r pc = some (.invokestatic idx, 3)) (hrk : mm_rk r.2.2.2 idx = some (idx, 12, y2, k, w)) (htg : tag = 0 ∨ tag = 1) (hc : hz_t[c]? = some (.inl (tag, b, f, n))) (hc2 : hz_t[c2]? = some (.inl (tag, b2, f2, n))) (hn : dz_c (n : Int) = (n : Int)) (hw : Nat.ble (mm_wt t) 8 = true) (hp : pc + 3 = pc') (kk : ∀ Z', Z' = dz_f Z b2 f2 (Z b f) → mm_Wp X (Dp + 1) r pc' ls t (hz_0 Z') Q) : mm_Wp X (Dp + 1) r pc ls (dz_I (n : Int) :: dz_I 0 :: .ref c2 :: dz_I 0 :: .ref c :: t) (hz_0 Z) Q := by
  subst hp
  refine wp_s hat (ls' := ls) (st' := t) (h' := hz_0 (dz_f Z b2 f2 (Z b f))) ?_ (kk _ rfl)
  have e : mm_ac (dz_I (n : Int) :: dz_I 0 :: .ref c2 :: dz_I 0 :: .ref c :: t) (hz_0 Z) = some (t, hz_0 (dz_f Z b2 f2 (Z b f))) := by
    unfold mm_ac
    have h0 : decide (Int32.ofInt 0 < 0) = false := by decide
    have hn0 : decide (Int32.ofInt (n : Int) < 0) = false := by
      rw [decide_eq_false_iff_not]
      intro hlt
      have : dz_c (n : Int) < (0 : Int32).toInt := Int32.lt_iff_toInt_lt.mp hlt
      rw [hn, Int32.toInt_zero] at this
      omega
    have e1 := hz_g (Z := Z) hc
    have e2 := hz_g (Z := Z) hc2
    have ez : (Int32.ofInt 0).toNatClampNeg = 0 := rfl
    have eb : Nat.ble n n = true := Nat.ble_eq.mpr (Nat.le_refl n)
    have en : (Int32.ofInt (n : Int)).toNatClampNeg = n := by rw [dz_tn, hn]; omega
    rcases htg with rfl | rfl
    · simp only [hz_c] at e1 e2
      simp only [h0, hn0, hw, Bool.not_false, Bool.and_true, cond_true, e1, e2, ez, en, Nat.zero_add, dz_wn, eb, hz_cpw]
      rw [← hz_s (Z := Z) (Z' := dz_f Z b2 f2 (Z b f)) hc2 hz_ma dz_fo]
      simp only [hz_c, dz_fe]
    · simp only [hz_c] at e1 e2
      simp only [h0, hn0, hw, Bool.not_false, Bool.and_true, cond_true, e1, e2, ez, en, Nat.zero_add, dz_xn, eb, hz_cpx]
      rw [← hz_s (Z := Z) (Z' := dz_f Z b2 f2 (Z b f)) hc2 hz_ma dz_fo]
      simp only [hz_c, dz_fe]
  show mm_iv (Dp + 1) r (.invokestatic idx) pc ls _ _ = _
  unfold mm_iv
  simp only [hrk, e, Option.map_some]
-- calls
theorem wq_cv {r' : mm_R} {Dq mj : Nat} {as0 rest : List Value} {ls' : mm_L} (hat : mm_at r pc = some (.invokevirtual idx, 3)) (hrk : mm_rk r.2.2.2 idx = some (idx, 1, mj, ci, w)) (hmr : mm_rs[mj]? = some r') (htk : mm_tk r'.1.2.2.2.2.1 [] t = some (as0, .ref c :: rest)) (hc : hz_t[c]? = some (.inr (.inl (ci, b, fs)))) (hmk : mm_mk Dq r' (.ref c :: as0) rest = .inr (.inr (Dq, r', .ref c :: as0, rest))) (he : mm_en r' (.ref c :: as0) = ls') (hp : pc + 3 = pc') (kk : mm_Wp X Dq r' 0 ls' [] (hz_0 Z) (fun v1 h1 => mm_Wp X (Dq + 1) r pc' ls (v1.toList ++ rest) h1 Q)) : mm_Wp X (Dq + 1) r pc ls t (hz_0 Z) Q :=
  wp_cv hat hrk hmr htk (hz_g hc) hmk he hp kk
theorem wq_cs {r' : mm_R} {Dq mj kd z : Nat} {as0 rest : List Value} {ls' : mm_L} (hat : mm_at r pc = some (.invokestatic idx, 3)) (hrk : mm_rk r.2.2.2 idx = some (idx, kd, mj, z, w)) (hkd : kd = 2 ∨ kd = 5) (hmr : mm_rs[mj]? = some r') (htk : mm_tk r'.1.2.2.2.2.1 [] t = some (as0, rest)) (hmk : mm_mk Dq r' as0 rest = .inr (.inr (Dq, r', as0, rest))) (he : mm_en r' as0 = ls') (hp : pc + 3 = pc') (kk : mm_Wp X Dq r' 0 ls' [] h (fun v1 h1 => mm_Wp X (Dq + 1) r pc' ls (v1.toList ++ rest) h1 Q)) : mm_Wp X (Dq + 1) r pc ls t h Q := by
  subst hp
  refine wp_c hat (Dq := Dq) (r' := r') (as := as0) (rest := rest) ?_ he kk
  show mm_iv (Dq + 1) r (.invokestatic idx) pc ls t h = _
  unfold mm_iv mm_cl
  rcases hkd with rfl | rfl
  · simp only [hrk, hmr, htk, Nat.beq_refl, Bool.true_or, cond_true, cond_false]
    exact hmk
  · simp only [hrk, hmr, htk, Nat.beq_refl, Bool.or_true, cond_true, cond_false]
    exact hmk
/-- a call on a text -/
theorem wq_ct {r' : mm_R} {Dq mj a : Nat} {as0 rest : List Value} {ls' : mm_L} (hat : mm_at r pc = some (.invokevirtual idx, 3)) (hrk : mm_rk r.2.2.2 idx = some (idx, 1, mj, 1000, w)) (hmr : mm_rs[mj]? = some r') (htk : mm_tk r'.1.2.2.2.2.1 [] t = some (as0, .retAddr a :: rest)) (hx : mm_tx a = true) (hmk : mm_mk Dq r' (.retAddr a :: as0) rest = .inr (.inr (Dq, r', .retAddr a :: as0, rest))) (he : mm_en r' (.retAddr a :: as0) = ls') (hp : pc + 3 = pc') (kk : mm_Wp X Dq r' 0 ls' [] h (fun v1 h1 => mm_Wp X (Dq + 1) r pc' ls (v1.toList ++ rest) h1 Q)) : mm_Wp X (Dq + 1) r pc ls t h Q := by
  subst hp
  refine wp_c hat (Dq := Dq) (r' := r') (as := .retAddr a :: as0) (rest := rest) ?_ he kk
  show mm_cl (Dq + 1) r idx t (fun k => Nat.beq k 1) true h = _
  unfold mm_cl
  simp only [hrk, hmr, htk, hx, Nat.beq_refl, Bool.and_true, cond_true]
  exact hmk
-- answers
theorem wq_ri (hat : mm_at r pc = some (.ireturn, 1)) (hty : r.1.2.2.2.1 = some .int) (kk : Q (some (dz_I x)) h) : mm_Wp X Dp r pc ls [dz_I x] h Q := by
  refine wp_r hat (v := some (dz_I x)) ?_ kk
  show (match 1, mm_rt r.1.2.2.2.1 .ireturn [dz_I x] with | 1, some v => (.inr (.inl v) : mm_O) | _, _ => .inl none) = _
  rw [hty]
  rfl
theorem wq_rb {e : Bool} (hat : mm_at r pc = some (.ireturn, 1)) (hty : r.1.2.2.2.1 = some .boolean) (kk : Q (some (dz_B e)) h) : mm_Wp X Dp r pc ls [dz_B e] h Q := by
  refine wp_r hat (v := some (dz_B e)) ?_ kk
  show (match 1, mm_rt r.1.2.2.2.1 .ireturn [dz_B e] with | 1, some v => (.inr (.inl v) : mm_O) | _, _ => .inl none) = _
  rw [hty]
  cases e <;> rfl
theorem wq_rt (hat : mm_at r pc = some (.ireturn, 1)) (hty : r.1.2.2.2.1 = some .boolean) (kk : Q (some (dz_B true)) h) : mm_Wp X Dp r pc ls [dz_I 1] h Q := wq_rb (e := true) hat hty kk
theorem wq_rf (hat : mm_at r pc = some (.ireturn, 1)) (hty : r.1.2.2.2.1 = some .boolean) (kk : Q (some (dz_B false)) h) : mm_Wp X Dp r pc ls [dz_I 0] h Q := wq_rb (e := false) hat hty kk
theorem wq_rv (hat : mm_at r pc = some (.return_, 1)) (hty : r.1.2.2.2.1 = none) (kk : Q none h) : mm_Wp X Dp r pc ls [] h Q := by
  refine wp_r hat (v := none) ?_ kk
  show (match 1, mm_rt r.1.2.2.2.1 .return_ [] with | 1, some v => (.inr (.inl v) : mm_O) | _, _ => .inl none) = _
  rw [hty]
  rfl
end wq
end mg_22wq
section mg_23facts
abbrev hz_isF (c : Nat) : Prop := c = 46 ∨ c = 55 ∨ c = 79 ∨ c = 98
abbrev hz_isI (c : Nat) : Prop := c = 68 ∨ c = 87
abbrev hz_isP (c : Nat) : Prop := c = 4 ∨ c = 25
abbrev hz_isS (c : Nat) : Prop := c = 15 ∨ c = 36 ∨ c = 69 ∨ c = 88
abbrev hz_isH (c : Nat) : Prop := c = 106 ∨ c = 108 ∨ c = 110 ∨ c = 112
theorem ho_K : hz_t[65]? = some (.inr (.inl (0, 65, [(0, 0), (0, 1), (0, 2), (0, 3), (0, 4), (0, 5), (0, 6), (0, 7)]))) := rfl
theorem ho_C : hz_t[54]? = some (.inr (.inl (1, 54, [(1, 55), (1, 63), (1, 64), (0, 3)]))) := rfl
theorem ha_C_1 : hz_t[63]? = some (.inl (0, 54, 1, 12)) := rfl
theorem ha_C_2 : hz_t[64]? = some (.inl (0, 54, 2, 12)) := rfl
theorem ho_F {c : Nat} (h : hz_isF c) : hz_t[c]? = some (.inr (.inl (2, c, [(1, c + 1), (1, c + 2), (1, c + 3), (1, c + 4), (1, c + 5), (0, 5), (0, 6), (0, 7), (0, 8), (0, 9), (1, c + 6), (1, c + 7)]))) := by rcases h with rfl | rfl | rfl | rfl <;> rfl
theorem ha_F_0 {c : Nat} (h : hz_isF c) : hz_t[c + 1]? = some (.inl (0, c, 0, 8)) := by rcases h with rfl | rfl | rfl | rfl <;> rfl
theorem ha_F_1 {c : Nat} (h : hz_isF c) : hz_t[c + 2]? = some (.inl (0, c, 1, 8)) := by rcases h with rfl | rfl | rfl | rfl <;> rfl
theorem ha_F_2 {c : Nat} (h : hz_isF c) : hz_t[c + 3]? = some (.inl (1, c, 2, 8)) := by rcases h with rfl | rfl | rfl | rfl <;> rfl
theorem ha_F_3 {c : Nat} (h : hz_isF c) : hz_t[c + 4]? = some (.inl (0, c, 3, 8)) := by rcases h with rfl | rfl | rfl | rfl <;> rfl
theorem ha_F_4 {c : Nat} (h : hz_isF c) : hz_t[c + 5]? = some (.inl (0, c, 4, 8)) := by rcases h with rfl | rfl | rfl | rfl <;> rfl
theorem ha_F_10 {c : Nat} (h : hz_isF c) : hz_t[c + 6]? = some (.inl (0, c, 10, 5)) := by rcases h with rfl | rfl | rfl | rfl <;> rfl
theorem ha_F_11 {c : Nat} (h : hz_isF c) : hz_t[c + 7]? = some (.inl (0, c, 11, 8)) := by rcases h with rfl | rfl | rfl | rfl <;> rfl
theorem ho_I {c : Nat} (h : hz_isI c) : hz_t[c]? = some (.inr (.inl (3, c, [(1, c + 1), (1, c + 11), (0, 2)]))) := by rcases h with rfl | rfl <;> rfl
theorem ho_P {c : Nat} (h : hz_isP c) : hz_t[c]? = some (.inr (.inl (4, c, [(0, 0), (1, c + 1), (1, c + 2), (0, 3), (1, c + 3), (1, c + 4), (0, 6), (1, c + 5), (1, c + 6), (1, c + 7), (0, 10), (0, 11), (1, c + 8), (1, c + 9), (1, c + 10), (0, 15)]))) := by rcases h with rfl | rfl <;> rfl
theorem ha_P_1 {c : Nat} (h : hz_isP c) : hz_t[c + 1]? = some (.inl (0, c, 1, 4)) := by rcases h with rfl | rfl <;> rfl
theorem ha_P_2 {c : Nat} (h : hz_isP c) : hz_t[c + 2]? = some (.inl (0, c, 2, 4)) := by rcases h with rfl | rfl <;> rfl
theorem ha_P_4 {c : Nat} (h : hz_isP c) : hz_t[c + 3]? = some (.inl (0, c, 4, 5)) := by rcases h with rfl | rfl <;> rfl
theorem ha_P_5 {c : Nat} (h : hz_isP c) : hz_t[c + 4]? = some (.inl (0, c, 5, 5)) := by rcases h with rfl | rfl <;> rfl
theorem ha_P_7 {c : Nat} (h : hz_isP c) : hz_t[c + 5]? = some (.inl (0, c, 7, 8)) := by rcases h with rfl | rfl <;> rfl
theorem ha_P_8 {c : Nat} (h : hz_isP c) : hz_t[c + 6]? = some (.inl (0, c, 8, 8)) := by rcases h with rfl | rfl <;> rfl
theorem ha_P_9 {c : Nat} (h : hz_isP c) : hz_t[c + 7]? = some (.inl (0, c, 9, 8)) := by rcases h with rfl | rfl <;> rfl
theorem ha_P_12 {c : Nat} (h : hz_isP c) : hz_t[c + 8]? = some (.inl (0, c, 12, 4)) := by rcases h with rfl | rfl <;> rfl
theorem ha_P_13 {c : Nat} (h : hz_isP c) : hz_t[c + 9]? = some (.inl (0, c, 13, 4)) := by rcases h with rfl | rfl <;> rfl
theorem ha_P_14 {c : Nat} (h : hz_isP c) : hz_t[c + 10]? = some (.inl (0, c, 14, 4)) := by rcases h with rfl | rfl <;> rfl
theorem ho_R : hz_t[1]? = some (.inr (.inl (5, 1, [(1, 2), (2, 1), (2, 2), (0, 3), (0, 4), (0, 5), (0, 6), (0, 7), (0, 8), (0, 9)]))) := rfl
theorem ho_S {c : Nat} (h : hz_isS c) : hz_t[c]? = some (.inr (.inl (6, c, [(1, c + 1), (1, c + 2), (1, c + 3), (1, c + 4), (1, c + 5), (1, c + 9), (0, 6)]))) := by rcases h with rfl | rfl | rfl | rfl <;> rfl
theorem ha_S_0 {c : Nat} (h : hz_isS c) : hz_t[c + 1]? = some (.inl (0, c, 0, 5)) := by rcases h with rfl | rfl | rfl | rfl <;> rfl
theorem ha_S_1 {c : Nat} (h : hz_isS c) : hz_t[c + 2]? = some (.inl (0, c, 1, 5)) := by rcases h with rfl | rfl | rfl | rfl <;> rfl
theorem ha_S_2 {c : Nat} (h : hz_isS c) : hz_t[c + 3]? = some (.inl (0, c, 2, 8)) := by rcases h with rfl | rfl | rfl | rfl <;> rfl
theorem ha_S_3 {c : Nat} (h : hz_isS c) : hz_t[c + 4]? = some (.inl (0, c, 3, 3)) := by rcases h with rfl | rfl | rfl | rfl <;> rfl
theorem ha_S_4 {c : Nat} (h : hz_isS c) : hz_t[c + 5]? = some (.inr (.inr (4, [c + 6, c + 7, c + 8]))) := by rcases h with rfl | rfl | rfl | rfl <;> rfl
theorem ha_S_5 {c : Nat} (h : hz_isS c) : hz_t[c + 9]? = some (.inl (0, c, 5, 12)) := by rcases h with rfl | rfl | rfl | rfl <;> rfl
theorem ho_H {c : Nat} (h : hz_isH c) : hz_t[c]? = some (.inr (.inl (7, c, [(1, c + 1), (0, 1), (0, 2)]))) := by rcases h with rfl | rfl | rfl | rfl <;> rfl
theorem ha_H_0 {c : Nat} (h : hz_isH c) : hz_t[c + 1]? = some (.inl (0, c, 0, 40)) := by rcases h with rfl | rfl | rfl | rfl <;> rfl
theorem ho_T : hz_t[2]? = some (.inr (.inl (8, 2, [(1, 3), (0, 1)]))) := rfl
theorem ha_T_0 : hz_t[3]? = some (.inl (2, 2, 0, 320)) := rfl
theorem ho_O : hz_t[0]? = some (.inr (.inl (9, 0, [(1, 1), (1, 2), (2, 2), (2, 3), (1, 46), (1, 54), (1, 65), (1, 66), (1, 67), (0, 9), (0, 10)]))) := rfl
theorem ha_O_7 : hz_t[66]? = some (.inr (.inr (5, [68, 87]))) := rfl
theorem ha_O_8 : hz_t[67]? = some (.inr (.inr (6, [106, 108, 110, 112]))) := rfl
theorem ho_M : hz_t[114]? = some (.inr (.inl (10, 114, [(1, 115), (0, 1), (0, 2), (0, 3), (0, 4), (0, 5), (0, 6), (1, 116), (1, 117), (1, 118), (1, 119), (1, 120), (1, 121), (1, 122), (1, 123), (1, 124), (1, 125), (0, 17), (0, 18), (0, 19), (0, 20), (1, 126), (0, 22), (0, 23), (0, 24), (0, 25), (0, 26), (0, 27), (0, 28), (0, 29), (1, 127), (1, 128), (1, 129), (1, 130), (0, 34), (1, 131), (1, 132), (0, 37), (0, 38), (0, 39), (0, 40), (1, 133), (1, 134), (1, 135), (1, 136), (0, 45)]))) := rfl
theorem ha_M_0 : hz_t[115]? = some (.inl (0, 114, 0, 700)) := rfl
theorem ha_M_7 : hz_t[116]? = some (.inl (0, 114, 7, 8)) := rfl
theorem ha_M_8 : hz_t[117]? = some (.inl (0, 114, 8, 10)) := rfl
theorem ha_M_9 : hz_t[118]? = some (.inl (0, 114, 9, 8)) := rfl
theorem ha_M_10 : hz_t[119]? = some (.inl (0, 114, 10, 12)) := rfl
theorem ha_M_11 : hz_t[120]? = some (.inl (0, 114, 11, 140)) := rfl
theorem ha_M_12 : hz_t[121]? = some (.inl (0, 114, 12, 8)) := rfl
theorem ha_M_13 : hz_t[122]? = some (.inl (0, 114, 13, 10)) := rfl
theorem ha_M_14 : hz_t[123]? = some (.inl (0, 114, 14, 8)) := rfl
theorem ha_M_15 : hz_t[124]? = some (.inl (0, 114, 15, 12)) := rfl
theorem ha_M_16 : hz_t[125]? = some (.inl (0, 114, 16, 5)) := rfl
theorem ha_M_21 : hz_t[126]? = some (.inl (0, 114, 21, 320)) := rfl
theorem ha_M_30 : hz_t[127]? = some (.inl (0, 114, 30, 16)) := rfl
theorem ha_M_31 : hz_t[128]? = some (.inl (0, 114, 31, 67)) := rfl
theorem ha_M_32 : hz_t[129]? = some (.inl (0, 114, 32, 5)) := rfl
theorem ha_M_33 : hz_t[130]? = some (.inl (0, 114, 33, 8)) := rfl
theorem ha_M_35 : hz_t[131]? = some (.inl (0, 114, 35, 12)) := rfl
theorem ha_M_36 : hz_t[132]? = some (.inl (0, 114, 36, 12)) := rfl
theorem ha_M_41 : hz_t[133]? = some (.inl (3, 114, 41, 2)) := rfl
theorem ha_M_42 : hz_t[134]? = some (.inl (0, 114, 42, 4)) := rfl
theorem ha_M_43 : hz_t[135]? = some (.inl (0, 114, 43, 4)) := rfl
theorem ha_M_44 : hz_t[136]? = some (.inl (0, 114, 44, 160)) := rfl
theorem ha_Sr {c : Nat} (h : hz_isS c) {j : Int} (h0 : 0 ≤ j) (h1 : j < 3) : hz_t[c + 6 + j.toNat]? = some (.inl (0, c, 20 + j.toNat, 12)) := by
  have hj : j = 0 ∨ j = 1 ∨ j = 2 := by omega
  rcases hj with rfl | rfl | rfl <;> rcases h with rfl | rfl | rfl | rfl <;> rfl
theorem hr_S {c : Nat} {j : Int} (h0 : 0 ≤ j) (h1 : j < 3) : [c + 6, c + 7, c + 8][j.toNat]? = some (c + 6 + j.toNat) := by
  have hj : j = 0 ∨ j = 1 ∨ j = 2 := by omega
  rcases hj with rfl | rfl | rfl <;> rfl
theorem hr_I {j : Int} (h0 : 0 ≤ j) (h1 : j < 2) : [68, 87][j.toNat]? = some (68 + 19 * j.toNat) := by
  have hj : j = 0 ∨ j = 1 := by omega
  rcases hj with rfl | rfl <;> rfl
theorem hr_H {j : Int} (h0 : 0 ≤ j) (h1 : j < 4) : [106, 108, 110, 112][j.toNat]? = some (106 + 2 * j.toNat) := by
  have hj : j = 0 ∨ j = 1 ∨ j = 2 ∨ j = 3 := by omega
  rcases hj with rfl | rfl | rfl | rfl <;> rfl
theorem hi_I {j : Int} (h0 : 0 ≤ j) (h1 : j < 2) : hz_isI (68 + 19 * j.toNat) := by unfold hz_isI; omega
theorem hi_H {j : Int} (h0 : 0 ≤ j) (h1 : j < 4) : hz_isH (106 + 2 * j.toNat) := by unfold hz_isH; omega
theorem hi_IS {c : Nat} (h : hz_isI c) : hz_isS (c + 1) := by unfold hz_isI at h; unfold hz_isS; omega
theorem hi_IF {c : Nat} (h : hz_isI c) : hz_isF (c + 11) := by unfold hz_isI at h; unfold hz_isF; omega
theorem dz_back {S R : Type} {P : S → Prop} {K : R → Prop} {s : S} (H : dz_p (some (Sum.inl s)) (Sum.elim P K)) : P s := by have := dz_sm H; exact this
theorem dz_out {S R : Type} {P : S → Prop} {K : R → Prop} {r : R} (H : dz_p (some (Sum.inr r)) (Sum.elim P K)) : dz_p (some r) K := ⟨r, rfl, by have := dz_sm H; exact this⟩
theorem dz_jn {β : Type} {x : Option β} {K' : β → Prop} {G : Prop} (P : β → Prop) (H : dz_p x K') (hj : ∀ q, K' q → P q) (hb : dz_p x P → G) : G := hb (dz_pm H hj)
theorem dk_m4 : dz_c (-4) = (-4) := by decide
theorem dk_m1 : dz_c (-1) = (-1) := by decide
theorem dk_0 : dz_c 0 = 0 := by decide
theorem dk_1 : dz_c 1 = 1 := by decide
theorem dk_2 : dz_c 2 = 2 := by decide
theorem dk_3 : dz_c 3 = 3 := by decide
theorem dk_4 : dz_c 4 = 4 := by decide
theorem dk_5 : dz_c 5 = 5 := by decide
theorem dk_7 : dz_c 7 = 7 := by decide
theorem dk_8 : dz_c 8 = 8 := by decide
theorem dk_9 : dz_c 9 = 9 := by decide
theorem dk_10 : dz_c 10 = 10 := by decide
theorem dk_12 : dz_c 12 = 12 := by decide
theorem dk_15 : dz_c 15 = 15 := by decide
theorem dk_18 : dz_c 18 = 18 := by decide
theorem dk_20 : dz_c 20 = 20 := by decide
theorem dk_32 : dz_c 32 = 32 := by decide
theorem dk_40 : dz_c 40 = 40 := by decide
theorem dk_48 : dz_c 48 = 48 := by decide
theorem dk_57 : dz_c 57 = 57 := by decide
theorem dk_59 : dz_c 59 = 59 := by decide
theorem dk_73 : dz_c 73 = 73 := by decide
theorem dk_97 : dz_c 97 = 97 := by decide
theorem dk_99 : dz_c 99 = 99 := by decide
theorem dk_122 : dz_c 122 = 122 := by decide
theorem dk_134 : dz_c 134 = 134 := by decide
theorem dk_135 : dz_c 135 = 135 := by decide
theorem dk_136 : dz_c 136 = 136 := by decide
theorem dk_137 : dz_c 137 = 137 := by decide
theorem dk_140 : dz_c 140 = 140 := by decide
theorem dk_255 : dz_c 255 = 255 := by decide
theorem dk_320 : dz_c 320 = 320 := by decide
theorem dk_555 : dz_c 555 = 555 := by decide
theorem dk_556 : dz_c 556 = 556 := by decide
theorem dk_557 : dz_c 557 = 557 := by decide
section sw
variable {X : Option (List Int32)} {Dp : Nat} {r : mm_R} {pc n : Nat} {ls : mm_L} {t : List Value} {h : mm_H} {Q : Option Value → mm_H → Prop} {x x' : Int}
theorem wq_ts {d lo hi : Int} {offs : Array Int} {tt : Nat} (hat : mm_at r pc = some (.tableswitch d lo hi offs, n)) (hx : dz_c x = x') (ht : mm_sw pc d lo hi offs x' = some tt) (kk : mm_Wp X Dp r tt ls t h Q) : mm_Wp X Dp r pc ls (dz_I x :: t) h Q := by
  subst hx
  exact wp_ts hat ht kk
theorem wq_lk {d : Int} {ps : Array (Int × Int)} {tt : Nat} (hat : mm_at r pc = some (.lookupswitch d ps, n)) (hs : (ps.toList.zip (ps.toList.drop 1)).all (fun (a, next) => a.1 < next.1) = true) (hx : dz_c x = x') (ht : mm_tg pc (Op.lookupswitch.offset ps.toList d x') = some tt) (kk : mm_Wp X Dp r tt ls t h Q) : mm_Wp X Dp r pc ls (dz_I x :: t) h Q := by
  subst hx
  refine wp_s hat (pc' := tt) (ls' := ls) (st' := t) (h' := h) ?_ kk
  show (Sum.inl (((bif (ps.toList.zip (ps.toList.drop 1)).all (fun (a, next) => a.1 < next.1) then (mm_tg pc (Op.lookupswitch.offset ps.toList d (Int32.ofInt x).toInt)).map (fun a => (a, t)) else none)).map (fun q => (q.1, ls, q.2, h))) : mm_O) = _
  rw [hs]
  have ht' : mm_tg pc (Op.lookupswitch.offset ps.toList d (Int32.ofInt x).toInt) = some tt := ht
  rw [ht']
  rfl
end sw
end mg_23facts
