/-! what a heap of the law's run is, told by numbers: Z b f i = the i-th number of field f of the object whose cell is b (numbers count modulo 2^32, 2^64) -/
abbrev dz_Z : Type := Nat → Nat → Int → Int
abbrev dz_I (x : Int) : Value := .int (Int32.ofInt x)
abbrev dz_J (x : Int) : Value := .long (Int64.ofInt x)
abbrev dz_B (b : Bool) : Value := .int (bif b then 1 else 0)
def dz_c (x : Int) : Int := (Int32.ofInt x).toInt
def dz_l (x : Int) : Int := (Int64.ofInt x).toInt
def dz_u (Z : dz_Z) (b f : Nat) (i v : Int) : dz_Z := fun b' f' i' => if b' = b ∧ f' = f ∧ i' = i then v else Z b' f' i'
def dz_f (Z : dz_Z) (b f : Nat) (g : Int → Int) : dz_Z := fun b' f' i' => if b' = b ∧ f' = f then g i' else Z b' f' i'
def dz_w (n : Nat) (g : Int → Int) : List Int32 := (List.range n).map (fun i : Nat => Int32.ofInt (g (i : Int)))
def dz_x (n : Nat) (g : Int → Int) : List Int64 := (List.range n).map (fun i : Nat => Int64.ofInt (g (i : Int)))
def dz_sl (x y : Int) : Int := (Int32.ofInt x <<< (Int32.ofInt y &&& 31)).toInt
def dz_sr (x y : Int) : Int := (Int32.ofInt x >>> (Int32.ofInt y &&& 31)).toInt
def dz_ur (x y : Int) : Int := (((Int32.ofInt x).toUInt32 >>> ((Int32.ofInt y).toUInt32 &&& Int32.toUInt32 31)).toInt32).toInt
def dz_an (x y : Int) : Int := (Int32.ofInt x &&& Int32.ofInt y).toInt
def dz_or (x y : Int) : Int := (Int32.ofInt x ||| Int32.ofInt y).toInt
def dz_xo (x y : Int) : Int := (Int32.ofInt x ^^^ Int32.ofInt y).toInt
def dz_lsr (x y : Int) : Int := (Int64.ofInt x >>> ((Int32.ofInt y).toInt64 &&& 63)).toInt
def dz_lur (x y : Int) : Int := ((Int64.ofInt x).toUInt64 >>> ((Int32.ofInt y).toInt64.toUInt64 &&& Int64.toUInt64 63)).toInt64.toInt
def dz_lsl (x y : Int) : Int := (Int64.ofInt x <<< ((Int32.ofInt y).toInt64 &&& 63)).toInt
def dz_lan (x y : Int) : Int := (Int64.ofInt x &&& Int64.ofInt y).toInt
def dz_lor (x y : Int) : Int := (Int64.ofInt x ||| Int64.ofInt y).toInt
def dz_b (x : Int) : Int := (Int32.ofInt x).toInt8.toInt32.toInt
def dz_s (x : Int) : Int := (Int32.ofInt x).toInt16.toInt32.toInt
def dz_li (x : Int) : Int := (Int64.ofInt x).toInt32.toInt
-- programs: what they come to
def dz_p {α : Type} (o : Option α) (K : α → Prop) : Prop := ∃ a, o = some a ∧ K a
def dz_a {α β : Type} (x : α) (f : α → β) : β := f x
def dz_lp {S R : Type} (body : S → Option (S ⊕ R)) : Nat → S → Option R
  | 0, _ => none
  | n + 1, s => (body s).bind (fun q => match q with
    | .inl s' => dz_lp body n s'
    | .inr r => some r)
section dzp
variable {α β : Type} {K : α → Prop} {c : Prop}
theorem dz_no {P : Prop} (H : dz_p (none : Option α) K) : P := by
  obtain ⟨a, h, -⟩ := H
  cases h
theorem dz_sm {r : α} (H : dz_p (some r) K) : K r := by
  obtain ⟨a, h, k⟩ := H
  cases h
  exact k
theorem dz_ck [Decidable c] {a : Option α} (H : dz_p (if c then a else none) K) : c ∧ dz_p a K := by
  by_cases h : c
  · rw [if_pos h] at H; exact ⟨h, H⟩
  · rw [if_neg h] at H; exact dz_no H
theorem dz_it [Decidable c] {a b : Option α} (h : c) (H : dz_p (if c then a else b) K) : dz_p a K := by rw [if_pos h] at H; exact H
theorem dz_if [Decidable c] {a b : Option α} (h : ¬c) (H : dz_p (if c then a else b) K) : dz_p b K := by rw [if_neg h] at H; exact H
theorem dz_bi {x : Option β} {f : β → Option α} (H : dz_p (x.bind f) K) : dz_p x (fun a => dz_p (f a) K) := by
  cases x with
  | none => exact dz_no H
  | some a => exact ⟨a, rfl, H⟩
theorem dz_pm {x : Option α} {K' : α → Prop} (H : dz_p x K) (h : ∀ a, K a → K' a) : dz_p x K' := by
  obtain ⟨a, e, k⟩ := H
  exact ⟨a, e, h a k⟩
theorem dz_le {e : β} {f : β → Option α} (H : dz_p (dz_a e f) K) (z : β) (h : z = e) : dz_p (f z) K := by subst h; exact H
theorem dz_lpi {S : Type} {body : S → Option (S ⊕ α)} (P : S → Prop) (hb : ∀ s, dz_p (body s) (Sum.elim P K) → P s) : ∀ (n : Nat) (s : S), dz_p (dz_lp body n s) K → P s
  | 0, _, H => dz_no H
  | n + 1, s, H => by
    apply hb
    unfold dz_lp at H
    obtain ⟨q, e, H⟩ := dz_bi H
    refine ⟨q, e, ?_⟩
    cases q with
    | inl s' => exact dz_lpi P hb n s' H
    | inr r => exact (dz_sm (r := r) (K := K) H)
theorem dz_some {o : Option α} {a : α} (h : o = some a) (k : K a) : dz_p o K := ⟨a, h, k⟩
end dzp
-- numbers
theorem dz_oc (x : Int32) : Int32.ofInt x.toInt = x := Int32.ofInt_toInt x
theorem dz_ol (x : Int64) : Int64.ofInt x.toInt = x := Int64.ofInt_toInt x
theorem dz_cx (x : Int) : Int32.ofInt (dz_c x) = Int32.ofInt x := Int32.ofInt_toInt _
theorem dz_cb (x : Int) : -2147483648 ≤ dz_c x ∧ dz_c x ≤ 2147483647 := ⟨Int32.le_toInt _, Int32.toInt_le _⟩
theorem dz_ci {x : Int} (h : -2147483648 ≤ x) (h' : x ≤ 2147483647) : dz_c x = x := by
  unfold dz_c
  exact Int32.toInt_ofInt_of_le h (by omega)
theorem dz_li' {x : Int} (h : -9223372036854775808 ≤ x) (h' : x ≤ 9223372036854775807) : dz_l x = x := by
  unfold dz_l
  exact Int64.toInt_ofInt_of_le h (by omega)
theorem dz_lc (x : Int) : dz_l (dz_c x) = dz_c x := dz_li' (by have := dz_cb x; omega) (by have := dz_cb x; omega)
theorem dz_lcc (x y : Int) : dz_l (dz_c x + dz_c y) = dz_c x + dz_c y := dz_li' (by have := dz_cb x; have := dz_cb y; omega) (by have := dz_cb x; have := dz_cb y; omega)
theorem dz_cc (x : Int) : dz_c (dz_c x) = dz_c x := by unfold dz_c; rw [Int32.ofInt_toInt]
-- operations
theorem op_add (x y : Int) : mm_s2 .iadd (Int32.ofInt x) (Int32.ofInt y) = some (Int32.ofInt (x + y)) := congrArg some (Int32.ofInt_add x y).symm
theorem op_sub (x y : Int) : mm_s2 .isub (Int32.ofInt x) (Int32.ofInt y) = some (Int32.ofInt (x - y)) := congrArg some (Int32.ofInt_sub x y).symm
theorem op_mul (x y : Int) : mm_s2 .imul (Int32.ofInt x) (Int32.ofInt y) = some (Int32.ofInt (x * y)) := congrArg some (Int32.ofInt_mul x y).symm
theorem op_and (x y : Int) : mm_s2 .iand (Int32.ofInt x) (Int32.ofInt y) = some (Int32.ofInt (dz_an x y)) := congrArg some (dz_oc _).symm
theorem op_or (x y : Int) : mm_s2 .ior (Int32.ofInt x) (Int32.ofInt y) = some (Int32.ofInt (dz_or x y)) := congrArg some (dz_oc _).symm
theorem op_xor (x y : Int) : mm_s2 .ixor (Int32.ofInt x) (Int32.ofInt y) = some (Int32.ofInt (dz_xo x y)) := congrArg some (dz_oc _).symm
theorem op_shl (x y : Int) : mm_s2 .ishl (Int32.ofInt x) (Int32.ofInt y) = some (Int32.ofInt (dz_sl x y)) := congrArg some (dz_oc _).symm
theorem op_shr (x y : Int) : mm_s2 .ishr (Int32.ofInt x) (Int32.ofInt y) = some (Int32.ofInt (dz_sr x y)) := congrArg some (dz_oc _).symm
theorem op_ushr (x y : Int) : mm_s2 .iushr (Int32.ofInt x) (Int32.ofInt y) = some (Int32.ofInt (dz_ur x y)) := congrArg some (dz_oc _).symm
theorem dz_dv (x y : Int) : Int32.ofInt x / Int32.ofInt y = Int32.ofInt ((dz_c x).tdiv (dz_c y)) := by
  apply Int32.toInt_inj.mp
  rw [Int32.toInt_div, Int32.toInt_ofInt (n := (dz_c x).tdiv (dz_c y))]
  rfl
theorem op_div {x y x' y' : Int} (hx : dz_c x = x') (hy : dz_c y = y') (h : y' ≠ 0) : mm_s2 .idiv (Int32.ofInt x) (Int32.ofInt y) = some (Int32.ofInt (x'.tdiv y')) := by
  subst hx hy
  show (if Int32.ofInt y = 0 then none else some (Int32.ofInt x / Int32.ofInt y)) = _
  rw [if_neg (fun e => h (by unfold dz_c; rw [e]; rfl)), dz_dv]
theorem op_rem {x y x' y' : Int} (hx : dz_c x = x') (hy : dz_c y = y') (h : y' ≠ 0) : mm_s2 .irem (Int32.ofInt x) (Int32.ofInt y) = some (Int32.ofInt (x'.tmod y')) := by
  subst hx hy
  show (if Int32.ofInt y = 0 then none else some (Int32.ofInt x - Int32.ofInt x / Int32.ofInt y * Int32.ofInt y)) = _
  rw [if_neg (fun e => h (by unfold dz_c; rw [e]; rfl)), dz_dv]
  have e : (dz_c x).tmod (dz_c y) = dz_c x - (dz_c x).tdiv (dz_c y) * dz_c y := by have := Int.tmod_add_mul_tdiv (dz_c x) (dz_c y); rw [Int.mul_comm] at this; omega
  rw [e, Int32.ofInt_sub, Int32.ofInt_mul, dz_cx, dz_cx]
theorem oq_i2l (x : Int) : mm_s3 .i2l (dz_I x) = some (dz_J (dz_c x)) := by
  show some (Value.long (Int32.ofInt x).toInt64) = _
  rw [← Int64.ofInt_toInt (Int32.ofInt x).toInt64, Int32.toInt_toInt64]
  rfl
theorem oq_i2l' {x x' : Int} (h : dz_c x = x') : mm_s3 .i2l (dz_I x) = some (dz_J x') := by subst h; exact oq_i2l x
theorem oq_i2b (x : Int) : mm_s3 .i2b (dz_I x) = some (dz_I (dz_b x)) := by
  show some (Value.int _) = _
  rw [← dz_oc (Int32.ofInt x).toInt8.toInt32]
  rfl
theorem oq_i2s (x : Int) : mm_s3 .i2s (dz_I x) = some (dz_I (dz_s x)) := by
  show some (Value.int _) = _
  rw [← dz_oc (Int32.ofInt x).toInt16.toInt32]
  rfl
theorem oq_l2i (x : Int) : mm_s3 .l2i (dz_J x) = some (dz_I (dz_li x)) := by
  show some (Value.int _) = _
  rw [← dz_oc (Int64.ofInt x).toInt32]
  rfl
theorem ol_add (x y : Int) : mm_s4 .ladd (dz_J x) (dz_J y) = some (dz_J (x + y)) := congrArg (fun z => some (Value.long z)) (Int64.ofInt_add x y).symm
theorem ol_and (x y : Int) : mm_s4 .land (dz_J x) (dz_J y) = some (dz_J (dz_lan x y)) := congrArg (fun z => some (Value.long z)) (dz_ol _).symm
theorem ol_or (x y : Int) : mm_s4 .lor (dz_J x) (dz_J y) = some (dz_J (dz_lor x y)) := congrArg (fun z => some (Value.long z)) (dz_ol _).symm
theorem ol_shl (x y : Int) : mm_s4 .lshl (dz_J x) (dz_I y) = some (dz_J (dz_lsl x y)) := congrArg (fun z => some (Value.long z)) (dz_ol _).symm
theorem ol_shr (x y : Int) : mm_s4 .lshr (dz_J x) (dz_I y) = some (dz_J (dz_lsr x y)) := congrArg (fun z => some (Value.long z)) (dz_ol _).symm
theorem ol_ushr (x y : Int) : mm_s4 .lushr (dz_J x) (dz_I y) = some (dz_J (dz_lur x y)) := congrArg (fun z => some (Value.long z)) (dz_ol _).symm
-- comparisons
section ccs
variable {x y x' y' : Int}
theorem cq_lt (hx : dz_c x = x') (hy : dz_c y = y') : mm_cc .lt (Int32.ofInt x) (Int32.ofInt y) = decide (x' < y') := by
  subst hx hy
  exact decide_eq_decide.mpr Int32.lt_iff_toInt_lt
theorem cq_ge (hx : dz_c x = x') (hy : dz_c y = y') : mm_cc .ge (Int32.ofInt x) (Int32.ofInt y) = decide (y' ≤ x') := by
  subst hx hy
  exact decide_eq_decide.mpr Int32.le_iff_toInt_le
theorem cq_gt (hx : dz_c x = x') (hy : dz_c y = y') : mm_cc .gt (Int32.ofInt x) (Int32.ofInt y) = decide (y' < x') := by
  subst hx hy
  exact decide_eq_decide.mpr Int32.lt_iff_toInt_lt
theorem cq_le (hx : dz_c x = x') (hy : dz_c y = y') : mm_cc .le (Int32.ofInt x) (Int32.ofInt y) = decide (x' ≤ y') := by
  subst hx hy
  exact decide_eq_decide.mpr Int32.le_iff_toInt_le
theorem cq_eq (hx : dz_c x = x') (hy : dz_c y = y') : mm_cc .eq (Int32.ofInt x) (Int32.ofInt y) = decide (x' = y') := by
  subst hx hy
  exact decide_eq_decide.mpr Int32.toInt_inj.symm
theorem cq_ne (hx : dz_c x = x') (hy : dz_c y = y') : mm_cc .ne (Int32.ofInt x) (Int32.ofInt y) = decide (x' ≠ y') := by
  have := cq_eq hx hy
  show (!(mm_cc .eq (Int32.ofInt x) (Int32.ofInt y))) = _
  rw [this, decide_not]
theorem cz_lt (hx : dz_c x = x') : mm_cc .lt (Int32.ofInt x) 0 = decide (x' < 0) := cq_lt (y := 0) hx rfl
theorem cz_ge (hx : dz_c x = x') : mm_cc .ge (Int32.ofInt x) 0 = decide (0 ≤ x') := cq_ge (y := 0) hx rfl
theorem cz_gt (hx : dz_c x = x') : mm_cc .gt (Int32.ofInt x) 0 = decide (0 < x') := cq_gt (y := 0) hx rfl
theorem cz_le (hx : dz_c x = x') : mm_cc .le (Int32.ofInt x) 0 = decide (x' ≤ 0) := cq_le (y := 0) hx rfl
theorem cz_eq (hx : dz_c x = x') : mm_cc .eq (Int32.ofInt x) 0 = decide (x' = 0) := cq_eq (y := 0) hx rfl
theorem cz_ne (hx : dz_c x = x') : mm_cc .ne (Int32.ofInt x) 0 = decide (x' ≠ 0) := cq_ne (y := 0) hx rfl
theorem cb_eq {b : Bool} : mm_cc .eq (bif b then 1 else 0) 0 = decide (b = false) := by cases b <;> decide
theorem cb_ne {b : Bool} : mm_cc .ne (bif b then 1 else 0) 0 = decide (b = true) := by cases b <;> decide
theorem cd_eq {p : Prop} [Decidable p] : mm_cc .eq (bif decide p then 1 else 0) 0 = decide (¬p) := by by_cases h : p <;> simp only [h, decide_true, decide_false, not_true, not_false_eq_true] <;> decide
theorem cd_ne {p : Prop} [Decidable p] : mm_cc .ne (bif decide p then 1 else 0) 0 = decide p := by by_cases h : p <;> simp only [h, decide_true, decide_false] <;> decide
theorem cl_v (x y : Int) : (lg_cmp (Int64.ofInt x) (Int64.ofInt y)).toInt = if dz_l y < dz_l x then 1 else if dz_l x = dz_l y then 0 else -1 := by
  unfold lg_cmp dz_l
  simp only [gt_iff_lt, Int64.lt_iff_toInt_lt, ← Int64.toInt_inj]
  split
  · rfl
  · split <;> rfl
theorem cl_w (c : ClassFile.Cond) (z : Int32) (b : Bool) (h : mm_cc c (Int32.ofInt z.toInt) 0 = b) : mm_cc c z 0 = b := by rw [dz_oc] at h; exact h
theorem cl_lt (hx : dz_l x = x') (hy : dz_l y = y') : mm_cc .lt (lg_cmp (Int64.ofInt x) (Int64.ofInt y)) 0 = decide (x' < y') := by
  subst hx hy
  apply cl_w
  rw [cz_lt (by unfold dz_c; rw [dz_oc, cl_v])]
  apply decide_eq_decide.mpr
  split
  · omega
  · split <;> omega
theorem cl_ge (hx : dz_l x = x') (hy : dz_l y = y') : mm_cc .ge (lg_cmp (Int64.ofInt x) (Int64.ofInt y)) 0 = decide (y' ≤ x') := by
  subst hx hy
  apply cl_w
  rw [cz_ge (by unfold dz_c; rw [dz_oc, cl_v])]
  apply decide_eq_decide.mpr
  split
  · omega
  · split <;> omega
theorem cl_gt (hx : dz_l x = x') (hy : dz_l y = y') : mm_cc .gt (lg_cmp (Int64.ofInt x) (Int64.ofInt y)) 0 = decide (y' < x') := by
  subst hx hy
  apply cl_w
  rw [cz_gt (by unfold dz_c; rw [dz_oc, cl_v])]
  apply decide_eq_decide.mpr
  split
  · omega
  · split <;> omega
theorem cl_le (hx : dz_l x = x') (hy : dz_l y = y') : mm_cc .le (lg_cmp (Int64.ofInt x) (Int64.ofInt y)) 0 = decide (x' ≤ y') := by
  subst hx hy
  apply cl_w
  rw [cz_le (by unfold dz_c; rw [dz_oc, cl_v])]
  apply decide_eq_decide.mpr
  split
  · omega
  · split <;> omega
end ccs
