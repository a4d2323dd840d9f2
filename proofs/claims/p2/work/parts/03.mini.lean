/-! A MINI-MACHINE over the class's own bytecode: heap cells are numbered from 0 as they are made; '.retAddr 0' stands for the law's script, '.retAddr (1 + i)' for the i-th text constant, '.retAddr (100 + i)' for its bytes, a float for a static of which nothing is known -/
abbrev mm_A : Type := List Int32 ⊕ List Int64 ⊕ List (Option Nat)
abbrev mm_E : Type := (Nat × mm_A) ⊕ (Nat × List Value)
abbrev mm_H : Type := List mm_E
abbrev mm_L : Type := List (Option Value)
def mm_lk : List (Nat × Instr × Nat) → Nat → Option (Instr × Nat)
  | [], _ => none
  | q :: t, pc => bif Nat.beq q.1 pc then some q.2 else mm_lk t pc
def mm_at (r : mm_R) (pc : Nat) : Option (Instr × Nat) := match (r.2.2.1)[pc / 32]? with
  | some l => mm_lk l pc
  | none => none
def mm_rk : List mm_K → Nat → Option mm_K
  | [], _ => none
  | q :: t, i => bif Nat.beq q.1 i then some q else mm_rk t i
-- the kind of an instruction, and how long it is
def mm_kd : Instr → Nat
  | .iconst _ | .bipush _ | .sipush _ | .lconst _ => 0
  | .iadd | .isub | .imul | .iand | .ior | .ixor | .ishl | .ishr | .iushr | .idiv | .irem => 1
  | .i2l | .l2i | .i2b | .i2s | .i2c => 2
  | .ladd | .land | .lor | .lcmp | .lshl | .lshr | .lushr => 3
  | .dup | .pop | .dup2 => 4
  | .iload_n _ | .iload _ | .lload_n _ | .lload _ | .aload_n _ | .aload _ => 5
  | .istore_n _ | .istore _ | .astore_n _ | .astore _ | .iinc _ _ => 6
  | .goto _ | .ifCond _ _ | .if_icmp _ _ | .tableswitch _ _ _ _ | .lookupswitch _ _ => 7
  | .getfield _ | .putfield _ | .getstatic _ => 8
  | .iaload | .baload | .laload | .aaload | .iastore | .bastore | .lastore | .aastore | .arraylength => 9
  | .new _ | .newarray _ | .anewarray _ | .multianewarray _ _ => 10
  | .ldc _ | .ldc_w _ | .ldc2_w _ => 11
  | .ireturn | .return_ => 12
  | .invokevirtual _ | .invokestatic _ | .invokespecial _ => 13
  | _ => 14
def mm_s1 (i : Instr) (n : Nat) (st : List Value) : Option (List Value) := match i, n with
  | .iconst n, 1 => some (.int (Int32.ofInt n) :: st)
  | .bipush n, 2 => some (.int (Int8.ofInt n).toInt32 :: st)
  | .sipush n, 3 => some (.int (Int16.ofInt n).toInt32 :: st)
  | .lconst n, 1 => some (.long (Int64.ofNat (n : Nat)) :: st)
  | _, _ => none
def mm_s2 (i : Instr) (x y : Int32) : Option Int32 := match i with
  | .iadd => some (x + y)
  | .isub => some (x - y)
  | .imul => some (x * y)
  | .iand => some (x &&& y)
  | .ior => some (x ||| y)
  | .ixor => some (x ^^^ y)
  | .ishl => some (x <<< (y &&& 31))
  | .ishr => some (x >>> (y &&& 31))
  | .iushr => some ((x.toUInt32 >>> (y.toUInt32 &&& Int32.toUInt32 31)).toInt32)
  | .idiv => if y = 0 then none else some (x / y)
  | .irem => if y = 0 then none else some (x - x / y * y)
  | _ => none
def mm_s3 (i : Instr) (v : Value) : Option Value := match i, v with
  | .i2l, .int x => some (.long x.toInt64)
  | .i2b, .int x => some (.int x.toInt8.toInt32)
  | .i2s, .int x => some (.int x.toInt16.toInt32)
  | .i2c, .int x => some (.int (x.toUInt32 % 65536).toInt32)
  | .l2i, .long x => some (.int x.toInt32)
  | _, _ => none
def mm_s4 (i : Instr) (v w : Value) : Option Value := match i, v, w with
  | .ladd, .long x, .long y => some (.long (x + y))
  | .land, .long x, .long y => some (.long (x &&& y))
  | .lor, .long x, .long y => some (.long (x ||| y))
  | .lcmp, .long x, .long y => some (.int (lg_cmp x y))
  | .lshl, .long x, .int y => some (.long (x <<< (y.toInt64 &&& 63)))
  | .lshr, .long x, .int y => some (.long (x >>> (y.toInt64 &&& 63)))
  | .lushr, .long x, .int y => some (.long (x.toUInt64 >>> (y.toInt64.toUInt64 &&& Int64.toUInt64 63)).toInt64)
  | _, _, _ => none
def mm_c1 (v : Value) : Bool := match v with
  | .long _ | .double _ => false
  | _ => true
def mm_s5 (i : Instr) (st : List Value) : Option (List Value) := match i, st with
  | .dup, v :: t => bif mm_c1 v then some (v :: v :: t) else none
  | .pop, v :: t => bif mm_c1 v then some t else none
  | .dup2, v :: w :: t => bif mm_c1 v && mm_c1 w then some (v :: w :: v :: w :: t) else none
  | _, _ => none
def mm_ld (ls : mm_L) (k : Nat) : Option Value := match ls[k]? with
  | some (some v) => some v
  | _ => none
def mm_li (v : Option Value) : Option Value := match v with
  | some (.int x) => some (.int x)
  | _ => none
def mm_ll (v : Option Value) : Option Value := match v with
  | some (.long x) => some (.long x)
  | _ => none
def mm_lr (v : Option Value) : Option Value := match v with
  | some (.ref x) => some (.ref x)
  | some (.retAddr x) => some (.retAddr x)
  | _ => none
def mm_s6 (i : Instr) (n : Nat) (ls : mm_L) : Option Value := match i, n with
  | .iload_n k, 1 => mm_li (mm_ld ls k)
  | .iload k, 2 => mm_li (mm_ld ls k)
  | .lload_n k, 1 => mm_ll (mm_ld ls k)
  | .lload k, 2 => mm_ll (mm_ld ls k)
  | .aload_n k, 1 => mm_lr (mm_ld ls k)
  | .aload k, 2 => mm_lr (mm_ld ls k)
  | _, _ => none
def mm_lg (ls : mm_L) (k : Nat) : Bool := match k with
  | 0 => true
  | j + 1 => match ls[j]? with
    | some (some v) => mm_c1 v
    | _ => true
def mm_sv (ls : mm_L) (k : Nat) (v : Value) : Option mm_L := bif Nat.blt k ls.length && mm_lg ls k then some (ls.set k (some v)) else none
def mm_s7 (i : Instr) (n : Nat) (ls : mm_L) (st : List Value) : Option (mm_L × List Value) := match i, n, st with
  | .istore_n k, 1, .int x :: t => (mm_sv ls k (.int x)).map (·, t)
  | .istore k, 2, .int x :: t => (mm_sv ls k (.int x)).map (·, t)
  | .astore_n k, 1, .ref x :: t => (mm_sv ls k (.ref x)).map (·, t)
  | .astore k, 2, .ref x :: t => (mm_sv ls k (.ref x)).map (·, t)
  | .iinc k d, 3, t => match mm_ld ls k with
    | some (.int x) => (mm_sv ls k (.int (x + Int32.ofInt d))).map (·, t)
    | _ => none
  | _, _, _ => none
def mm_tg (pc : Nat) (off : Int) : Option Nat := match (pc : Int) + off with
  | .ofNat k => some k
  | _ => none
def mm_cc (c : ClassFile.Cond) (x y : Int32) : Bool := match c with
  | .eq => decide (x = y)
  | .ne => !decide (x = y)
  | .lt => decide (x < y)
  | .ge => decide (y ≤ x)
  | .gt => decide (y < x)
  | .le => decide (x ≤ y)
def mm_br (b : Bool) (pc : Nat) (off : Int) (n : Nat) : Option Nat := (mm_tg pc off).map (fun t => bif b then t else pc + n)
def mm_sw (pc : Nat) (d lo hi : Int) (offs : Array Int) (x : Int) : Option Nat := if x < lo ∨ hi < x then mm_tg pc d else match offs[(x - lo).toNat]? with
  | some off => mm_tg pc off
  | none => none
def mm_s8 (i : Instr) (n pc : Nat) (st : List Value) : Option (Nat × List Value) := match i, st with
  | .goto off, t => bif Nat.beq n 3 then (mm_tg pc off).map (·, t) else none
  | .ifCond c off, .int x :: t => bif Nat.beq n 3 then (mm_br (mm_cc c x 0) pc off 3).map (·, t) else none
  | .if_icmp c off, .int y :: .int x :: t => bif Nat.beq n 3 then (mm_br (mm_cc c x y) pc off 3).map (·, t) else none
  | .tableswitch d lo hi offs, .int x :: t => (mm_sw pc d lo hi offs x.toInt).map (·, t)
  | .lookupswitch d ps, .int x :: t => bif (ps.toList.zip (ps.toList.drop 1)).all (fun (a, next) => a.1 < next.1) then (mm_tg pc (Op.lookupswitch.offset ps.toList d x.toInt)).map (·, t) else none
  | _, _ => none
-- fields
def mm_tyl : List (Nat → FieldType) := [tyX0, tyX1, tyX2, tyX3, tyX4, tyX5, tyX6, tyX7, tyX8, tyX9, tyX10]
def mm_ft (ci k : Nat) : FieldType := match mm_tyl[ci]? with
  | some t => t k
  | none => .int
def mm_fit (ty : FieldType) (v : Value) : Bool := match ty, v with
  | .int, .int _ => true
  | .boolean, .int x => decide (x = 0) || decide (x = 1)
  | .object _, .ref _ => true
  | .array _, .ref _ => true
  | _, _ => false
def mm_tx (k : Nat) : Bool := Nat.ble 1 k && Nat.ble k 15
def mm_s9 (r : mm_R) (i : Instr) (st : List Value) (h : mm_H) : Option (List Value × mm_H) := match i, st with
  | .getfield idx, .ref a :: t => match mm_rk r.2.2.2 idx with
    | some (_, 0, ci, k, _) => match h[a]? with
      | some (.inr (cj, fs)) => bif Nat.beq ci cj then (match fs[k]? with
        | some v => some (v :: t, h)
        | none => none) else none
      | _ => none
    | _ => none
  | .getfield idx, .retAddr a :: t => bif mm_tx a then (match mm_rk r.2.2.2 idx with
    | some (_, 14, _) => some (.retAddr (99 + a) :: t, h)
    | some (_, 15, _) => some (.int 0 :: t, h)
    | _ => none) else none
  | .getstatic idx, t => match mm_rk r.2.2.2 idx with
    | some (_, 16, _) => some (.int 1 :: t, h)
    | some (_, 17, _) => some (.float 0 :: t, h)
    | _ => none
  | .putfield idx, v :: .ref a :: t => match mm_rk r.2.2.2 idx with
    | some (_, 0, ci, k, .ofNat fin, _) => bif Nat.ble 2 fin then none else match h[a]? with
      | some (.inr (cj, fs)) => bif Nat.beq ci cj && Nat.blt k fs.length && mm_fit (mm_ft ci k) v then some (t, h.set a (.inr (cj, fs.set k v))) else none
      | _ => none
    | _ => none
  | _, _ => none
-- arrays: their kinds: 0 int, 1 long, 2 byte, 3 boolean, 4 int[], 5 Image, 6 Sheet
def mm_in (j : Int32) (n : Nat) : Bool := !decide (j < 0) && Nat.blt j.toNatClampNeg n
def mm_rv (o : Option Nat) : Value := match o with
  | some a => .ref a
  | none => .null
def mm_ec (tag : Nat) : Nat := match tag with
  | 5 => 3
  | 6 => 7
  | _ => 1000
def mm_tc (ci : Nat) : Nat := match ci with
  | 3 => 5
  | 7 => 6
  | _ => 1000
def mm_str (k : Nat) : Option (List Int32) := match k with
  | k + 100 => mm_txt[k]?
  | _ => none
def mm_g1 (X : Option (List Int32)) (i : Instr) (st : List Value) (h : mm_H) : Option (List Value) := match i, st with
  | .iaload, .int j :: .ref a :: t => match h[a]? with
    | some (.inl (0, .inl l)) => bif mm_in j l.length then some (.int (l.getD j.toNatClampNeg 0) :: t) else none
    | _ => none
  | .iaload, .int j :: .retAddr 0 :: t => match X with
    | some l => bif mm_in j l.length then some (.int (l.getD j.toNatClampNeg 0) :: t) else none
    | none => none
  | .baload, .int j :: .ref a :: t => match h[a]? with
    | some (.inl (2, .inl l)) => bif mm_in j l.length then some (.int (l.getD j.toNatClampNeg 0) :: t) else none
    | some (.inl (3, .inl l)) => bif mm_in j l.length then some (.int (l.getD j.toNatClampNeg 0) :: t) else none
    | _ => none
  | .baload, .int j :: .retAddr a :: t => match mm_str a with
    | some l => bif mm_in j l.length then some (.int (l.getD j.toNatClampNeg 0) :: t) else none
    | none => none
  | .laload, .int j :: .ref a :: t => match h[a]? with
    | some (.inl (1, .inr (.inl l))) => bif mm_in j l.length then some (.long (l.getD j.toNatClampNeg 0) :: t) else none
    | _ => none
  | .aaload, .int j :: .ref a :: t => match h[a]? with
    | some (.inl (4, .inr (.inr l))) => bif mm_in j l.length then some (mm_rv (l.getD j.toNatClampNeg none) :: t) else none
    | some (.inl (5, .inr (.inr l))) => bif mm_in j l.length then some (mm_rv (l.getD j.toNatClampNeg none) :: t) else none
    | some (.inl (6, .inr (.inr l))) => bif mm_in j l.length then some (mm_rv (l.getD j.toNatClampNeg none) :: t) else none
    | _ => none
  | .arraylength, .ref a :: t => match h[a]? with
    | some (.inl (0, .inl l)) => some (.int (Int32.ofNat l.length) :: t)
    | some (.inl (1, .inr (.inl l))) => some (.int (Int32.ofNat l.length) :: t)
    | _ => none
  | .arraylength, .retAddr 0 :: t => match X with
    | some l => some (.int (Int32.ofNat l.length) :: t)
    | none => none
  | .arraylength, .retAddr (a + 1) :: t => match mm_str (a + 1) with
    | some l => some (.int (Int32.ofNat l.length) :: t)
    | none => none
  | _, _ => none
def mm_g2 (i : Instr) (st : List Value) (h : mm_H) : Option (List Value × mm_H) := match i, st with
  | .iastore, .int x :: .int j :: .ref a :: t => match h[a]? with
    | some (.inl (0, .inl l)) => bif mm_in j l.length then some (t, h.set a (.inl (0, .inl (l.set j.toNatClampNeg x)))) else none
    | _ => none
  | .bastore, .int x :: .int j :: .ref a :: t => match h[a]? with
    | some (.inl (2, .inl l)) => bif mm_in j l.length then some (t, h.set a (.inl (2, .inl (l.set j.toNatClampNeg x.toInt8.toInt32)))) else none
    | some (.inl (3, .inl l)) => bif mm_in j l.length then some (t, h.set a (.inl (3, .inl (l.set j.toNatClampNeg (x &&& 1))))) else none
    | _ => none
  | .lastore, .long x :: .int j :: .ref a :: t => match h[a]? with
    | some (.inl (1, .inr (.inl l))) => bif mm_in j l.length then some (t, h.set a (.inl (1, .inr (.inl (l.set j.toNatClampNeg x))))) else none
    | _ => none
  | .aastore, .ref v :: .int j :: .ref a :: t => match h[a]?, h[v]? with
    | some (.inl (tag, .inr (.inr l))), some (.inr (cj, _)) => bif mm_in j l.length && Nat.beq cj (mm_ec tag) then some (t, h.set a (.inl (tag, .inr (.inr (l.set j.toNatClampNeg (some v)))))) else none
    | _, _ => none
  | _, _ => none
-- what is made
def mm_dv (t : FieldType) : Value := match t with
  | .int | .boolean => .int 0
  | _ => .null
def mm_dfs (ci : Nat) : List Value := match vwCl[ci]? with
  | some q => (List.range q.2.2).map (fun k => mm_dv (mm_ft ci k))
  | none => []
def mm_na (t : ArrayType) (n : Nat) : Option mm_E := match t with
  | .int => some (.inl (0, .inl (List.replicate n 0)))
  | .long => some (.inl (1, .inr (.inl (List.replicate n 0))))
  | .byte => some (.inl (2, .inl (List.replicate n 0)))
  | .boolean => some (.inl (3, .inl (List.replicate n 0)))
  | _ => none
def mm_nn (n : Int32) : Bool := !decide (n < 0) && Nat.ble n.toNatClampNeg 1000
def mm_g3 (r : mm_R) (i : Instr) (n : Nat) (st : List Value) (h : mm_H) : Option (List Value × mm_H) := match i, n, st with
  | .new idx, 3, t => match mm_rk r.2.2.2 idx with
    | some (_, 7, ci, _) => some (.ref h.length :: t, h ++ [.inr (ci, mm_dfs ci)])
    | _ => none
  | .newarray ty, 2, .int n :: t => bif mm_nn n then (mm_na ty n.toNatClampNeg).map (fun e => (.ref h.length :: t, h ++ [e])) else none
  | .anewarray idx, 3, .int n :: t => match mm_rk r.2.2.2 idx with
    | some (_, 7, ci, _) => bif mm_nn n && Nat.beq (mm_ec (mm_tc ci)) ci then some (.ref h.length :: t, h ++ [.inl (mm_tc ci, .inr (.inr (List.replicate n.toNatClampNeg none)))]) else none
    | _ => none
  | .multianewarray idx 2, 4, .int k :: .int n :: t => match mm_rk r.2.2.2 idx with
    | some (_, 9, _) => bif mm_nn n && mm_nn k then some (.ref h.length :: t, (h ++ [.inl (4, .inr (.inr ((List.range n.toNatClampNeg).map (fun i => some (h.length + 1 + i)))))]) ++ List.replicate n.toNatClampNeg (.inl (0, .inl (List.replicate k.toNatClampNeg 0)))) else none
    | _ => none
  | _, _, _ => none
def mm_g4 (r : mm_R) (i : Instr) (n : Nat) : Option Value := match i, n with
  | .ldc idx, 2 => match mm_rk r.2.2.2 idx with
    | some (_, 10, _, _, v, _) => some (.int (Int32.ofInt v))
    | some (_, 13, i, _) => some (.retAddr (1 + i))
    | _ => none
  | .ldc_w idx, 3 => match mm_rk r.2.2.2 idx with
    | some (_, 10, _, _, v, _) => some (.int (Int32.ofInt v))
    | _ => none
  | .ldc2_w idx, 3 => match mm_rk r.2.2.2 idx with
    | some (_, 11, _, _, v, _) => some (.long (Int64.ofInt v))
    | _ => none
  | _, _ => none
-- the answer
def mm_rt (ty : Option FieldType) (i : Instr) (st : List Value) : Option (Option Value) := match ty, i, st with
  | some .int, .ireturn, [.int x] => some (some (.int x))
  | some .boolean, .ireturn, [.int x] => bif decide (x = 0) || decide (x = 1) then some (some (.int x)) else none
  | some .byte, .ireturn, [.int x] => bif decide (x.toInt8.toInt32 = x) then some (some (.int x)) else none
  | some .char, .ireturn, [.int x] => bif decide (x.toUInt32.toUInt16.toUInt32.toInt32 = x) then some (some (.int x)) else none
  | none, .return_, [] => some none
  | _, _, _ => none
-- calls
def mm_wt : List Value → Nat
  | [] => 0
  | v :: t => v.category + mm_wt t
def mm_tk : Nat → List Value → List Value → Option (List Value × List Value)
  | 0, acc, st => some (acc, st)
  | n + 1, acc, v :: st => mm_tk n (v :: acc) st
  | _ + 1, _, [] => none
def mm_sl : List Value → mm_L
  | [] => []
  | v :: t => bif mm_c1 v then some v :: mm_sl t else some v :: none :: mm_sl t
def mm_en (r : mm_R) (as : List Value) : mm_L := mm_sl as ++ List.replicate (r.1.2.2.1 - (mm_sl as).length) none
def mm_cp {α : Type} (f g : List α) (sp dp n : Nat) : List α := g.take dp ++ (f.drop sp).take n ++ g.drop (dp + n)
def mm_ac (st : List Value) (h : mm_H) : Option (List Value × mm_H) := match st with
  | .int n :: .int dp :: .ref b :: .int sp :: .ref a :: t => bif !decide (sp < 0) && !decide (dp < 0) && !decide (n < 0) && Nat.ble (mm_wt t) 8 then (match h[a]?, h[b]? with
    | some (.inl (0, .inl f)), some (.inl (0, .inl g)) => bif Nat.ble (sp.toNatClampNeg + n.toNatClampNeg) f.length && Nat.ble (dp.toNatClampNeg + n.toNatClampNeg) g.length then some (t, h.set b (.inl (0, .inl (mm_cp f g sp.toNatClampNeg dp.toNatClampNeg n.toNatClampNeg)))) else none
    | some (.inl (1, .inr (.inl f))), some (.inl (1, .inr (.inl g))) => bif Nat.ble (sp.toNatClampNeg + n.toNatClampNeg) f.length && Nat.ble (dp.toNatClampNeg + n.toNatClampNeg) g.length then some (t, h.set b (.inl (1, .inr (.inl (mm_cp f g sp.toNatClampNeg dp.toNatClampNeg n.toNatClampNeg))))) else none
    | _, _ => none) else none
  | _ => none
/-- a step within a frame, an answer, or a call -/
abbrev mm_O : Type := Option (Nat × mm_L × List Value × mm_H) ⊕ (Option Value) ⊕ (Nat × mm_R × List Value × List Value)
def mm_mk (D : Nat) (r' : mm_R) (as rest : List Value) : mm_O := bif Nat.ble (mm_sl as).length r'.1.2.2.1 && Nat.ble (mm_wt rest) 8 then .inr (.inr (D, r', as, rest)) else .inl none
def mm_cl (D : Nat) (r : mm_R) (idx : Nat) (st : List Value) (want : Nat → Bool) (recv : Bool) (h : mm_H) : mm_O := match D, mm_rk r.2.2.2 idx with
  | D + 1, some (_, k, mj, b, _) => bif want k then (match mm_rs[mj]? with
    | none => .inl none
    | some r' => match mm_tk r'.1.2.2.2.2.1 [] st with
      | none => .inl none
      | some (as, rest) => bif recv then (match rest with
          | .ref a :: rest' => (match h[a]? with
            | some (.inr (cj, _)) => bif Nat.beq k 1 && !Nat.beq cj b then .inl none else mm_mk D r' (.ref a :: as) rest'
            | _ => .inl none)
          | .retAddr a :: rest' => bif mm_tx a && Nat.beq k 1 && Nat.beq b 1000 then mm_mk D r' (.retAddr a :: as) rest' else .inl none
          | _ => .inl none) else mm_mk D r' as rest) else .inl none
  | _, _ => .inl none
def mm_iv (D : Nat) (r : mm_R) (i : Instr) (pc : Nat) (ls : mm_L) (st : List Value) (h : mm_H) : mm_O := match i with
  | .invokevirtual idx => mm_cl D r idx st (fun k => Nat.beq k 1) true h
  | .invokespecial idx => match mm_rk r.2.2.2 idx, st, D with
    | some (_, 6, _), .ref _ :: t, _ + 1 => bif Nat.ble (mm_wt t) 8 then .inl (some (pc + 3, ls, t, h)) else .inl none
    | _, _, _ => mm_cl D r idx st (fun k => Nat.beq k 3 || Nat.beq k 4) true h
  | .invokestatic idx => match mm_rk r.2.2.2 idx, D with
    | some (_, 12, _), _ + 1 => .inl ((mm_ac st h).map (fun q => (pc + 3, ls, q.1, q.2)))
    | _, _ => mm_cl D r idx st (fun k => Nat.beq k 2 || Nat.beq k 5) false h
  | _ => .inl none
def mm_go (X : Option (List Int32)) (r : mm_R) (D : Nat) (i : Instr) (n pc : Nat) (ls : mm_L) (st : List Value) (h : mm_H) : mm_O := match mm_kd i with
  | 0 => .inl ((mm_s1 i n st).map (fun t => (pc + n, ls, t, h)))
  | 1 => match n, st with
    | 1, .int y :: .int x :: t => .inl ((mm_s2 i x y).map (fun v => (pc + 1, ls, .int v :: t, h)))
    | _, _ => .inl none
  | 2 => match n, st with
    | 1, v :: t => .inl ((mm_s3 i v).map (fun v => (pc + 1, ls, v :: t, h)))
    | _, _ => .inl none
  | 3 => match n, st with
    | 1, y :: x :: t => .inl ((mm_s4 i x y).map (fun v => (pc + 1, ls, v :: t, h)))
    | _, _ => .inl none
  | 4 => match n with
    | 1 => .inl ((mm_s5 i st).map (fun t => (pc + 1, ls, t, h)))
    | _ => .inl none
  | 5 => .inl ((mm_s6 i n ls).map (fun v => (pc + n, ls, v :: st, h)))
  | 6 => .inl ((mm_s7 i n ls st).map (fun q => (pc + n, q.1, q.2, h)))
  | 7 => .inl ((mm_s8 i n pc st).map (fun q => (q.1, ls, q.2, h)))
  | 8 => match n with
    | 3 => .inl ((mm_s9 r i st h).map (fun q => (pc + 3, ls, q.1, q.2)))
    | _ => .inl none
  | 9 => match n with
    | 1 => match mm_g1 X i st h with
      | some t => .inl (some (pc + 1, ls, t, h))
      | none => .inl ((mm_g2 i st h).map (fun q => (pc + 1, ls, q.1, q.2)))
    | _ => .inl none
  | 10 => .inl ((mm_g3 r i n st h).map (fun q => (pc + n, ls, q.1, q.2)))
  | 11 => .inl ((mm_g4 r i n).map (fun v => (pc + n, ls, v :: st, h)))
  | 12 => match n, mm_rt r.1.2.2.2.1 i st with
    | 1, some v => .inr (.inl v)
    | _, _ => .inl none
  | 13 => match n with
    | 3 => mm_iv D r i pc ls st h
    | _ => .inl none
  | _ => .inl none
def mm_x (X : Option (List Int32)) : Nat → Nat → mm_R → Nat → mm_L → List Value → mm_H → Option (Option Value × mm_H)
  | 0, _, _, _, _, _, _ => none
  | f + 1, D, r, pc, ls, st, h => match mm_at r pc with
    | none => none
    | some (i, n) => match mm_go X r D i n pc ls st h with
      | .inl none => none
      | .inl (some (pc', ls', st', h')) => mm_x X f D r pc' ls' st' h'
      | .inr (.inl v) => some (v, h)
      | .inr (.inr (D', r', as, rest)) => match mm_x X f D' r' 0 (mm_en r' as) [] h with
        | none => none
        | some (v, h') => mm_x X f D r (pc + 3) ls (v.toList ++ rest) h'
