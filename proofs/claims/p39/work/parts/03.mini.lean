section mg_03mini
/-! A MINI-MACHINE over the class's own bytecode: heap cells are numbered from 0 as they are made; '.retAddr 0' stands for the law's script, '.retAddr (1 + i)' for the i-th text constant, '.retAddr (100 + i)' for its bytes, a float for a static of which nothing is known -/
abbrev mm_A : Type := List Int32 ⊕ List Int64 ⊕ List (Option Nat)
abbrev mm_E : Type := (Nat × mm_A) ⊕ (Nat × List Value)
abbrev mm_H : Type := List mm_E
abbrev mm_L : Type := List (Option Value)
def mm_lk : List (Nat × Instr × Nat) → Nat → Option (Instr × Nat)
  | [], _ => none
  | q :: t, pc => bif Nat.beq q.1 pc then some q.2 else mm_lk t pc
def mm_at (r : mm_R) (pc : Nat) : Option (Instr × Nat) := match (r.2.2.1)[pc / 32]? with
  | some l => mm_lk l pc
  | none => none
def mm_rk : List mm_K → Nat → Option mm_K
  | [], _ => none
  | q :: t, i => bif Nat.beq q.1 i then some q else mm_rk t i
-- the kind of an instruction, and how long it is
def mm_kd : Instr → Nat
  | .iconst _ | .bipush _ | .sipush _ | .lconst _ => 0
  | .iadd | .isub | .imul | .iand | .ior | .ixor | .ishl | .ishr | .iushr | .idiv | .irem => 1
  | .i2l | .l2i | .i2b | .i2s | .i2c => 2
  | .ladd | .land | .lor | .lcmp | .lshl | .lshr | .lushr => 3
  | .dup | .pop | .dup2 => 4
  | .iload_n _ | .iload _ | .lload_n _ | .lload _ | .aload_n _ | .aload _ => 5
  | .istore_n _ | .istore _ | .astore_n _ | .astore _ | .iinc _ _ => 6
  | .goto _ | .ifCond _ _ | .if_icmp _ _ | .tableswitch _ _ _ _ | .lookupswitch _ _ => 7
  | .getfield _ | .putfield _ | .getstatic _ => 8
  | .iaload | .baload | .laload | .aaload | .iastore | .bastore | .lastore | .aastore | .arraylength => 9
  | .new _ | .newarray _ | .anewarray _ | .multianewarray _ _ => 10
  | .ldc _ | .ldc_w _ | .ldc2_w _ => 11
  | .ireturn | .return_ => 12
  | .invokevirtual _ | .invokestatic _ | .invokespecial _ => 13
  | _ => 14
def mm_s1 (i : Instr) (n : Nat) (st : List Value) : Option (List Value) := match i, n with
  | .iconst n, 1 => some (.int (Int32.ofInt n) :: st)
  | .bipush n, 2 => some (.int (Int8.ofInt n).toInt32 :: st)
  | .sipush n, 3 => some (.int (Int16.ofInt n).toInt32 :: st)
  | .lconst n, 1 => some (.long (Int64.ofNat (n : Nat)) :: st)
  | _, _ => none
def mm_s2 (i : Instr) (x y : Int32) : Option Int32 := match i with
  | .iadd => some (x + y)
  | .isub => some (x - y)
  | .imul => some (x * y)
  | .iand => some (x &&& y)
  | .ior => some (x ||| y)
  | .ixor => some (x ^^^ y)
  | .ishl => some (x <<< (y &&& 31))
  | .ishr => some (x >>> (y &&& 31))
  | .iushr => some ((x.toUInt32 >>> (y.toUInt32 &&& Int32.toUInt32 31)).toInt32)
  | .idiv => if y = 0 then none else some (x / y)
  | .irem => if y = 0 then none else some (x - x / y * y)
  | _ => none
def mm_s3 (i : Instr) (v : Value) : Option Value := match i, v with
  | .i2l, .int x => some (.long x.toInt64)
  | .i2b, .int x => some (.int x.toInt8.toInt32)
  | .i2s, .int x => some (.int x.toInt16.toInt32)
  | .i2c, .int x => some (.int (x.toUInt32 % 65536).toInt32)
  | .l2i, .long x => some (.int x.toInt32)
  | _, _ => none
def mm_s4 (i : Instr) (v w : Value) : Option Value := match i, v, w with
  | .ladd, .long x, .long y => some (.long (x + y))
  | .land, .long x, .long y => some (.long (x &&& y))
  | .lor, .long x, .long y => some (.long (x ||| y))
  | .lcmp, .long x, .long y => some (.int (lg_cmp x y))
  | .lshl, .long x, .int y => some (.long (x <<< (y.toInt64 &&& 63)))
  | .lshr, .long x, .int y => some (.long (x >>> (y.toInt64 &&& 63)))
  | .lushr, .long x, .int y => some (.long (x.toUInt64 >>> (y.toInt64.toUInt64 &&& Int64.toUInt64 63)).toInt64)
  | _, _, _ => none
def mm_c1 (v : Value) : Bool := match v with
  | .long _ | .double _ => false
  | _ => true
def mm_s5 (i : Instr) (st : List Value) : Option (List Value) := match i, st with
  | .dup, v :: t => bif mm_c1 v then some (v :: v :: t) else none
  | .pop, v :: t => bif mm_c1 v then some t else none
  | .dup2, v :: w :: t => bif mm_c1 v && mm_c1 w then some (v :: w :: v :: w :: t) else none
  | _, _ => none
def mm_ld (ls : mm_L) (k : Nat) : Option Value := match ls[k]? with
  | some (some v) => some v
  | _ => none
def mm_li (v : Option Value) : Option Value := match v with
  | some (.int x) => some (.int x)
  | _ => none
def mm_ll (v : Option Value) : Option Value := match v with
  | some (.long x) => some (.long x)
  | _ => none
def mm_lr (v : Option Value) : Option Value := match v with
  | some (.ref x) => some (.ref x)
  | some (.retAddr x) => some (.retAddr x)
  | _ => none
def mm_s6 (i : Instr) (n : Nat) (ls : mm_L) : Option Value := match i, n with
  | .iload_n k, 1 => mm_li (mm_ld ls k)
  | .iload k, 2 => mm_li (mm_ld ls k)
  | .lload_n k, 1 => mm_ll (mm_ld ls k)
  | .lload k, 2 => mm_ll (mm_ld ls k)
  | .aload_n k, 1 => mm_lr (mm_ld ls k)
  | .aload k, 2 => mm_lr (mm_ld ls k)
  | _, _ => none
def mm_lg (ls : mm_L) (k : Nat) : Bool := match k with
  | 0 => true
  | j + 1 => match ls[j]? with
    | some (some v) => mm_c1 v
    | _ => true
def mm_sv (ls : mm_L) (k : Nat) (v : Value) : Option mm_L := bif Nat.blt k ls.length && mm_lg ls k then some (ls.set k (some v)) else none
def mm_s7 (i : Instr) (n : Nat) (ls : mm_L) (st : List Value) : Option (mm_L × List Value) := match i, n, st with
  | .istore_n k, 1, .int x :: t => (mm_sv ls k (.int x)).map (·, t)
  | .istore k, 2, .int x :: t => (mm_sv ls k (.int x)).map (·, t)
  | .astore_n k, 1, .ref x :: t => (mm_sv ls k (.ref x)).map (·, t)
  | .astore k, 2, .ref x :: t => (mm_sv ls k (.ref x)).map (·, t)
  | .iinc k d, 3, t => match mm_ld ls k with
    | some (.int x) => (mm_sv ls k (.int (x + Int32.ofInt d))).map (·, t)
    | _ => none
  | _, _, _ => none
def mm_tg (pc : Nat) (off : Int) : Option Nat := match (pc : Int) + off with
  | .ofNat k => some k
  | _ => none
def mm_cc (c : ClassFile.Cond) (x y : Int32) : Bool := match c with
  | .eq => decide (x = y)
  | .ne => !decide (x = y)
  | .lt => decide (x < y)
  | .ge => decide (y ≤ x)
  | .gt => decide (y < x)
  | .le => decide (x ≤ y)
def mm_br (b : Bool) (pc : Nat) (off : Int) (n : Nat) : Option Nat := (mm_tg pc off).map (fun t => bif b then t else pc + n)
def mm_sw (pc : Nat) (d lo hi : Int) (offs : Array Int) (x : Int) : Option Nat := if x < lo ∨ hi < x then mm_tg pc d else match offs[(x - lo).toNat]? with
  | some off => mm_tg pc off
  | none => none
def mm_s8 (i : Instr) (n pc : Nat) (st : List Value) : Option (Nat × List Value) := match i, st with
  | .goto off, t => bif Nat.beq n 3 then (mm_tg pc off).map (·, t) else none
  | .ifCond c off, .int x :: t => bif Nat.beq n 3 then (mm_br (mm_cc c x 0) pc off 3).map (·, t) else none
  | .if_icmp c off, .int y :: .int x :: t => bif Nat.beq n 3 then (mm_br (mm_cc c x y) pc off 3).map (·, t) else none
  | .tableswitch d lo hi offs, .int x :: t => (mm_sw pc d lo hi offs x.toInt).map (·, t)
  | .lookupswitch d ps, .int x :: t => bif (ps.toList.zip (ps.toList.drop 1)).all (fun (a, next) => a.1 < next.1) then (mm_tg pc (Op.lookupswitch.offset ps.toList d x.toInt)).map (·, t) else none
  | _, _ => none
-- fields
def mm_tyl : List (Nat → FieldType) := [tyX0, tyX1, tyX2, tyX3, tyX4, tyX5, tyX6, tyX7, tyX8, tyX9, tyX10]
def mm_ft (ci k : Nat) : FieldType := match mm_tyl[ci]? with
  | some t => t k
  | none => .int
def mm_fit (ty : FieldType) (v : Value) : Bool := match ty, v with
  | .int, .int _ => true
  | .boolean, .int x => decide (x = 0) || decide (x = 1)
  | .object _, .ref _ => true
  | .array _, .ref _ => true
  | _, _ => false
def mm_tx (k : Nat) : Bool := Nat.ble 1 k && Nat.ble k 15
def mm_s9 (r : mm_R) (i : Instr) (st : List Value) (h : mm_H) : Option (List Value × mm_H) := match i, st with
  | .getfield idx, .ref a :: t => match mm_rk r.2.2.2 idx with
    | some (_, 0, ci, k, _) => match h[a]? with
      | some (.inr (cj, fs)) => bif Nat.beq ci cj then (match fs[k]? with
        | some v => some (v :: t, h)
        | none => none) else none
      | _ => none
    | _ => none
  | .getfield idx, .retAddr a :: t => bif mm_tx a then (match mm_rk r.2.2.2 idx with
    | some (_, 14, _) => some (.retAddr (99 + a) :: t, h)
    | some (_, 15, _) => some (.int 0 :: t, h)
    | _ => none) else none
  | .getstatic idx, t => match mm_rk r.2.2.2 idx with
    | some (_, 16, _) => some (.int 1 :: t, h)
    | some (_, 17, _) => some (.float 0 :: t, h)
    | _ => none
  | .putfield idx, v :: .ref a :: t => match mm_rk r.2.2.2 idx with
    | some (_, 0, ci, k, .ofNat fin, _) => bif Nat.ble 2 fin then none else match h[a]? with
      | some (.inr (cj, fs)) => bif Nat.beq ci cj && Nat.blt k fs.length && mm_fit (mm_ft ci k) v then some (t, h.set a (.inr (cj, fs.set k v))) else none
      | _ => none
    | _ => none
  | _, _ => none
-- arrays: their kinds: 0 int, 1 long, 2 byte, 3 boolean, 4 int[], 5 Image, 6 Sheet
def mm_in (j : Int32) (n : Nat) : Bool := !decide (j < 0) && Nat.blt j.toNatClampNeg n
def mm_rv (o : Option Nat) : Value := match o with
  | some a => .ref a
  | none => .null
def mm_ec (tag : Nat) : Nat := match tag with
  | 5 => 3
  | 6 => 7
  | _ => 1000
def mm_tc (ci : Nat) : Nat := match ci with
  | 3 => 5
  | 7 => 6
  | _ => 1000
def mm_str (k : Nat) : Option (List Int32) := match k with
  | k + 100 => mm_txt[k]?
  | _ => none
def mm_g1 (X : Option (List Int32)) (i : Instr) (st : List Value) (h : mm_H) : Option (List Value) := match i, st with
  | .iaload, .int j :: .ref a :: t => match h[a]? with
    | some (.inl (0, .inl l)) => bif mm_in j l.length then some (.int (l.getD j.toNatClampNeg 0) :: t) else none
    | _ => none
  | .iaload, .int j :: .retAddr 0 :: t => match X with
    | some l => bif mm_in j l.length then some (.int (l.getD j.toNatClampNeg 0) :: t) else none
    | none => none
  | .baload, .int j :: .ref a :: t => match h[a]? with
    | some (.inl (2, .inl l)) => bif mm_in j l.length then some (.int (l.getD j.toNatClampNeg 0) :: t) else none
    | some (.inl (3, .inl l)) => bif mm_in j l.length then some (.int (l.getD j.toNatClampNeg 0) :: t) else none
    | _ => none
  | .baload, .int j :: .retAddr a :: t => match mm_str a with
    | some l => bif mm_in j l.length then some (.int (l.getD j.toNatClampNeg 0) :: t) else none
    | none => none
  | .laload, .int j :: .ref a :: t => match h[a]? with
    | some (.inl (1, .inr (.inl l))) => bif mm_in j l.length then some (.long (l.getD j.toNatClampNeg 0) :: t) else none
    | _ => none
  | .aaload, .int j :: .ref a :: t => match h[a]? with
    | some (.inl (4, .inr (.inr l))) => bif mm_in j l.length then some (mm_rv (l.getD j.toNatClampNeg none) :: t) else none
    | some (.inl (5, .inr (.inr l))) => bif mm_in j l.length then some (mm_rv (l.getD j.toNatClampNeg none) :: t) else none
    | some (.inl (6, .inr (.inr l))) => bif mm_in j l.length then some (mm_rv (l.getD j.toNatClampNeg none) :: t) else none
    | _ => none
  | .arraylength, .ref a :: t => match h[a]? with
    | some (.inl (0, .inl l)) => some (.int (Int32.ofNat l.length) :: t)
    | some (.inl (1, .inr (.inl l))) => some (.int (Int32.ofNat l.length) :: t)
    | _ => none
  | .arraylength, .retAddr 0 :: t => match X with
    | some l => some (.int (Int32.ofNat l.length) :: t)
    | none => none
  | .arraylength, .retAddr (a + 1) :: t => match mm_str (a + 1) with
    | some l => some (.int (Int32.ofNat l.length) :: t)
    | none => none
  | _, _ => none
def mm_g2 (i : Instr) (st : List Value) (h : mm_H) : Option (List Value × mm_H) := match i, st with
  | .iastore, .int x :: .int j :: .ref a :: t => match h[a]? with
    | some (.inl (0, .inl l)) => bif mm_in j l.length then some (t, h.set a (.inl (0, .inl (l.set j.toNatClampNeg x)))) else none
    | _ => none
  | .bastore, .int x :: .int j :: .ref a :: t => match h[a]? with
    | some (.inl (2, .inl l)) => bif mm_in j l.length then some (t, h.set a (.inl (2, .inl (l.set j.toNatClampNeg x.toInt8.toInt32)))) else none
    | some (.inl (3, .inl l)) => bif mm_in j l.length then some (t, h.set a (.inl (3, .inl (l.set j.toNatClampNeg (x &&& 1))))) else none
    | _ => none
  | .lastore, .long x :: .int j :: .ref a :: t => match h[a]? with
    | some (.inl (1, .inr (.inl l))) => bif mm_in j l.length then some (t, h.set a (.inl (1, .inr (.inl (l.set j.toNatClampNeg x))))) else none
    | _ => none
  | .aastore, .ref v :: .int j :: .ref a :: t => match h[a]?, h[v]? with
    | some (.inl (tag, .inr (.inr l))), some (.inr (cj, _)) => bif mm_in j l.length && Nat.beq cj (mm_ec tag) then some (t, h.set a (.inl (tag, .inr (.inr (l.set j.toNatClampNeg (some v)))))) else none
    | _, _ => none
  | _, _ => none
-- what is made
def mm_dv (t : FieldType) : Value := match t with
  | .int | .boolean => .int 0
  | _ => .null
def mm_dfs (ci : Nat) : List Value := match vwCl[ci]? with
  | some q => (List.range q.2.2).map (fun k => mm_dv (mm_ft ci k))
  | none => []
def mm_na (t : ArrayType) (n : Nat) : Option mm_E := match t with
  | .int => some (.inl (0, .inl (List.replicate n 0)))
  | .long => some (.inl (1, .inr (.inl (List.replicate n 0))))
  | .byte => some (.inl (2, .inl (List.replicate n 0)))
  | .boolean => some (.inl (3, .inl (List.replicate n 0)))
  | _ => none
def mm_nn (n : Int32) : Bool := !decide (n < 0) && Nat.ble n.toNatClampNeg 1000
def mm_g3 (r : mm_R) (i : Instr) (n : Nat) (st : List Value) (h : mm_H) : Option (List Value × mm_H) := match i, n, st with
  | .new idx, 3, t => match mm_rk r.2.2.2 idx with
    | some (_, 7, ci, _) => some (.ref h.length :: t, h ++ [.inr (ci, mm_dfs ci)])
    | _ => none
  | .newarray ty, 2, .int n :: t => bif mm_nn n then (mm_na ty n.toNatClampNeg).map (fun e => (.ref h.length :: t, h ++ [e])) else none
  | .anewarray idx, 3, .int n :: t => match mm_rk r.2.2.2 idx with
    | some (_, 7, ci, _) => bif mm_nn n && Nat.beq (mm_ec (mm_tc ci)) ci then some (.ref h.length :: t, h ++ [.inl (mm_tc ci, .inr (.inr (List.replicate n.toNatClampNeg none)))]) else none
    | _ => none
  | .multianewarray idx 2, 4, .int k :: .int n :: t => match mm_rk r.2.2.2 idx with
    | some (_, 9, _) => bif mm_nn n && mm_nn k then some (.ref h.length :: t, (h ++ [.inl (4, .inr (.inr ((List.range n.toNatClampNeg).map (fun i => some (h.length + 1 + i)))))]) ++ List.replicate n.toNatClampNeg (.inl (0, .inl (List.replicate k.toNatClampNeg 0)))) else none
    | _ => none
  | _, _, _ => none
def mm_g4 (r : mm_R) (i : Instr) (n : Nat) : Option Value := match i, n with
  | .ldc idx, 2 => match mm_rk r.2.2.2 idx with
    | some (_, 10, _, _, v, _) => some (.int (Int32.ofInt v))
    | some (_, 13, i, _) => some (.retAddr (1 + i))
    | _ => none
  | .ldc_w idx, 3 => match mm_rk r.2.2.2 idx with
    | some (_, 10, _, _, v, _) => some (.int (Int32.ofInt v))
    | _ => none
  | .ldc2_w idx, 3 => match mm_rk r.2.2.2 idx with
    | some (_, 11, _, _, v, _) => some (.long (Int64.ofInt v))
    | _ => none
  | _, _ => none
-- the answer
def mm_rt (ty : Option FieldType) (i : Instr) (st : List Value) : Option (Option Value) := match ty, i, st with
  | some .int, .ireturn, [.int x] => some (some (.int x))
  | some .boolean, .ireturn, [.int x] => bif decide (x = 0) || decide (x = 1) then some (some (.int x)) else none
  | some .byte, .ireturn, [.int x] => bif decide (x.toInt8.toInt32 = x) then some (some (.int x)) else none
  | some .char, .ireturn, [.int x] => bif decide (x.toUInt32.toUInt16.toUInt32.toInt32 = x) then some (some (.int x)) else none
  | none, .return_, [] => some none
  | _, _, _ => none
-- calls
def mm_wt : List Value → Nat
  | [] => 0
  | v :: t => v.category + mm_wt t
def mm_tk : Nat → List Value → List Value → Option (List Value × List Value)
  | 0, acc, st => some (acc, st)
  | n + 1, acc, v :: st => mm_tk n (v :: acc) st
  | _ + 1, _, [] => none
def mm_sl : List Value → mm_L
  | [] => []
  | v :: t => bif mm_c1 v then some v :: mm_sl t else some v :: none :: mm_sl t
def mm_en (r : mm_R) (as : List Value) : mm_L := mm_sl as ++ List.replicate (r.1.2.2.1 - (mm_sl as).length) none
def mm_cp {α : Type} (f g : List α) (sp dp n : Nat) : List α := g.take dp ++ (f.drop sp).take n ++ g.drop (dp + n)
def mm_ac (st : List Value) (h : mm_H) : Option (List Value × mm_H) := match st with
  | .int n :: .int dp :: .ref b :: .int sp :: .ref a :: t => bif !decide (sp < 0) && !decide (dp < 0) && !decide (n < 0) && Nat.ble (mm_wt t) 8 then (match h[a]?, h[b]? with
    | some (.inl (0, .inl f)), some (.inl (0, .inl g)) => bif Nat.ble (sp.toNatClampNeg + n.toNatClampNeg) f.length && Nat.ble (dp.toNatClampNeg + n.toNatClampNeg) g.length then some (t, h.set b (.inl (0, .inl (mm_cp f g sp.toNatClampNeg dp.toNatClampNeg n.toNatClampNeg)))) else none
    | some (.inl (1, .inr (.inl f))), some (.inl (1, .inr (.inl g))) => bif Nat.ble (sp.toNatClampNeg + n.toNatClampNeg) f.length && Nat.ble (dp.toNatClampNeg + n.toNatClampNeg) g.length then some (t, h.set b (.inl (1, .inr (.inl (mm_cp f g sp.toNatClampNeg dp.toNatClampNeg n.toNatClampNeg))))) else none
    | _, _ => none) else none
  | _ => none
/-- a step within a frame, an answer, or a call -/
abbrev mm_O : Type := Option (Nat × mm_L × List Value × mm_H) ⊕ (Option Value) ⊕ (Nat × mm_R × List Value × List Value)
def mm_mk (D : Nat) (r' : mm_R) (as rest : List Value) : mm_O := bif Nat.ble (mm_sl as).length r'.1.2.2.1 && Nat.ble (mm_wt rest) 8 then .inr (.inr (D, r', as, rest)) else .inl none
def mm_cl (D : Nat) (r : mm_R) (idx : Nat) (st : List Value) (want : Nat → Bool) (recv : Bool) (h : mm_H) : mm_O := match D, mm_rk r.2.2.2 idx with
  | D + 1, some (_, k, mj, b, _) => bif want k then (match mm_rs[mj]? with
    | none => .inl none
    | some r' => match mm_tk r'.1.2.2.2.2.1 [] st with
      | none => .inl none
      | some (as, rest) => bif recv then (match rest with
          | .ref a :: rest' => (match h[a]? with
            | some (.inr (cj, _)) => bif Nat.beq k 1 && !Nat.beq cj b then .inl none else mm_mk D r' (.ref a :: as) rest'
            | _ => .inl none)
          | .retAddr a :: rest' => bif mm_tx a && Nat.beq k 1 && Nat.beq b 1000 then mm_mk D r' (.retAddr a :: as) rest' else .inl none
          | _ => .inl none) else mm_mk D r' as rest) else .inl none
  | _, _ => .inl none
def mm_iv (D : Nat) (r : mm_R) (i : Instr) (pc : Nat) (ls : mm_L) (st : List Value) (h : mm_H) : mm_O := match i with
  | .invokevirtual idx => mm_cl D r idx st (fun k => Nat.beq k 1) true h
  | .invokespecial idx => match mm_rk r.2.2.2 idx, st, D with
    | some (_, 6, _), .ref _ :: t, _ + 1 => bif Nat.ble (mm_wt t) 8 then .inl (some (pc + 3, ls, t, h)) else .inl none
    | _, _, _ => mm_cl D r idx st (fun k => Nat.beq k 3 || Nat.beq k 4) true h
  | .invokestatic idx => match mm_rk r.2.2.2 idx, D with
    | some (_, 12, _), _ + 1 => .inl ((mm_ac st h).map (fun q => (pc + 3, ls, q.1, q.2)))
    | _, _ => mm_cl D r idx st (fun k => Nat.beq k 2 || Nat.beq k 5) false h
  | _ => .inl none
def mm_go (X : Option (List Int32)) (r : mm_R) (D : Nat) (i : Instr) (n pc : Nat) (ls : mm_L) (st : List Value) (h : mm_H) : mm_O := match mm_kd i with
  | 0 => .inl ((mm_s1 i n st).map (fun t => (pc + n, ls, t, h)))
  | 1 => match n, st with
    | 1, .int y :: .int x :: t => .inl ((mm_s2 i x y).map (fun v => (pc + 1, ls, .int v :: t, h)))
    | _, _ => .inl none
  | 2 => match n, st with
    | 1, v :: t => .inl ((mm_s3 i v).map (fun v => (pc + 1, ls, v :: t, h)))
    | _, _ => .inl none
  | 3 => match n, st with
    | 1, y :: x :: t => .inl ((mm_s4 i x y).map (fun v => (pc + 1, ls, v :: t, h)))
    | _, _ => .inl none
  | 4 => match n with
    | 1 => .inl ((mm_s5 i st).map (fun t => (pc + 1, ls, t, h)))
    | _ => .inl none
  | 5 => .inl ((mm_s6 i n ls).map (fun v => (pc + n, ls, v :: st, h)))
  | 6 => .inl ((mm_s7 i n ls st).map (fun q => (pc + n, q.1, q.2, h)))
  | 7 => .inl ((mm_s8 i n pc st).map (fun q => (q.1, ls, q.2, h)))
  | 8 => match n with
    | 3 => .inl ((mm_s9 r i st h).map (fun q => (pc + 3, ls, q.1, q.2)))
    | _ => .inl none
  | 9 => match n with
    | 1 => match mm_g1 X i st h with
      | some t => .inl (some (pc + 1, ls, t, h))
      | none => .inl ((mm_g2 i st h).map (fun q => (pc + 1, ls, q.1, q.2)))
    | _ => .inl none
  | 10 => .inl ((mm_g3 r i n st h).map (fun q => (pc + n, ls, q.1, q.2)))
  | 11 => .inl ((mm_g4 r i n).map (fun v => (pc + n, ls, v :: st, h)))
  | 12 => match n, mm_rt r.1.2.2.2.1 i st with
    | 1, some v => .inr (.inl v)
    | _, _ => .inl none
  | 13 => match n with
    | 3 => mm_iv D r i pc ls st h
    | _ => .inl none
  | _ => .inl none
def mm_x (X : Option (List Int32)) : Nat → Nat → mm_R → Nat → mm_L → List Value → mm_H → Option (Option Value × mm_H)
  | 0, _, _, _, _, _, _ => none
  | f + 1, D, r, pc, ls, st, h => match mm_at r pc with
    | none => none
    | some (i, n) => match mm_go X r D i n pc ls st h with
      | .inl none => none
      | .inl (some (pc', ls', st', h')) => mm_x X f D r pc' ls' st' h'
      | .inr (.inl v) => some (v, h)
      | .inr (.inr (D', r', as, rest)) => match mm_x X f D' r' 0 (mm_en r' as) [] h with
        | none => none
        | some (v, h') => mm_x X f D r (pc + 3) ls (v.toList ++ rest) h'
end mg_03mini
section mg_04snd
/-! the mini-machine's steps are the machine's: what changes no cell -/
/-- the things outside the heap: where they lie; the static of which nothing is known -/
abbrev mm_X : Type := (Nat → Nat) × Option Nat
def mm_mv (B : Nat) (b0 : mm_X) : Value → Value
  | .ref a => .ref (B + a)
  | .retAddr k => .ref (b0.1 k)
  | .int x => .int x
  | .long x => .long x
  | .float _ => va_rf b0.2
  | .double x => .double x
  | .null => .null
theorem mm_mv_cat (B : Nat) (b0 : mm_X) (v : Value) : (mm_mv B b0 v).category = v.category := by
  cases v <;> first | rfl | (show (va_rf b0.2).category = 1; cases b0.2 <;> rfl)
theorem mm_c1_cat {v : Value} (h : mm_c1 v = true) : v.category = 1 := by cases v <;> first | rfl | cases h
theorem mm_c1_cat' {v : Value} (h : mm_c1 v = false) : v.category = 2 := by cases v <;> first | rfl | cases h
def mm_LR (B : Nat) (b0 : mm_X) (real : Array Slot) (ls : mm_L) : Prop := real.size = ls.length ∧ lv_wf real ∧ ∀ (i : Nat) (v : Value), ls[i]? = some (some v) → real[i]? = some (.val (mm_mv B b0 v))
def mm_lvl (B : Nat) (b0 : mm_X) (ls : mm_L) : List (Nat × Value) := (List.range ls.length).filterMap (fun i => match ls[i]? with
  | some (some v) => some (i, mm_mv B b0 v)
  | _ => none)
theorem mm_lvl_mem {B : Nat} {b0 : mm_X} {ls : mm_L} {q : Nat × Value} (h : q ∈ mm_lvl B b0 ls) : ∃ v, ls[q.1]? = some (some v) ∧ q.2 = mm_mv B b0 v := by
  obtain ⟨i, -, hi⟩ := List.mem_filterMap.mp h
  split at hi
  next v hv => cases hi; exact ⟨v, hv, rfl⟩
  next => cases hi
theorem mm_lvl_in {B : Nat} {b0 : mm_X} {ls : mm_L} {i : Nat} {v : Value} (h : ls[i]? = some (some v)) : (i, mm_mv B b0 v) ∈ mm_lvl B b0 ls := by
  refine List.mem_filterMap.mpr ⟨i, List.mem_range.mpr (List.getElem?_eq_some_iff.mp h).1, ?_⟩
  simp [h]
theorem mm_LR.has {B : Nat} {b0 : mm_X} {real : Array Slot} {ls : mm_L} (h : mm_LR B b0 real ls) : lv_has real ls.length (mm_lvl B b0 ls) := by
  refine ⟨h.1, h.2.1, fun q hq => ?_⟩
  obtain ⟨v, h1, h2⟩ := mm_lvl_mem hq
  rw [h2]
  exact h.2.2 _ _ h1
theorem mm_ld_s {ls : mm_L} {k : Nat} {v : Value} (hk : mm_ld ls k = some v) : ls[k]? = some (some v) := by
  unfold mm_ld at hk
  split at hk
  next w hw => cases hk; exact hw
  next => cases hk
theorem mm_LR.get {B : Nat} {b0 : mm_X} {real : Array Slot} {ls : mm_L} (h : mm_LR B b0 real ls) {k : Nat} {v : Value} (hk : mm_ld ls k = some v) : real[k]? = some (.val (mm_mv B b0 v)) := by
  unfold mm_ld at hk
  split at hk
  next w hw => cases hk; exact h.2.2 _ _ hw
  next => cases hk
theorem mm_sv_spec {ls ls' : mm_L} {k : Nat} {v : Value} (h : mm_sv ls k v = some ls') : k < ls.length ∧ mm_lg ls k = true ∧ ls' = ls.set k (some v) := by
  unfold mm_sv at h
  cases h1 : Nat.blt k ls.length <;> cases h2 : mm_lg ls k <;> simp [h1, h2] at h
  exact ⟨Nat.le_of_ble_eq_true h1, rfl, h.symm⟩
/-- behind a store of a value of one slot -/
theorem mm_LR.set {B : Nat} {b0 : mm_X} {real real' : Array Slot} {ls : mm_L} {k : Nat} {v : Value} (h : mm_LR B b0 real ls) (hk : k < ls.length) (hlg : mm_lg ls k = true)
    (hl : lv_has real' ls.length ((k, mm_mv B b0 v) :: (mm_lvl B b0 ls).filter (fun q => !(q.1 == k) && !(q.1 + 1 == k && q.2.category == 2)))) : mm_LR B b0 real' (ls.set k (some v)) := by
  refine ⟨by rw [hl.1, List.length_set], hl.2.1, fun i w hi => ?_⟩
  by_cases hik : i = k
  · subst hik
    rw [List.getElem?_set_self hk] at hi
    cases hi
    exact hl.2.2 (i, mm_mv B b0 v) List.mem_cons_self
  · rw [List.getElem?_set_ne (Ne.symm hik)] at hi
    refine hl.2.2 (i, mm_mv B b0 w) (List.mem_cons_of_mem _ (List.mem_filter.mpr ⟨mm_lvl_in hi, ?_⟩))
    have h1 : (i == k) = false := by simpa using hik
    by_cases hj : i + 1 = k
    · subst hj
      have : mm_c1 w = true := by simpa [mm_lg, hi] using hlg
      simp [mm_mv_cat, mm_c1_cat this]
    · simp [hik, hj]
section mmA
variable {p : Program} {l : Launch} {e : Env} {R : Room} {s : State} {m : MethodId} {args : Array Value} {below : List Frame} {meth : Method} {c : Code} {H : Heap} {locs : List Loc} {cells slots : Nat} {Q : State → Prop}
variable {cc : ByteArray} {pc n : Nat} {real : Array Slot} {B : Nat} {b0 : mm_X} {i : Instr} {ls ls' : mm_L} {st st' : List Value}
theorem mm_ok1 (hx : p.tables.exec = Jvm.exec) (hb : c.code = cc) (hd : decode cc pc = .ok (i, n)) (hs : mm_s1 i n st = some st')
    (k : W p l e R s m args below meth c H locs cells slots Q (F0 m (pc + n) real (st'.map (mm_mv B b0)))) : W p l e R s m args below meth c H locs cells slots Q (F0 m pc real (st.map (mm_mv B b0))) := by
  unfold mm_s1 at hs
  split at hs
  · cases hs; exact lv_iconst hx hb hd rfl k
  · cases hs; exact lv_bipush hx hb hd rfl k
  · cases hs; exact lv_sipush hx hb hd rfl k
  · cases hs; exact lv_lconst hx hb hd rfl k
  · cases hs
theorem mm_ok2 (hx : p.tables.exec = Jvm.exec) (hb : c.code = cc) {x y v : Int32} {t : List Value} (hd : decode cc pc = .ok (i, 1)) (hs : mm_s2 i x y = some v)
    (k : W p l e R s m args below meth c H locs cells slots Q (F0 m (pc + 1) real (.int v :: t))) : W p l e R s m args below meth c H locs cells slots Q (F0 m pc real (.int y :: .int x :: t)) := by
  unfold mm_s2 at hs
  split at hs
  · cases hs; exact lv_iadd hx hb hd k
  · cases hs; exact lv_isub hx hb hd k
  · cases hs; exact lv_imul hx hb hd k
  · cases hs; exact lv_iand hx hb hd k
  · cases hs; exact lv_ior hx hb hd k
  · cases hs; exact lv_ixor hx hb hd k
  · cases hs; exact lv_ishl hx hb hd k
  · cases hs; exact lv_ishr hx hb hd k
  · cases hs; exact lv_iushr hx hb hd rfl k
  · split at hs
    · cases hs
    · next h0 => cases hs; exact lv_idiv hx hb hd h0 k
  · split at hs
    · cases hs
    · next h0 => cases hs; exact lv_irem hx hb hd h0 k
  · cases hs
theorem mm_ok3 (hx : p.tables.exec = Jvm.exec) (hb : c.code = cc) {v w : Value} {t : List Value} (hd : decode cc pc = .ok (i, 1)) (hs : mm_s3 i v = some w)
    (k : W p l e R s m args below meth c H locs cells slots Q (F0 m (pc + 1) real (mm_mv B b0 w :: t))) : W p l e R s m args below meth c H locs cells slots Q (F0 m pc real (mm_mv B b0 v :: t)) := by
  unfold mm_s3 at hs
  split at hs
  · cases hs; exact lv_i2l hx hb hd rfl k
  · cases hs; exact lv_i2b hx hb hd rfl k
  · cases hs; exact lv_i2s hx hb hd rfl k
  · cases hs; exact lv_i2c hx hb hd rfl k
  · cases hs; exact lv_l2i hx hb hd rfl k
  · cases hs
theorem mm_ok4 (hx : p.tables.exec = Jvm.exec) (hb : c.code = cc) {x y w : Value} {t : List Value} (hd : decode cc pc = .ok (i, 1)) (hs : mm_s4 i x y = some w)
    (k : W p l e R s m args below meth c H locs cells slots Q (F0 m (pc + 1) real (mm_mv B b0 w :: t))) : W p l e R s m args below meth c H locs cells slots Q (F0 m pc real (mm_mv B b0 y :: mm_mv B b0 x :: t)) := by
  unfold mm_s4 at hs
  split at hs
  · cases hs; exact lv_ladd hx hb hd k
  · cases hs; exact lv_land hx hb hd k
  · cases hs; exact lv_lor hx hb hd k
  · cases hs; exact W.lcmp hx hb hd k
  · cases hs; exact lv_lshl hx hb hd rfl k
  · cases hs; exact lv_lshr hx hb hd rfl k
  · cases hs; exact lv_lushr hx hb hd rfl k
  · cases hs
theorem mm_ok5 (hx : p.tables.exec = Jvm.exec) (hb : c.code = cc) (hd : decode cc pc = .ok (i, 1)) (hs : mm_s5 i st = some st')
    (k : W p l e R s m args below meth c H locs cells slots Q (F0 m (pc + 1) real (st'.map (mm_mv B b0)))) : W p l e R s m args below meth c H locs cells slots Q (F0 m pc real (st.map (mm_mv B b0))) := by
  unfold mm_s5 at hs
  split at hs
  · next v t =>
    cases h1 : mm_c1 v <;> simp [h1] at hs
    subst hs
    exact lv_dup hx hb hd ((mm_mv_cat B b0 v).trans (mm_c1_cat h1)) k
  · next v t =>
    cases h1 : mm_c1 v <;> simp [h1] at hs
    subst hs
    exact lv_pop (va := mm_mv B b0 v) hx hb hd ((mm_mv_cat B b0 v).trans (mm_c1_cat h1)) k
  · next v w t =>
    cases h1 : mm_c1 v <;> cases h2 : mm_c1 w <;> simp [h1, h2] at hs
    subst hs
    exact lv_dup2_11 hx hb hd ((mm_mv_cat B b0 v).trans (mm_c1_cat h1)) ((mm_mv_cat B b0 w).trans (mm_c1_cat h2)) k
  · cases hs
theorem mm_li_s {o : Option Value} {v : Value} (h : mm_li o = some v) : ∃ x, o = some (.int x) ∧ v = .int x := by
  unfold mm_li at h
  split at h
  · cases h; exact ⟨_, rfl, rfl⟩
  · cases h
theorem mm_ll_s {o : Option Value} {v : Value} (h : mm_ll o = some v) : ∃ x, o = some (.long x) ∧ v = .long x := by
  unfold mm_ll at h
  split at h
  · cases h; exact ⟨_, rfl, rfl⟩
  · cases h
theorem mm_lr_s {o : Option Value} {v : Value} (h : mm_lr o = some v) : o = some v ∧ ∃ a, mm_mv B b0 v = .ref a := by
  unfold mm_lr at h
  split at h
  · cases h; exact ⟨rfl, _, rfl⟩
  · cases h; exact ⟨rfl, _, rfl⟩
  · cases h
theorem mm_ok6 (hx : p.tables.exec = Jvm.exec) (hb : c.code = cc) {v : Value} {t : List Value} (hd : decode cc pc = .ok (i, n)) (hl : mm_LR B b0 real ls) (hs : mm_s6 i n ls = some v)
    (k : W p l e R s m args below meth c H locs cells slots Q (F0 m (pc + n) real (mm_mv B b0 v :: t))) : W p l e R s m args below meth c H locs cells slots Q (F0 m pc real t) := by
  unfold mm_s6 at hs
  split at hs
  · obtain ⟨x, h1, rfl⟩ := mm_li_s hs; exact lv_iload_n hx hb hd rfl (hl.get h1) k
  · obtain ⟨x, h1, rfl⟩ := mm_li_s hs; exact lv_iload hx hb hd (hl.get h1) k
  · obtain ⟨x, h1, rfl⟩ := mm_ll_s hs; exact lv_lload_n hx hb hd rfl (hl.get h1) k
  · obtain ⟨x, h1, rfl⟩ := mm_ll_s hs; exact lv_lload hx hb hd (hl.get h1) k
  · obtain ⟨h1, a, h2⟩ := mm_lr_s (B := B) (b0 := b0) hs
    have h3 := hl.get h1
    rw [h2] at h3 k
    exact lv_aload_n hx hb hd rfl h3 k
  · obtain ⟨h1, a, h2⟩ := mm_lr_s (B := B) (b0 := b0) hs
    have h3 := hl.get h1
    rw [h2] at h3 k
    exact lv_aload hx hb hd h3 k
  · cases hs
theorem mm_map_s {α β : Type} {o : Option α} {f : α → β} {b : β} (h : o.map f = some b) : ∃ a, o = some a ∧ f a = b := by
  cases o with
  | none => cases h
  | some a => exact ⟨a, rfl, Option.some.inj h⟩
theorem mm_ok7 (hx : p.tables.exec = Jvm.exec) (hb : c.code = cc) (hd : decode cc pc = .ok (i, n)) (hl : mm_LR B b0 real ls) {q : mm_L × List Value} (hs : mm_s7 i n ls st = some q)
    (k : ∀ real', mm_LR B b0 real' q.1 → W p l e R s m args below meth c H locs cells slots Q (F0 m (pc + n) real' (q.2.map (mm_mv B b0)))) : W p l e R s m args below meth c H locs cells slots Q (F0 m pc real (st.map (mm_mv B b0))) := by
  unfold mm_s7 at hs
  split at hs
  · obtain ⟨ls', h1, rfl⟩ := mm_map_s hs
    obtain ⟨h2, h3, rfl⟩ := mm_sv_spec h1
    exact lv_istore_n hx hb hd rfl hl.has h2 rfl (fun real' h4 => k real' (hl.set h2 h3 h4))
  · obtain ⟨ls', h1, rfl⟩ := mm_map_s hs
    obtain ⟨h2, h3, rfl⟩ := mm_sv_spec h1
    exact lv_istore hx hb hd hl.has h2 rfl (fun real' h4 => k real' (hl.set h2 h3 h4))
  · obtain ⟨ls', h1, rfl⟩ := mm_map_s hs
    obtain ⟨h2, h3, rfl⟩ := mm_sv_spec h1
    exact lv_astore_n hx hb hd rfl hl.has h2 rfl (fun real' h4 => k real' (hl.set h2 h3 h4))
  · obtain ⟨ls', h1, rfl⟩ := mm_map_s hs
    obtain ⟨h2, h3, rfl⟩ := mm_sv_spec h1
    exact lv_astore hx hb hd hl.has h2 rfl (fun real' h4 => k real' (hl.set h2 h3 h4))
  · split at hs
    · next x hx0 =>
      obtain ⟨ls', h1, rfl⟩ := mm_map_s hs
      obtain ⟨h2, h3, rfl⟩ := mm_sv_spec h1
      have h5 := mm_ld_s hx0
      obtain ⟨kk, hkk⟩ := List.getElem?_of_mem (mm_lvl_in (B := B) (b0 := b0) h5)
      exact lv_iinc hx hb hd hl.has hkk rfl h2 rfl (fun real' h4 => k real' (hl.set h2 h3 h4))
    · cases hs
  · cases hs
theorem mm_tg_s {pc t : Nat} {off : Int} (h : mm_tg pc off = some t) : (pc : Int) + off = (t : Int) := by
  unfold mm_tg at h
  split at h
  · next k hk => cases h; exact hk
  · cases h
theorem mm_br_s {b : Bool} {pc t n : Nat} {off : Int} (h : mm_br b pc off n = some t) : ∃ t0 : Nat, (pc : Int) + off = (t0 : Int) ∧ ((b = true ∧ t = t0) ∨ (b = false ∧ t = pc + n)) := by
  obtain ⟨t0, h1, h2⟩ := mm_map_s h
  refine ⟨t0, mm_tg_s h1, ?_⟩
  cases b
  · exact Or.inr ⟨rfl, h2.symm⟩
  · exact Or.inl ⟨rfl, h2.symm⟩
theorem mm_br1 (hx : p.tables.exec = Jvm.exec) (hb : c.code = cc) {cnd : ClassFile.Cond} {off : Int} {x : Int32} {t : Nat} {rest : List Value} (hd : decode cc pc = .ok (.ifCond cnd off, 3)) (hs : mm_br (mm_cc cnd x 0) pc off 3 = some t)
    (k : W p l e R s m args below meth c H locs cells slots Q (F0 m t real rest)) : W p l e R s m args below meth c H locs cells slots Q (F0 m pc real (.int x :: rest)) := by
  obtain ⟨t0, h4, ⟨h2, rfl⟩ | ⟨h2, rfl⟩⟩ := mm_br_s hs
  · cases cnd <;> simp only [mm_cc, decide_eq_true_eq, Bool.not_eq_true', decide_eq_false_iff_not] at h2
    · exact lv_if_eq hx hb hd h4 (fun _ => k) (fun h => absurd h2 h)
    · exact lv_if_ne hx hb hd h4 (fun _ => k) (fun h => by first | exact absurd h2 h | exact absurd h h2)
    · exact lv_if_lt hx hb hd h4 (fun _ => k) (fun h => absurd h2 h)
    · exact lv_if_ge hx hb hd h4 (fun _ => k) (fun h => absurd h2 h)
    · exact lv_if_gt hx hb hd h4 (fun _ => k) (fun h => absurd h2 h)
    · exact lv_if_le hx hb hd h4 (fun _ => k) (fun h => absurd h2 h)
  · cases cnd <;> simp only [mm_cc, decide_eq_false_iff_not, Bool.not_eq_false', decide_eq_true_eq] at h2
    · exact lv_if_eq hx hb hd h4 (fun h => absurd h h2) (fun _ => k)
    · exact lv_if_ne hx hb hd h4 (fun h => by first | exact absurd h2 h | exact absurd h h2) (fun _ => k)
    · exact lv_if_lt hx hb hd h4 (fun h => absurd h h2) (fun _ => k)
    · exact lv_if_ge hx hb hd h4 (fun h => absurd h h2) (fun _ => k)
    · exact lv_if_gt hx hb hd h4 (fun h => absurd h h2) (fun _ => k)
    · exact lv_if_le hx hb hd h4 (fun h => absurd h h2) (fun _ => k)
theorem mm_br2 (hx : p.tables.exec = Jvm.exec) (hb : c.code = cc) {cnd : ClassFile.Cond} {off : Int} {x y : Int32} {t : Nat} {rest : List Value} (hd : decode cc pc = .ok (.if_icmp cnd off, 3)) (hs : mm_br (mm_cc cnd x y) pc off 3 = some t)
    (k : W p l e R s m args below meth c H locs cells slots Q (F0 m t real rest)) : W p l e R s m args below meth c H locs cells slots Q (F0 m pc real (.int y :: .int x :: rest)) := by
  obtain ⟨t0, h4, ⟨h2, rfl⟩ | ⟨h2, rfl⟩⟩ := mm_br_s hs
  · cases cnd <;> simp only [mm_cc, decide_eq_true_eq, Bool.not_eq_true', decide_eq_false_iff_not] at h2
    · exact lv_icmp_eq hx hb hd h4 (fun _ => k) (fun h => absurd h2 h)
    · exact lv_icmp_ne hx hb hd h4 (fun _ => k) (fun h => by first | exact absurd h2 h | exact absurd h h2)
    · exact lv_icmp_lt hx hb hd h4 (fun _ => k) (fun h => absurd h2 h)
    · exact lv_icmp_ge hx hb hd h4 (fun _ => k) (fun h => absurd h2 h)
    · exact lv_icmp_gt hx hb hd h4 (fun _ => k) (fun h => absurd h2 h)
    · exact lv_icmp_le hx hb hd h4 (fun _ => k) (fun h => absurd h2 h)
  · cases cnd <;> simp only [mm_cc, decide_eq_false_iff_not, Bool.not_eq_false', decide_eq_true_eq] at h2
    · exact lv_icmp_eq hx hb hd h4 (fun h => absurd h h2) (fun _ => k)
    · exact lv_icmp_ne hx hb hd h4 (fun h => by first | exact absurd h2 h | exact absurd h h2) (fun _ => k)
    · exact lv_icmp_lt hx hb hd h4 (fun h => absurd h h2) (fun _ => k)
    · exact lv_icmp_ge hx hb hd h4 (fun h => absurd h h2) (fun _ => k)
    · exact lv_icmp_gt hx hb hd h4 (fun h => absurd h h2) (fun _ => k)
    · exact lv_icmp_le hx hb hd h4 (fun h => absurd h h2) (fun _ => k)
theorem mm_ok8 (hx : p.tables.exec = Jvm.exec) (hb : c.code = cc) (hd : decode cc pc = .ok (i, n)) {q : Nat × List Value} (hs : mm_s8 i n pc st = some q)
    (k : W p l e R s m args below meth c H locs cells slots Q (F0 m q.1 real (q.2.map (mm_mv B b0)))) : W p l e R s m args below meth c H locs cells slots Q (F0 m pc real (st.map (mm_mv B b0))) := by
  unfold mm_s8 at hs
  split at hs
  · cases h3 : Nat.beq n 3 <;> simp only [h3, cond_true, cond_false] at hs
    · cases hs
    · have := Nat.eq_of_beq_eq_true h3; subst this
      obtain ⟨t, h1, rfl⟩ := mm_map_s hs
      exact lv_goto hx hb hd (mm_tg_s h1) k
  · cases h3 : Nat.beq n 3 <;> simp only [h3, cond_true, cond_false] at hs
    · cases hs
    · have := Nat.eq_of_beq_eq_true h3; subst this
      obtain ⟨t, h1, rfl⟩ := mm_map_s hs
      exact mm_br1 hx hb hd h1 k
  · cases h3 : Nat.beq n 3 <;> simp only [h3, cond_true, cond_false] at hs
    · cases hs
    · have := Nat.eq_of_beq_eq_true h3; subst this
      obtain ⟨t, h1, rfl⟩ := mm_map_s hs
      exact mm_br2 hx hb hd h1 k
  · next d lo hi offs x t =>
    obtain ⟨tg, h1, rfl⟩ := mm_map_s hs
    unfold mm_sw at h1
    split at h1
    · next h2 => exact lv_tableOut hx hb hd h2 (mm_tg_s h1) k
    · next h2 =>
      split at h1
      · next off h3 => exact lv_tableIn hx hb hd (fun h => h2 (Or.inl h)) (fun h => h2 (Or.inr h)) h3 (mm_tg_s h1) k
      · cases h1
  · next d ps x t =>
    cases h3 : (ps.toList.zip (ps.toList.drop 1)).all (fun (a, next) => a.1 < next.1) <;> simp only [h3, cond_true, cond_false] at hs
    · cases hs
    · obtain ⟨tg, h1, rfl⟩ := mm_map_s hs
      exact lv_lookup hx hb hd h3 rfl (mm_tg_s h1) k
  · cases hs
end mmA
end mg_04snd
section mg_05heap
/-! cells: what the mini-machine's heap says of the machine's -/
def mm_W : List Cond := lw_tbl.filter goodWord
theorem mm_W_in {w : Cond} (h : w ∈ lw_tbl) (g : goodWord w = true) : w ∈ mm_W := List.mem_filter.mpr ⟨h, g⟩
theorem mm_W_has {ps : List (Nat × Nat)} {ws : List Cond} (h : mm_has ps ws = true) (g : ws.all goodWord = true) : ∀ w ∈ ws, w ∈ mm_W := fun w hw => mm_W_in (mm_has_in h w hw) (List.all_eq_true.mp g w hw)
theorem mm_W_good {w : Cond} (h : w ∈ mm_W) : (w.onTables && w.keeps) = true ∨ ∃ ty, w = .arrayClass ty := good_of_word (List.mem_filter.mp h).2
theorem mm_lay {ci : Nat} {q : vw_C} (h : vwCl[ci]? = some q) : ∀ w ∈ u_ws q.1 q.2.1 q.2.2, w ∈ mm_W := by
  match ci, h with
  | 0, h => cases h; exact fun w hw => mm_W_in (inX0 w hw) (List.all_eq_true.mp (show (u_ws RX0 TX0 8).all goodWord = true by decide +kernel) w hw)
  | 1, h => cases h; exact fun w hw => mm_W_in (inX1 w hw) (List.all_eq_true.mp (show (u_ws RX1 TX1 4).all goodWord = true by decide +kernel) w hw)
  | 2, h => cases h; exact fun w hw => mm_W_in (inX2 w hw) (List.all_eq_true.mp (show (u_ws RX2 TX2 12).all goodWord = true by decide +kernel) w hw)
  | 3, h => cases h; exact fun w hw => mm_W_in (inX3 w hw) (List.all_eq_true.mp (show (u_ws RX3 TX3 3).all goodWord = true by decide +kernel) w hw)
  | 4, h => cases h; exact fun w hw => mm_W_in (inX4 w hw) (List.all_eq_true.mp (show (u_ws RX4 TX4 16).all goodWord = true by decide +kernel) w hw)
  | 5, h => cases h; exact fun w hw => mm_W_in (inX5 w hw) (List.all_eq_true.mp (show (u_ws RX5 TX5 10).all goodWord = true by decide +kernel) w hw)
  | 6, h => cases h; exact fun w hw => mm_W_in (inX6 w hw) (List.all_eq_true.mp (show (u_ws RX6 TX6 7).all goodWord = true by decide +kernel) w hw)
  | 7, h => cases h; exact fun w hw => mm_W_in (inX7 w hw) (List.all_eq_true.mp (show (u_ws RX7 TX7 3).all goodWord = true by decide +kernel) w hw)
  | 8, h => cases h; exact fun w hw => mm_W_in (inX8 w hw) (List.all_eq_true.mp (show (u_ws RX8 TX8 2).all goodWord = true by decide +kernel) w hw)
  | 9, h => cases h; exact fun w hw => mm_W_in (inX9 w hw) (List.all_eq_true.mp (show (u_ws RX9 TX9 11).all goodWord = true by decide +kernel) w hw)
  | 10, h => cases h; exact fun w hw => mm_W_in (inX10 w hw) (List.all_eq_true.mp (show (u_ws RX10 TX10 46).all goodWord = true by decide +kernel) w hw)
  | k + 11, h => simp [vwCl] at h
theorem mm_tyok {ci : Nat} {q : vw_C} (h : vwCl[ci]? = some q) : ∀ k, k < q.2.2 → parseFieldDescriptor (q.2.1 k).2.2.1 = some (mm_ft ci k) := by
  match ci, h with
  | 0, h => cases h; exact tyX0_ok
  | 1, h => cases h; exact tyX1_ok
  | 2, h => cases h; exact tyX2_ok
  | 3, h => cases h; exact tyX3_ok
  | 4, h => cases h; exact tyX4_ok
  | 5, h => cases h; exact tyX5_ok
  | 6, h => cases h; exact tyX6_ok
  | 7, h => cases h; exact tyX7_ok
  | 8, h => cases h; exact tyX8_ok
  | 9, h => cases h; exact tyX9_ok
  | 10, h => cases h; exact tyX10_ok
  | k + 11, h => simp [vwCl] at h
theorem mm_nm {ci : Nat} {q : vw_C} (h : vwCl[ci]? = some q) : ∀ a, a < q.2.2 → ∀ b, b < q.2.2 → a ≠ b → (q.2.1 a).2.1 ≠ (q.2.1 b).2.1 := by
  match ci, h with
  | 0, h => cases h; exact nmX0
  | 1, h => cases h; exact nmX1
  | 2, h => cases h; exact nmX2
  | 3, h => cases h; exact nmX3
  | 4, h => cases h; exact nmX4
  | 5, h => cases h; exact nmX5
  | 6, h => cases h; exact nmX6
  | 7, h => cases h; exact nmX7
  | 8, h => cases h; exact nmX8
  | 9, h => cases h; exact nmX9
  | 10, h => cases h; exact nmX10
  | k + 11, h => simp [vwCl] at h
theorem mm_fit_s {ty : FieldType} {v : Value} (B : Nat) (b0 : mm_X) (h : mm_fit ty v = true) : narrow ty (mm_mv B b0 v) = mm_mv B b0 v ∧ fits ty (mm_mv B b0 v) = true := by
  unfold mm_fit at h
  split at h
  · exact ⟨rfl, rfl⟩
  · simp only [Bool.or_eq_true, decide_eq_true_eq] at h
    rcases h with rfl | rfl
    · exact ⟨(show narrow .boolean (.int 0) = .int 0 by decide +kernel), (show fits .boolean (.int 0) = true by decide +kernel)⟩
    · exact ⟨(show narrow .boolean (.int 1) = .int 1 by decide +kernel), (show fits .boolean (.int 1) = true by decide +kernel)⟩
  · exact ⟨rfl, rfl⟩
  · exact ⟨rfl, rfl⟩
  · cases h
def mm_ma (B : Nat) : mm_A → vp_A
  | .inl l => (l.length, .inl (fun j => l.getD j 0))
  | .inr (.inl l) => (l.length, .inr (.inl (fun j => l.getD j 0)))
  | .inr (.inr l) => (l.length, .inr (.inr (.inr (.inr (fun j => (l.getD j none).map (fun a => B + a))))))
def mm_me (dA : Nat → ClassId) (B : Nat) (b0 : mm_X) : mm_E → va_E
  | .inl (t, a) => .inl (dA t, mm_ma B a)
  | .inr (ci, fs) => .inr (ci, fs.map (mm_mv B b0))
def mm_Sim (D : va_G) (dA : Nat → ClassId) (B : Nat) (b0 : mm_X) (H0 H : Heap) (h : mm_H) : Prop :=
  H.size = B + h.length ∧ (∀ (k : Nat) (e : mm_E), h[k]? = some e → va_at D vwCl (B + k, mm_me dA B b0 e) H) ∧ ∀ q : Nat, q < B → H[q]? = H0[q]?
theorem mm_lt {α : Type} {l : List α} {k : Nat} {x : α} (h : l[k]? = some x) : k < l.length := (List.getElem?_eq_some_iff.mp h).1
theorem mm_Sim.set {D : va_G} {dA : Nat → ClassId} {B : Nat} {b0 : mm_X} {H0 H H1 : Heap} {h : mm_H} {a : Nat} {e e' : mm_E} (S : mm_Sim D dA B b0 H0 H h) (ha : h[a]? = some e) (he : va_at D vwCl (B + a, mm_me dA B b0 e') H1) (z : H1.size = H.size) (o : ∀ q : Nat, q ≠ B + a → H1[q]? = H[q]?) : mm_Sim D dA B b0 H0 H1 (h.set a e') := by
  refine ⟨by rw [z, S.1, List.length_set], fun k x hk => ?_, fun q hq => by rw [o q (by omega)]; exact S.2.2 q hq⟩
  by_cases hka : k = a
  · subst hka
    rw [List.getElem?_set_self (mm_lt ha)] at hk
    cases hk
    exact he
  · rw [List.getElem?_set_ne (Ne.symm hka)] at hk
    exact (S.2.1 k x hk).kept (o _ (by show B + k ≠ B + a; omega))
theorem mm_Sim.push {D : va_G} {dA : Nat → ClassId} {B : Nat} {b0 : mm_X} {H0 H H1 : Heap} {h : mm_H} {e' : mm_E} (S : mm_Sim D dA B b0 H0 H h) (he : va_at D vwCl (H.size, mm_me dA B b0 e') H1) (z : H1.size = H.size + 1) (o : ∀ q : Nat, q < H.size → H1[q]? = H[q]?) : mm_Sim D dA B b0 H0 H1 (h ++ [e']) := by
  refine ⟨by rw [z, S.1, List.length_append]; rfl, fun k x hk => ?_, fun q hq => by rw [o q (by rw [S.1]; omega)]; exact S.2.2 q hq⟩
  by_cases hl : k < h.length
  · rw [List.getElem?_append_left hl] at hk
    exact (S.2.1 k x hk).kept (o _ (by show B + k < H.size; rw [S.1]; omega))
  · rw [List.getElem?_append_right (by omega)] at hk
    have h0 : k = h.length := by have := mm_lt hk; simp at this; omega
    subst h0
    rw [Nat.sub_self] at hk
    cases hk
    rw [← S.1]
    exact he
-- how many places the cells have
def mm_al : mm_A → Nat
  | .inl l => l.length
  | .inr (.inl l) => l.length
  | .inr (.inr l) => l.length
def mm_cs : mm_E → Nat
  | .inl (_, a) => mm_al a
  | .inr (ci, _) => match vwCl[ci]? with
    | some q => q.2.2
    | none => 0
def mm_sz (h : mm_H) : Nat := (h.map mm_cs).sum
theorem mm_sz_set {h : mm_H} {a : Nat} {e e' : mm_E} (ha : h[a]? = some e) (hc : mm_cs e' = mm_cs e) : mm_sz (h.set a e') = mm_sz h := by
  unfold mm_sz
  rw [List.map_set]
  congr 1
  apply List.ext_getElem?
  intro k
  by_cases hk : k = a
  · subst hk
    rw [List.getElem?_set_self (by rw [List.length_map]; exact mm_lt ha), List.getElem?_map, ha, hc]
    rfl
  · rw [List.getElem?_set_ne (Ne.symm hk)]
theorem mm_sz_app (h h' : mm_H) : mm_sz (h ++ h') = mm_sz h + mm_sz h' := by simp [mm_sz]
/-- the machine between two steps: the heap, the places written, the cells and slots since the method's entry -/
def mm_CF (D : va_G) (dA : Nat → ClassId) (B : Nat) (b0 : mm_X) (H0 : Heap) (n0 s0 : Nat) (H : Heap) (locs : List Loc) (cells slots : Nat) (h : mm_H) : Prop :=
  mm_Sim D dA B b0 H0 H h ∧ (∀ q ∈ locs, B ≤ q.base) ∧ n0 + cells = h.length ∧ s0 + slots = mm_sz h
theorem mm_CF.set {D : va_G} {dA : Nat → ClassId} {B n0 s0 : Nat} {b0 : mm_X} {H0 H H1 : Heap} {locs : List Loc} {cells slots : Nat} {h : mm_H} {a k : Nat} {e e' : mm_E} (S : mm_CF D dA B b0 H0 n0 s0 H locs cells slots h) (ha : h[a]? = some e) (he : va_at D vwCl (B + a, mm_me dA B b0 e') H1) (z : H1.size = H.size) (o : ∀ q : Nat, q ≠ B + a → H1[q]? = H[q]?) (hc : mm_cs e' = mm_cs e) :
    mm_CF D dA B b0 H0 n0 s0 H1 (locs ++ [⟨B + a, k⟩]) cells slots (h.set a e') := by
  refine ⟨S.1.set ha he z o, fun q hq => ?_, by rw [List.length_set]; exact S.2.2.1, by rw [mm_sz_set ha hc]; exact S.2.2.2⟩
  rcases List.mem_append.mp hq with h1 | h1
  · exact S.2.1 q h1
  · rw [List.mem_singleton.mp h1]
    exact Nat.le_add_right B a
theorem mm_CF.push {D : va_G} {dA : Nat → ClassId} {B n0 s0 : Nat} {b0 : mm_X} {H0 H H1 : Heap} {locs : List Loc} {cells slots : Nat} {h : mm_H} {e' : mm_E} {n : Nat} (S : mm_CF D dA B b0 H0 n0 s0 H locs cells slots h) (he : va_at D vwCl (H.size, mm_me dA B b0 e') H1) (z : H1.size = H.size + 1) (o : ∀ q : Nat, q < H.size → H1[q]? = H[q]?) (hc : mm_cs e' = n) :
    mm_CF D dA B b0 H0 n0 s0 H1 locs (cells + 1) (slots + n) (h ++ [e']) := by
  refine ⟨S.1.push he z o, S.2.1, by rw [List.length_append, ← S.2.2.1]; simp; omega, ?_⟩
  rw [mm_sz_app, ← S.2.2.2]
  simp [mm_sz, hc]
  omega
theorem mm_gd {α : Type} (l : List α) (j q : Nat) (x d : α) (hj : j < l.length) : (l.set j x).getD q d = if q = j then x else l.getD q d := by
  by_cases h : q = j
  · subst h
    simp [List.getD_eq_getElem?_getD, hj]
  · simp [List.getD_eq_getElem?_getD, h, List.getElem?_set_ne (Ne.symm h)]
theorem mm_in_s {j : Int32} {n : Nat} (h : mm_in j n = true) : vp_in j n ∧ j.toNatClampNeg < n := by
  unfold mm_in at h
  simp only [Bool.and_eq_true, Bool.not_eq_true', decide_eq_false_iff_not] at h
  have h2 : j.toNatClampNeg < n := Nat.le_of_ble_eq_true h.2
  exact ⟨fun q => q.elim h.1 (fun q => absurd q (Nat.not_le.mpr h2)), h2⟩
theorem mm_P1 {D : va_G} {q : Nat × va_E} {H : Heap} (h : va_at D vwCl q H) : va_P D vwCl [q] H := by
  intro k x hk
  have h0 : k = 0 := by have := mm_lt hk; simp at this; omega
  subst h0
  cases hk
  exact h
-- what is known of the tables
def mm_tys (dA : Nat → ClassId) : List (ClassId × FieldType) := [(dA 0, .int), (dA 1, .long), (dA 2, .byte), (dA 3, .boolean), (dA 4, .array .int), (dA 5, .object RX3), (dA 6, .object RX7)]
def mm_AO (t : FieldType) (U : State) : Prop := (Cond.arrayOver t).before #[] U = true
theorem mm_AO.moved {t : FieldType} {u U : State} (hvm : u.vm.Alike U.vm) (h : mm_AO t u) : mm_AO t U := by
  unfold mm_AO at h ⊢
  rw [← Cond.arrayOver_setVmC hvm t] at h
  exact h
def mm_TX (B : Nat) (b0 : mm_X) (H0 : Heap) (U : State) : Prop := (∀ (i : Nat) (q : Nat × String) (l : List Int32), mm_tl[i]? = some q → mm_txt[i]? = some l → va_O "java/lang/String" (b0.1 (1 + i)) (fun x => B ≤ x) U H0 ∧ va_OF "java/lang/String" "coder" "B" (.int 0) (b0.1 (1 + i)) (fun x => B ≤ x) U H0 ∧ va_OF "java/lang/String" "value" "[B" (.ref (b0.1 (100 + i))) (b0.1 (1 + i)) (fun x => B ≤ x) U H0 ∧ va_T .byte (b0.1 (100 + i)) l.length (fun j => .int (l.getD j 0)) (fun x => B ≤ x) U H0 ∧ vk_R RX5 q.1 q.2 (b0.1 (1 + i)) U) ∧
  va_Z "java/lang/String" "COMPACT_STRINGS" "Z" (.int 1) (fun x => B ≤ x) U H0 ∧ va_Z "jdk/internal/util/Preconditions" "SIOOBE_FORMATTER" "Ljava/util/function/BiFunction;" (va_rf b0.2) (fun x => B ≤ x) U H0
theorem mm_TX.warm {B : Nat} {b0 : mm_X} {H0 : Heap} {s U : State} (h : mm_TX B b0 H0 s) (hW : s.WarmedH U.vm) : mm_TX B b0 H0 U :=
  ⟨fun i q l h1 h2 => ⟨va_O.moved hW.alike (h.1 i q l h1 h2).1, va_OF.moved hW.alike (h.1 i q l h1 h2).2.1, va_OF.moved hW.alike (h.1 i q l h1 h2).2.2.1, va_T.moved hW.alike (h.1 i q l h1 h2).2.2.2.1, vk_R.warm hW (h.1 i q l h1 h2).2.2.2.2⟩, va_Z.moved hW.alike h.2.1, va_Z.moved hW.alike h.2.2⟩
theorem mm_TX.same {B : Nat} {b0 : mm_X} {H0 : Heap} {s U : State} (h : mm_TX B b0 H0 s) (hv : s.vm = U.vm) : mm_TX B b0 H0 U := by
  have ha : s.vm.Alike U.vm := by rw [← hv]; exact Vm.Alike.refl _
  exact ⟨fun i q l h1 h2 => ⟨va_O.moved ha (h.1 i q l h1 h2).1, va_OF.moved ha (h.1 i q l h1 h2).2.1, va_OF.moved ha (h.1 i q l h1 h2).2.2.1, va_T.moved ha (h.1 i q l h1 h2).2.2.2.1, vk_R.same hv.symm (h.1 i q l h1 h2).2.2.2.2⟩, va_Z.moved ha h.2.1, va_Z.moved ha h.2.2⟩
def mm_GI (D : va_G) (dA : Nat → ClassId) (B : Nat) (b0 : mm_X) (H0 : Heap) (X : Option (List Int32)) (U : State) : Prop :=
  va_K D vwCl (mm_tys dA) U ∧ (∀ w ∈ mm_nest, va_Nw w U) ∧ (mm_AO (.object RX3) U ∧ mm_AO (.object RX7) U ∧ mm_AO (.array .int) U ∧ mm_TX B b0 H0 U) ∧ (∀ xs, X = some xs → va_X (b0.1 0) xs.length (fun j => xs.getD j 0) U H0 ∧ b0.1 0 < B) ∧ B = H0.size
theorem mm_nest_s {w : Cond} (h : w ∈ mm_nest) : ∃ a i y b, w = .methodLinkNest a i y b := by
  simp only [mm_nest, List.mem_cons, List.not_mem_nil, or_false] at h
  rcases h with rfl | rfl | rfl | rfl | rfl | rfl | rfl | rfl | rfl | rfl | rfl | rfl | rfl | rfl | rfl <;> exact ⟨_, _, _, _, rfl⟩
theorem mm_GI.warm {D : va_G} {dA : Nat → ClassId} {B : Nat} {b0 : mm_X} {H0 : Heap} {X : Option (List Int32)} {s U : State} (h : mm_GI D dA B b0 H0 X s) (hW : s.WarmedH U.vm) : mm_GI D dA B b0 H0 X U := by
  obtain ⟨h1, h2, ⟨h3, h4, h5, h8⟩, h6, h7⟩ := h
  refine ⟨h1.moved hW.alike, fun w hw => ?_, ⟨h3.moved hW.alike, h4.moved hW.alike, h5.moved hW.alike, h8.warm hW⟩, fun xs hx => ⟨(h6 xs hx).1.moved hW.alike, (h6 xs hx).2⟩, h7⟩
  obtain ⟨a, i, y, b, rfl⟩ := mm_nest_s hw
  exact va_Nw.warmM hW (h2 _ hw)
theorem mm_GI.same {D : va_G} {dA : Nat → ClassId} {B : Nat} {b0 : mm_X} {H0 : Heap} {X : Option (List Int32)} {s U : State} (h : mm_GI D dA B b0 H0 X s) (hv : s.vm = U.vm) : mm_GI D dA B b0 H0 X U := by
  have ha : s.vm.Alike U.vm := by rw [← hv]; exact Vm.Alike.refl _
  obtain ⟨h1, h2, ⟨h3, h4, h5, h8⟩, h6, h7⟩ := h
  refine ⟨h1.moved ha, fun w hw => ?_, ⟨h3.moved ha, h4.moved ha, h5.moved ha, h8.same hv⟩, fun xs hx => ⟨(h6 xs hx).1.moved ha, (h6 xs hx).2⟩, h7⟩
  obtain ⟨a, i, y, b, rfl⟩ := mm_nest_s hw
  exact va_Nw.same rfl hv (h2 _ hw)
end mg_05heap
section mg_06ops
/-! fields and arrays -/
def mm_e0 (r : mm_R) (i ci k : Nat) (fin : Int) (ps : List (Nat × Nat)) : Bool := match vwCl[ci]? with
    | some q => Nat.blt k q.2.2 && mm_has ps [.fieldLink r.2.1 i (q.2.1 k).1 (q.2.1 k).2.1 (q.2.1 k).2.2.1] && (match fin with
      | .ofNat 0 => !(q.2.1 k).2.2.2
      | .ofNat 1 => (q.2.1 k).2.2.2 && decide (r.1.1.name = "<init>") && decide ((q.2.1 k).1 = r.2.1)
      | _ => true)
    | none => false
def mm_cn (ci : Nat) : Option String := match ci with
  | 1000 => some "java/lang/String"
  | k => (vwCl[k]?).map (fun q => q.1)
def mm_e1 (r : mm_R) (i mj ci : Nat) (ps : List (Nat × Nat)) : Bool := match mm_rs[mj]?, mm_cn ci with
    | some y, some q => mm_has ps [.methodLink r.2.1 i y.1.1] && decide (q = y.1.1.cls) && !y.1.2.2.2.2.2.1 && !decide (y.1.1.name = "<init>")
    | _, _ => false
def mm_e2 (r : mm_R) (i mj : Nat) (ps : List (Nat × Nat)) : Bool := match mm_rs[mj]? with
    | some y => mm_has ps [.methodLink r.2.1 i y.1.1] && y.1.2.2.2.2.2.1
    | none => false
def mm_e3 (r : mm_R) (i mj : Nat) (ps : List (Nat × Nat)) : Bool := match mm_rs[mj]? with
    | some y => mm_has ps [.methodLink r.2.1 i y.1.1] && !y.1.2.2.2.2.2.1 && decide (y.1.1.name = "<init>") && y.1.2.2.2.1.isNone
    | none => false
def mm_e4 (r : mm_R) (i mj : Nat) (v : Int) : Bool := match mm_rs[mj]? with
    | some y => decide (mm_nest[v.toNat]? = some (.methodLinkNest r.2.1 i y.1.1 "RainOrgan")) && !y.1.2.2.2.2.2.1 && decide (y.1.1.name = "<init>") && y.1.2.2.2.1.isNone
    | none => false
def mm_e5 (r : mm_R) (i mj : Nat) (v : Int) : Bool := match mm_rs[mj]? with
    | some y => decide (mm_nest[v.toNat]? = some (.methodLinkNest r.2.1 i y.1.1 "RainOrgan")) && y.1.2.2.2.2.2.1
    | none => false
def mm_e7 (r : mm_R) (i ci : Nat) (ps : List (Nat × Nat)) : Bool := match vwCl[ci]? with
    | some q => mm_has ps [.classLink r.2.1 i q.1, .instantiable q.1 q.2.2, .initialized q.1]
    | none => false
def mm_ek (r : mm_R) (e : mm_K) : Bool := match e.2.1 with
  | 0 => mm_e0 r e.1 e.2.2.1 e.2.2.2.1 e.2.2.2.2.1 e.2.2.2.2.2
  | 1 => mm_e1 r e.1 e.2.2.1 e.2.2.2.1 e.2.2.2.2.2
  | 2 => mm_e2 r e.1 e.2.2.1 e.2.2.2.2.2
  | 3 => mm_e3 r e.1 e.2.2.1 e.2.2.2.2.2
  | 4 => mm_e4 r e.1 e.2.2.1 e.2.2.2.2.1
  | 5 => mm_e5 r e.1 e.2.2.1 e.2.2.2.2.1
  | 6 => mm_has e.2.2.2.2.2 [.methodLink r.2.1 e.1 objectInit, .instanceMethod objectInit, .code objectInit ⟨#[0xb1]⟩ 1 none]
  | 7 => mm_e7 r e.1 e.2.2.1 e.2.2.2.2.2
  | 9 => mm_has e.2.2.2.2.2 [.classLink r.2.1 e.1 "[[I", .arrayClass .int]
  | 10 => mm_has e.2.2.2.2.2 [.constant r.2.1 e.1 (Int32.ofInt e.2.2.2.2.1)]
  | 11 => mm_has e.2.2.2.2.2 [.constantLong r.2.1 e.1 (Int64.ofInt e.2.2.2.2.1)]
  | 13 => decide (r.2.1 = RX5) && decide ((mm_tl[e.2.2.1]?).map Prod.fst = some e.1)
  | 14 => mm_has e.2.2.2.2.2 [.fieldLink r.2.1 e.1 "java/lang/String" "value" "[B"]
  | 15 => mm_has e.2.2.2.2.2 [.fieldLink r.2.1 e.1 "java/lang/String" "coder" "B"]
  | 16 => mm_has e.2.2.2.2.2 [.fieldLink r.2.1 e.1 "java/lang/String" "COMPACT_STRINGS" "Z"]
  | 17 => mm_has e.2.2.2.2.2 [.fieldLink r.2.1 e.1 "jdk/internal/util/Preconditions" "SIOOBE_FORMATTER" "Ljava/util/function/BiFunction;"]
  | 12 => mm_has e.2.2.2.2.2 [.methodLink r.2.1 e.1 arraycopyName, .native arraycopyName, .static arraycopyName, .initialized "java/lang/System"]
  | _ => true
theorem mm_rk_s {l : List mm_K} {i : Nat} {e : mm_K} (h : mm_rk l i = some e) : e ∈ l ∧ e.1 = i := by
  induction l with
  | nil => cases h
  | cons q t ih =>
    unfold mm_rk at h
    cases hq : Nat.beq q.1 i <;> rw [hq] at h
    · obtain ⟨h1, h2⟩ := ih h
      exact ⟨List.mem_cons_of_mem _ h1, h2⟩
    · cases h
      exact ⟨List.mem_cons_self, Nat.eq_of_beq_eq_true hq⟩
def mm_EOK (r : mm_R) : Prop := ∀ e ∈ r.2.2.2, mm_ek r e = true
theorem mm_one {w : Cond} {ps : List (Nat × Nat)} (h : mm_has ps [w] = true) (g : goodWord w = true) : w ∈ mm_W := mm_W_has h (by simpa using g) w List.mem_cons_self
theorem mm_tx0 : ∀ i, i < 15 → (mm_tl[i]?).isSome = true ∧ (mm_txt[i]?).isSome = true := by decide +kernel
theorem mm_tx_s {a : Nat} (h : mm_tx a = true) : ∃ (i : Nat) (q : Nat × String) (l : List Int32), a = 1 + i ∧ mm_tl[i]? = some q ∧ mm_txt[i]? = some l := by
  unfold mm_tx at h
  simp only [Bool.and_eq_true] at h
  have h1 := Nat.le_of_ble_eq_true h.1
  have h2 := Nat.le_of_ble_eq_true h.2
  obtain ⟨g1, g2⟩ := mm_tx0 (a - 1) (by omega)
  obtain ⟨q, hq⟩ := Option.isSome_iff_exists.mp g1
  obtain ⟨l, hl⟩ := Option.isSome_iff_exists.mp g2
  exact ⟨a - 1, q, l, by omega, hq, hl⟩
section mmB
variable {p : Program} {l : Launch} {e : Env} {R : Room} {s : State} {m : MethodId} {args : Array Value} {below : List Frame} {meth : Method} {c : Code} {H : Heap} {locs : List Loc} {cells slots : Nat} {Q : State → Prop}
variable {cc : ByteArray} {pc n : Nat} {real : Array Slot} {D : va_G} {dA : Nat → ClassId} {B n0 s0 : Nat} {b0 : mm_X} {H0 : Heap} {X : Option (List Int32)} {i : Instr} {st st' : List Value} {h h' : mm_H} {r : mm_R}
theorem mm_ok9 (hx : p.tables.exec = Jvm.exec) (hb : c.code = cc) (hr : mm_EOK r) (hown : s.vm.findClass r.2.1 = some m.cls) (hnm : r.1.1.name = "<init>" → meth.name = "<init>") (hts : ∀ w ∈ mm_W, w.before args s = true) (hG : mm_GI D dA B b0 H0 X s) (hd : decode cc pc = .ok (i, 3)) (S : mm_CF D dA B b0 H0 n0 s0 H locs cells slots h)
    (hs : mm_s9 r i st h = some (st', h')) (k : ∀ H' locs', mm_CF D dA B b0 H0 n0 s0 H' locs' cells slots h' → W p l e R s m args below meth c H' locs' cells slots Q (F0 m (pc + 3) real (st'.map (mm_mv B b0)))) :
    W p l e R s m args below meth c H locs cells slots Q (F0 m pc real (st.map (mm_mv B b0))) := by
  unfold mm_s9 at hs
  split at hs
  · next idx a t =>
    split at hs
    · next i0 ci kf rest hrk =>
      obtain ⟨he1, he2⟩ := mm_rk_s hrk
      obtain ⟨fin, ps⟩ := rest
      have hek : mm_e0 r i0 ci kf fin ps = true := hr _ he1
      simp only at he2
      subst he2
      split at hs
      · next cj fs ha =>
        cases hcc : Nat.beq ci cj <;> rw [hcc] at hs
        · cases hs
        · have := Nat.eq_of_beq_eq_true hcc
          subst this
          simp only [cond_true] at hs
          split at hs
          · next v hv =>
            cases hs
            unfold mm_e0 at hek
            split at hek
            · next q hq =>
              simp only [Bool.and_eq_true] at hek
              obtain ⟨⟨hk, hw⟩, -⟩ := hek
              have hlk := hts _ (mm_one hw (by first | rfl | simp [goodWord, Cond.onTables, Cond.keeps, Cond.steady]))
              exact va_get hx hb hts (mm_lay hq) hown hG.1 (mm_P1 (S.1.2.1 _ _ ha)) 0 rfl hq kf (Nat.le_of_ble_eq_true hk) hlk (fun _ h => h) (by rw [List.getElem?_map, hv]; rfl) hd (k H locs S)
            · cases hek
          · cases hs
      · cases hs
    · cases hs
  · next idx a t =>
    cases htx : mm_tx a <;> rw [htx] at hs
    · cases hs
    · simp only [cond_true] at hs
      obtain ⟨i1, q, l, rfl, hq, hl⟩ := mm_tx_s htx
      obtain ⟨-, hco, hva, -, -⟩ := hG.2.2.1.2.2.2.1 i1 q l hq hl
      split at hs
      · next hrk =>
        obtain ⟨he1, he2⟩ := mm_rk_s hrk
        have hek := hr _ he1
        simp only at he2
        subst he2
        cases hs
        have hlk := hts _ (mm_one hek (by first | rfl | simp [goodWord, Cond.onTables, Cond.keeps, Cond.steady]))
        obtain ⟨cf, kk, fi, f, cell, g1, g2, g3, g4, g5, g6⟩ := hva
        have k' := k H locs S
        rw [List.map_cons, show mm_mv B b0 (.retAddr (99 + (1 + i1))) = .ref (b0.1 (100 + i1)) by show Value.ref (b0.1 (99 + (1 + i1))) = _; rw [show 99 + (1 + i1) = 100 + i1 by omega]] at k'
        exact W.getf hx hb hown hlk g1 g2 (by rw [S.1.2.2 _ (Nat.not_le.mp g6)]; exact g3) g4 g5 rfl rfl hd k'
      · next hrk =>
        obtain ⟨he1, he2⟩ := mm_rk_s hrk
        have hek := hr _ he1
        simp only at he2
        subst he2
        cases hs
        have hlk := hts _ (mm_one hek (by first | rfl | simp [goodWord, Cond.onTables, Cond.keeps, Cond.steady]))
        obtain ⟨cf, kk, fi, f, cell, g1, g2, g3, g4, g5, g6⟩ := hco
        exact W.getf hx hb hown hlk g1 g2 (by rw [S.1.2.2 _ (Nat.not_le.mp g6)]; exact g3) g4 g5 rfl rfl hd (k H locs S)
      · cases hs
  · split at hs
    · next hrk =>
      obtain ⟨he1, he2⟩ := mm_rk_s hrk
      have hek := hr _ he1
      simp only at he2
      subst he2
      cases hs
      have hlk := hts _ (mm_one hek (by first | rfl | simp [goodWord, Cond.onTables, Cond.keeps, Cond.steady]))
      obtain ⟨cf, kf, fi, f, a, cell, g1, g2, g3, g4, g5, g6, g7, g8⟩ := hG.2.2.1.2.2.2.2.1
      exact W.gets hx hb hown hlk g1 g2 g3 g4 (by rw [S.1.2.2 _ (Nat.not_le.mp g8)]; exact g5) (fun e => by rw [e] at g6; cases g6) g7 rfl hd (k H locs S)
    · next hrk =>
      obtain ⟨he1, he2⟩ := mm_rk_s hrk
      have hek := hr _ he1
      simp only at he2
      subst he2
      cases hs
      have hlk := hts _ (mm_one hek (by first | rfl | simp [goodWord, Cond.onTables, Cond.keeps, Cond.steady]))
      obtain ⟨cf, kf, fi, f, a, cell, g1, g2, g3, g4, g5, g6, g7, g8⟩ := hG.2.2.1.2.2.2.2.2
      exact W.gets hx hb hown hlk g1 g2 g3 g4 (by rw [S.1.2.2 _ (Nat.not_le.mp g8)]; exact g5) (fun e => by rw [e] at g6; cases g6) g7 rfl hd (k H locs S)
    · cases hs
  · next idx v a t =>
    split at hs
    · next i0 ci kf fin ps hrk =>
      obtain ⟨he1, he2⟩ := mm_rk_s hrk
      have hek : mm_e0 r i0 ci kf (.ofNat fin) ps = true := hr _ he1
      simp only at he2
      subst he2
      cases hf2 : Nat.ble 2 fin <;> rw [hf2] at hs
      · simp only [cond_false] at hs
        split at hs
        · next cj fs ha =>
          cases hcc : Nat.beq ci cj && Nat.blt kf fs.length && mm_fit (mm_ft ci kf) v <;> rw [hcc] at hs
          · cases hs
          · simp only [Bool.and_eq_true] at hcc
            obtain ⟨⟨hcc, hkl⟩, hfit⟩ := hcc
            have := Nat.eq_of_beq_eq_true hcc
            subst this
            cases hs
            have hl : kf < (fs.map (mm_mv B b0)).length := by rw [List.length_map]; exact Nat.le_of_ble_eq_true hkl
            obtain ⟨hn, hft⟩ := mm_fit_s B b0 hfit
            unfold mm_e0 at hek
            split at hek
            · next q hq =>
              simp only [Bool.and_eq_true] at hek
              obtain ⟨⟨hk, hw⟩, hfn⟩ := hek
              have hk : kf < q.2.2 := Nat.le_of_ble_eq_true hk
              have hlk := hts _ (mm_one hw (by first | rfl | simp [goodWord, Cond.onTables, Cond.keeps, Cond.steady]))
              have hin := mm_lay hq
              have hap := va_apart (own := r.2.1) hts hin (mm_ft ci) (mm_tyok hq) (mm_nm hq) hG.1 hq
              obtain ⟨r', h1, cell, q1, q2, q3, q4⟩ := S.1.2.1 _ _ ha
              have hr' : r' = q := Option.some.inj (h1.symm.trans hq)
              subst hr'
              obtain ⟨hS, hfc, kC, hkC, hkind⟩ := hG.1.1 ci _ hq
              obtain ⟨cf, kf', fi, f, hi, hsl⟩ := hS kf hk
              have hlays := u_lays hts hin hk
              have hst := (u_facts hfc hkC hlays hi).1
              have hfin : ∀ H' : Heap, H'[B + a]? = some (cell.setSlot f.slot (mm_mv B b0 v)) → H'.size = H.size → (∀ q, q ≠ B + a → H'[q]? = H[q]?) → W p l e R s m args below meth c H' (locs ++ [⟨B + a, f.slot⟩]) cells slots Q (F0 m (pc + 3) real (st'.map (mm_mv B b0))) := by
                intro H' e1 e2 e3
                rw [hsl] at e1
                refine k H' _ (S.set ha ?_ e2 e3 rfl)
                refine ⟨_, hq, ?_⟩
                show t_OB (B + a) (D.1 ci) _ (D.2 ci) H' (vp_V ((fs.set kf v).map (mm_mv B b0)))
                rw [List.map_set]
                exact t_OB.to (V := updV (vp_V (fs.map (mm_mv B b0))) kf (mm_mv B b0 v)) ⟨_, e1, q2, q3, t_set q4 hap hk _⟩ (fun j _ => vp_updV_set hl _ j)
              have hlay := hts _ (hin _ (u_in_lay hk))
              unfold u_lay at hlay
              split at hfn
              · have hf0 : (r'.2.1 kf).2.2.2 = false := by simpa using hfn
                rw [if_neg (by rw [hf0]; decide)] at hlay
                have h6 := u_store hfc hkC hkind hlay hi (mm_tyok hq kf hk) hn hft
                exact W.putK hx hb (f := f) ⟨hown, hlk, ⟨_, _, _, hi⟩, hst⟩ (by rw [q2]; exact h6) q1 q3 (by rw [hsl]; exact k2_hasslot (q4 kf hk)) rfl rfl hd hfin
              · simp only [Bool.and_eq_true, decide_eq_true_eq] at hfn
                obtain ⟨⟨hf0, hin2⟩, hdecl⟩ := hfn
                rw [if_pos hf0] at hlay
                have h6 := u_fits hfc hkC hkind hlays hi (mm_tyok hq kf hk) hn hft
                have hcf : m.cls = cf := by
                  obtain ⟨_, _, c', _, _, _, -, -, hf', -, -, -, hown2, -⟩ := Cond.laysFinal_spec hlay
                  have e1 : c' = cf := by have := hi.symm.trans hf'; simp at this; exact this.1.symm
                  rw [hdecl] at hown2
                  rw [← e1]; exact Option.some.inj (hown.symm.trans hown2)
                exact W.putFinK hx hb hown hlk hi hst hcf (hnm hin2) (by rw [q2]; exact h6) q1 q3 (by rw [hsl]; exact k2_hasslot (q4 kf hk)) rfl rfl hd hfin
              · next f0 f1 =>
                exfalso
                match fin, hf2, f0, f1 with
                | 0, _, f0, _ => exact f0 rfl
                | 1, _, _, f1 => exact f1 rfl
                | k + 2, hf2, _, _ => exact absurd (Nat.le_of_ble_eq_true (show Nat.ble 2 (k + 2) = true from by simp)) (fun h => by rw [show Nat.ble 2 (k + 2) = true by simp] at hf2; cases hf2)
            · cases hek
        · cases hs
      · cases hs
    · cases hs
  · cases hs
end mmB
end mg_06ops
section mg_07arr
/-! arrays: reads and writes, constants -/
theorem mm_setB {b : Bool} {α : Type} {x y : α} (h : (bif b then some x else none) = some y) : b = true ∧ x = y := by
  cases b
  · cases h
  · exact ⟨rfl, Option.some.inj h⟩
theorem mm_rv_mv (B : Nat) (b0 : mm_X) (o : Option Nat) : mm_mv B b0 (mm_rv o) = va_rf (o.map (fun a => B + a)) := by cases o <;> rfl
theorem mm_str_s {a : Nat} {l : List Int32} (h : mm_str a = some l) : ∃ (i : Nat) (q : Nat × String), a = i + 100 ∧ mm_tl[i]? = some q ∧ mm_txt[i]? = some l := by
  unfold mm_str at h
  split at h
  · next k =>
    have hk : k < 15 := by have := mm_lt h; simpa [mm_txt] using this
    obtain ⟨q, hq⟩ := Option.isSome_iff_exists.mp (mm_tx0 k hk).1
    exact ⟨k, q, rfl, hq, h⟩
  · cases h
section mmC
variable {p : Program} {l : Launch} {e : Env} {R : Room} {s : State} {m : MethodId} {args : Array Value} {below : List Frame} {meth : Method} {c : Code} {H : Heap} {locs : List Loc} {cells slots : Nat} {Q : State → Prop}
variable {cc : ByteArray} {pc n : Nat} {real : Array Slot} {D : va_G} {dA : Nat → ClassId} {B n0 s0 : Nat} {b0 : mm_X} {H0 : Heap} {X : Option (List Int32)} {i : Instr} {st st' : List Value} {h h' : mm_H} {r : mm_R}
theorem mm_nA {q : Nat} (hG : mm_GI D dA B b0 H0 X s) (h : q < B) : ¬ (fun x : Nat => B ≤ x) q := Nat.not_le.mpr h
theorem mm_Sof (hG : mm_GI D dA B b0 H0 X s) (S : mm_CF D dA B b0 H0 n0 s0 H locs cells slots h) : va_S (fun x : Nat => B ≤ x) H0 H locs :=
  ⟨by rw [S.1.1, ← hG.2.2.2.2]; omega, fun q h1 _ => S.1.2.2 q (by rw [hG.2.2.2.2]; exact h1), S.2.1⟩
theorem mm_ok10 (hx : p.tables.exec = Jvm.exec) (hb : c.code = cc) (hG : mm_GI D dA B b0 H0 X s) (hd : decode cc pc = .ok (i, 1)) (S : mm_CF D dA B b0 H0 n0 s0 H locs cells slots h)
    (hs : mm_g1 X i st h = some st') (k : W p l e R s m args below meth c H locs cells slots Q (F0 m (pc + 1) real (st'.map (mm_mv B b0)))) :
    W p l e R s m args below meth c H locs cells slots Q (F0 m pc real (st.map (mm_mv B b0))) := by
  unfold mm_g1 at hs
  split at hs
  · split at hs
    · next l0 ha =>
      obtain ⟨h1, rfl⟩ := mm_setB hs
      exact va_iald hx hb hG.1 (mm_P1 (S.1.2.1 _ _ ha)) 0 0 rfl rfl (mm_in_s h1).1 hd k
    · cases hs
  · split at hs
    · next xs =>
      obtain ⟨h1, rfl⟩ := mm_setB hs
      obtain ⟨hX, hlt⟩ := hG.2.2.2.1 _ rfl
      exact va_sld hx hb hX (by rw [← hG.2.2.2.2]; exact hlt) (mm_nA hG hlt) (mm_Sof hG S) (mm_in_s h1).1 hd k
    · cases hs
  · split at hs
    · next l0 ha =>
      obtain ⟨h1, rfl⟩ := mm_setB hs
      exact va_bald hx hb hG.1 (mm_P1 (S.1.2.1 _ _ ha)) 0 2 rfl rfl (mm_in_s h1).1 hd k
    · next l0 ha =>
      obtain ⟨h1, rfl⟩ := mm_setB hs
      exact va_zald hx hb hG.1 (mm_P1 (S.1.2.1 _ _ ha)) 0 3 rfl rfl (mm_in_s h1).1 hd k
    · cases hs
  · next j a t =>
    split at hs
    · next l0 hl0 =>
      obtain ⟨h1, rfl⟩ := mm_setB hs
      obtain ⟨i1, q, rfl, hq, hl⟩ := mm_str_s hl0
      obtain ⟨-, -, -, ⟨cell, g1, g2, g3, g4, g5, g6, g7⟩, -⟩ := hG.2.2.1.2.2.2.1 i1 q l0 hq hl
      obtain ⟨h2, h3⟩ := mm_in_s h1
      have k' := k
      exact W.bald hx hb (by rw [show i1 + 100 = 100 + i1 by omega, S.1.2.2 _ (Nat.not_le.mp g7)]; exact g1) g2 g3 (fun z => z.elim (fun z => h2 (Or.inl z)) (fun z => by omega)) (g6 _ h3) rfl rfl hd k'
    · cases hs
  · split at hs
    · next l0 ha =>
      obtain ⟨h1, rfl⟩ := mm_setB hs
      exact va_lald hx hb hG.1 (mm_P1 (S.1.2.1 _ _ ha)) 0 1 rfl rfl (mm_in_s h1).1 hd k
    · cases hs
  · split at hs
    · next l0 ha =>
      obtain ⟨h1, rfl⟩ := mm_setB hs
      obtain ⟨h2, h3⟩ := mm_in_s h1
      rw [List.map_cons, mm_rv_mv] at k
      exact W.aald (ty := .array .int) hx hb (S.1.2.1 _ _ ha) ((hG.1.2 4 _ rfl).1 l0.length (fun j => va_rf ((l0.getD j none).map (fun a => B + a)))) rfl (fun q => by cases q) (by show ¬ (_ ∨ (arrV _ _ _).slots.size ≤ _); rw [arrV_size]; exact h2) (arrV_read (dA 4) (fun j => va_rf ((l0.getD j none).map (fun a => B + a))) h3) rfl rfl hd k
    · next l0 ha =>
      obtain ⟨h1, rfl⟩ := mm_setB hs
      rw [List.map_cons, mm_rv_mv] at k
      exact va_aldq hx hb hG.1 (mm_P1 (S.1.2.1 _ _ ha)) 0 5 rfl rfl (mm_in_s h1).1 hd k
    · next l0 ha =>
      obtain ⟨h1, rfl⟩ := mm_setB hs
      rw [List.map_cons, mm_rv_mv] at k
      exact va_aldq hx hb hG.1 (mm_P1 (S.1.2.1 _ _ ha)) 0 6 rfl rfl (mm_in_s h1).1 hd k
    · cases hs
  · split at hs
    · next l0 ha =>
      cases hs
      exact va_alen hx hb hG.1 (mm_P1 (S.1.2.1 _ _ ha)) 0 0 rfl rfl rfl hd k
    · next l0 ha =>
      cases hs
      exact va_alen hx hb hG.1 (mm_P1 (S.1.2.1 _ _ ha)) 0 1 rfl rfl rfl hd k
    · cases hs
  · split at hs
    · next xs =>
      cases hs
      obtain ⟨hX, hlt⟩ := hG.2.2.2.1 _ rfl
      exact va_slen hx hb hX (by rw [← hG.2.2.2.2]; exact hlt) (mm_nA hG hlt) (mm_Sof hG S) hd k
    · cases hs
  · next a t =>
    split at hs
    · next l0 hl0 =>
      cases hs
      obtain ⟨i1, q, he, hq, hl⟩ := mm_str_s hl0
      obtain ⟨-, -, -, ⟨cell, g1, g2, g3, g4, g5, g6, g7⟩, -⟩ := hG.2.2.1.2.2.2.1 i1 q l0 hq hl
      exact W.alen hx hb (by show H[b0.1 (a + 1)]? = some cell; rw [he, show i1 + 100 = 100 + i1 by omega, S.1.2.2 _ (Nat.not_le.mp g7)]; exact g1) g2 g5 rfl rfl hd k
    · cases hs
  · cases hs
theorem mm_atI {tag a j : Nat} {H1 : Heap} {l0 : List Int32} {x : Int32} (hj : j < l0.length) (e1 : H1[B + a]? = some ((vp_cell (dA tag) (l0.length, .inl (fun q => l0.getD q 0))).setSlot j (.int x))) :
    va_at D vwCl (B + a, mm_me dA B b0 (.inl (tag, .inl (l0.set j x)))) H1 := by
  show H1[B + a]? = some (vp_cell _ _)
  rw [e1, vp_cell_i, arrV_store]
  show _ = some (vp_cell (dA tag) ((l0.set j x).length, .inl (fun q => (l0.set j x).getD q 0)))
  rw [vp_cell_i, List.length_set]
  congr 2
  funext q
  rw [mm_gd l0 j q x 0 hj]
  by_cases hq : q = j
  · subst hq; simp [updV]
  · simp [updV, hq]
theorem mm_atL {tag a j : Nat} {H1 : Heap} {l0 : List Int64} {x : Int64} (hj : j < l0.length) (e1 : H1[B + a]? = some ((vp_cell (dA tag) (l0.length, .inr (.inl (fun q => l0.getD q 0)))).setSlot j (.long x))) :
    va_at D vwCl (B + a, mm_me dA B b0 (.inl (tag, .inr (.inl (l0.set j x))))) H1 := by
  show H1[B + a]? = some (vp_cell _ _)
  rw [e1, vp_cell_l, arrV_store]
  show _ = some (vp_cell (dA tag) ((l0.set j x).length, .inr (.inl (fun q => (l0.set j x).getD q 0))))
  rw [vp_cell_l, List.length_set]
  congr 2
  funext q
  rw [mm_gd l0 j q x 0 hj]
  by_cases hq : q = j
  · subst hq; simp [updV]
  · simp [updV, hq]
theorem mm_atR {tag a j v : Nat} {H1 : Heap} {l0 : List (Option Nat)} (hj : j < l0.length) (e1 : H1[B + a]? = some ((vp_cell (dA tag) (l0.length, .inr (.inr (.inr (.inr (fun q => (l0.getD q none).map (fun a => B + a))))))).setSlot j (.ref (B + v)))) :
    va_at D vwCl (B + a, mm_me dA B b0 (.inl (tag, .inr (.inr (l0.set j (some v)))))) H1 := by
  show H1[B + a]? = some (vp_cell _ _)
  rw [e1, vp_cell_q, arrV_store]
  show _ = some (vp_cell (dA tag) ((l0.set j (some v)).length, .inr (.inr (.inr (.inr (fun q => ((l0.set j (some v)).getD q none).map (fun a => B + a)))))))
  rw [vp_cell_q, List.length_set]
  congr 2
  funext q
  rw [mm_gd l0 j q (some v) none hj]
  by_cases hq : q = j
  · subst hq; simp [updV, va_rf]
  · simp [updV, hq]
theorem mm_ec_s {tag cj : Nat} (h : Nat.beq cj (mm_ec tag) = true) (hc : cj < 1000) : ∃ q, vwCl[cj]? = some q ∧ (mm_tys dA)[tag]? = some (dA tag, .object q.1) := by
  have := Nat.eq_of_beq_eq_true h
  unfold mm_ec at this
  split at this
  · subst this; exact ⟨_, rfl, rfl⟩
  · subst this; exact ⟨_, rfl, rfl⟩
  · omega
theorem mm_ok11 (hx : p.tables.exec = Jvm.exec) (hb : c.code = cc) (hG : mm_GI D dA B b0 H0 X s) (hd : decode cc pc = .ok (i, 1)) (S : mm_CF D dA B b0 H0 n0 s0 H locs cells slots h)
    (hs : mm_g2 i st h = some (st', h')) (k : ∀ H' locs', mm_CF D dA B b0 H0 n0 s0 H' locs' cells slots h' → W p l e R s m args below meth c H' locs' cells slots Q (F0 m (pc + 1) real (st'.map (mm_mv B b0)))) :
    W p l e R s m args below meth c H locs cells slots Q (F0 m pc real (st.map (mm_mv B b0))) := by
  unfold mm_g2 at hs
  split at hs
  · split at hs
    · next l0 ha =>
      obtain ⟨h1, h2⟩ := mm_setB hs
      cases h2
      obtain ⟨h2, h3⟩ := mm_in_s h1
      refine W.iast hx hb (S.1.2.1 _ _ ha) ((hG.1.2 0 _ rfl).1 l0.length (fun j => .int (l0.getD j 0))) (fun q => by cases q) (by show ¬ (_ ∨ (arrV _ _ _).slots.size ≤ _); rw [arrV_size]; exact h2) rfl rfl hd fun H1 e1 z o => ?_
      exact k H1 _ (S.set ha (mm_atI h3 e1) z o (by simp [mm_cs, mm_al]))
    · cases hs
  · split at hs
    · next l0 ha =>
      obtain ⟨h1, h2⟩ := mm_setB hs
      cases h2
      obtain ⟨h2, h3⟩ := mm_in_s h1
      refine W.bast hx hb (S.1.2.1 _ _ ha) ((hG.1.2 2 _ rfl).1 l0.length (fun j => .int (l0.getD j 0))) (fun q => by cases q) (by show ¬ (_ ∨ (arrV _ _ _).slots.size ≤ _); rw [arrV_size]; exact h2) rfl rfl hd fun H1 e1 z o => ?_
      exact k H1 _ (S.set ha (mm_atI h3 e1) z o (by simp [mm_cs, mm_al]))
    · next l0 ha =>
      obtain ⟨h1, h2⟩ := mm_setB hs
      cases h2
      obtain ⟨h2, h3⟩ := mm_in_s h1
      refine W.zast hx hb (S.1.2.1 _ _ ha) ((hG.1.2 3 _ rfl).1 l0.length (fun j => .int (l0.getD j 0))) (fun q => by cases q) (by show ¬ (_ ∨ (arrV _ _ _).slots.size ≤ _); rw [arrV_size]; exact h2) rfl rfl hd fun H1 e1 z o => ?_
      exact k H1 _ (S.set ha (mm_atI h3 e1) z o (by simp [mm_cs, mm_al]))
    · cases hs
  · split at hs
    · next l0 ha =>
      obtain ⟨h1, h2⟩ := mm_setB hs
      cases h2
      obtain ⟨h2, h3⟩ := mm_in_s h1
      refine W.last hx hb (S.1.2.1 _ _ ha) ((hG.1.2 1 _ rfl).1 l0.length (fun j => .long (l0.getD j 0))) (fun q => by cases q) (by show ¬ (_ ∨ (arrV _ _ _).slots.size ≤ _); rw [arrV_size]; exact h2) rfl rfl hd fun H1 e1 z o => ?_
      exact k H1 _ (S.set ha (mm_atL h3 e1) z o (by simp [mm_cs, mm_al]))
    · cases hs
  · next v j a t =>
    split at hs
    · next tag l0 cj fs ha hv =>
      obtain ⟨h1, h2⟩ := mm_setB hs
      cases h2
      simp only [Bool.and_eq_true] at h1
      obtain ⟨h1, hec⟩ := h1
      obtain ⟨h2, h3⟩ := mm_in_s h1
      obtain ⟨r', hr', cellV, g1, g2, g3, -⟩ := S.1.2.1 _ _ hv
      have hcj : cj < 1000 := by have := mm_lt hr'; simp [vwCl] at this; omega
      obtain ⟨q, hq, hty⟩ := mm_ec_s (dA := dA) hec hcj
      have hcls := (hG.1.1 cj _ hq).2
      obtain ⟨kA, comp, k1, k2, k3, -⟩ := (hG.1.2 tag _ hty).2
      have hcomp : comp = D.1 cj := Option.some.inj (k3.symm.trans hcls.1)
      subst hcomp
      obtain ⟨kC, hkC, -⟩ := hcls.2
      refine W.aast hx hb (S.1.2.1 _ _ ha) (fun q h => by cases h) (fun h => by cases h) k1 k2 rfl hkC ⟨fun q => h2 (Or.inl q), by show _ < (arrV _ _ _).slots.size; rw [arrV_size]; exact h3⟩ g1 (fun q h => by rw [g3] at h; cases h) (by rw [g2]; exact hkC) (by rw [g2]; exact va_assign hcls) rfl rfl hd fun H1 e1 z o => ?_
      exact k H1 _ (S.set ha (mm_atR h3 e1) z o (by simp [mm_cs, mm_al]))
    · cases hs
  · cases hs
theorem mm_ok12 (hx : p.tables.exec = Jvm.exec) (hb : c.code = cc) (hr : mm_EOK r) (hG : mm_GI D dA B b0 H0 X s) (hown : s.vm.findClass r.2.1 = some m.cls) (hts : ∀ w ∈ mm_W, w.before args s = true) (hd : decode cc pc = .ok (i, n)) {v : Value} {t : List Value}
    (hs : mm_g4 r i n = some v) (k : W p l e R s m args below meth c H locs cells slots Q (F0 m (pc + n) real (mm_mv B b0 v :: t))) :
    W p l e R s m args below meth c H locs cells slots Q (F0 m pc real t) := by
  unfold mm_g4 at hs
  split at hs
  · split at hs
    · next hrk =>
      obtain ⟨he1, he2⟩ := mm_rk_s hrk
      have hek := hr _ he1
      simp only at he2
      subst he2
      cases hs
      exact lv_ldc hx hb hown (hts _ (mm_one hek (by first | rfl | simp [goodWord, Cond.onTables, Cond.keeps, Cond.steady]))) hd k
    · next i0 i1 rest hrk =>
      obtain ⟨he1, he2⟩ := mm_rk_s hrk
      have hek : (decide (r.2.1 = RX5) && decide ((mm_tl[i1]?).map Prod.fst = some i0)) = true := hr _ he1
      simp only at he2
      subst he2
      cases hs
      simp only [Bool.and_eq_true, decide_eq_true_eq] at hek
      obtain ⟨ho, hi⟩ := hek
      cases hq : mm_tl[i1]? with
      | none => rw [hq] at hi; cases hi
      | some q =>
        rw [hq] at hi
        have hi : q.1 = i0 := Option.some.inj hi
        have hk : i1 < 15 := by have := mm_lt hq; simpa [mm_tl] using this
        obtain ⟨l0, hl0⟩ := Option.isSome_iff_exists.mp (mm_tx0 i1 hk).2
        have hv := (hG.2.2.1.2.2.2.1 i1 q l0 hq hl0).2.2.2.2
        rw [hi, ← ho] at hv
        exact va_ldcS hx hb hown hv hd k
    · cases hs
  · split at hs
    · next hrk =>
      obtain ⟨he1, he2⟩ := mm_rk_s hrk
      have hek := hr _ he1
      simp only at he2
      subst he2
      cases hs
      exact lv_ldcw hx hb hown (hts _ (mm_one hek (by first | rfl | simp [goodWord, Cond.onTables, Cond.keeps, Cond.steady]))) hd k
    · cases hs
  · split at hs
    · next hrk =>
      obtain ⟨he1, he2⟩ := mm_rk_s hrk
      have hek := hr _ he1
      simp only at he2
      subst he2
      cases hs
      exact lv_ldc2 hx hb hown (hts _ (mm_one hek (by first | rfl | simp [goodWord, Cond.onTables, Cond.keeps, Cond.steady]))) hd k
    · cases hs
  · cases hs
end mmC
end mg_07arr
section mg_08new
/-! what is made -/
theorem mm_dv_s (t : FieldType) (B : Nat) (b0 : mm_X) (h : t = .int ∨ t = .boolean ∨ (∃ n, t = .object n) ∨ ∃ n, t = .array n) : defaultValue t = mm_mv B b0 (mm_dv t) := by
  rcases h with rfl | rfl | ⟨n, rfl⟩ | ⟨n, rfl⟩ <;> rfl
def mm_tk4 (t : FieldType) : Bool := match t with
  | .int | .boolean | .object _ | .array _ => true
  | _ => false
theorem mm_tk4_s {t : FieldType} (h : mm_tk4 t = true) : t = .int ∨ t = .boolean ∨ (∃ n, t = .object n) ∨ ∃ n, t = .array n := by
  cases t <;> first | (cases h; done) | simp
theorem mm_ftk : ∀ ci, ci < 11 → ∀ k, k < 46 → mm_tk4 (mm_ft ci k) = true := by decide +kernel
theorem mm_N46 : ∀ ci, ci < 11 → (match vwCl[ci]? with | some q => decide (q.2.2 ≤ 46) | none => true) = true := by decide +kernel
theorem mm_dfs_s {ci : Nat} {q : vw_C} (hq : vwCl[ci]? = some q) (B : Nat) (b0 : mm_X) : ∀ j, j < q.2.2 → defaultValue (mm_ft ci j) = vp_V ((mm_dfs ci).map (mm_mv B b0)) j := by
  intro j hj
  have hci : ci < 11 := by have := mm_lt hq; simpa [vwCl] using this
  have hN : q.2.2 ≤ 46 := by have := mm_N46 ci hci; rw [hq] at this; simpa using this
  rw [mm_dv_s _ B b0 (mm_tk4_s (mm_ftk ci hci j (by omega)))]
  unfold mm_dfs vp_V
  rw [hq]
  simp [List.getD_eq_getElem?_getD, hj]
theorem mm_nn_s {n : Int32} (h : mm_nn n = true) : ¬ n < 0 ∧ n.toNatClampNeg ≤ 1000 := by
  unfold mm_nn at h
  simp only [Bool.and_eq_true, Bool.not_eq_true', decide_eq_false_iff_not] at h
  exact ⟨h.1, Nat.le_of_ble_eq_true h.2⟩
theorem mm_rep {α : Type} (n j : Nat) (d : α) : (List.replicate n d).getD j d = d := by
  simp only [List.getD_eq_getElem?_getD, List.getElem?_replicate]
  split <;> rfl
section mmD
variable {p : Program} {l : Launch} {e : Env} {R : Room} {s : State} {m : MethodId} {args : Array Value} {below : List Frame} {meth : Method} {c : Code} {H : Heap} {locs : List Loc} {cells slots : Nat} {Q : State → Prop}
variable {cc : ByteArray} {pc n : Nat} {real : Array Slot} {D : va_G} {dA : Nat → ClassId} {B n0 s0 : Nat} {b0 : mm_X} {H0 : Heap} {X : Option (List Int32)} {i : Instr} {st st' : List Value} {h h' : mm_H} {r : mm_R}
theorem mm_newT (hx : p.tables.exec = Jvm.exec) (hb : c.code = cc) (hG : mm_GI D dA B b0 H0 X s) {at0 : ArrayType} (hd : decode cc pc = .ok (.newarray at0, 2)) (S : mm_CF D dA B b0 H0 n0 s0 H locs cells slots h) {nn : Int32} (hnn : mm_nn nn = true) {e0 : mm_E} {tag : Nat} {a0 : mm_A} (he : e0 = .inl (tag, a0)) {t : List Value}
    (harr : (Cond.arrayClass (newarray.typeOf at0)).before args s = true) (hty : (mm_tys dA)[tag]? = some (dA tag, newarray.typeOf at0)) (hnr : ∀ C, newarray.typeOf at0 ≠ .object C) (hcb : componentBytes (newarray.typeOf at0) ≤ 8) (hal : mm_al a0 = nn.toNatClampNeg) (hce : vp_cell (dA tag) (mm_ma B a0) = arrV (dA tag) nn.toNatClampNeg (fun _ => defaultValue (newarray.typeOf at0)))
    (hc1 : (h ++ [e0]).length ≤ n0 + R.cells) (hc2 : mm_sz (h ++ [e0]) ≤ s0 + R.slots)
    (k : ∀ H' locs' cells' slots', mm_CF D dA B b0 H0 n0 s0 H' locs' cells' slots' (h ++ [e0]) → W p l e R s m args below meth c H' locs' cells' slots' Q (F0 m (pc + 2) real (.ref (B + h.length) :: t))) :
    W p l e R s m args below meth c H locs cells slots Q (F0 m pc real (.int nn :: t)) := by
  subst he
  obtain ⟨h1, h2⟩ := mm_nn_s hnn
  have hz : mm_sz (h ++ [(.inl (tag, a0) : mm_E)]) = mm_sz h + nn.toNatClampNeg := by rw [mm_sz_app]; simp [mm_sz, mm_cs, hal]
  have hcc : cells + 1 ≤ R.cells := by
    have := S.2.2.1
    simp at hc1
    omega
  have hss : slots + nn.toNatClampNeg ≤ R.slots := by
    have := S.2.2.2
    rw [hz] at hc2
    omega
  have hsz : H.size = B + h.length := S.1.1
  refine va_newaK hx hb harr rfl hd rfl h1 rfl (Nat.le_trans (Nat.mul_le_mul h2 hcb) (by omega)) hcc hss rfl fun H1 cA e1 z1 o1 hAr hNm => ?_
  have hcA : cA = dA tag := by
    have := (hG.1.2 tag _ hty).2
    unfold va_RA at this
    split at this
    · next C hC => exact absurd hC (hnr C)
    · exact Option.some.inj (hNm.symm.trans this)
  subst hcA
  have hfin := k H1 locs (cells + 1) (slots + nn.toNatClampNeg) (S.push (e' := .inl (tag, a0)) (by show H1[H.size]? = some (vp_cell _ _); rw [e1]; exact congrArg some hce.symm) z1 o1 hal)
  rw [← hsz] at hfin
  exact hfin
theorem mm_AC {ps : List (Nat × Nat)} {ty : FieldType} (h : mm_has ps [.arrayClass ty] = true) (hts : ∀ w ∈ mm_W, w.before args s = true) : (Cond.arrayClass ty).before args s = true := hts _ (mm_one h rfl)
theorem mm_ok13a (hx : p.tables.exec = Jvm.exec) (hb : c.code = cc) (hts : ∀ w ∈ mm_W, w.before args s = true) (hG : mm_GI D dA B b0 H0 X s) {at0 : ArrayType} (hd : decode cc pc = .ok (.newarray at0, 2)) (S : mm_CF D dA B b0 H0 n0 s0 H locs cells slots h) {nn : Int32} (hnn : mm_nn nn = true) {e0 : mm_E} {t : List Value} (hna : mm_na at0 nn.toNatClampNeg = some e0)
    (hc1 : (h ++ [e0]).length ≤ n0 + R.cells) (hc2 : mm_sz (h ++ [e0]) ≤ s0 + R.slots)
    (k : ∀ H' locs' cells' slots', mm_CF D dA B b0 H0 n0 s0 H' locs' cells' slots' (h ++ [e0]) → W p l e R s m args below meth c H' locs' cells' slots' Q (F0 m (pc + 2) real (.ref (B + h.length) :: t))) :
    W p l e R s m args below meth c H locs cells slots Q (F0 m pc real (.int nn :: t)) := by
  unfold mm_na at hna
  split at hna
  · cases hna
    refine mm_newT hx hb hG hd S hnn rfl (mm_AC mm_ac0 hts) rfl (fun C h => by cases h) (by decide) (by simp [mm_al]) ?_ hc1 hc2 k
    simp only [mm_ma, vp_cell_i, List.length_replicate, mm_rep]
    rfl
  · cases hna
    refine mm_newT hx hb hG hd S hnn rfl (mm_AC mm_ac1 hts) rfl (fun C h => by cases h) (by decide) (by simp [mm_al]) ?_ hc1 hc2 k
    simp only [mm_ma, vp_cell_l, List.length_replicate, mm_rep]
    rfl
  · cases hna
    refine mm_newT hx hb hG hd S hnn rfl (mm_AC mm_ac2 hts) rfl (fun C h => by cases h) (by decide) (by simp [mm_al]) ?_ hc1 hc2 k
    simp only [mm_ma, vp_cell_i, List.length_replicate, mm_rep]
    rfl
  · cases hna
    refine mm_newT hx hb hG hd S hnn rfl (mm_AC mm_ac3 hts) rfl (fun C h => by cases h) (by decide) (by simp [mm_al]) ?_ hc1 hc2 k
    simp only [mm_ma, vp_cell_i, List.length_replicate, mm_rep]
    rfl
  · cases hna
theorem mm_ok13b (hx : p.tables.exec = Jvm.exec) (hb : c.code = cc) (hts : ∀ w ∈ mm_W, w.before args s = true) (hG : mm_GI D dA B b0 H0 X s) (hown : s.vm.findClass r.2.1 = some m.cls) {idx ci : Nat} {ps : List (Nat × Nat)} (hek : mm_e7 r idx ci ps = true) (hd : decode cc pc = .ok (.new idx, 3)) (S : mm_CF D dA B b0 H0 n0 s0 H locs cells slots h) {t : List Value}
    (hc1 : (h ++ [(.inr (ci, mm_dfs ci) : mm_E)]).length ≤ n0 + R.cells) (hc2 : mm_sz (h ++ [(.inr (ci, mm_dfs ci) : mm_E)]) ≤ s0 + R.slots)
    (k : ∀ H' locs' cells' slots', mm_CF D dA B b0 H0 n0 s0 H' locs' cells' slots' (h ++ [.inr (ci, mm_dfs ci)]) → W p l e R s m args below meth c H' locs' cells' slots' Q (F0 m (pc + 3) real (.ref (B + h.length) :: t))) :
    W p l e R s m args below meth c H locs cells slots Q (F0 m pc real t) := by
  unfold mm_e7 at hek
  split at hek
  · next q hq =>
    have hw := mm_W_has hek (by simp [goodWord, Cond.onTables, Cond.keeps, Cond.steady])
    have hz : mm_sz (h ++ [(.inr (ci, mm_dfs ci) : mm_E)]) = mm_sz h + q.2.2 := by rw [mm_sz_app]; simp [mm_sz, mm_cs, hq]
    have hcc : cells + 1 ≤ R.cells := by
      have := S.2.2.1
      simp at hc1
      omega
    have hss : slots + q.2.2 ≤ R.slots := by
      have := S.2.2.2
      rw [hz] at hc2
      omega
    have hKn := hG.1.1 ci _ hq
    refine W.newcK hx hb hown (hts _ (hw _ (by simp))) (hts _ (hw (.instantiable q.1 q.2.2) (by simp))) (hts _ (hw (.initialized q.1) (by simp))) rfl hd hcc hss hKn.2.1 rfl fun H1 kC hkC e1 z1 o1 => ?_
    have hfin := k H1 locs (cells + 1) (slots + q.2.2) (S.push (e' := .inr (ci, mm_dfs ci)) ⟨q, hq, (u_born (mm_ft ci) hts (mm_lay hq) hKn hkC e1 (mm_tyok hq)).to (mm_dfs_s hq B b0)⟩ z1 o1 (by simp [mm_cs, hq]))
    rw [← S.1.1] at hfin
    exact hfin
  · cases hek
theorem mm_ok13c (hx : p.tables.exec = Jvm.exec) (hb : c.code = cc) (hts : ∀ w ∈ mm_W, w.before args s = true) (hG : mm_GI D dA B b0 H0 X s) (hown : s.vm.findClass r.2.1 = some m.cls) {idx ci : Nat} {ps : List (Nat × Nat)} (hek : mm_e7 r idx ci ps = true) (hec : Nat.beq (mm_ec (mm_tc ci)) ci = true) (hd : decode cc pc = .ok (.anewarray idx, 3)) (S : mm_CF D dA B b0 H0 n0 s0 H locs cells slots h) {t : List Value} {nn : Int32} (hnn : mm_nn nn = true) {e0 : mm_E} (he0 : e0 = .inl (mm_tc ci, .inr (.inr (List.replicate nn.toNatClampNeg none))))
    (hc1 : (h ++ [e0]).length ≤ n0 + R.cells) (hc2 : mm_sz (h ++ [e0]) ≤ s0 + R.slots)
    (k : ∀ H' locs' cells' slots', mm_CF D dA B b0 H0 n0 s0 H' locs' cells' slots' (h ++ [e0]) → W p l e R s m args below meth c H' locs' cells' slots' Q (F0 m (pc + 3) real (.ref (B + h.length) :: t))) :
    W p l e R s m args below meth c H locs cells slots Q (F0 m pc real (.int nn :: t)) := by
  subst he0
  obtain ⟨h1, h2⟩ := mm_nn_s hnn
  unfold mm_e7 at hek
  split at hek
  · next q hq =>
    have hw := mm_W_has hek (by simp [goodWord, Cond.onTables, Cond.keeps, Cond.steady])
    have hci : ci < 1000 := by have := mm_lt hq; simp [vwCl] at this; omega
    have hec' : Nat.beq ci (mm_ec (mm_tc ci)) = true := by rw [Nat.eq_of_beq_eq_true hec]; exact Nat.beq_refl _
    obtain ⟨q', hq', hty⟩ := mm_ec_s (dA := dA) hec' hci
    cases Option.some.inj (hq.symm.trans hq')
    obtain ⟨kA, comp, k1, k2, k3, k4⟩ := (hG.1.2 _ _ hty).2
    have hAO : (Cond.arrayOver (.object q.1)).before args s = true := by
      have hci2 : ci = 3 ∨ ci = 7 := by
        have := Nat.eq_of_beq_eq_true hec
        unfold mm_tc at this
        split at this
        · exact Or.inl rfl
        · exact Or.inr rfl
        · simp [mm_ec] at this; omega
      rcases hci2 with rfl | rfl
      · cases hq; exact hG.2.2.1.1
      · cases hq; exact hG.2.2.1.2.1
    have hz : mm_sz (h ++ [(.inl (mm_tc ci, .inr (.inr (List.replicate nn.toNatClampNeg none))) : mm_E)]) = mm_sz h + nn.toNatClampNeg := by rw [mm_sz_app]; simp [mm_sz, mm_cs, mm_al]
    have hcc : cells + 1 ≤ R.cells := by
      have := S.2.2.1
      simp at hc1
      omega
    have hss : slots + nn.toNatClampNeg ≤ R.slots := by
      have := S.2.2.2
      rw [hz] at hc2
      omega
    refine W.anew hx hb hown (hts _ (hw _ (by simp))) hAO rfl hd rfl h1 (by omega) hcc hss fun cA kA' comp' f1 f2 f3 f4 => ?_
    have hcA : cA = dA (mm_tc ci) := Option.some.inj (f1.symm.trans k4)
    subst hcA
    have hfin := k (H.push ({ cls := dA (mm_tc ci), slots := Array.replicate nn.toNatClampNeg .null, vm := .none } : Cell)) locs (cells + 1) (slots + nn.toNatClampNeg) (S.push (e' := .inl (mm_tc ci, .inr (.inr (List.replicate nn.toNatClampNeg none)))) (by
      show _ = some (vp_cell _ _)
      rw [Array.getElem?_push_size]
      simp only [mm_ma, vp_cell_q, List.length_replicate, mm_rep]
      rw [arrV_new]
      rfl) (by rw [Array.size_push]) (fun q hq => by rw [Array.getElem?_push, if_neg (Nat.ne_of_lt hq)]) (by simp [mm_cs, mm_al]))
    rw [← S.1.1] at hfin
    exact hfin
  · cases hek
end mmD
end mg_08new
section mg_09mna
/-! new int[n][k]; a making of any kind; arraycopy -/
theorem mm_outer (c : ClassId) (N h0 : Nat) : ∀ i : Nat, Jvm.Free.Multi.outerC c N h0 i = arrV c N (fun j => va_rf (if j < i then some (h0 + 1 + j) else none))
  | 0 => by
    show ({ cls := c, slots := Array.replicate N .null, vm := .none } : Cell) = _
    rw [arrV_new]
    refine congrArg (arrV c N) (funext fun j => ?_)
    simp [va_rf]
  | i + 1 => by
    show (Jvm.Free.Multi.outerC c N h0 i).setSlot i (.ref (h0 + 1 + i)) = _
    rw [mm_outer c N h0 i, arrV_store]
    refine congrArg (arrV c N) (funext fun j => ?_)
    by_cases e : j = i
    · subst e; simp [updV, va_rf]
    · by_cases h : j < i
      · simp [updV, e, h, Nat.lt_succ_of_lt h]
      · simp [updV, e, h, show ¬ j < i + 1 by omega]
section mmF
variable {p : Program} {l : Launch} {e : Env} {R : Room} {s : State} {m : MethodId} {args : Array Value} {below : List Frame} {meth : Method} {c : Code} {H : Heap} {locs : List Loc} {cells slots : Nat} {Q : State → Prop}
variable {cc : ByteArray} {pc n : Nat} {real : Array Slot} {D : va_G} {dA : Nat → ClassId} {B n0 s0 : Nat} {b0 : mm_X} {H0 : Heap} {X : Option (List Int32)} {i : Instr} {st st' : List Value} {h h' : mm_H} {r : mm_R}
theorem mm_szR (N K : Nat) : mm_sz (List.replicate N (.inl (0, .inl (List.replicate K 0)) : mm_E)) = N * K := by
  unfold mm_sz
  rw [List.map_replicate, List.sum_replicate_nat]
  simp [mm_cs, mm_al]
theorem mm_ok13d (hx : p.tables.exec = Jvm.exec) (hb : c.code = cc) (hts : ∀ w ∈ mm_W, w.before args s = true) (hG : mm_GI D dA B b0 H0 X s) (hown : s.vm.findClass r.2.1 = some m.cls) {idx : Nat} {ps : List (Nat × Nat)} (hek : mm_has ps [.classLink r.2.1 idx "[[I", .arrayClass .int] = true) (hd : decode cc pc = .ok (.multianewarray idx 2, 4)) (S : mm_CF D dA B b0 H0 n0 s0 H locs cells slots h) {t : List Value} {nn kk : Int32} (hnn : mm_nn nn = true) (hkk : mm_nn kk = true)
    (he : h' = (h ++ [.inl (4, .inr (.inr ((List.range nn.toNatClampNeg).map (fun i => some (h.length + 1 + i)))))]) ++ List.replicate nn.toNatClampNeg (.inl (0, .inl (List.replicate kk.toNatClampNeg 0))))
    (hc1 : h'.length ≤ n0 + R.cells) (hc2 : mm_sz h' ≤ s0 + R.slots)
    (k : ∀ H' locs' cells' slots', mm_CF D dA B b0 H0 n0 s0 H' locs' cells' slots' h' → W p l e R s m args below meth c H' locs' cells' slots' Q (F0 m (pc + 4) real (.ref (B + h.length) :: t))) :
    W p l e R s m args below meth c H locs cells slots Q (F0 m pc real (.int kk :: .int nn :: t)) := by
  obtain ⟨h1, h2⟩ := mm_nn_s hnn
  obtain ⟨h3, h4⟩ := mm_nn_s hkk
  generalize hN : nn.toNatClampNeg = N at *
  generalize hK : kk.toNatClampNeg = K at *
  have hlen : h'.length = h.length + 1 + N := by rw [he]; simp; omega
  have hz : mm_sz h' = mm_sz h + (N + N * K) := by
    rw [he, mm_sz_app, mm_sz_app, mm_szR]
    simp [mm_sz, mm_cs, mm_al]
    omega
  have e1 := S.2.2.1
  have e2 := S.2.2.2
  have hw := mm_W_has hek (by simp [goodWord, Cond.onTables, Cond.keeps, Cond.steady])
  intro T hT Xs
  have hcb : componentBytes FieldType.int = 4 := by decide
  have hcl0 : (Cond.classLink r.2.1 idx ("[" ++ (FieldType.array .int).toString)).before args s = true := by
    have e0 : "[" ++ (FieldType.array .int).toString = "[[I" := by decide +kernel
    rw [e0]
    exact hts _ (hw _ (by simp))
  obtain ⟨vm₁, cA, comp, -, fA, fC, hO, -, X', step⟩ := Xs.multianewarray2F (ty := .int) hx hown hcl0 hG.2.2.1.2.2.1 (hts (.arrayClass .int) (hw _ (by simp))) (g := F0 m pc real (.int kk :: .int nn :: t)) rfl (by rw [hb]; exact hd) rfl h1 h3 (by omega) (by rw [hcb]; omega) (by omega) rfl rfl (by rw [hN]; omega) (by rw [hN, hK]; omega)
  rw [hN, hK] at X' step
  have hc0 : comp = dA 0 := by
    have := (hG.1.2 0 _ rfl).2
    exact Option.some.inj (fC.symm.trans this)
  have hc4 : cA = dA 4 := by
    have := (hG.1.2 4 _ rfl).2
    exact Option.some.inj (fA.symm.trans this)
  subst hc0 hc4
  generalize hF : Jvm.Free.Multi.fill (T.setVm vm₁) (dA 4) (dA 0) N K (defaultValue .int) N = F at X' step
  have hTh : (T.setVm vm₁).heap = H := hT
  obtain ⟨f1, f2, -, -⟩ := Jvm.Free.Multi.fill_facts (T.setVm vm₁) (dA 4) (dA 0) N K (defaultValue .int) N
  rw [hF, hTh] at f1 f2
  have hold : ∀ x : Nat, x < H.size → F.heap[x]? = H[x]? := fun x hx => by
    have := Jvm.Free.Multi.fill_old (T.setVm vm₁) (dA 4) (dA 0) N K (defaultValue .int) (a := x) (by rw [hTh]; exact hx) N
    rw [hF, hTh] at this
    exact this
  have hrow : ∀ j : Nat, j < N → F.heap[H.size + 1 + j]? = some (Jvm.Free.Multi.innerC (dA 0) K (defaultValue .int)) := fun j hj => by
    have := Jvm.Free.Multi.fill_inner (T.setVm vm₁) (dA 4) (dA 0) N K (defaultValue .int) N j hj
    rw [hF, hTh] at this
    exact this
  have hsz := S.1.1
  have hSim : mm_Sim D dA B b0 H0 F.heap h' := by
    refine ⟨by rw [f1, hlen, hsz]; omega, fun q x hq => ?_, fun q hq => by rw [hold q (by omega)]; exact S.1.2.2 q hq⟩
    rw [he] at hq
    by_cases c1 : q < h.length
    · rw [List.getElem?_append_left (by simp; omega), List.getElem?_append_left c1] at hq
      exact (S.1.2.1 q x hq).kept (hold _ (by show B + q < H.size; omega))
    · by_cases c2 : q = h.length
      · subst c2
        rw [List.getElem?_append_left (by simp), List.getElem?_append_right (Nat.le_refl _), Nat.sub_self] at hq
        cases hq
        show F.heap[B + h.length]? = some (vp_cell _ _)
        rw [← hsz, f2, mm_outer]
        show _ = some (vp_cell (dA 4) (((List.range N).map (fun i => some (h.length + 1 + i))).length, .inr (.inr (.inr (.inr (fun j => (((List.range N).map (fun i => some (h.length + 1 + i))).getD j none).map (fun a => B + a)))))))
        rw [vp_cell_q]
        simp only [List.length_map, List.length_range]
        congr 2
        funext j
        by_cases hj : j < N
        · rw [if_pos hj, List.getD_eq_getElem?_getD, List.getElem?_map, List.getElem?_range hj]
          show va_rf (some (H.size + 1 + j)) = va_rf (some (B + (h.length + 1 + j)))
          rw [hsz, show B + h.length + 1 + j = B + (h.length + 1 + j) by omega]
        · simp [hj, List.getD_eq_getElem?_getD]
      · have hqN : q < h.length + 1 + N := by have := mm_lt hq; simp at this; omega
        rw [List.getElem?_append_right (by simp; omega)] at hq
        simp only [List.length_append, List.length_cons, List.length_nil, List.getElem?_replicate] at hq
        rw [if_pos (by omega)] at hq
        cases hq
        show F.heap[B + q]? = some (vp_cell _ _)
        have := hrow (q - h.length - 1) (by omega)
        rw [show H.size + 1 + (q - h.length - 1) = B + q by omega] at this
        rw [this]
        simp only [mm_ma, vp_cell_i, List.length_replicate, mm_rep]
        unfold Jvm.Free.Multi.innerC
        rw [arrV_new]
        rfl
  have hfin := k F.heap locs (cells + 1 + N) (slots + N + N * K) ⟨hSim, S.2.1, by rw [hlen, ← e1]; omega, by rw [hz, ← e2]; omega⟩ F rfl X'
  obtain ⟨tt, a1, b1⟩ := hfin
  rw [← hsz, ← hT] at a1
  exact ⟨tt, step tt a1, b1⟩
theorem mm_ok13 (hx : p.tables.exec = Jvm.exec) (hb : c.code = cc) (hr : mm_EOK r) (hts : ∀ w ∈ mm_W, w.before args s = true) (hG : mm_GI D dA B b0 H0 X s) (hown : s.vm.findClass r.2.1 = some m.cls) (hd : decode cc pc = .ok (i, n)) (S : mm_CF D dA B b0 H0 n0 s0 H locs cells slots h)
    (hs : mm_g3 r i n st h = some (st', h')) (hc1 : h'.length ≤ n0 + R.cells) (hc2 : mm_sz h' ≤ s0 + R.slots)
    (k : ∀ H' locs' cells' slots', mm_CF D dA B b0 H0 n0 s0 H' locs' cells' slots' h' → W p l e R s m args below meth c H' locs' cells' slots' Q (F0 m (pc + n) real (st'.map (mm_mv B b0)))) :
    W p l e R s m args below meth c H locs cells slots Q (F0 m pc real (st.map (mm_mv B b0))) := by
  unfold mm_g3 at hs
  split at hs
  · split at hs
    · next i0 ci rest hrk =>
      obtain ⟨he1, he2⟩ := mm_rk_s hrk
      have hek : mm_e7 r i0 ci rest.2.2 = true := hr _ he1
      simp only at he2
      subst he2
      cases hs
      exact mm_ok13b hx hb hts hG hown hek hd S hc1 hc2 k
    · cases hs
  · next ty nn t =>
    cases hnn : mm_nn nn <;> rw [hnn] at hs
    · cases hs
    · obtain ⟨e0, h1, h2⟩ := mm_map_s hs
      cases h2
      exact mm_ok13a hx hb hts hG hd S hnn h1 hc1 hc2 k
  · next idx nn t =>
    split at hs
    · next i0 ci rest hrk =>
      obtain ⟨he1, he2⟩ := mm_rk_s hrk
      have hek : mm_e7 r i0 ci rest.2.2 = true := hr _ he1
      simp only at he2
      subst he2
      obtain ⟨h1, h2⟩ := mm_setB hs
      simp only [Bool.and_eq_true] at h1
      cases h2
      exact mm_ok13c hx hb hts hG hown hek h1.2 hd S h1.1 rfl hc1 hc2 k
    · cases hs
  · next idx kk nn t =>
    split at hs
    · next i0 rest hrk =>
      obtain ⟨he1, he2⟩ := mm_rk_s hrk
      have hek : mm_has rest.2.2.2 [.classLink r.2.1 i0 "[[I", .arrayClass .int] = true := hr _ he1
      simp only at he2
      subst he2
      obtain ⟨h1, h2⟩ := mm_setB hs
      simp only [Bool.and_eq_true] at h1
      cases h2
      exact mm_ok13d hx hb hts hG hown hek hd S h1.1 h1.2 rfl hc1 hc2 k
    · cases hs
  · cases hs
end mmF
end mg_09mna
section mg_10call
/-! arraycopy; a call by a contract -/
theorem mm_cp_len {α : Type} {f g : List α} {sp dp n : Nat} (h1 : sp + n ≤ f.length) (h2 : dp + n ≤ g.length) : (mm_cp f g sp dp n).length = g.length := by
  unfold mm_cp
  simp only [List.length_append, List.length_take, List.length_drop]
  omega
theorem mm_cp_get {α : Type} {f g : List α} {sp dp n : Nat} (h1 : sp + n ≤ f.length) (h2 : dp + n ≤ g.length) (d : α) (k : Nat) : (mm_cp f g sp dp n).getD k d = va_cpy (fun j => f.getD j d) (fun j => g.getD j d) sp dp n k := by
  unfold mm_cp va_cpy
  simp only [List.getD_eq_getElem?_getD]
  by_cases c1 : k < dp
  · rw [if_neg (by omega), List.append_assoc, List.getElem?_append_left (by rw [List.length_take]; omega), List.getElem?_take, if_pos c1]
  · rw [List.append_assoc, List.getElem?_append_right (by rw [List.length_take]; omega)]
    have e1 : k - (List.take dp g).length = k - dp := by rw [List.length_take]; omega
    rw [e1]
    by_cases c2 : k < dp + n
    · rw [if_pos (by omega), List.getElem?_append_left (by rw [List.length_take, List.length_drop]; omega), List.getElem?_take, if_pos (by omega), List.getElem?_drop]
    · rw [if_neg (by omega), List.getElem?_append_right (by rw [List.length_take, List.length_drop]; omega), List.getElem?_drop]
      congr 2
      rw [List.length_take, List.length_drop]
      omega
theorem mm_wt_s (B : Nat) (b0 : mm_X) (t : List Value) : ((t.map (mm_mv B b0)).map fun v => v.category).sum = mm_wt t := by
  induction t with
  | nil => rfl
  | cons v t ih =>
    simp only [List.map_cons, List.sum_cons, ih, mm_mv_cat]
    rfl
theorem mm_tk_s {n : Nat} {acc st as rest : List Value} (h : mm_tk n acc st = some (as, rest)) : ∃ xs, st = xs ++ rest ∧ xs.length = n ∧ as = xs.reverse ++ acc := by
  induction n generalizing acc st with
  | zero => cases h; exact ⟨[], rfl, rfl, rfl⟩
  | succ n ih =>
    cases st with
    | nil => cases h
    | cons v st =>
      obtain ⟨xs, h1, h2, h3⟩ := ih h
      exact ⟨v :: xs, by rw [h1]; rfl, by rw [List.length_cons, h2], by rw [h3]; simp⟩
section mmH
variable {p : Program} {l : Launch} {e : Env} {R : Room} {s : State} {m : MethodId} {args : Array Value} {below : List Frame} {meth : Method} {c : Code} {H : Heap} {locs : List Loc} {cells slots : Nat} {Q : State → Prop}
variable {cc : ByteArray} {pc n : Nat} {real : Array Slot} {D : va_G} {dA : Nat → ClassId} {B n0 s0 : Nat} {b0 : mm_X} {H0 : Heap} {X : Option (List Int32)} {i : Instr} {st st' : List Value} {h h' : mm_H} {r : mm_R}
theorem mm_nneg {z : Int32} (hz : ¬ z < 0) : z.toInt = (z.toNatClampNeg : Int) := by
  have hz0 : (0 : Int) ≤ z.toInt := by
    have := Int32.not_lt.mp hz
    simpa using Int32.le_iff_toInt_le.mp this
  show z.toInt = ((z.toInt.toNat : Nat) : Int)
  omega
theorem mm_acG {α : Type} (mk : α → Value) (d : α) {tag : Nat} {ty : FieldType} {f g : List α} {wr : List α → mm_A} (hwr : ∀ x, vp_cell (dA tag) (mm_ma B (wr x)) = arrV (dA tag) x.length (fun j => mk (x.getD j d))) (hal : ∀ x, mm_al (wr x) = x.length)
    (hx : p.tables.exec = Jvm.exec) (hb : c.code = cc) (hml : c.maxLocals = real.size) (hown : s.vm.findClass r.2.1 = some m.cls) (hts : ∀ w ∈ mm_W, w.before args s = true) (hG : mm_GI D dA B b0 H0 X s) {idx : Nat} {ps : List (Nat × Nat)} (hek : mm_has ps [.methodLink r.2.1 idx arraycopyName, .native arraycopyName, .static arraycopyName, .initialized "java/lang/System"] = true)
    (hd : decode cc pc = .ok (.invokestatic idx, 3)) (S : mm_CF D dA B b0 H0 n0 s0 H locs cells slots h) {a b : Nat} {sp dp n : Int32} {t : List Value} (hty : (mm_tys dA)[tag]? = some (dA tag, ty)) (hprim : refKind ty = false) (hfits : ∀ x, fits ty (mk x) = true)
    (ha : h[a]? = some (.inl (tag, wr f))) (hb' : h[b]? = some (.inl (tag, wr g))) (h1 : ¬ sp < 0) (h2 : ¬ dp < 0) (h3 : ¬ n < 0) (h4 : sp.toNatClampNeg + n.toNatClampNeg ≤ f.length) (h5 : dp.toNatClampNeg + n.toNatClampNeg ≤ g.length) (hwt : mm_wt t ≤ 8) (hfr : 1 ≤ R.frames) (hlo : 35 ≤ R.locals)
    (k : ∀ H' locs', mm_CF D dA B b0 H0 n0 s0 H' locs' cells slots (h.set b (.inl (tag, wr (mm_cp f g sp.toNatClampNeg dp.toNatClampNeg n.toNatClampNeg)))) → W p l e R s m args below meth c H' locs' cells slots Q (F0 m (pc + 3) real (t.map (mm_mv B b0)))) :
    W p l e R s m args below meth c H locs cells slots Q (F0 m pc real ((.int n :: .int dp :: .ref b :: .int sp :: .ref a :: t : List Value).map (mm_mv B b0))) := by
  have hw := mm_W_has hek (by simp [goodWord, Cond.onTables, Cond.keeps, Cond.steady])
  have h7 : nativeFrameWords "java/lang/System" "arraycopy" 5 = 7 := by decide +kernel
  have hroom : 2 * 0 + ((t.map (mm_mv B b0)).map fun v => v.category).sum + (nativeFrameWords "java/lang/System" "arraycopy" 5 + 11) ≤ R.locals := by rw [mm_wt_s, h7]; omega
  intro T hT Xs
  have hc0 : H[B + a]? = some (vp_cell (dA tag) (mm_ma B (wr f))) := S.1.2.1 _ _ ha
  have hc1 : H[B + b]? = some (vp_cell (dA tag) (mm_ma B (wr g))) := S.1.2.1 _ _ hb'
  rw [hwr] at hc0 hc1
  obtain ⟨-, k0, hk0, cm0, hkk0⟩ := (hG.1.2 tag _ hty).1 f.length (fun j => mk (f.getD j d))
  obtain ⟨-, k1, hk1, cm1, hkk1⟩ := (hG.1.2 tag _ hty).1 g.length (fun j => mk (g.getD j d))
  obtain ⟨vm', X', step⟩ := Xs.arraycopy hx hown (hts (.methodLink r.2.1 idx arraycopyName) (hw _ (by simp))) (hts (.native arraycopyName) (hw _ (by simp))) (hts (.static arraycopyName) (hw _ (by simp))) (hts (.initialized "java/lang/System") (hw _ (by simp))) (src := B + a) (dst := B + b) (srcPos := sp) (destPos := dp) (n := n) (by rw [hT]; exact hc0) (by rw [hT]; exact hc1)
    (fun _ h => by cases h) (fun _ h => by cases h) (fun h => by cases h) (fun h => by cases h) hk0 hk1 hkk0 hkk1 (by simp [hprim]) h1 h2 h3
    (by rw [mm_nneg h1, mm_nneg h3, arrV_size]; omega)
    (by rw [mm_nneg h2, mm_nneg h3, arrV_size]; omega)
    (fun vm₁ _ i hi => by
      have e : (arrV (dA tag) f.length (fun j => mk (f.getD j d))).slots.getD (sp.toNatClampNeg + i) .null = mk (f.getD (sp.toNatClampNeg + i) d) := by
        rw [Array.getD_eq_getD_getElem?, arrV_read _ _ (by omega)]
        rfl
      refine ⟨?_, ?_⟩
      · rw [e]
        exact hfits _
      · rw [e]
        have := hfits (f.getD (sp.toNatClampNeg + i) d)
        revert this
        generalize mk (f.getD (sp.toNatClampNeg + i) d) = vv
        intro hv
        cases vv <;> first | exact trivial | (exfalso; cases ty <;> first | (simp [refKind] at hprim; done) | (cases hv; done)))
    (g := F0 m pc real ((.int n :: .int dp :: .ref b :: .int sp :: .ref a :: t : List Value).map (mm_mv B b0))) rfl (by rw [hml]) (rest := t.map (mm_mv B b0)) rfl (by rw [hb]; exact hd) hfr hroom
  have e1 : copied (arrV (dA tag) f.length (fun j => mk (f.getD j d))) (arrV (dA tag) g.length (fun j => mk (g.getD j d))) sp dp n = arrV (dA tag) g.length (fun j => mk (va_cpy (fun j => f.getD j d) (fun j => g.getD j d) sp.toNatClampNeg dp.toNatClampNeg n.toNatClampNeg j)) := va_copied mk (dA tag) (dA tag) (fun j => f.getD j d) (fun j => g.getD j d) h4
  have e2 : arrV (dA tag) g.length (fun j => mk (va_cpy (fun j => f.getD j d) (fun j => g.getD j d) sp.toNatClampNeg dp.toNatClampNeg n.toNatClampNeg j)) = vp_cell (dA tag) (mm_ma B (wr (mm_cp f g sp.toNatClampNeg dp.toNatClampNeg n.toNatClampNeg))) := by
    rw [hwr, mm_cp_len h4 h5]
    congr 1
    funext j
    rw [mm_cp_get h4 h5]
  rw [e1, e2] at X' step
  generalize hv : vp_cell (dA tag) (mm_ma B (wr (mm_cp f g sp.toNatClampNeg dp.toNatClampNeg n.toNatClampNeg))) = newc at X' step
  have hl : B + b < H.size := (Array.getElem?_eq_some_iff.mp hc1).1
  have hheap : ((T.setVm vm').setCell (B + b) newc).heap = H.setIfInBounds (B + b) newc := by rw [← hT]; rfl
  have hS' := S.1.set hb' (e' := .inl (tag, wr (mm_cp f g sp.toNatClampNeg dp.toNatClampNeg n.toNatClampNeg))) (H1 := H.setIfInBounds (B + b) newc) (show (H.setIfInBounds (B + b) newc)[B + b]? = some (vp_cell _ _) by rw [← hv]; simp [Array.getElem?_setIfInBounds, hl]) (by simp) (fun q hq => by simp [Array.getElem?_setIfInBounds, Ne.symm hq])
  obtain ⟨tt, a1, b1⟩ := k _ _ ⟨hS', fun q hq => by
      rcases List.mem_append.mp hq with h | h
      · exact S.2.1 q h
      · obtain ⟨z, -, hz⟩ := List.mem_map.mp h
        rw [← hz]
        exact Nat.le_add_right B b, by rw [List.length_set]; exact S.2.2.1, by rw [mm_sz_set hb' (by simp [mm_cs, hal, mm_cp_len h4 h5])]; exact S.2.2.2⟩ _ hheap X'
  exact ⟨tt, step tt a1, b1⟩
end mmH
end mg_10call
section mg_11sound
/-! THE MINI-MACHINE IS SOUND: a run of it is a run of the machine -/
def mm_Ctx (D : va_G) (dA : Nat → ClassId) (B : Nat) (b0 : mm_X) (H0 : Heap) (X : Option (List Int32)) (r : mm_R) (p : Program) (s : State) (m : MethodId) (args : Array Value) (meth : Method) (c : Code) : Prop :=
  p.tables.exec = Jvm.exec ∧ c.code = r.1.2.1 ∧ c.maxLocals = r.1.2.2.1 ∧ meth.sig.returnType = r.1.2.2.2.1 ∧ meth.locks = false ∧ (r.1.1.name = "<init>" → meth.name = "<init>") ∧ s.vm.findClass r.2.1 = some m.cls ∧ (∀ w ∈ mm_W, w.before args s = true) ∧ mm_GI D dA B b0 H0 X s
def mm_Good (r : mm_R) : Prop := (∀ pc i n, mm_at r pc = some (i, n) → decode r.1.2.1 pc = .ok (i, n)) ∧ mm_EOK r
/-- a method that can be called -/
def mm_GoodC (r : mm_R) : Prop := mm_Good r ∧ plainName r.1.1.cls = true ∧ (r.1.1.cls ≠ "java/lang/invoke/MethodHandle" ∧ r.1.1.cls ≠ "java/lang/invoke/VarHandle" ∧ (parseMethodDescriptor r.1.1.desc).map (fun d => d.parameters.length) = some r.1.2.2.2.2.1) ∧ r.1.2.2.1 ≤ 16 ∧ r.2.1 = r.1.1.cls ∧
  Cond.code r.1.1 r.1.2.1 r.1.2.2.1 r.1.2.2.2.1 ∈ mm_W ∧ Cond.initialized r.1.1.cls ∈ mm_W ∧ (r.1.2.2.2.2.2.1 = true → Cond.static r.1.1 ∈ mm_W) ∧ (r.1.2.2.2.2.2.1 = false → Cond.instanceMethod r.1.1 ∈ mm_W ∧ (¬ r.1.1.name = "<init>" → Cond.selects r.1.1.cls r.1.1 r.1.1 ∈ mm_W))
def mm_ws (r : mm_R) : List Cond := Cond.code r.1.1 r.1.2.1 r.1.2.2.1 r.1.2.2.2.1 :: mm_W
def mm_rm (Dp mc ms : Nat) : Room := { frames := Dp, cells := mc, slots := ms, locals := 35 * Dp }
def mm_Pc (D : va_G) (dA : Nat → ClassId) (B : Nat) (b0 : mm_X) (H0 : Heap) (X : Option (List Int32)) (as : List Value) (h : mm_H) : Array Value → State → Prop := fun a U => a = (as.map (mm_mv B b0)).toArray ∧ mm_Sim D dA B b0 H0 U.heap h ∧ mm_GI D dA B b0 H0 X U
def mm_Qc (D : va_G) (dA : Nat → ClassId) (B : Nat) (b0 : mm_X) (H0 : Heap) (v : Option Value) (h' : mm_H) : Array Value → State → Outcome → State → Prop := fun _ _ o t => o = .returned (v.map (mm_mv B b0)) ∧ mm_Sim D dA B b0 H0 t.heap h'
theorem mm_set2 {h : mm_H} {a : Nat} {e e' : mm_E} (ha : h[a]? = some e) (hc : mm_cs e' = mm_cs e) : h.length ≤ (h.set a e').length ∧ mm_sz h ≤ mm_sz (h.set a e') := ⟨by simp, Nat.le_of_eq (mm_sz_set ha hc).symm⟩
theorem mm_s9_mono {r : mm_R} {i : Instr} {st st' : List Value} {h h' : mm_H} (hs : mm_s9 r i st h = some (st', h')) : h.length ≤ h'.length ∧ mm_sz h ≤ mm_sz h' := by
  unfold mm_s9 at hs
  split at hs
  · split at hs
    · split at hs
      · next ci _ _ _ _ cj fs ha =>
        cases hcc : Nat.beq ci cj <;> rw [hcc] at hs
        · cases hs
        · simp only [cond_true] at hs
          split at hs
          · cases hs; exact ⟨Nat.le_refl _, Nat.le_refl _⟩
          · cases hs
      · cases hs
    · cases hs
  · next a t =>
    cases htx : mm_tx a <;> rw [htx] at hs
    · cases hs
    · simp only [cond_true] at hs
      split at hs
      · cases hs; exact ⟨Nat.le_refl _, Nat.le_refl _⟩
      · cases hs; exact ⟨Nat.le_refl _, Nat.le_refl _⟩
      · cases hs
  · split at hs
    · cases hs; exact ⟨Nat.le_refl _, Nat.le_refl _⟩
    · cases hs; exact ⟨Nat.le_refl _, Nat.le_refl _⟩
    · cases hs
  · split at hs
    · next fin ps hrk =>
      cases hf2 : Nat.ble 2 fin <;> rw [hf2] at hs
      · simp only [cond_false] at hs
        split at hs
        · next cj fs ha =>
          obtain ⟨h1, h2⟩ := mm_setB hs
          cases h2
          exact mm_set2 ha rfl
        · cases hs
      · cases hs
    · cases hs
  · cases hs
theorem mm_g2_mono {i : Instr} {st st' : List Value} {h h' : mm_H} (hs : mm_g2 i st h = some (st', h')) : h.length ≤ h'.length ∧ mm_sz h ≤ mm_sz h' := by
  unfold mm_g2 at hs
  split at hs
  all_goals first
    | (cases hs; done)
    | (split at hs
       all_goals first
         | (cases hs; done)
         | (next ha =>
            obtain ⟨h1, h2⟩ := mm_setB hs
            cases h2
            exact mm_set2 ha (by simp [mm_cs, mm_al]))
         | (next ha hv =>
            obtain ⟨h1, h2⟩ := mm_setB hs
            cases h2
            exact mm_set2 ha (by simp [mm_cs, mm_al])))
theorem mm_app2 {h g : mm_H} : h.length ≤ (h ++ g).length ∧ mm_sz h ≤ mm_sz (h ++ g) := ⟨by simp, by rw [mm_sz_app]; omega⟩
theorem mm_g3_mono {r : mm_R} {i : Instr} {n : Nat} {st st' : List Value} {h h' : mm_H} (hs : mm_g3 r i n st h = some (st', h')) : h.length ≤ h'.length ∧ mm_sz h ≤ mm_sz h' := by
  unfold mm_g3 at hs
  split at hs
  · split at hs
    · cases hs; exact mm_app2
    · cases hs
  · next nn t =>
    cases hnn : mm_nn nn <;> rw [hnn] at hs
    · cases hs
    · obtain ⟨e0, h1, h2⟩ := mm_map_s hs
      cases h2
      exact mm_app2
  · split at hs
    · obtain ⟨h1, h2⟩ := mm_setB hs
      cases h2
      exact mm_app2
    · cases hs
  · split at hs
    · obtain ⟨h1, h2⟩ := mm_setB hs
      cases h2
      rw [List.append_assoc]
      exact mm_app2
    · cases hs
  · cases hs
theorem mm_ac_mono {st st' : List Value} {h h' : mm_H} (hs : mm_ac st h = some (st', h')) : h.length ≤ h'.length ∧ mm_sz h ≤ mm_sz h' := by
  unfold mm_ac at hs
  split at hs
  · next n dp b sp a t =>
    cases hcc : (!decide (sp < 0) && !decide (dp < 0) && !decide (n < 0) && Nat.ble (mm_wt t) 8) <;> rw [hcc] at hs
    · cases hs
    · simp only [cond_true] at hs
      split at hs
      · next f g ha hb =>
        obtain ⟨h1, h2⟩ := mm_setB hs
        simp only [Bool.and_eq_true] at h1
        cases h2
        exact mm_set2 hb (by simp [mm_cs, mm_al, mm_cp_len (Nat.le_of_ble_eq_true h1.1) (Nat.le_of_ble_eq_true h1.2)])
      · next f g ha hb =>
        obtain ⟨h1, h2⟩ := mm_setB hs
        simp only [Bool.and_eq_true] at h1
        cases h2
        exact mm_set2 hb (by simp [mm_cs, mm_al, mm_cp_len (Nat.le_of_ble_eq_true h1.1) (Nat.le_of_ble_eq_true h1.2)])
      · cases hs
  · cases hs
theorem mm_mk_no {Dp : Nat} {r : mm_R} {as rest : List Value} {q : Nat × mm_L × List Value × mm_H} : ¬ mm_mk Dp r as rest = .inl (some q) := by
  unfold mm_mk
  cases (Nat.ble (mm_sl as).length r.1.2.2.1 && Nat.ble (mm_wt rest) 8) <;> exact fun h => by cases h
theorem mm_cl_no {Dp : Nat} {r : mm_R} {idx : Nat} {st : List Value} {want : Nat → Bool} {recv : Bool} {h : mm_H} {q : Nat × mm_L × List Value × mm_H} : ¬ mm_cl Dp r idx st want recv h = .inl (some q) := by
  intro hc
  unfold mm_cl at hc
  split at hc
  · next D0 k mj b x hk =>
    cases hw : want k <;> rw [hw] at hc
    · cases hc
    · simp only [cond_true] at hc
      split at hc
      · cases hc
      · split at hc
        · cases hc
        · cases recv
          · exact mm_mk_no hc
          · simp only [cond_true] at hc
            split at hc
            · split at hc
              · next cj fs ha =>
                cases hb : (Nat.beq k 1 && !Nat.beq cj b) <;> rw [hb] at hc
                · exact mm_mk_no hc
                · cases hc
              · cases hc
            · simp only [cond_eq_ite] at hc
              split at hc
              · exact mm_mk_no hc
              · cases hc
            · cases hc
  · cases hc
theorem mm_go_mono {X : Option (List Int32)} {r : mm_R} {Dp : Nat} {i : Instr} {n pc : Nat} {ls : mm_L} {st : List Value} {h : mm_H} {q : Nat × mm_L × List Value × mm_H} (hg : mm_go X r Dp i n pc ls st h = .inl (some q)) : h.length ≤ q.2.2.2.length ∧ mm_sz h ≤ mm_sz q.2.2.2 := by
  unfold mm_go at hg
  split at hg
  · obtain ⟨t, h1, rfl⟩ := mm_map_s (Sum.inl.inj hg); exact ⟨Nat.le_refl _, Nat.le_refl _⟩
  · split at hg
    · obtain ⟨t, h1, rfl⟩ := mm_map_s (Sum.inl.inj hg); exact ⟨Nat.le_refl _, Nat.le_refl _⟩
    · cases hg
  · split at hg
    · obtain ⟨t, h1, rfl⟩ := mm_map_s (Sum.inl.inj hg); exact ⟨Nat.le_refl _, Nat.le_refl _⟩
    · cases hg
  · split at hg
    · obtain ⟨t, h1, rfl⟩ := mm_map_s (Sum.inl.inj hg); exact ⟨Nat.le_refl _, Nat.le_refl _⟩
    · cases hg
  · split at hg
    · obtain ⟨t, h1, rfl⟩ := mm_map_s (Sum.inl.inj hg); exact ⟨Nat.le_refl _, Nat.le_refl _⟩
    · cases hg
  · obtain ⟨t, h1, rfl⟩ := mm_map_s (Sum.inl.inj hg); exact ⟨Nat.le_refl _, Nat.le_refl _⟩
  · obtain ⟨t, h1, rfl⟩ := mm_map_s (Sum.inl.inj hg); exact ⟨Nat.le_refl _, Nat.le_refl _⟩
  · obtain ⟨t, h1, rfl⟩ := mm_map_s (Sum.inl.inj hg); exact ⟨Nat.le_refl _, Nat.le_refl _⟩
  · split at hg
    · obtain ⟨t, h1, rfl⟩ := mm_map_s (Sum.inl.inj hg); exact mm_s9_mono h1
    · cases hg
  · split at hg
    · split at hg
      · cases hg; exact ⟨Nat.le_refl _, Nat.le_refl _⟩
      · obtain ⟨t, h1, rfl⟩ := mm_map_s (Sum.inl.inj hg); exact mm_g2_mono h1
    · cases hg
  · obtain ⟨t, h1, rfl⟩ := mm_map_s (Sum.inl.inj hg); exact mm_g3_mono h1
  · obtain ⟨t, h1, rfl⟩ := mm_map_s (Sum.inl.inj hg); exact ⟨Nat.le_refl _, Nat.le_refl _⟩
  · split at hg <;> cases hg
  · split at hg
    · unfold mm_iv at hg
      split at hg
      · exact absurd hg mm_cl_no
      · split at hg
        · next t _ _ =>
          cases hw : Nat.ble (mm_wt t) 8 <;> rw [hw] at hg <;> cases hg
          exact ⟨Nat.le_refl _, Nat.le_refl _⟩
        · exact absurd hg mm_cl_no
      · split at hg
        · obtain ⟨t, h1, rfl⟩ := mm_map_s (Sum.inl.inj hg); exact mm_ac_mono h1
        · exact absurd hg mm_cl_no
      · cases hg
    · cases hg
  · cases hg
theorem mm_s7_len {i : Instr} {n : Nat} {ls : mm_L} {st : List Value} {q : mm_L × List Value} (hs : mm_s7 i n ls st = some q) : q.1.length = ls.length := by
  unfold mm_s7 at hs
  split at hs
  all_goals first
    | (obtain ⟨ls', h1, rfl⟩ := mm_map_s hs
       obtain ⟨h2, h3, rfl⟩ := mm_sv_spec h1
       simp; done)
    | (split at hs
       · obtain ⟨ls', h1, rfl⟩ := mm_map_s hs
         obtain ⟨h2, h3, rfl⟩ := mm_sv_spec h1
         simp
       · cases hs)
    | cases hs
section mmI
variable {p : Program} {l : Launch} {e : Env} {R : Room} {s : State} {m : MethodId} {args : Array Value} {below : List Frame} {meth : Method} {c : Code} {H : Heap} {locs : List Loc} {cells slots : Nat} {Q : State → Prop}
variable {pc n : Nat} {real : Array Slot} {D : va_G} {dA : Nat → ClassId} {B n0 s0 : Nat} {b0 : mm_X} {H0 : Heap} {X : Option (List Int32)} {i : Instr} {st st' : List Value} {h h' : mm_H} {r : mm_R} {ls ls' : mm_L} {Dp pc' : Nat}
/-- one step within a frame -/
theorem mm_step_ok (hr : mm_Good r) (C : mm_Ctx D dA B b0 H0 X r p s m args meth c) (hat : mm_at r pc = some (i, n)) (hgo : mm_go X r Dp i n pc ls st h = .inl (some (pc', ls', st', h'))) (hfr : Dp ≤ R.frames) (hlo : 35 * Dp ≤ R.locals)
    (S : mm_CF D dA B b0 H0 n0 s0 H locs cells slots h) (hl : mm_LR B b0 real ls) (hls : ls.length = r.1.2.2.1) (hc1 : h'.length ≤ n0 + R.cells) (hc2 : mm_sz h' ≤ s0 + R.slots)
    (k : ∀ H' locs' cells' slots' real', mm_CF D dA B b0 H0 n0 s0 H' locs' cells' slots' h' → mm_LR B b0 real' ls' → ls'.length = r.1.2.2.1 → W p l e R s m args below meth c H' locs' cells' slots' Q (F0 m pc' real' (st'.map (mm_mv B b0)))) :
    W p l e R s m args below meth c H locs cells slots Q (F0 m pc real (st.map (mm_mv B b0))) := by
  obtain ⟨hx, hb, hml, hret, hlocks, hnm, hown, hts, hG⟩ := C
  have hd := hr.1 _ _ _ hat
  unfold mm_go at hgo
  split at hgo
  · obtain ⟨t, h1, h2⟩ := mm_map_s (Sum.inl.inj hgo)
    cases h2
    exact mm_ok1 hx hb hd h1 (k _ _ _ _ _ S hl hls)
  · split at hgo
    · obtain ⟨t, h1, h2⟩ := mm_map_s (Sum.inl.inj hgo)
      cases h2
      exact mm_ok2 hx hb hd h1 (k _ _ _ _ _ S hl hls)
    · cases hgo
  · split at hgo
    · obtain ⟨t, h1, h2⟩ := mm_map_s (Sum.inl.inj hgo)
      cases h2
      exact mm_ok3 hx hb hd h1 (k _ _ _ _ _ S hl hls)
    · cases hgo
  · split at hgo
    · obtain ⟨t, h1, h2⟩ := mm_map_s (Sum.inl.inj hgo)
      cases h2
      exact mm_ok4 hx hb hd h1 (k _ _ _ _ _ S hl hls)
    · cases hgo
  · split at hgo
    · obtain ⟨t, h1, h2⟩ := mm_map_s (Sum.inl.inj hgo)
      cases h2
      exact mm_ok5 hx hb hd h1 (k _ _ _ _ _ S hl hls)
    · cases hgo
  · obtain ⟨t, h1, h2⟩ := mm_map_s (Sum.inl.inj hgo)
    cases h2
    exact mm_ok6 hx hb hd hl h1 (k _ _ _ _ _ S hl hls)
  · obtain ⟨q, h1, h2⟩ := mm_map_s (Sum.inl.inj hgo)
    cases h2
    exact mm_ok7 hx hb hd hl h1 (fun real' hl' => k _ _ _ _ _ S hl' ((mm_s7_len h1).trans hls))
  · obtain ⟨q, h1, h2⟩ := mm_map_s (Sum.inl.inj hgo)
    cases h2
    exact mm_ok8 hx hb hd h1 (k _ _ _ _ _ S hl hls)
  · split at hgo
    · obtain ⟨q, h1, h2⟩ := mm_map_s (Sum.inl.inj hgo)
      cases h2
      exact mm_ok9 hx hb hr.2 hown hnm hts hG hd S h1 (fun H' locs' S' => k _ _ _ _ _ S' hl hls)
    · cases hgo
  · split at hgo
    · split at hgo
      · next t h1 =>
        cases hgo
        exact mm_ok10 hx hb hG hd S h1 (k _ _ _ _ _ S hl hls)
      · obtain ⟨q, h1, h2⟩ := mm_map_s (Sum.inl.inj hgo)
        cases h2
        exact mm_ok11 hx hb hG hd S h1 (fun H' locs' S' => k _ _ _ _ _ S' hl hls)
    · cases hgo
  · obtain ⟨q, h1, h2⟩ := mm_map_s (Sum.inl.inj hgo)
    cases h2
    exact mm_ok13 hx hb hr.2 hts hG hown hd S h1 hc1 hc2 (fun H' locs' cells' slots' S' => k _ _ _ _ _ S' hl hls)
  · obtain ⟨q, h1, h2⟩ := mm_map_s (Sum.inl.inj hgo)
    cases h2
    exact mm_ok12 hx hb hr.2 hG hown hts hd h1 (k _ _ _ _ _ S hl hls)
  · split at hgo <;> cases hgo
  · split at hgo
    · unfold mm_iv at hgo
      split at hgo
      · exact absurd hgo mm_cl_no
      · split at hgo
        · next i0 x0 a t D0 hrk =>
          cases hw : Nat.ble (mm_wt t) 8 <;> rw [hw] at hgo <;> cases hgo
          obtain ⟨he1, he2⟩ := mm_rk_s hrk
          have hek := hr.2 _ he1
          simp only at he2
          subst he2
          have hw3 := mm_W_has hek (by simp [goodWord, Cond.onTables, Cond.keeps, Cond.steady])
          have hwt := Nat.le_of_ble_eq_true hw
          refine W.objInit hx hb hown (hts (.methodLink r.2.1 i0 objectInit) (hw3 _ (by simp))) (hts (.instanceMethod objectInit) (hw3 _ (by simp))) (hts (.code objectInit ⟨#[0xb1]⟩ 1 none) (hw3 _ (by simp))) rfl (by rw [hml, ← hls]; exact hl.1) rfl hd (by omega) ?_ (k _ _ _ _ _ S hl hls)
          show 2 * 0 + ((List.map (mm_mv B b0) _).map fun v => v.category).sum + 12 ≤ R.locals
          rw [mm_wt_s]
          omega
        · exact absurd hgo mm_cl_no
      · split at hgo
        · next i0 x0 D0 hrk =>
          obtain ⟨he1, he2⟩ := mm_rk_s hrk
          have hek := hr.2 _ he1
          simp only at he2
          subst he2
          obtain ⟨q, h1, h2⟩ := mm_map_s (Sum.inl.inj hgo)
          cases h2
          unfold mm_ac at h1
          split at h1
          · next n dp b sp a t =>
            cases hcc : (!decide (sp < 0) && !decide (dp < 0) && !decide (n < 0) && Nat.ble (mm_wt t) 8) <;> rw [hcc] at h1
            · cases h1
            · simp only [Bool.and_eq_true, Bool.not_eq_true', decide_eq_false_iff_not] at hcc
              obtain ⟨⟨⟨c1, c2⟩, c3⟩, c4⟩ := hcc
              simp only [cond_true] at h1
              split at h1
              · next f g ha hbb =>
                obtain ⟨b1, b2⟩ := mm_setB h1
                simp only [Bool.and_eq_true] at b1
                cases b2
                exact mm_acG (r := r) (tag := 0) (ty := .int) (wr := fun x => .inl x) (fun z => .int z) 0 (fun x => vp_cell_i _ _ _) (fun x => rfl) hx hb (by rw [hml, ← hls]; exact hl.1.symm) hown hts hG hek hd S rfl (by decide) (fun x => rfl) ha hbb c1 c2 c3 (Nat.le_of_ble_eq_true b1.1) (Nat.le_of_ble_eq_true b1.2) (Nat.le_of_ble_eq_true c4) (by omega) (by omega) (fun H' locs' S' => k _ _ _ _ _ S' hl hls)
              · next f g ha hbb =>
                obtain ⟨b1, b2⟩ := mm_setB h1
                simp only [Bool.and_eq_true] at b1
                cases b2
                exact mm_acG (r := r) (tag := 1) (ty := .long) (wr := fun x => .inr (.inl x)) (fun z => .long z) 0 (fun x => vp_cell_l _ _ _) (fun x => rfl) hx hb (by rw [hml, ← hls]; exact hl.1.symm) hown hts hG hek hd S rfl (by decide) (fun x => rfl) ha hbb c1 c2 c3 (Nat.le_of_ble_eq_true b1.1) (Nat.le_of_ble_eq_true b1.2) (Nat.le_of_ble_eq_true c4) (by omega) (by omega) (fun H' locs' S' => k _ _ _ _ _ S' hl hls)
              · cases h1
          · cases h1
        · exact absurd hgo mm_cl_no
      · cases hgo
    · cases hgo
  · cases hgo
end mmI
end mg_11sound
section mg_12run
/-! a run, with calls -/
theorem mm_mk_call {Dp Dq : Nat} {r r' : mm_R} {as rest as' rest' : List Value} (h : mm_mk Dp r as rest = .inr (.inr (Dq, r', as', rest'))) : Dq = Dp ∧ r' = r ∧ as' = as ∧ rest' = rest ∧ (mm_sl as).length ≤ r.1.2.2.1 ∧ mm_wt rest ≤ 8 := by
  unfold mm_mk at h
  cases hb : (Nat.ble (mm_sl as).length r.1.2.2.1 && Nat.ble (mm_wt rest) 8) <;> rw [hb] at h <;> cases h
  simp only [Bool.and_eq_true] at hb
  exact ⟨rfl, rfl, rfl, rfl, Nat.le_of_ble_eq_true hb.1, Nat.le_of_ble_eq_true hb.2⟩
theorem mm_mk_ret {Dp : Nat} {r : mm_R} {as rest : List Value} {v : Option Value} : ¬ mm_mk Dp r as rest = .inr (.inl v) := by
  unfold mm_mk
  cases (Nat.ble (mm_sl as).length r.1.2.2.1 && Nat.ble (mm_wt rest) 8) <;> exact fun h => by cases h
/-- what a call is -/
def mm_Call (r : mm_R) (idx : Nat) (st : List Value) (want : Nat → Bool) (recv : Bool) (h : mm_H) (Dp Dq : Nat) (r' : mm_R) (as rest : List Value) : Prop :=
  ∃ (k mj b : Nat) (v : Int) (ps : List (Nat × Nat)), (idx, k, mj, b, v, ps) ∈ r.2.2.2 ∧ want k = true ∧ mm_rs[mj]? = some r' ∧ Dp = Dq + 1 ∧ (mm_sl as).length ≤ r'.1.2.2.1 ∧ mm_wt rest ≤ 8 ∧
    ((recv = true ∧ ∃ (a : Nat) (xs : List Value) (cj : Nat) (fs : List Value), as = .ref a :: xs ∧ st = xs.reverse ++ .ref a :: rest ∧ xs.length = r'.1.2.2.2.2.1 ∧ h[a]? = some (.inr (cj, fs)) ∧ (k = 1 → cj = b)) ∨ (recv = true ∧ ∃ (a : Nat) (xs : List Value), as = .retAddr a :: xs ∧ st = xs.reverse ++ .retAddr a :: rest ∧ xs.length = r'.1.2.2.2.2.1 ∧ mm_tx a = true ∧ k = 1 ∧ b = 1000) ∨ (recv = false ∧ st = as.reverse ++ rest ∧ as.length = r'.1.2.2.2.2.1))
theorem mm_cl_call {Dp Dq : Nat} {r r' : mm_R} {idx : Nat} {st as rest : List Value} {want : Nat → Bool} {recv : Bool} {h : mm_H} (hc : mm_cl Dp r idx st want recv h = .inr (.inr (Dq, r', as, rest))) : mm_Call r idx st want recv h Dp Dq r' as rest := by
  unfold mm_cl at hc
  split at hc
  · next D0 i0 k mj b x hrk =>
    obtain ⟨he1, he2⟩ := mm_rk_s hrk
    simp only at he2
    subst he2
    obtain ⟨v, ps⟩ := x
    cases hw : want k <;> rw [hw] at hc
    · cases hc
    · simp only [cond_true] at hc
      split at hc
      · cases hc
      · next r0 hr0 =>
        split at hc
        · cases hc
        · next as0 rest0 htk =>
          obtain ⟨xs, t1, t2, t3⟩ := mm_tk_s htk
          rw [List.append_nil] at t3
          cases recv
          · obtain ⟨rfl, rfl, rfl, rfl, m1, m2⟩ := mm_mk_call hc
            exact ⟨k, mj, b, v, ps, he1, hw, hr0, rfl, m1, m2, Or.inr (Or.inr ⟨rfl, by rw [t3, List.reverse_reverse]; exact t1, by rw [t3, List.length_reverse]; exact t2⟩)⟩
          · simp only [cond_true] at hc
            split at hc
            · next a rest1 =>
              split at hc
              · next cj fs ha =>
                cases hb : (Nat.beq k 1 && !Nat.beq cj b) <;> rw [hb] at hc
                · obtain ⟨rfl, rfl, rfl, rfl, m1, m2⟩ := mm_mk_call hc
                  refine ⟨k, mj, b, v, ps, he1, hw, hr0, rfl, m1, m2, Or.inl ⟨rfl, a, as0, cj, fs, rfl, by rw [t3, List.reverse_reverse]; exact t1, by rw [t3, List.length_reverse]; exact t2, ha, fun hk => ?_⟩⟩
                  subst hk
                  cases hcb : Nat.beq cj b
                  · rw [hcb] at hb; cases hb
                  · exact Nat.eq_of_beq_eq_true hcb
                · cases hc
              · cases hc
            · next a rest1 =>
              cases hb : (mm_tx a && Nat.beq k 1 && Nat.beq b 1000) <;> rw [hb] at hc
              · cases hc
              · simp only [Bool.and_eq_true] at hb
                obtain ⟨rfl, rfl, rfl, rfl, m1, m2⟩ := mm_mk_call hc
                exact ⟨k, mj, b, v, ps, he1, hw, hr0, rfl, m1, m2, Or.inr (Or.inl ⟨rfl, a, as0, rfl, by rw [t3, List.reverse_reverse]; exact t1, by rw [t3, List.length_reverse]; exact t2, hb.1.1, Nat.eq_of_beq_eq_true hb.1.2, Nat.eq_of_beq_eq_true hb.2⟩)⟩
            · cases hc
  · cases hc
theorem mm_cl_ret {Dp : Nat} {r : mm_R} {idx : Nat} {st : List Value} {want : Nat → Bool} {recv : Bool} {h : mm_H} {v : Option Value} : ¬ mm_cl Dp r idx st want recv h = .inr (.inl v) := by
  intro hc
  unfold mm_cl at hc
  split at hc
  · next D0 k mj b x hk =>
    cases hw : want k <;> rw [hw] at hc
    · cases hc
    · simp only [cond_true] at hc
      split at hc
      · cases hc
      · split at hc
        · cases hc
        · cases recv
          · exact mm_mk_ret hc
          · simp only [cond_true] at hc
            split at hc
            · split at hc
              · next cj fs ha =>
                cases hb : (Nat.beq k 1 && !Nat.beq cj b) <;> rw [hb] at hc
                · exact mm_mk_ret hc
                · cases hc
              · cases hc
            · simp only [cond_eq_ite] at hc
              split at hc
              · exact mm_mk_ret hc
              · cases hc
            · cases hc
  · cases hc
theorem mm_go_ret {X : Option (List Int32)} {r : mm_R} {Dp : Nat} {i : Instr} {n pc : Nat} {ls : mm_L} {st : List Value} {h : mm_H} {v : Option Value} (hg : mm_go X r Dp i n pc ls st h = .inr (.inl v)) : n = 1 ∧ mm_rt r.1.2.2.2.1 i st = some v := by
  unfold mm_go at hg
  split at hg
  · cases hg
  · split at hg <;> cases hg
  · split at hg <;> cases hg
  · split at hg <;> cases hg
  · split at hg <;> cases hg
  · cases hg
  · cases hg
  · cases hg
  · split at hg <;> cases hg
  · split at hg
    · split at hg <;> cases hg
    · cases hg
  · cases hg
  · cases hg
  · split at hg
    · next h1 => cases hg; exact ⟨rfl, h1⟩
    · cases hg
  · split at hg
    · unfold mm_iv at hg
      split at hg
      · exact absurd hg mm_cl_ret
      · split at hg
        · next t _ _ => cases hw : Nat.ble (mm_wt t) 8 <;> rw [hw] at hg <;> cases hg
        · exact absurd hg mm_cl_ret
      · split at hg
        · cases hg
        · exact absurd hg mm_cl_ret
      · cases hg
    · cases hg
  · cases hg
theorem mm_go_call {X : Option (List Int32)} {r r' : mm_R} {Dp Dq : Nat} {i : Instr} {n pc : Nat} {ls : mm_L} {st as rest : List Value} {h : mm_H} (hg : mm_go X r Dp i n pc ls st h = .inr (.inr (Dq, r', as, rest))) :
    n = 3 ∧ ∃ idx, (i = .invokevirtual idx ∧ mm_Call r idx st (fun k => Nat.beq k 1) true h Dp Dq r' as rest) ∨ (i = .invokespecial idx ∧ mm_Call r idx st (fun k => Nat.beq k 3 || Nat.beq k 4) true h Dp Dq r' as rest) ∨ (i = .invokestatic idx ∧ mm_Call r idx st (fun k => Nat.beq k 2 || Nat.beq k 5) false h Dp Dq r' as rest) := by
  unfold mm_go at hg
  split at hg
  · cases hg
  · split at hg <;> cases hg
  · split at hg <;> cases hg
  · split at hg <;> cases hg
  · split at hg <;> cases hg
  · cases hg
  · cases hg
  · cases hg
  · split at hg <;> cases hg
  · split at hg
    · split at hg <;> cases hg
    · cases hg
  · cases hg
  · cases hg
  · split at hg <;> cases hg
  · split at hg
    · refine ⟨rfl, ?_⟩
      unfold mm_iv at hg
      split at hg
      · exact ⟨_, Or.inl ⟨rfl, mm_cl_call hg⟩⟩
      · split at hg
        · next t _ _ => cases hw : Nat.ble (mm_wt t) 8 <;> rw [hw] at hg <;> cases hg
        · exact ⟨_, Or.inr (Or.inl ⟨rfl, mm_cl_call hg⟩)⟩
      · split at hg
        · cases hg
        · exact ⟨_, Or.inr (Or.inr ⟨rfl, mm_cl_call hg⟩)⟩
      · cases hg
    · cases hg
  · cases hg
theorem mm_x_mono {X : Option (List Int32)} : ∀ (f Dp : Nat) (r : mm_R) (pc : Nat) (ls : mm_L) (st : List Value) (h : mm_H) (v : Option Value) (h' : mm_H), mm_x X f Dp r pc ls st h = some (v, h') → h.length ≤ h'.length ∧ mm_sz h ≤ mm_sz h'
  | 0, _, _, _, _, _, _, _, _, hx => by cases hx
  | f + 1, Dp, r, pc, ls, st, h, v, h', hx => by
    unfold mm_x at hx
    split at hx
    · cases hx
    · split at hx
      · cases hx
      · next hg =>
        have h1 := mm_go_mono hg
        have h2 := mm_x_mono f _ _ _ _ _ _ _ _ hx
        exact ⟨Nat.le_trans h1.1 h2.1, Nat.le_trans h1.2 h2.2⟩
      · cases hx; exact ⟨Nat.le_refl _, Nat.le_refl _⟩
      · split at hx
        · cases hx
        · next hc =>
          have h1 := mm_x_mono f _ _ _ _ _ _ _ _ hc
          have h2 := mm_x_mono f _ _ _ _ _ _ _ _ hx
          exact ⟨Nat.le_trans h1.1 h2.1, Nat.le_trans h1.2 h2.2⟩
-- the entry
def mm_sv2 (B : Nat) (b0 : mm_X) (o : Option Value) : Slot := match o with
  | some v => .val (mm_mv B b0 v)
  | none => .second
theorem mm_sl_lg (B : Nat) (b0 : mm_X) (as : List Value) : lg_sl (as.map (mm_mv B b0)) = (mm_sl as).map (mm_sv2 B b0) := by
  induction as with
  | nil => rfl
  | cons v t ih =>
    have e1 : lg_sl ((v :: t).map (mm_mv B b0)) = (if (mm_mv B b0 v).category = 2 then [Slot.val (mm_mv B b0 v), .second] else [.val (mm_mv B b0 v)]) ++ lg_sl (t.map (mm_mv B b0)) := by simp [lg_sl]
    have e2 : mm_sl (v :: t) = bif mm_c1 v then some v :: mm_sl t else some v :: none :: mm_sl t := rfl
    rw [e1, ih, mm_mv_cat, e2]
    cases hc : mm_c1 v
    · rw [mm_c1_cat' hc]; rfl
    · rw [mm_c1_cat hc]; rfl
theorem mm_ent_LR (B : Nat) (b0 : mm_X) (r : mm_R) (as : List Value) (hl : (mm_sl as).length ≤ r.1.2.2.1) : mm_LR B b0 ((lg_sl (as.map (mm_mv B b0)) ++ List.replicate (r.1.2.2.1 - (lg_sl (as.map (mm_mv B b0))).length) Slot.unset).toArray) (mm_en r as) ∧ (mm_en r as).length = r.1.2.2.1 := by
  have e1 : (lg_sl (as.map (mm_mv B b0))).length = (mm_sl as).length := by rw [mm_sl_lg, List.length_map]
  have hh := lv_entry (as.map (mm_mv B b0)) (n := r.1.2.2.1) (by rw [e1]; exact hl)
  have e2 : (mm_en r as).length = r.1.2.2.1 := by
    unfold mm_en
    simp
    omega
  refine ⟨⟨by rw [hh.1, e2], hh.2.1, fun i v hi => ?_⟩, e2⟩
  unfold mm_en at hi
  by_cases hc : i < (mm_sl as).length
  · rw [List.getElem?_append_left hc] at hi
    rw [List.getElem?_toArray, List.getElem?_append_left (by rw [e1]; exact hc), mm_sl_lg, List.getElem?_map, hi]
    rfl
  · rw [List.getElem?_append_right (by omega), List.getElem?_replicate] at hi
    split at hi <;> cases hi
section mmJ
variable {l : Launch} {D : va_G} {dA : Nat → ClassId} {B : Nat} {b0 : mm_X} {H0 : Heap} {X : Option (List Int32)}
/-- what a run of the mini-machine from a place gives of the machine -/
def mm_OK (l : Launch) (D : va_G) (dA : Nat → ClassId) (B : Nat) (b0 : mm_X) (H0 : Heap) (X : Option (List Int32)) (Dp : Nat) (r : mm_R) (pc : Nat) (ls : mm_L) (st : List Value) (h : mm_H) (v : Option Value) (h' : mm_H) : Prop :=
  ∀ (p : Program) (e : Env) (R : Room) (s : State) (m : MethodId) (args : Array Value) (below : List Frame) (meth : Method) (c : Code) (Q : State → Prop) (n0 s0 : Nat) (H : Heap) (locs : List Loc) (cells slots : Nat) (real : Array Slot),
    mm_Ctx D dA B b0 H0 X r p s m args meth c → Dp ≤ R.frames → 35 * Dp ≤ R.locals → mm_CF D dA B b0 H0 n0 s0 H locs cells slots h → mm_LR B b0 real ls → ls.length = r.1.2.2.1 → h'.length ≤ n0 + R.cells → mm_sz h' ≤ s0 + R.slots →
    (∀ H' locs' cells' slots' real' pc' i stk, mm_at r pc' = some (i, 1) → mm_rt r.1.2.2.2.1 i stk = some v → mm_CF D dA B b0 H0 n0 s0 H' locs' cells' slots' h' → W p l e R s m args below meth c H' locs' cells' slots' Q (F0 m pc' real' (stk.map (mm_mv B b0)))) →
    W p l e R s m args below meth c H locs cells slots Q (F0 m pc real (st.map (mm_mv B b0)))
theorem mm_met {Dp : Nat} {r : mm_R} {as : List Value} {h h' : mm_H} {v : Option Value} (hg : mm_GoodC r) (hl : (mm_sl as).length ≤ r.1.2.2.1) (hm : h.length ≤ h'.length ∧ mm_sz h ≤ mm_sz h') (ih : mm_OK l D dA B b0 H0 X Dp r 0 (mm_en r as) [] h v h') :
    Met l r.1.1 (mm_ws r) (mm_rm Dp (h'.length - h.length) (mm_sz h' - mm_sz h)) (mm_Pc D dA B b0 H0 X as h) (mm_Qc D dA B b0 H0 v h') (h'.length - h.length) (mm_sz h' - mm_sz h) (fun q => B ≤ q) := by
  obtain ⟨hgood, hplain, hmh, h16, hown, hcode, hini, hstat, hinst⟩ := hg
  refine Met.ofW (cc := r.1.2.1) (maxL := r.1.2.2.1) (ret := r.1.2.2.2.1) hplain rfl ?_
  intro p e s m args below meth c s₁ Bd hml hv
  obtain ⟨rfl, hSim, hGI⟩ := hv
  have hts := atoms_spec (ws := mm_ws r) Bd.pre
  have C : mm_Ctx D dA B b0 H0 X r p s m (as.map (mm_mv B b0)).toArray meth c := ⟨Bd.exec, Bd.bytes, hml, Bd.returns, Bd.notSynchronized, fun hi => (name_of_methodNamed Bd.named Bd.method).1.trans hi, by rw [hown]; exact findClass_of_methodNamed Bd.named, fun w hw => hts w (List.mem_cons_of_mem _ hw), hGI⟩
  obtain ⟨hLR, hlen⟩ := mm_ent_LR B b0 r as hl
  rw [lg_entry_eq]
  refine ih p e _ s m _ below meth c _ h.length (mm_sz h) s.heap [] 0 0 _ C (Nat.le_refl Dp) (Nat.le_refl (35 * Dp)) ⟨hSim, fun q hq => (by cases hq), rfl, rfl⟩ hLR hlen (by show _ ≤ _ + (h'.length - h.length); omega) (by show _ ≤ _ + (mm_sz h' - mm_sz h); omega) ?_
  intro H' locs' cells' slots' real' pc' i stk hat hrt S
  have hd := hgood.1 _ _ _ hat
  have e1 : cells' = h'.length - h.length := by have := S.2.2.1; omega
  have e2 : slots' = mm_sz h' - mm_sz h := by have := S.2.2.2; omega
  subst e1 e2
  have hx := Bd.exec
  have hb := Bd.bytes
  have hr := Bd.returns
  have hlocks := Bd.notSynchronized
  unfold mm_rt at hrt
  split at hrt
  · next he => cases hrt; exact W.iret hx hb (by rw [hr]; exact he) (fun t ht _ => ⟨rfl, by rw [ht]; exact S.1⟩) S.2.1 hd
  · next x he =>
    obtain ⟨h1, h2⟩ := mm_setB hrt
    cases h2
    refine W.zret (ty := .boolean) hx hb (by rw [hr]; exact he) ?_ (fun t ht _ => ⟨rfl, by rw [ht]; exact S.1⟩) S.2.1 hd
    simp only [Bool.or_eq_true, decide_eq_true_eq] at h1
    rcases h1 with rfl | rfl
    · decide +kernel
    · decide +kernel
  · next x he =>
    obtain ⟨h1, h2⟩ := mm_setB hrt
    cases h2
    exact W.zret (ty := .byte) hx hb (by rw [hr]; exact he) (by show Value.int _ = _; rw [of_decide_eq_true h1]) (fun t ht _ => ⟨rfl, by rw [ht]; exact S.1⟩) S.2.1 hd
  · next x he =>
    obtain ⟨h1, h2⟩ := mm_setB hrt
    cases h2
    exact W.zret (ty := .char) hx hb (by rw [hr]; exact he) (by show Value.int _ = _; rw [of_decide_eq_true h1]) (fun t ht _ => ⟨rfl, by rw [ht]; exact S.1⟩) S.2.1 hd
  · next he => cases hrt; exact W.vret hx hb (by rw [hr]; exact he) (fun t ht _ => ⟨rfl, by rw [ht]; exact S.1⟩) S.2.1 hd
  · cases hrt
theorem mm_blind {as : List Value} {h : mm_H} : FrameBlind (mm_Pc D dA B b0 H0 X as h) := fun a U g mk hq => ⟨hq.1, hq.2.1, hq.2.2.same rfl⟩
theorem mm_goodIn {r : mm_R} (hg : mm_GoodC r) : GoodIn mm_W (mm_ws r) := fun w hw => (List.mem_cons.mp hw).elim (fun e => e ▸ ⟨hg.2.2.2.2.2.1, mm_W_good hg.2.2.2.2.2.1⟩) (fun h => ⟨h, mm_W_good h⟩)
/-- behind a call -/
theorem mm_after {p : Program} {e : Env} {R : Room} {s : State} {m : MethodId} {args : Array Value} {below : List Frame} {meth : Method} {c : Code} {H : Heap} {locs : List Loc} {cells slots : Nat} {Q : State → Prop} {pc n0 s0 : Nat} {real : Array Slot} {h h' : mm_H} {v : Option Value} {rest st : List Value} {a : Array Value}
    (S : mm_CF D dA B b0 H0 n0 s0 H locs cells slots h) (hm : h.length ≤ h'.length ∧ mm_sz h ≤ mm_sz h')
    (hr : va_Run p l e R s m args below meth c H locs cells slots (h'.length - h.length) (mm_sz h' - mm_sz h) (F0 m pc real st) (rest.map (mm_mv B b0)) (mm_Qc D dA B b0 H0 v h' a) (fun q => B ≤ q))
    (k : ∀ H' locs' cells' slots', mm_CF D dA B b0 H0 n0 s0 H' locs' cells' slots' h' → W p l e R s m args below meth c H' locs' cells' slots' Q (F0 m (pc + 3) real ((v.toList ++ rest).map (mm_mv B b0)))) :
    W p l e R s m args below meth c H locs cells slots Q (F0 m pc real st) := by
  intro T hT Xs
  obtain ⟨v', st₀, t, T', L, h0, X', hL, e1, e2, ⟨hv, hSim⟩, stp⟩ := hr T hT Xs
  cases hv
  obtain ⟨tt, a1, b1⟩ := k T'.heap (locs ++ L) _ _ ⟨by rw [e1]; exact hSim, fun q hq => (List.mem_append.mp hq).elim (S.2.1 q) (hL q), by have := S.2.2.1; omega, by have := S.2.2.2; omega⟩ T' rfl X'
  refine ⟨tt, stp tt ?_, b1⟩
  have e3 : (v.toList ++ rest).map (mm_mv B b0) = (v.map (mm_mv B b0)).toList ++ rest.map (mm_mv B b0) := by cases v <;> simp
  rw [e3] at a1
  exact a1
end mmJ
end mg_12run
section mg_13main
/-! the runs -/
section mmK
variable {l : Launch} {D : va_G} {dA : Nat → ClassId} {B : Nat} {b0 : mm_X} {H0 : Heap} {X : Option (List Int32)}
theorem mm_run (hall : ∀ (mj : Nat) (r' : mm_R), mm_rs[mj]? = some r' → mm_GoodC r') : ∀ (f Dp : Nat) (r : mm_R) (pc : Nat) (ls : mm_L) (st : List Value) (h : mm_H) (v : Option Value) (h' : mm_H), mm_Good r → mm_x X f Dp r pc ls st h = some (v, h') → mm_OK l D dA B b0 H0 X Dp r pc ls st h v h'
  | 0, _, _, _, _, _, _, _, _, _, hx => by cases hx
  | f + 1, Dp, r, pc, ls, st, h, v, h', hg, hx => by
    unfold mm_x at hx
    split at hx
    · cases hx
    · next i n hat =>
      split at hx
      · cases hx
      · next pc' ls' st' h1 hgo =>
        intro p e R s m args below meth c Q n0 s0 H locs cells slots real C hfr hlo S hl hls hc1 hc2 K
        have hmono := mm_x_mono f _ _ _ _ _ _ _ _ hx
        exact mm_step_ok hg C hat hgo hfr hlo S hl hls (by omega) (by omega) (fun H' locs' cells' slots' real' S' hl' hls' => mm_run hall f Dp r pc' ls' st' h1 v h' hg hx p e R s m args below meth c Q n0 s0 H' locs' cells' slots' real' C hfr hlo S' hl' hls' hc1 hc2 K)
      · next v0 hgo =>
        cases hx
        obtain ⟨rfl, hrt⟩ := mm_go_ret hgo
        intro p e R s m args below meth c Q n0 s0 H locs cells slots real C hfr hlo S hl hls hc1 hc2 K
        exact K _ _ _ _ _ _ _ _ hat hrt S
      · next Dq r' as rest hgo =>
        split at hx
        · cases hx
        · next v1 h1 hc =>
          intro p e R s m args below meth c Q n0 s0 H locs cells slots real C hfr hlo S hl hls hc1 hc2 K
          obtain ⟨rfl, idx, hcase⟩ := mm_go_call hgo
          have hmono1 := mm_x_mono f _ _ _ _ _ _ _ _ hc
          have hmono2 := mm_x_mono f _ _ _ _ _ _ _ _ hx
          have hS1 := S.2.2.1
          have hS2 := S.2.2.2
          have hf : cells + (h1.length - h.length) ≤ R.cells ∧ slots + (mm_sz h1 - mm_sz h) ≤ R.slots := ⟨by omega, by omega⟩
          have hnext := fun H' locs' cells' slots' (S' : mm_CF D dA B b0 H0 n0 s0 H' locs' cells' slots' h1) => mm_run hall f Dp r (pc + 3) ls (v1.toList ++ rest) h1 v h' hg hx p e R s m args below meth c Q n0 s0 H' locs' cells' slots' real C hfr hlo S' hl hls hc1 hc2 K
          obtain ⟨hxx, hb, hml, hret, hlocks, hnm, hown, hts, hG⟩ := C
          have hd := hg.1 _ _ _ hat
          have hfix : CallFix p m c r.1.2.1 r.1.2.2.1 s args mm_W r.2.1 := ⟨hxx, hb, hml, hown, hts⟩
          have hsize : real.size = r.1.2.2.1 := by rw [← hls]; exact hl.1
          have hPc : ∀ (as' : List Value) (U : State), U.heap = H → s.WarmedH U.vm → mm_Pc D dA B b0 H0 X as' h (as'.map (mm_mv B b0)).toArray U := fun as' U hU hW => ⟨rfl, by rw [hU]; exact S.1, hG.warm hW⟩
          rcases hcase with ⟨rfl, hcall⟩ | ⟨rfl, hcall⟩ | ⟨rfl, hcall⟩
          · obtain ⟨k, mj, b, vv, ps, hmem, hwant, hr0, hDp, m1, m2, hargs⟩ := hcall
            have hgC := hall mj r' hr0
            have hM := mm_met (l := l) (D := D) (dA := dA) (B := B) (b0 := b0) (H0 := H0) (X := X) hgC m1 hmono1 (mm_run hall f Dq r' 0 (mm_en r' as) [] h v1 h1 hgC.1 hc)
            have hk := Nat.eq_of_beq_eq_true hwant
            subst hk
            have hek : mm_e1 r idx mj b ps = true := hg.2 _ hmem
            unfold mm_e1 at hek
            rw [hr0] at hek
            rcases hargs with ⟨-, a, xs, cj, fs, rfl, rfl, hxl, ha, hcj⟩ | ⟨-, a, xs, rfl, rfl, hxl, htx, -, rfl⟩ | ⟨h0, -⟩
            · have := hcj rfl
              subst this
              split at hek
              · next y q0 hy hq0 =>
                cases hy
                obtain ⟨q, hq, hqn⟩ : ∃ q, vwCl[cj]? = some q ∧ q.1 = q0 := by
                  have hcj2 : cj < 11 := by
                    obtain ⟨r9, h9, -⟩ := S.1.2.1 _ _ ha
                    have := mm_lt h9
                    simpa [vwCl] using this
                  unfold mm_cn at hq0
                  split at hq0
                  · omega
                  · exact mm_map_s hq0
                subst hqn
                simp only [Bool.and_eq_true, decide_eq_true_eq, Bool.not_eq_true', decide_eq_false_iff_not] at hek
                obtain ⟨⟨⟨hw, hcls⟩, hst⟩, hni⟩ := hek
                have hlink := hts _ (mm_one hw (by first | rfl | simp [goodWord, Cond.onTables, Cond.keeps, Cond.steady]))
                have hinst := hgC.2.2.2.2.2.2.2.2 hst
                have hrecv := va_recv (q0 := 0) (a := B + a) (fs := fs.map (mm_mv B b0)) hG.1 (mm_P1 (S.1.2.1 _ _ ha)) hq rfl
                rw [hcls] at hrecv
                have cb : CallB R s args r.2.1 idx r'.1.1 r'.1.2.1 r'.1.2.2.1 r'.1.2.2.2.1 (mm_ws r') (mm_rm Dq (h1.length - h.length) (mm_sz h1 - mm_sz h)) (h1.length - h.length) (mm_sz h1 - mm_sz h) r'.1.2.2.2.2.1 :=
                  callB_of _ hts (mm_goodIn hgC) rfl rfl rfl (hts _ hgC.2.2.2.2.2.2.1) hlink hgC.2.2.1 ⟨by show Dq + 1 ≤ _; omega, by have := hgC.2.2.2.1; show 8 + (_ + 11) + 35 * Dq ≤ _; omega⟩
                refine mm_after S hmono1 (rest := rest) (va_runV (b := B + a) (As := xs.map (mm_mv B b0)) hfix hM ⟨cb, hts _ hinst.1, hts _ (hinst.2 hni)⟩ ⟨mm_blind, hrecv, fun U hU hW => hPc (.ref a :: xs) U hU hW⟩ rfl (by rw [List.length_map]; exact hxl) hsize ?_ ?_ hd hf) hnext
                · show List.map (mm_mv B b0) _ = _
                  rw [List.map_append, List.map_reverse]
                  rfl
                · exact lv_room (by rw [mm_wt_s]; exact m2)
              · cases hek
            · split at hek
              · next y q0 hy hq0 =>
                cases hy
                cases hq0
                simp only [Bool.and_eq_true, decide_eq_true_eq, Bool.not_eq_true', decide_eq_false_iff_not] at hek
                obtain ⟨⟨⟨hw, hcls⟩, hst⟩, hni⟩ := hek
                have hlink := hts _ (mm_one hw (by first | rfl | simp [goodWord, Cond.onTables, Cond.keeps, Cond.steady]))
                have hinst := hgC.2.2.2.2.2.2.2.2 hst
                obtain ⟨i1, q, l0, rfl, hq, hl0⟩ := mm_tx_s htx
                obtain ⟨⟨cell, z1, z2, z3, z4⟩, -⟩ := hG.2.2.1.2.2.2.1 i1 q l0 hq hl0
                have hrecv : ∃ cell : Cell, H[b0.1 (1 + i1)]? = some cell ∧ cell.vm.isStatics = false ∧ s.vm.findClass r'.1.1.cls = some cell.cls := ⟨cell, by rw [S.1.2.2 _ (Nat.not_le.mp z4)]; exact z1, z2, by rw [← hcls]; exact z3⟩
                have cb : CallB R s args r.2.1 idx r'.1.1 r'.1.2.1 r'.1.2.2.1 r'.1.2.2.2.1 (mm_ws r') (mm_rm Dq (h1.length - h.length) (mm_sz h1 - mm_sz h)) (h1.length - h.length) (mm_sz h1 - mm_sz h) r'.1.2.2.2.2.1 :=
                  callB_of _ hts (mm_goodIn hgC) rfl rfl rfl (hts _ hgC.2.2.2.2.2.2.1) hlink hgC.2.2.1 ⟨by show Dq + 1 ≤ _; omega, by have := hgC.2.2.2.1; show 8 + (_ + 11) + 35 * Dq ≤ _; omega⟩
                refine mm_after S hmono1 (rest := rest) (va_runV (b := b0.1 (1 + i1)) (As := xs.map (mm_mv B b0)) hfix hM ⟨cb, hts _ hinst.1, hts _ (hinst.2 hni)⟩ ⟨mm_blind, hrecv, fun U hU hW => hPc (.retAddr (1 + i1) :: xs) U hU hW⟩ rfl (by rw [List.length_map]; exact hxl) hsize ?_ ?_ hd hf) hnext
                · show List.map (mm_mv B b0) _ = _
                  rw [List.map_append, List.map_reverse]
                  rfl
                · exact lv_room (by rw [mm_wt_s]; exact m2)
              · cases hek
            · cases h0
          · obtain ⟨k, mj, b, vv, ps, hmem, hwant, hr0, hDp, m1, m2, hargs⟩ := hcall
            have hgC := hall mj r' hr0
            have hM := mm_met (l := l) (D := D) (dA := dA) (B := B) (b0 := b0) (H0 := H0) (X := X) hgC m1 hmono1 (mm_run hall f Dq r' 0 (mm_en r' as) [] h v1 h1 hgC.1 hc)
            rcases hargs with ⟨-, a, xs, cj, fs, rfl, rfl, hxl, ha, -⟩ | ⟨-, a, xs, rfl, rfl, hxl, htx, hk1, -⟩ | ⟨h0, -⟩
            · simp only [Bool.or_eq_true] at hwant
              have hroom : (mm_rm Dq (h1.length - h.length) (mm_sz h1 - mm_sz h)).frames + 1 ≤ R.frames ∧ 8 + (r'.1.2.2.1 + 11) + (mm_rm Dq (h1.length - h.length) (mm_sz h1 - mm_sz h)).locals ≤ R.locals := ⟨by show Dq + 1 ≤ _; omega, by have := hgC.2.2.2.1; show 8 + (_ + 11) + 35 * Dq ≤ _; omega⟩
              have hstk : (List.map (mm_mv B b0) (xs.reverse ++ .ref a :: rest)) = (xs.map (mm_mv B b0)).reverse ++ .ref (B + a) :: rest.map (mm_mv B b0) := by
                rw [List.map_append, List.map_reverse]
                rfl
              rcases hwant with hk | hk
              · have hk := Nat.eq_of_beq_eq_true hk
                subst hk
                have hek : mm_e3 r idx mj ps = true := hg.2 _ hmem
                unfold mm_e3 at hek
                rw [hr0] at hek
                simp only [Bool.and_eq_true, decide_eq_true_eq, Bool.not_eq_true'] at hek
                obtain ⟨⟨⟨hw, hst⟩, hni⟩, hno⟩ := hek
                have hrn : r'.1.2.2.2.1 = none := by simpa using hno
                have hlink := hts _ (mm_one hw (by first | rfl | simp [goodWord, Cond.onTables, Cond.keeps, Cond.steady]))
                have hinst := hgC.2.2.2.2.2.2.2.2 hst
                have cb : CallB R s args r.2.1 idx r'.1.1 r'.1.2.1 r'.1.2.2.1 none (mm_ws r') (mm_rm Dq (h1.length - h.length) (mm_sz h1 - mm_sz h)) (h1.length - h.length) (mm_sz h1 - mm_sz h) r'.1.2.2.2.2.1 :=
                  callB_of (ws' := mm_W) _ hts (mm_goodIn hgC) (by unfold mm_ws; rw [hrn]) rfl rfl (hts _ hgC.2.2.2.2.2.2.1) hlink hgC.2.2.1 hroom
                exact mm_after S hmono1 (rest := rest) (va_runI (b := B + a) (As := xs.map (mm_mv B b0)) hfix hM ⟨cb, hni, hts _ hinst.1⟩ ⟨mm_blind, fun U hU hW => hPc (.ref a :: xs) U hU hW⟩ rfl (by rw [List.length_map]; exact hxl) hsize hstk (lv_room (by rw [mm_wt_s]; exact m2)) hd hf) hnext
              · have hk := Nat.eq_of_beq_eq_true hk
                subst hk
                have hek : mm_e4 r idx mj vv = true := hg.2 _ hmem
                unfold mm_e4 at hek
                rw [hr0] at hek
                simp only [Bool.and_eq_true, decide_eq_true_eq, Bool.not_eq_true'] at hek
                obtain ⟨⟨⟨hw, hst⟩, hni⟩, hno⟩ := hek
                have hrn : r'.1.2.2.2.1 = none := by simpa using hno
                have hlink := hG.2.1 _ (List.mem_of_getElem? hw)
                have hinst := hgC.2.2.2.2.2.2.2.2 hst
                have cn := va_cnB (args := args) (R := R) (maxL := r'.1.2.2.1) (bytes := r'.1.2.1) (ret := none) (ws' := mm_W) r'.1.2.2.2.2.1 hts (mm_goodIn hgC) (by unfold mm_ws; rw [hrn]) (rm := mm_rm Dq (h1.length - h.length) (mm_sz h1 - mm_sz h)) rfl rfl hlink (hts _ hgC.2.2.2.2.2.2.1) hgC.2.2.1 hroom
                exact mm_after S hmono1 (rest := rest) (va_runIN (b := B + a) (As := xs.map (mm_mv B b0)) hfix hM ⟨cn, hni, hts _ hinst.1⟩ ⟨mm_blind, fun U hU hW => hPc (.ref a :: xs) U hU hW⟩ rfl (by rw [List.length_map]; exact hxl) hsize hstk (lv_room (by rw [mm_wt_s]; exact m2)) hd hf) hnext
            · subst hk1; cases hwant
            · cases h0
          · obtain ⟨k, mj, b, vv, ps, hmem, hwant, hr0, hDp, m1, m2, hargs⟩ := hcall
            have hgC := hall mj r' hr0
            have hM := mm_met (l := l) (D := D) (dA := dA) (B := B) (b0 := b0) (H0 := H0) (X := X) hgC m1 hmono1 (mm_run hall f Dq r' 0 (mm_en r' as) [] h v1 h1 hgC.1 hc)
            rcases hargs with ⟨h0, -⟩ | ⟨h0, -⟩ | ⟨-, rfl, hxl⟩
            · cases h0
            · cases h0
            · simp only [Bool.or_eq_true] at hwant
              have hroom : (mm_rm Dq (h1.length - h.length) (mm_sz h1 - mm_sz h)).frames + 1 ≤ R.frames ∧ 8 + (r'.1.2.2.1 + 11) + (mm_rm Dq (h1.length - h.length) (mm_sz h1 - mm_sz h)).locals ≤ R.locals := ⟨by show Dq + 1 ≤ _; omega, by have := hgC.2.2.2.1; show 8 + (_ + 11) + 35 * Dq ≤ _; omega⟩
              have hstk : (List.map (mm_mv B b0) (as.reverse ++ rest)) = (as.map (mm_mv B b0)).reverse ++ rest.map (mm_mv B b0) := by
                rw [List.map_append, List.map_reverse]
              rcases hwant with hk | hk
              · have hk := Nat.eq_of_beq_eq_true hk
                subst hk
                have hek : mm_e2 r idx mj ps = true := hg.2 _ hmem
                unfold mm_e2 at hek
                rw [hr0] at hek
                simp only [Bool.and_eq_true] at hek
                obtain ⟨hw, hst⟩ := hek
                have hlink := hts _ (mm_one hw (by first | rfl | simp [goodWord, Cond.onTables, Cond.keeps, Cond.steady]))
                have cb : CallB R s args r.2.1 idx r'.1.1 r'.1.2.1 r'.1.2.2.1 r'.1.2.2.2.1 (mm_ws r') (mm_rm Dq (h1.length - h.length) (mm_sz h1 - mm_sz h)) (h1.length - h.length) (mm_sz h1 - mm_sz h) r'.1.2.2.2.2.1 :=
                  callB_of _ hts (mm_goodIn hgC) rfl rfl rfl (hts _ hgC.2.2.2.2.2.2.1) hlink hgC.2.2.1 hroom
                exact mm_after S hmono1 (rest := rest) (va_runS (As := as.map (mm_mv B b0)) hfix hM ⟨cb, hts _ (hgC.2.2.2.2.2.2.2.1 hst)⟩ ⟨mm_blind, fun U hU hW => hPc as U hU hW⟩ rfl (by rw [List.length_map]; exact hxl) hsize hstk (lv_room (by rw [mm_wt_s]; exact m2)) hd hf) hnext
              · have hk := Nat.eq_of_beq_eq_true hk
                subst hk
                have hek : mm_e5 r idx mj vv = true := hg.2 _ hmem
                unfold mm_e5 at hek
                rw [hr0] at hek
                simp only [Bool.and_eq_true, decide_eq_true_eq] at hek
                obtain ⟨hw, hst⟩ := hek
                have hlink := hG.2.1 _ (List.mem_of_getElem? hw)
                have cn := va_cnB (args := args) (R := R) r'.1.2.2.2.2.1 hts (mm_goodIn hgC) rfl (rm := mm_rm Dq (h1.length - h.length) (mm_sz h1 - mm_sz h)) rfl rfl hlink (hts _ hgC.2.2.2.2.2.2.1) hgC.2.2.1 hroom
                exact mm_after S hmono1 (rest := rest) (va_runSN (As := as.map (mm_mv B b0)) hfix hM ⟨cn, hts _ (hgC.2.2.2.2.2.2.2.1 hst), trivial⟩ ⟨mm_blind, fun U hU hW => hPc as U hU hW⟩ rfl (by rw [List.length_map]; exact hxl) hsize hstk (lv_room (by rw [mm_wt_s]; exact m2)) hd hf) hnext
end mmK
end mg_13main
section mg_14good
/-! decoding by the opcode's kind: the case of a byte is looked up, not gone through -/
abbrev ml_F : Type := Instr ⊕ ((Nat → Instr) ⊕ ((Nat → Instr) ⊕ ((Int → Instr) ⊕ ((Int → Instr) ⊕ (Nat → Int → Instr)))))
abbrev ml_D (α : Type) : Type := Jvm.ClassFile.Reader Jvm.ClassFile.DecodeError α
def ml_b : ml_F → ml_D Instr
  | .inl i => pure i
  | .inr (.inl k) => (do pure (k (← Jvm.ClassFile.Reader.u1)))
  | .inr (.inr (.inl k)) => (do pure (k (← Jvm.ClassFile.Reader.u2)))
  | .inr (.inr (.inr (.inl k))) => (do pure (k (← Jvm.ClassFile.Reader.s1)))
  | .inr (.inr (.inr (.inr (.inl k)))) => (do pure (k (← Jvm.ClassFile.Reader.s2)))
  | .inr (.inr (.inr (.inr (.inr k)))) => (do pure (k (← Jvm.ClassFile.Reader.u1) (← Jvm.ClassFile.Reader.s1)))
def ml_r : ml_F → List UInt8 → Option (Instr × Nat)
  | .inl i, _ => some (i, 1)
  | .inr (.inl k), a :: _ => some (k a.toNat, 2)
  | .inr (.inr (.inl k)), a :: b :: _ => some (k (a.toNat * 256 + b.toNat), 3)
  | .inr (.inr (.inr (.inl k))), a :: _ => some (k (Jvm.ClassFile.Reader.signed 8 a.toNat), 2)
  | .inr (.inr (.inr (.inr (.inl k)))), a :: b :: _ => some (k (Jvm.ClassFile.Reader.signed 16 (a.toNat * 256 + b.toNat)), 3)
  | .inr (.inr (.inr (.inr (.inr k)))), a :: b :: _ => some (k a.toNat (Jvm.ClassFile.Reader.signed 8 b.toNat), 3)
  | _, _ => none
def ml_tab : List (List (Option ml_F)) := [[none, none, some (.inl (.iconst (-1))), some (.inl (.iconst 0)), some (.inl (.iconst 1)), some (.inl (.iconst 2)), some (.inl (.iconst 3)), some (.inl (.iconst 4)), some (.inl (.iconst 5)), some (.inl (.lconst 0)), some (.inl (.lconst 1)), none, none, none, none, none],
  [some (.inr (.inr (.inr (.inl Instr.bipush)))), some (.inr (.inr (.inr (.inr (.inl Instr.sipush))))), some (.inr (.inl Instr.ldc)), some (.inr (.inr (.inl Instr.ldc_w))), some (.inr (.inr (.inl Instr.ldc2_w))), some (.inr (.inl Instr.iload)), some (.inr (.inl Instr.lload)), none, none, some (.inr (.inl Instr.aload)), some (.inl (.iload_n 0)), some (.inl (.iload_n 1)), some (.inl (.iload_n 2)), some (.inl (.iload_n 3)), some (.inl (.lload_n 0)), some (.inl (.lload_n 1))],
  [some (.inl (.lload_n 2)), some (.inl (.lload_n 3)), none, none, none, none, none, none, none, none, some (.inl (.aload_n 0)), some (.inl (.aload_n 1)), some (.inl (.aload_n 2)), some (.inl (.aload_n 3)), some (.inl .iaload), some (.inl .laload)],
  [none, none, some (.inl .aaload), some (.inl .baload), none, none, some (.inr (.inl Instr.istore)), none, none, none, some (.inr (.inl Instr.astore)), some (.inl (.istore_n 0)), some (.inl (.istore_n 1)), some (.inl (.istore_n 2)), some (.inl (.istore_n 3)), none],
  [none, none, none, none, none, none, none, none, none, none, none, some (.inl (.astore_n 0)), some (.inl (.astore_n 1)), some (.inl (.astore_n 2)), some (.inl (.astore_n 3)), some (.inl .iastore)],
  [some (.inl .lastore), none, none, some (.inl .aastore), some (.inl .bastore), none, none, some (.inl .pop), none, some (.inl .dup), none, none, some (.inl .dup2), none, none, none],
  [some (.inl .iadd), some (.inl .ladd), none, none, some (.inl .isub), none, none, none, some (.inl .imul), none, none, none, some (.inl .idiv), none, none, none],
  [some (.inl .irem), none, none, none, none, none, none, none, some (.inl .ishl), some (.inl .lshl), some (.inl .ishr), some (.inl .lshr), some (.inl .iushr), some (.inl .lushr), some (.inl .iand), some (.inl .land)],
  [some (.inl .ior), some (.inl .lor), some (.inl .ixor), none, some (.inr (.inr (.inr (.inr (.inr Instr.iinc))))), some (.inl .i2l), none, none, some (.inl .l2i), none, none, none, none, none, none, none],
  [none, some (.inl .i2b), some (.inl .i2c), some (.inl .i2s), some (.inl .lcmp), none, none, none, none, some (.inr (.inr (.inr (.inr (.inl (Instr.ifCond .eq)))))), some (.inr (.inr (.inr (.inr (.inl (Instr.ifCond .ne)))))), some (.inr (.inr (.inr (.inr (.inl (Instr.ifCond .lt)))))), some (.inr (.inr (.inr (.inr (.inl (Instr.ifCond .ge)))))), some (.inr (.inr (.inr (.inr (.inl (Instr.ifCond .gt)))))), some (.inr (.inr (.inr (.inr (.inl (Instr.ifCond .le)))))), some (.inr (.inr (.inr (.inr (.inl (Instr.if_icmp .eq))))))],
  [some (.inr (.inr (.inr (.inr (.inl (Instr.if_icmp .ne)))))), some (.inr (.inr (.inr (.inr (.inl (Instr.if_icmp .lt)))))), some (.inr (.inr (.inr (.inr (.inl (Instr.if_icmp .ge)))))), some (.inr (.inr (.inr (.inr (.inl (Instr.if_icmp .gt)))))), some (.inr (.inr (.inr (.inr (.inl (Instr.if_icmp .le)))))), none, none, some (.inr (.inr (.inr (.inr (.inl Instr.goto))))), none, none, none, none, some (.inl .ireturn), none, none, none],
  [none, some (.inl .return_), some (.inr (.inr (.inl Instr.getstatic))), none, some (.inr (.inr (.inl Instr.getfield))), some (.inr (.inr (.inl Instr.putfield))), some (.inr (.inr (.inl Instr.invokevirtual))), some (.inr (.inr (.inl Instr.invokespecial))), some (.inr (.inr (.inl Instr.invokestatic))), none, none, some (.inr (.inr (.inl Instr.new))), none, some (.inr (.inr (.inl Instr.anewarray))), some (.inl .arraylength), some (.inl .athrow)],
  [none, none, none, none, none, none, none, none, none, none, none, none, none, none, none, none]]
def ml_k (v : Nat) : Option ml_F := (ml_tab.getD (v / 16) []).getD (v % 16) none
section ml
variable {α β : Type} {c : ByteArray} {p n v : Nat} {a b : UInt8} {t : List UInt8}
theorem ml_u1 (h : c.data.toList.drop p = a :: t) : (Jvm.ClassFile.Reader.u1 : ml_D Nat) c p = .ok (a.toNat, p + 1) ∧ c.data.toList.drop (p + 1) = t := by
  have h1 : c.data.toList[p]? = some a := by
    have := congrArg (fun l : List UInt8 => l[0]?) h
    simpa [List.getElem?_drop] using this
  have hp : p < c.size := Jvm.Free.DS.bt_lt h1
  have ha : c[p] = a := Option.some.inj ((Jvm.Free.DS.bt_some hp).symm.trans h1)
  refine ⟨?_, ?_⟩
  · show (do if h : p < c.size then do set (p + 1); pure c[p].toNat else MonadExcept.throw (Jvm.ClassFile.HasTruncated.truncated p) : ml_D Nat) c p = _
    rw [dif_pos hp, ha]
    rfl
  · have := congrArg (List.drop 1) h
    rw [List.drop_drop] at this
    exact this
theorem ml_bd {r : ml_D α} {f : α → ml_D β} {x : α} {s : Nat} (h : r c p = .ok (x, s)) : (r >>= f) c p = f x c s := by
  show (do let (a, s) ← r c p; f a c s : Except Jvm.ClassFile.DecodeError (β × Nat)) = _
  rw [h]
  rfl
theorem ml_mp {r : ml_D α} {g : α → β} {x : α} {s : Nat} (h : r c p = .ok (x, s)) : (g <$> r) c p = .ok (g x, s) := by
  show (do let (a, s) ← r c p; .ok (g a, s) : Except Jvm.ClassFile.DecodeError (β × Nat)) = _
  rw [h]
  rfl
theorem ml_u2 (h : c.data.toList.drop p = a :: b :: t) : (Jvm.ClassFile.Reader.u2 : ml_D Nat) c p = .ok (a.toNat * 256 + b.toNat, p + 2) := by
  obtain ⟨h1, h2⟩ := ml_u1 h
  obtain ⟨h3, -⟩ := ml_u1 h2
  unfold Jvm.ClassFile.Reader.u2
  rw [ml_bd h1, ml_bd h3]
  rfl
theorem ml_rs {k : ml_F} {i : Instr} (h : ml_r k t = some (i, n)) (hp : c.data.toList.drop p = t) : ml_b k c p = .ok (i, p + (n - 1)) ∧ 1 ≤ n := by
  unfold ml_r at h
  split at h
  · cases h
    exact ⟨rfl, by omega⟩
  · cases h
    refine ⟨?_, by omega⟩
    show (Jvm.ClassFile.Reader.u1 >>= _ : ml_D Instr) c p = _
    rw [ml_bd (ml_u1 hp).1]
    rfl
  · cases h
    refine ⟨?_, by omega⟩
    show (Jvm.ClassFile.Reader.u2 >>= _ : ml_D Instr) c p = _
    rw [ml_bd (ml_u2 hp)]
    rfl
  · cases h
    refine ⟨?_, by omega⟩
    show (Jvm.ClassFile.Reader.s1 >>= _ : ml_D Instr) c p = _
    rw [ml_bd (show (Jvm.ClassFile.Reader.s1 : ml_D Int) c p = _ from ml_mp (ml_u1 hp).1)]
    rfl
  · cases h
    refine ⟨?_, by omega⟩
    show (Jvm.ClassFile.Reader.s2 >>= _ : ml_D Instr) c p = _
    rw [ml_bd (show (Jvm.ClassFile.Reader.s2 : ml_D Int) c p = _ from ml_mp (ml_u2 hp))]
    rfl
  · cases h
    refine ⟨?_, by omega⟩
    obtain ⟨h1, h2⟩ := ml_u1 hp
    obtain ⟨h3, -⟩ := ml_u1 h2
    show (Jvm.ClassFile.Reader.u1 >>= _ : ml_D Instr) c p = _
    rw [ml_bd h1]
    show (Jvm.ClassFile.Reader.s1 >>= _ : ml_D Instr) c (p + 1) = _
    rw [ml_bd (show (Jvm.ClassFile.Reader.s1 : ml_D Int) c (p + 1) = _ from ml_mp h3)]
    rfl
  · cases h
def ml_P (f : Nat → ml_D Instr) : Nat → List (Option ml_F) → Prop
  | _, [] => True
  | v, none :: t => ml_P f (v + 1) t
  | v, some k :: t => f v = ml_b k ∧ ml_P f (v + 1) t
def ml_Q (f : Nat → ml_D Instr) : Nat → List (List (Option ml_F)) → Prop
  | _, [] => True
  | v, r :: t => ml_P f v r ∧ ml_Q f (v + 16) t
theorem ml_e {f : Nat → ml_D Instr} : ml_P f v [] := trivial
theorem ml_n {f : Nat → ml_D Instr} {l : List (Option ml_F)} (h : ml_P f (v + 1) l) : ml_P f v (none :: l) := h
theorem ml_c {f : Nat → ml_D Instr} {l : List (Option ml_F)} {k : ml_F} (h : f v = ml_b k) (h' : ml_P f (v + 1) l) : ml_P f v (some k :: l) := ⟨h, h'⟩
theorem ml_z {f : Nat → ml_D Instr} : ml_Q f v [] := trivial
theorem ml_q {f : Nat → ml_D Instr} {r : List (Option ml_F)} {l : List (List (Option ml_F))} (h : ml_P f v r) (h' : ml_Q f (v + 16) l) : ml_Q f v (r :: l) := ⟨h, h'⟩
theorem ml_Pg {f : Nat → ml_D Instr} {k : ml_F} : ∀ (l : List (Option ml_F)) (v j : Nat), ml_P f v l → l.getD j none = some k → f (v + j) = ml_b k
  | [], v, j, _, h => by simp at h
  | none :: t, v, 0, hp, h => by simp at h
  | none :: t, v, j + 1, hp, h => by
    have := ml_Pg t (v + 1) j hp (by simpa using h)
    rw [show v + (j + 1) = v + 1 + j by omega]
    exact this
  | some x :: t, v, 0, hp, h => by
    have e : x = k := by simpa using h
    subst e
    exact hp.1
  | some x :: t, v, j + 1, hp, h => by
    have := ml_Pg t (v + 1) j hp.2 (by simpa using h)
    rw [show v + (j + 1) = v + 1 + j by omega]
    exact this
theorem ml_Qg {f : Nat → ml_D Instr} {k : ml_F} : ∀ (l : List (List (Option ml_F))) (v i j : Nat), ml_Q f v l → (l.getD i []).getD j none = some k → f (v + 16 * i + j) = ml_b k
  | [], v, i, j, _, h => by simp at h
  | r :: t, v, 0, j, hp, h => by
    have := ml_Pg r v j hp.1 (by simpa using h)
    rw [show v + 16 * 0 + j = v + j by omega]
    exact this
  | r :: t, v, i + 1, j, hp, h => by
    have := ml_Qg t (v + 16) i j hp.2 (by simpa using h)
    rw [show v + 16 * (i + 1) + j = v + 16 + 16 * i + j by omega]
    exact this
set_option maxRecDepth 20000 in
set_option maxHeartbeats 4000000 in
theorem ml_ex (pc : Nat) : ∃ f : Nat → ml_D Instr, Jvm.ClassFile.Decoder.instr pc = (Jvm.ClassFile.Reader.u1 >>= f) ∧ ml_Q f 0 ml_tab := by
  delta Jvm.ClassFile.Decoder.instr
  refine ⟨_, rfl, ?_⟩
  unfold ml_tab
  exact ml_q (ml_n (ml_n (ml_c rfl (ml_c rfl (ml_c rfl (ml_c rfl (ml_c rfl (ml_c rfl (ml_c rfl (ml_c rfl (ml_c rfl (ml_n (ml_n (ml_n (ml_n (ml_n (ml_e))))))))))))))))) (ml_q (ml_c rfl (ml_c rfl (ml_c rfl (ml_c rfl (ml_c rfl (ml_c rfl (ml_c rfl (ml_n (ml_n (ml_c rfl (ml_c rfl (ml_c rfl (ml_c rfl (ml_c rfl (ml_c rfl (ml_c rfl (ml_e))))))))))))))))) (ml_q (ml_c rfl (ml_c rfl (ml_n (ml_n (ml_n (ml_n (ml_n (ml_n (ml_n (ml_n (ml_c rfl (ml_c rfl (ml_c rfl (ml_c rfl (ml_c rfl (ml_c rfl (ml_e))))))))))))))))) (ml_q (ml_n (ml_n (ml_c rfl (ml_c rfl (ml_n (ml_n (ml_c rfl (ml_n (ml_n (ml_n (ml_c rfl (ml_c rfl (ml_c rfl (ml_c rfl (ml_c rfl (ml_n (ml_e))))))))))))))))) (ml_q (ml_n (ml_n (ml_n (ml_n (ml_n (ml_n (ml_n (ml_n (ml_n (ml_n (ml_n (ml_c rfl (ml_c rfl (ml_c rfl (ml_c rfl (ml_c rfl (ml_e))))))))))))))))) (ml_q (ml_c rfl (ml_n (ml_n (ml_c rfl (ml_c rfl (ml_n (ml_n (ml_c rfl (ml_n (ml_c rfl (ml_n (ml_n (ml_c rfl (ml_n (ml_n (ml_n (ml_e))))))))))))))))) (ml_q (ml_c rfl (ml_c rfl (ml_n (ml_n (ml_c rfl (ml_n (ml_n (ml_n (ml_c rfl (ml_n (ml_n (ml_n (ml_c rfl (ml_n (ml_n (ml_n (ml_e))))))))))))))))) (ml_q (ml_c rfl (ml_n (ml_n (ml_n (ml_n (ml_n (ml_n (ml_n (ml_c rfl (ml_c rfl (ml_c rfl (ml_c rfl (ml_c rfl (ml_c rfl (ml_c rfl (ml_c rfl (ml_e))))))))))))))))) (ml_q (ml_c rfl (ml_c rfl (ml_c rfl (ml_n (ml_c rfl (ml_c rfl (ml_n (ml_n (ml_c rfl (ml_n (ml_n (ml_n (ml_n (ml_n (ml_n (ml_n (ml_e))))))))))))))))) (ml_q (ml_n (ml_c rfl (ml_c rfl (ml_c rfl (ml_c rfl (ml_n (ml_n (ml_n (ml_n (ml_c rfl (ml_c rfl (ml_c rfl (ml_c rfl (ml_c rfl (ml_c rfl (ml_c rfl (ml_e))))))))))))))))) (ml_q (ml_c rfl (ml_c rfl (ml_c rfl (ml_c rfl (ml_c rfl (ml_n (ml_n (ml_c rfl (ml_n (ml_n (ml_n (ml_n (ml_c rfl (ml_n (ml_n (ml_n (ml_e))))))))))))))))) (ml_q (ml_n (ml_c rfl (ml_c rfl (ml_n (ml_c rfl (ml_c rfl (ml_c rfl (ml_c rfl (ml_c rfl (ml_n (ml_n (ml_c rfl (ml_n (ml_c rfl (ml_c rfl (ml_c rfl (ml_e))))))))))))))))) (ml_q (ml_n (ml_n (ml_n (ml_n (ml_n (ml_n (ml_n (ml_n (ml_n (ml_n (ml_n (ml_n (ml_n (ml_n (ml_n (ml_n (ml_e))))))))))))))))) (ml_z)))))))))))))
theorem ml_ok {pc : Nat} {k : ml_F} {i : Instr} (h : c.data.toList.drop pc = a :: t) (hk : ml_k a.toNat = some k) (hr : ml_r k t = some (i, n)) : decode c pc = .ok (i, n) := by
  obtain ⟨f, f1, f2⟩ := ml_ex pc
  obtain ⟨h1, h2⟩ := ml_u1 h
  obtain ⟨h3, h4⟩ := ml_rs hr h2
  have hf : f a.toNat = ml_b k := by
    have := ml_Qg ml_tab 0 (a.toNat / 16) (a.toNat % 16) f2 hk
    rw [show 0 + 16 * (a.toNat / 16) + a.toNat % 16 = a.toNat by omega] at this
    exact this
  have hi : Jvm.ClassFile.Decoder.instr pc c pc = .ok (i, pc + 1 + (n - 1)) := by
    rw [f1, ml_bd h1, hf]
    exact h3
  show (do let (j, s) ← Jvm.ClassFile.Decoder.instr pc c pc; pure (j, s - pc) : Except Jvm.ClassFile.DecodeError (Instr × Nat)) = _
  rw [hi]
  show Except.ok (i, pc + 1 + (n - 1) - pc) = _
  rw [show pc + 1 + (n - 1) - pc = n by omega]
def ml_1 (c : ByteArray) (p : Nat) (b : UInt8) (l : List UInt8) (x : Instr × Nat) : Bool := match ml_k b.toNat with
  | some k => decide (ml_r k l = some x)
  | none => decide (decode c p = .ok x)
theorem ml_1s {x : Instr × Nat} (h : ml_1 c p a t x = true) (hp : c.data.toList.drop p = a :: t) : decode c p = .ok x := by
  unfold ml_1 at h
  split at h
  · next k hk => exact ml_ok hp hk (of_decide_eq_true h)
  · exact of_decide_eq_true h
def ml_t (c : ByteArray) : List UInt8 → Nat → List (Nat × Instr × Nat) → Bool
  | _, _, [] => true
  | [], _, _ :: _ => false
  | b :: l, p, q :: T => bif Nat.beq p q.1 then (bif ml_1 c p b l q.2 then ml_t c l (p + 1) T else false) else ml_t c l (p + 1) (q :: T)
theorem ml_ts : ∀ (l : List UInt8) (p : Nat) (T : List (Nat × Instr × Nat)), ml_t c l p T = true → c.data.toList.drop p = l → ∀ q ∈ T, decode c q.1 = .ok q.2
  | l, p, [], _, _ => fun q hq => by cases hq
  | [], p, x :: T, h, _ => by simp [ml_t] at h
  | b :: l, p, x :: T, h, hl => by
    have hl' : c.data.toList.drop (p + 1) = l := (ml_u1 hl).2
    unfold ml_t at h
    cases hb : Nat.beq p x.1 <;> rw [hb] at h
    · exact ml_ts l (p + 1) (x :: T) h hl'
    · have hpx := Nat.eq_of_beq_eq_true hb
      simp only [cond_true] at h
      cases h1 : ml_1 c p b l x.2 <;> rw [h1] at h
      · cases h
      · intro q hq
        rcases List.mem_cons.mp hq with e | e
        · rw [e, ← hpx]
          exact ml_1s h1 hl
        · exact ml_ts l (p + 1) T h hl' q e
end ml
/-! every method's table is good -/
def mm_tok (r : mm_R) : Bool := ml_t r.1.2.1 r.1.2.1.data.toList 0 r.2.2.1.flatten
theorem mm_lk_s {l : List (Nat × Instr × Nat)} {pc : Nat} {x : Instr × Nat} (h : mm_lk l pc = some x) : (pc, x) ∈ l := by
  induction l with
  | nil => cases h
  | cons q t ih =>
    unfold mm_lk at h
    cases hq : Nat.beq q.1 pc <;> rw [hq] at h
    · exact List.mem_cons_of_mem _ (ih h)
    · have h1 := Nat.eq_of_beq_eq_true hq
      cases h
      subst h1
      exact List.mem_cons_self
theorem mm_tok_s {r : mm_R} (h : mm_tok r = true) : ∀ pc i n, mm_at r pc = some (i, n) → decode r.1.2.1 pc = .ok (i, n) := by
  intro pc i n ha
  unfold mm_at at ha
  split at ha
  · next l hl =>
    exact ml_ts _ 0 _ h List.drop_zero (pc, i, n) (List.mem_flatten.mpr ⟨l, List.mem_of_getElem? hl, mm_lk_s ha⟩)
  · cases ha
theorem mm_good_of {r : mm_R} (h1 : mm_tok r = true) (h2 : r.2.2.2.all (mm_ek r) = true) : mm_Good r := ⟨mm_tok_s h1, fun e he => List.all_eq_true.mp h2 e he⟩
def mm_mw (r : mm_R) : Bool := plainName r.1.1.cls && decide (r.1.1.cls ≠ "java/lang/invoke/MethodHandle") && decide (r.1.1.cls ≠ "java/lang/invoke/VarHandle") && decide ((parseMethodDescriptor r.1.1.desc).map (fun d => d.parameters.length) = some r.1.2.2.2.2.1) && Nat.ble r.1.2.2.1 16 && decide (r.2.1 = r.1.1.cls)
def mm_mv0 (r : mm_R) : Bool := bif r.1.2.2.2.2.2.1 then mm_has r.1.2.2.2.2.2.2.1 [.static r.1.1, .initialized r.1.1.cls] else (bif decide (r.1.1.name = "<init>") then mm_has r.1.2.2.2.2.2.2.1 [.instanceMethod r.1.1, .initialized r.1.1.cls] else mm_has r.1.2.2.2.2.2.2.1 [.instanceMethod r.1.1, .initialized r.1.1.cls, .selects r.1.1.cls r.1.1 r.1.1])
theorem mm_goodC_of {r : mm_R} (hg : mm_Good r) (h3 : mm_mw r = true) (h4 : mm_mv0 r = true) (h5 : mm_tb r.1.2.2.2.2.2.2.2.1 r.1.2.2.2.2.2.2.2.2 = some (Cond.code r.1.1 r.1.2.1 r.1.2.2.1 r.1.2.2.2.1)) (h6 : goodWord (Cond.code r.1.1 r.1.2.1 r.1.2.2.1 r.1.2.2.2.1) = true) : mm_GoodC r := by
  unfold mm_mw at h3
  simp only [Bool.and_eq_true, decide_eq_true_eq] at h3
  obtain ⟨⟨⟨⟨⟨a1, a2⟩, a3⟩, a4⟩, a5⟩, a6⟩ := h3
  refine ⟨hg, a1, ⟨a2, a3, a4⟩, Nat.le_of_ble_eq_true a5, a6, mm_W_in (mm_tb_in h5) h6, ?_⟩
  unfold mm_mv0 at h4
  cases hs : r.1.2.2.2.2.2.1 <;> rw [hs] at h4
  · simp only [cond_false] at h4
    cases hi : decide (r.1.1.name = "<init>") <;> rw [hi] at h4
    · have hw := mm_W_has h4 (by simp [goodWord, Cond.onTables, Cond.keeps, Cond.steady])
      exact ⟨hw _ (by simp), fun h => (by cases h), fun _ => ⟨hw _ (by simp), fun _ => hw _ (by simp)⟩⟩
    · have hw := mm_W_has h4 (by simp [goodWord, Cond.onTables, Cond.keeps, Cond.steady])
      exact ⟨hw _ (by simp), fun h => (by cases h), fun _ => ⟨hw _ (by simp), fun hn => absurd (of_decide_eq_true hi) hn⟩⟩
  · have hw := mm_W_has h4 (by simp [goodWord, Cond.onTables, Cond.keeps, Cond.steady])
    exact ⟨hw _ (by simp), fun _ => hw _ (by simp), fun h => (by cases h)⟩
end mg_14good
