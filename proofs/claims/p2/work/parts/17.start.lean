/-! THE CLAIM OUT OF ONE WALK OF THE LAW'S BODY. Your part is whole_start (and what it stands on); all else here is the same for every law, but numbers. -/
def R_law : String := "RainOrganLaw"
def lw_P (b : Addr) (xs : List Int32) (args : Array Value) (s : State) : Prop := args = #[.ref b] ∧ s.IntsAt b xs ∧ xs.length ≤ 2560 ∧ (Jvm.Cond.and given_1 narrow_1).before args s = true
def lw_Q (_ : Array Value) (s : State) (o : Outcome) (t : State) : Prop := o = .returned (some (.int 1)) ∧ Framed s o t [] 600000 7302250
def lw_Z (below : List Frame) (a : Array Value) (s : State) : State → Prop := fun t => ∃ o, t.status = .running ∧ Ended t below o ∧ lw_Q a s o t
/-- the law's own end, with 1 on the stack, nothing written that was there before, its room as the claim has it -/
theorem lw_ret {p : Program} {l : Launch} {e : Env} {s : State} {m : MethodId} {below : List Frame} {meth : Method} {c : Code} {b : Nat} (hx : p.tables.exec = Jvm.exec) (hb : c.code = code) (hr : meth.sig.returnType = ret) (hlocks : meth.locks = false) {pc : Nat} {H : Heap} {ls : Array Slot} (hdg : decode code pc = .ok (.ireturn, 1)) : W p l e room_1 s m #[Value.ref b] below meth c H [] 600000 7302250 (lw_Z below #[Value.ref b] s) (F0 m pc ls [.int 1]) := by
  intro T hT X
  obtain ⟨fs, hret, hrun, hended, hW, hframe⟩ := X.leave (v := some (.int 1)) (hlocks := hlocks) (fun h => by rw [hr] at h; cases h)
  have hmeth' : T.vm.method? m = some meth := X.method'
  refine ⟨T.setFrames fs, ?_, .returned (some (.int 1)), hrun, hended, rfl, ⟨_, rfl⟩, hW, hframe⟩
  jvm_step X.here [X.here.top, hx, hb, hdg, hmeth', hr, ret, narrow_b1]
  (try refine ⟨rfl, ?_⟩); (try refine ⟨rfl, ?_⟩)
  first | (intro acts; rw [hret _ acts rfl rfl rfl]) | rw [hret _ _ rfl rfl rfl]
  exact Steps.refl _
/-- what holds at the law's entry: the machine, the code, the tables' words (any of lw_tbl by 'hts w (by decide +kernel)'), the script of L ints xs at the cell b, what the Statement gives of the start (any of its parts by flat_of_before) -/
def lw_At (p : Program) (s : State) (m : MethodId) (meth : Method) (c : Code) (b L : Nat) (xs : Nat → Int32) : Prop :=
  p.tables.exec = Jvm.exec ∧ c.code = code ∧ meth.sig.returnType = ret ∧ c.maxLocals = 4 ∧ s.vm.findClass R_law = some m.cls ∧ (∀ w ∈ lw_tbl, w.before #[Value.ref b] s = true) ∧ va_X b L xs s s.heap ∧ b < s.heap.size ∧ meth.locks = false ∧ (Jvm.Cond.and given_1 narrow_1).before #[Value.ref b] s = true
theorem mm_ls0 : mm_has [(3, 13)] [.laysStatic "java/lang/String" "COMPACT_STRINGS" "Z"] = true := by decide +kernel
theorem mm_ls1 : mm_has [(3, 29)] [.laysStatic "jdk/internal/util/Preconditions" "SIOOBE_FORMATTER" "Ljava/util/function/BiFunction;"] = true := by decide +kernel
theorem mm_ls2 : mm_has [(1, 13)] [.initialized "java/lang/String"] = true := by decide +kernel
theorem mm_ls3 : mm_has [(1, 15)] [.initialized "jdk/internal/util/Preconditions"] = true := by decide +kernel
theorem mm_srf : mm_has [(2, 239), (3, 68), (3, 77), (3, 78), (3, 79), (3, 92), (3, 93), (3, 94), (3, 95), (3, 96), (3, 97), (3, 101), (3, 114), (3, 119), (3, 124)] (mm_tl.map (fun q => .stringRef RX5 q.1 q.2)) = true := by decide +kernel
def mm_L0 : mm_L := mm_en mm_rL [.retAddr 0]
/-- what is wanted of the mini-machine: on every script the law answers 1, within its room -/
def mm_Want (N : Nat) : Prop := ∀ xs : List Int32, xs.length ≤ N → ∃ (f : Nat) (h' : mm_H), mm_x (some xs) f 13 mm_rL 0 mm_L0 [] [] = some (some (.int 1), h') ∧ h'.length ≤ 600000 ∧ mm_sz h' ≤ 7302250
theorem mm_arrC {s : State} {args : Array Value} {ty : FieldType} (h : (Cond.arrayClass ty).before args s = true) (hno : ∀ C, ty ≠ .object C) : ∃ c : ClassId, ArrOfT s c ty ∧ va_RA s c ty := by
  obtain ⟨c, k, comp, f1, f2, f3⟩ := Cond.arrayClass_spec h
  refine ⟨c, fun N z => ⟨(fun k h => by cases h), k, f2, comp, f3⟩, ?_⟩
  unfold va_RA
  split
  · next C => exact absurd rfl (hno C)
  · exact f1
theorem mm_arrO {s : State} {args : Array Value} {C : String} (h : (Cond.arrayOver (.object C)).before args s = true) : ∃ c : ClassId, ArrOfT s c (.object C) ∧ va_RA s c (.object C) := by
  obtain ⟨comp, c, k, h1, h2, h3, h4, h5⟩ := Cond.arrayOver_spec h
  exact ⟨c, fun N z => ⟨(fun k h => by cases h), k, h3, comp, h4⟩, k, comp, h3, h4, h1, h5⟩
theorem mm_arrA {s : State} {args : Array Value} {t : FieldType} (h : (Cond.arrayOver (.array t)).before args s = true) : ∃ c : ClassId, ArrOfT s c (.array t) ∧ va_RA s c (.array t) := by
  obtain ⟨comp, c, k, h1, h2, h3, h4, h5⟩ := arrayOverA_spec h
  exact ⟨c, fun N z => ⟨(fun k h => by cases h), k, h3, comp, h4⟩, h5⟩
def mm_FL : List Cond := flatC (Jvm.Cond.and given_1 narrow_1)
def mm_tm (i : Nat) : Term := .string RX5 (mm_tl.getD i (0, "")).1
def mm_len : List Nat := mm_txt.map List.length
set_option maxRecDepth 20000 in
theorem mm_n1 : (List.range 15).all (fun i => decide (Cond.exactly (mm_tm i) "java/lang/String" ∈ mm_FL)) = true := by decide +kernel
set_option maxRecDepth 20000 in
theorem mm_n2 : (List.range 15).all (fun i => decide (Cond.eq (.field (mm_tm i) "java/lang/String" "coder" "B") (.int 0) ∈ mm_FL)) = true := by decide +kernel
set_option maxRecDepth 20000 in
theorem mm_n3 : (List.range 15).all (fun i => decide (Cond.arrayOf (.field (mm_tm i) "java/lang/String" "value" "[B") .byte ∈ mm_FL)) = true := by decide +kernel
set_option maxRecDepth 20000 in
theorem mm_n4 : (List.range 15).all (fun i => decide (Cond.eq (.length (.field (mm_tm i) "java/lang/String" "value" "[B")) (.int (Int32.ofNat (mm_len.getD i 0))) ∈ mm_FL)) = true := by decide +kernel
set_option maxRecDepth 20000 in
theorem mm_n5 : (List.range 15).all (fun i => (List.range (mm_len.getD i 0)).all (fun j => decide (Cond.eq (.elem (.field (mm_tm i) "java/lang/String" "value" "[B") (.int (Int32.ofNat j))) (.int ((mm_txt.getD i []).getD j 0)) ∈ mm_FL))) = true := by decide +kernel
def mm_ne (w : Cond) : Option (Nat × Nat) := match w with
  | .not (.eq (.string C a) (.string C' b)) => if C = RX5 ∧ C' = RX5 then some (a, b) else none
  | _ => none
theorem mm_ne_s {w : Cond} {a b : Nat} (h : mm_ne w = some (a, b)) : w = .not (.eq (.string RX5 a) (.string RX5 b)) := by
  unfold mm_ne at h
  split at h
  · split at h
    · next hc => cases h; rw [hc.1, hc.2]
    · cases h
  · cases h
def mm_nes : List (Nat × Nat) := [(93, 102), (93, 161), (102, 161), (93, 107), (102, 107), (161, 107), (93, 163), (102, 163), (161, 163), (107, 163), (93, 189), (102, 189), (161, 189), (107, 189), (163, 189), (93, 191), (102, 191), (161, 191), (107, 191), (163, 191), (189, 191), (93, 193), (102, 193), (161, 193), (107, 193), (163, 193), (189, 193), (191, 193), (93, 195), (102, 195), (161, 195), (107, 195), (163, 195), (189, 195), (191, 195), (193, 195), (93, 197), (102, 197), (161, 197), (107, 197), (163, 197), (189, 197), (191, 197), (193, 197), (195, 197), (93, 199), (102, 199), (161, 199), (107, 199), (163, 199), (189, 199), (191, 199), (193, 199), (195, 199), (197, 199), (93, 112), (102, 112), (161, 112), (107, 112), (163, 112), (189, 112), (191, 112), (193, 112), (195, 112), (197, 112), (199, 112), (93, 117), (102, 117), (161, 117), (107, 117), (163, 117), (189, 117), (191, 117), (193, 117), (195, 117), (197, 117), (199, 117), (112, 117), (93, 122), (102, 122), (161, 122), (107, 122), (163, 122), (189, 122), (191, 122), (193, 122), (195, 122), (197, 122), (199, 122), (112, 122), (117, 122), (93, 127), (102, 127), (161, 127), (107, 127), (163, 127), (189, 127), (191, 127), (193, 127), (195, 127), (197, 127), (199, 127), (112, 127), (117, 127), (122, 127)]
set_option maxRecDepth 20000 in
theorem mm_nes_e : mm_FL.filterMap mm_ne = mm_nes := by decide +kernel
theorem mm_n7 : (List.range 15).all (fun i => (List.range 15).all (fun j => Nat.beq i j || mm_nes.any (fun q => Nat.beq q.1 (mm_tl.getD i (0, "")).1 && Nat.beq q.2 (mm_tl.getD j (0, "")).1) || mm_nes.any (fun q => Nat.beq q.1 (mm_tl.getD j (0, "")).1 && Nat.beq q.2 (mm_tl.getD i (0, "")).1))) = true := by decide +kernel
theorem mm_ne_m {a b : Nat} (h : mm_nes.any (fun q => Nat.beq q.1 a && Nat.beq q.2 b) = true) : Cond.not (Cond.eq (.string RX5 a) (.string RX5 b)) ∈ mm_FL := by
  rw [List.any_eq_true] at h
  obtain ⟨⟨a', b'⟩, hq, hab⟩ := h
  rw [Bool.and_eq_true] at hab
  have e1 := Nat.eq_of_beq_eq_true hab.1
  have e2 := Nat.eq_of_beq_eq_true hab.2
  simp only at e1 e2
  subst e1 e2
  rw [← mm_nes_e] at hq
  obtain ⟨w, hw, he⟩ := List.mem_filterMap.mp hq
  rw [← mm_ne_s he]
  exact hw
theorem mm_n0 : ∀ i, i < 15 → mm_len.getD i 0 < 2 ^ 31 := by decide +kernel
theorem mm_nl : ∀ i, i < 15 → (mm_txt.getD i []).length = mm_len.getD i 0 := by decide +kernel
theorem mm_rg {f : Nat → Bool} {n i : Nat} (h : (List.range n).all f = true) (hi : i < n) : f i = true := List.all_eq_true.mp h i (List.mem_range.mpr hi)
theorem mm_start {p : Program} {e : Env} {s : State} {m : MethodId} {below : List Frame} {meth : Method} {c : Code} (l : Launch) (hflags : l.flags = flags0) (hw : mm_Want 2560) {b L : Nat} {xs : Nat → Int32} (hL : L ≤ 2560) (C0 : lw_At p s m meth c b L xs) : W p l e room_1 s m #[Value.ref b] below meth c s.heap [] 0 0 (lw_Z below #[Value.ref b] s) (entryFrame m ([Value.ref b] : List Value).toArray 4) := by
  obtain ⟨hx, hb, hr, hml, hown, hts, hX, hbl, hlocks, hgv⟩ := id C0
  have k0 := u_known (C := RX0) (T := TX0) (N := 8) (n := 8) hts inX0 (hts _ (mm_has_in mm_in0 _ List.mem_cons_self))
  have k1 := u_known (C := RX1) (T := TX1) (N := 4) (n := 4) hts inX1 (hts _ (mm_has_in mm_in1 _ List.mem_cons_self))
  have k2 := u_known (C := RX2) (T := TX2) (N := 12) (n := 12) hts inX2 (hts _ (mm_has_in mm_in2 _ List.mem_cons_self))
  have k3 := u_known (C := RX3) (T := TX3) (N := 3) (n := 3) hts inX3 (hts _ (mm_has_in mm_in3 _ List.mem_cons_self))
  have k4 := u_known (C := RX4) (T := TX4) (N := 16) (n := 16) hts inX4 (hts _ (mm_has_in mm_in4 _ List.mem_cons_self))
  have k5 := u_known (C := RX5) (T := TX5) (N := 10) (n := 10) hts inX5 (hts _ (mm_has_in mm_in5 _ List.mem_cons_self))
  have k6 := u_known (C := RX6) (T := TX6) (N := 7) (n := 7) hts inX6 (hts _ (mm_has_in mm_in6 _ List.mem_cons_self))
  have k7 := u_known (C := RX7) (T := TX7) (N := 3) (n := 3) hts inX7 (hts _ (mm_has_in mm_in7 _ List.mem_cons_self))
  have k8 := u_known (C := RX8) (T := TX8) (N := 2) (n := 2) hts inX8 (hts _ (mm_has_in mm_in8 _ List.mem_cons_self))
  have k9 := u_known (C := RX9) (T := TX9) (N := 11) (n := 11) hts inX9 (hts _ (mm_has_in mm_in9 _ List.mem_cons_self))
  have k10 := u_known (C := RX10) (T := TX10) (N := 46) (n := 46) hts inX10 (hts _ (mm_has_in mm_in10 _ List.mem_cons_self))
  have hall : ∀ (k : Nat) (q : vw_C), vwCl[k]? = some q → ∃ (cC : ClassId) (iS : Nat → Nat), u_Kn s q.1 q.2.1 q.2.2 cC iS := by
    intro k q hq
    match k, hq with
    | 0, hq => cases hq; exact k0
    | 1, hq => cases hq; exact k1
    | 2, hq => cases hq; exact k2
    | 3, hq => cases hq; exact k3
    | 4, hq => cases hq; exact k4
    | 5, hq => cases hq; exact k5
    | 6, hq => cases hq; exact k6
    | 7, hq => cases hq; exact k7
    | 8, hq => cases hq; exact k8
    | 9, hq => cases hq; exact k9
    | 10, hq => cases hq; exact k10
    | k + 11, hq => simp [vwCl] at hq
  obtain ⟨D, hKc⟩ : ∃ D : va_G, ∀ (k : Nat) (q : vw_C), vwCl[k]? = some q → u_Kn s q.1 q.2.1 q.2.2 (D.1 k) (D.2 k) := by
    have h2 : ∀ k : Nat, ∃ d : ClassId × (Nat → Nat), ∀ q : vw_C, vwCl[k]? = some q → u_Kn s q.1 q.2.1 q.2.2 d.1 d.2 := by
      intro k
      cases hk : vwCl[k]? with
      | none => exact ⟨(0, fun _ => 0), fun q hq => by cases hq⟩
      | some q =>
        obtain ⟨cC, iS, h⟩ := hall k q hk
        exact ⟨(cC, iS), fun q' hq => by cases hq; exact h⟩
    exact ⟨(fun k => (Classical.choose (h2 k)).1, fun k => (Classical.choose (h2 k)).2), fun k q hq => Classical.choose_spec (h2 k) q hq⟩
  obtain ⟨a0, ha0⟩ := mm_arrC (hts (.arrayClass .int) (mm_has_in mm_ac0 _ List.mem_cons_self)) (fun C h => by cases h)
  obtain ⟨a1, ha1⟩ := mm_arrC (hts (.arrayClass .long) (mm_has_in mm_ac1 _ List.mem_cons_self)) (fun C h => by cases h)
  obtain ⟨a2, ha2⟩ := mm_arrC (hts (.arrayClass .byte) (mm_has_in mm_ac2 _ List.mem_cons_self)) (fun C h => by cases h)
  obtain ⟨a3, ha3⟩ := mm_arrC (hts (.arrayClass .boolean) (mm_has_in mm_ac3 _ List.mem_cons_self)) (fun C h => by cases h)
  obtain ⟨a4, ha4⟩ := mm_arrA (hts (.arrayOver (.array .int)) (mm_has_in mm_ao2 _ List.mem_cons_self))
  obtain ⟨a5, ha5⟩ := mm_arrO (hts (.arrayOver (.object "RainOrgan$Image")) (mm_has_in mm_ao0 _ List.mem_cons_self))
  obtain ⟨a6, ha6⟩ := mm_arrO (hts (.arrayOver (.object "RainOrgan$Sheet")) (mm_has_in mm_ao1 _ List.mem_cons_self))
  have hs := flat_of_before _ hgv
  have hA : ∀ a : Nat, a < s.heap.size → ¬ (fun x => s.heap.size ≤ x) a := fun a h => Nat.not_le.mpr h
  obtain ⟨adK, adV, hvS, hvE⟩ := vk_Sof (args := #[Value.ref b]) (s := s) (N := 15) (tm := mm_tm) (len := mm_len) (byt := mm_txt) (A := fun x => s.heap.size ≤ x) mm_n0 (fun i hi => hs _ (of_decide_eq_true (mm_rg mm_n1 hi))) (fun i hi => hs _ (of_decide_eq_true (mm_rg mm_n2 hi))) (fun i hi => hs _ (of_decide_eq_true (mm_rg mm_n3 hi))) (fun i hi => hs _ (of_decide_eq_true (mm_rg mm_n4 hi))) (fun i hi j hj => hs _ (of_decide_eq_true (mm_rg (mm_rg mm_n5 hi) hj)))
    (fun i j hi hj hij => by
      have h6 := mm_rg (mm_rg mm_n7 hi) hj
      rw [Bool.or_eq_true, Bool.or_eq_true] at h6
      rcases h6 with (h6 | h6) | h6
      · exact absurd (Nat.eq_of_beq_eq_true h6) hij
      · exact Or.inl (hs _ (mm_ne_m h6))
      · exact Or.inr (hs _ (mm_ne_m h6))) hA
  have hz1 : va_Z "java/lang/String" "COMPACT_STRINGS" "Z" (.int 1) (fun x => s.heap.size ≤ x) s s.heap := va_Zof (hts _ (mm_has_in mm_ls0 _ List.mem_cons_self)) (hts _ (mm_has_in mm_ls2 _ List.mem_cons_self)) (va_eqi (hs _ (by decide +kernel))) hA
  obtain ⟨fx, hz2⟩ : ∃ fx : Option Nat, va_Z "jdk/internal/util/Preconditions" "SIOOBE_FORMATTER" "Ljava/util/function/BiFunction;" (va_rf fx) (fun x => s.heap.size ≤ x) s s.heap := by
    rcases va_Zqof (hts _ (mm_has_in mm_ls1 _ List.mem_cons_self)) (hts _ (mm_has_in mm_ls3 _ List.mem_cons_self)) (hs _ (by decide +kernel)) hA with h | ⟨t, h⟩
    · exact ⟨none, h⟩
    · exact ⟨some t, h⟩
  obtain ⟨ex, hex⟩ : ∃ ex : Nat → Nat, ex = fun k => if k = 0 then b else if k < 100 then adK (k - 1) else adV (k - 100) := ⟨_, rfl⟩
  have ex0 : ex 0 = b := by rw [hex]; rfl
  have exK : ∀ i, i < 15 → ex (1 + i) = adK i := fun i hi => by rw [hex]; simp only; rw [if_neg (by omega), if_pos (by omega), show 1 + i - 1 = i by omega]
  have exV : ∀ i, ex (100 + i) = adV i := fun i => by rw [hex]; simp only; rw [if_neg (by omega), if_neg (by omega), show 100 + i - 100 = i by omega]
  have hTX : mm_TX s.heap.size (ex, fx) s.heap s := by
    refine ⟨fun i q l0 hq hl0 => ?_, hz1, hz2⟩
    have hi : i < 15 := by have := mm_lt hq; simpa [mm_tl] using this
    have hqi : mm_tl.getD i (0, "") = q := by rw [List.getD_eq_getElem?_getD, hq]; rfl
    have hli : mm_txt.getD i [] = l0 := by rw [List.getD_eq_getElem?_getD, hl0]; rfl
    obtain ⟨g1, g2, g3, g4⟩ := hvS.1 i hi
    have hnl := mm_nl i hi
    rw [hli] at g4 hnl
    rw [← hnl] at g4
    show va_O _ (ex (1 + i)) _ _ _ ∧ va_OF _ _ _ _ (ex (1 + i)) _ _ _ ∧ va_OF _ _ _ (.ref (ex (100 + i))) (ex (1 + i)) _ _ _ ∧ va_T _ (ex (100 + i)) _ _ _ _ _ ∧ vk_R _ _ _ (ex (1 + i)) _
    rw [exK i hi, exV i]
    refine ⟨g1, g2, g3, g4, vk_R.of (A := #[Value.ref b]) (hts _ (mm_has_in mm_srf _ (List.mem_map.mpr ⟨q, List.mem_of_getElem? hq, rfl⟩))) ?_⟩
    have := hvE i hi
    unfold mm_tm at this
    rw [hqi] at this
    exact this
  let dA : Nat → ClassId := fun k => [a0, a1, a2, a3, a4, a5, a6].getD k 0
  have hGI : mm_GI D dA s.heap.size (ex, fx) s.heap (some ((List.range L).map xs)) s := by
    refine ⟨⟨hKc, fun k q hq => ?_⟩, fun w hw => ?_, ⟨hts (.arrayOver (.object "RainOrgan$Image")) (mm_has_in mm_ao0 _ List.mem_cons_self), hts (.arrayOver (.object "RainOrgan$Sheet")) (mm_has_in mm_ao1 _ List.mem_cons_self), hts (.arrayOver (.array .int)) (mm_has_in mm_ao2 _ List.mem_cons_self), hTX⟩, fun ys hy => ?_, rfl⟩
    · match k, hq with
      | 0, hq => cases hq; exact ha0
      | 1, hq => cases hq; exact ha1
      | 2, hq => cases hq; exact ha2
      | 3, hq => cases hq; exact ha3
      | 4, hq => cases hq; exact ha4
      | 5, hq => cases hq; exact ha5
      | 6, hq => cases hq; exact ha6
      | k + 7, hq => simp [mm_tys] at hq
    · obtain ⟨x1, x2, x3, x4, rfl⟩ := mm_nest_s hw
      exact va_Nw.of rfl (hts _ (mm_nest_in _ hw))
    · cases hy
      show va_X (ex 0) _ _ _ _ ∧ ex 0 < _
      rw [ex0]
      refine ⟨?_, hbl⟩
      obtain ⟨scr, g1, g2, g3, g4, g5⟩ := hX
      refine ⟨scr, g1, g2, g3, by simp [g4], fun j hj => ?_⟩
      have hj' : j < L := by simpa using hj
      rw [g5 j hj']
      simp [List.getD_eq_getElem?_getD, hj']
  have C : mm_Ctx D dA s.heap.size (ex, fx) s.heap (some ((List.range L).map xs)) mm_rL p s m #[Value.ref b] meth c := ⟨hx, hb, hml, hr, hlocks, fun h => absurd h (by decide +kernel), hown, fun w hw => hts w (List.mem_filter.mp hw).1, hGI⟩
  obtain ⟨f, h', hrun, hc1, hc2⟩ := hw ((List.range L).map xs) (by simpa using hL)
  have hOK := mm_run (l := l) (D := D) (dA := dA) (B := s.heap.size) (b0 := (ex, fx)) (H0 := s.heap) mm_all f 13 mm_rL 0 mm_L0 [] [] _ h' md_law hrun
  obtain ⟨hLR, hlen⟩ := mm_ent_LR s.heap.size (ex, fx) mm_rL [.retAddr 0] (by decide +kernel)
  rw [lg_entry_eq]
  have e0 : ([Value.retAddr 0].map (mm_mv s.heap.size (ex, fx))) = [Value.ref b] := by show [Value.ref (ex 0)] = _; rw [ex0]
  rw [e0] at hLR
  refine hOK p e room_1 s m #[Value.ref b] below meth c _ 0 0 s.heap [] 0 0 _ C (by decide) (by decide) ⟨⟨rfl, fun k x hk => by simp at hk, fun q _ => rfl⟩, fun q hq => (by cases hq), rfl, rfl⟩ hLR hlen (by show _ ≤ 0 + 600000; omega) (by show _ ≤ 0 + 7302250; omega) ?_
  intro H' locs' cells' slots' real' pc' i stk hat hrt S
  have hd := md_law.1 _ _ _ hat
  refine va_forget S.2.1 (W.widen (k := 600000) (n := 7302250) (by have := S.2.2.1; omega) (by have := S.2.2.2; omega) ?_)
  unfold mm_rt at hrt
  split at hrt
  · next he => cases he
  · next x he =>
    obtain ⟨h1, h2⟩ := mm_setB hrt
    cases h2
    exact lw_ret hx hb hr hlocks hd
  · next he => cases he
  · next he => cases he
  · next he => cases he
  · cases hrt
