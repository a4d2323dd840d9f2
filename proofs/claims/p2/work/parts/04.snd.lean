/-! the mini-machine's steps are the machine's: what changes no cell -/
/-- the things outside the heap: where they lie; the static of which nothing is known -/
abbrev mm_X : Type := (Nat → Nat) × Option Nat
def mm_mv (B : Nat) (b0 : mm_X) : Value → Value
  | .ref a => .ref (B + a)
  | .retAddr k => .ref (b0.1 k)
  | .int x => .int x
  | .long x => .long x
  | .float _ => va_rf b0.2
  | .double x => .double x
  | .null => .null
theorem mm_mv_cat (B : Nat) (b0 : mm_X) (v : Value) : (mm_mv B b0 v).category = v.category := by
  cases v <;> first | rfl | (show (va_rf b0.2).category = 1; cases b0.2 <;> rfl)
theorem mm_c1_cat {v : Value} (h : mm_c1 v = true) : v.category = 1 := by cases v <;> first | rfl | cases h
theorem mm_c1_cat' {v : Value} (h : mm_c1 v = false) : v.category = 2 := by cases v <;> first | rfl | cases h
def mm_LR (B : Nat) (b0 : mm_X) (real : Array Slot) (ls : mm_L) : Prop := real.size = ls.length ∧ lv_wf real ∧ ∀ (i : Nat) (v : Value), ls[i]? = some (some v) → real[i]? = some (.val (mm_mv B b0 v))
def mm_lvl (B : Nat) (b0 : mm_X) (ls : mm_L) : List (Nat × Value) := (List.range ls.length).filterMap (fun i => match ls[i]? with
  | some (some v) => some (i, mm_mv B b0 v)
  | _ => none)
theorem mm_lvl_mem {B : Nat} {b0 : mm_X} {ls : mm_L} {q : Nat × Value} (h : q ∈ mm_lvl B b0 ls) : ∃ v, ls[q.1]? = some (some v) ∧ q.2 = mm_mv B b0 v := by
  obtain ⟨i, -, hi⟩ := List.mem_filterMap.mp h
  split at hi
  next v hv => cases hi; exact ⟨v, hv, rfl⟩
  next => cases hi
theorem mm_lvl_in {B : Nat} {b0 : mm_X} {ls : mm_L} {i : Nat} {v : Value} (h : ls[i]? = some (some v)) : (i, mm_mv B b0 v) ∈ mm_lvl B b0 ls := by
  refine List.mem_filterMap.mpr ⟨i, List.mem_range.mpr (List.getElem?_eq_some_iff.mp h).1, ?_⟩
  simp [h]
theorem mm_LR.has {B : Nat} {b0 : mm_X} {real : Array Slot} {ls : mm_L} (h : mm_LR B b0 real ls) : lv_has real ls.length (mm_lvl B b0 ls) := by
  refine ⟨h.1, h.2.1, fun q hq => ?_⟩
  obtain ⟨v, h1, h2⟩ := mm_lvl_mem hq
  rw [h2]
  exact h.2.2 _ _ h1
theorem mm_ld_s {ls : mm_L} {k : Nat} {v : Value} (hk : mm_ld ls k = some v) : ls[k]? = some (some v) := by
  unfold mm_ld at hk
  split at hk
  next w hw => cases hk; exact hw
  next => cases hk
theorem mm_LR.get {B : Nat} {b0 : mm_X} {real : Array Slot} {ls : mm_L} (h : mm_LR B b0 real ls) {k : Nat} {v : Value} (hk : mm_ld ls k = some v) : real[k]? = some (.val (mm_mv B b0 v)) := by
  unfold mm_ld at hk
  split at hk
  next w hw => cases hk; exact h.2.2 _ _ hw
  next => cases hk
theorem mm_sv_spec {ls ls' : mm_L} {k : Nat} {v : Value} (h : mm_sv ls k v = some ls') : k < ls.length ∧ mm_lg ls k = true ∧ ls' = ls.set k (some v) := by
  unfold mm_sv at h
  cases h1 : Nat.blt k ls.length <;> cases h2 : mm_lg ls k <;> simp [h1, h2] at h
  exact ⟨Nat.le_of_ble_eq_true h1, rfl, h.symm⟩
/-- behind a store of a value of one slot -/
theorem mm_LR.set {B : Nat} {b0 : mm_X} {real real' : Array Slot} {ls : mm_L} {k : Nat} {v : Value} (h : mm_LR B b0 real ls) (hk : k < ls.length) (hlg : mm_lg ls k = true)
    (hl : lv_has real' ls.length ((k, mm_mv B b0 v) :: (mm_lvl B b0 ls).filter (fun q => !(q.1 == k) && !(q.1 + 1 == k && q.2.category == 2)))) : mm_LR B b0 real' (ls.set k (some v)) := by
  refine ⟨by rw [hl.1, List.length_set], hl.2.1, fun i w hi => ?_⟩
  by_cases hik : i = k
  · subst hik
    rw [List.getElem?_set_self hk] at hi
    cases hi
    exact hl.2.2 (i, mm_mv B b0 v) List.mem_cons_self
  · rw [List.getElem?_set_ne (Ne.symm hik)] at hi
    refine hl.2.2 (i, mm_mv B b0 w) (List.mem_cons_of_mem _ (List.mem_filter.mpr ⟨mm_lvl_in hi, ?_⟩))
    have h1 : (i == k) = false := by simpa using hik
    by_cases hj : i + 1 = k
    · subst hj
      have : mm_c1 w = true := by simpa [mm_lg, hi] using hlg
      simp [mm_mv_cat, mm_c1_cat this]
    · simp [hik, hj]
section mmA
variable {p : Program} {l : Launch} {e : Env} {R : Room} {s : State} {m : MethodId} {args : Array Value} {below : List Frame} {meth : Method} {c : Code} {H : Heap} {locs : List Loc} {cells slots : Nat} {Q : State → Prop}
variable {cc : ByteArray} {pc n : Nat} {real : Array Slot} {B : Nat} {b0 : mm_X} {i : Instr} {ls ls' : mm_L} {st st' : List Value}
theorem mm_ok1 (hx : p.tables.exec = Jvm.exec) (hb : c.code = cc) (hd : decode cc pc = .ok (i, n)) (hs : mm_s1 i n st = some st')
    (k : W p l e R s m args below meth c H locs cells slots Q (F0 m (pc + n) real (st'.map (mm_mv B b0)))) : W p l e R s m args below meth c H locs cells slots Q (F0 m pc real (st.map (mm_mv B b0))) := by
  unfold mm_s1 at hs
  split at hs
  · cases hs; exact lv_iconst hx hb hd rfl k
  · cases hs; exact lv_bipush hx hb hd rfl k
  · cases hs; exact lv_sipush hx hb hd rfl k
  · cases hs; exact lv_lconst hx hb hd rfl k
  · cases hs
theorem mm_ok2 (hx : p.tables.exec = Jvm.exec) (hb : c.code = cc) {x y v : Int32} {t : List Value} (hd : decode cc pc = .ok (i, 1)) (hs : mm_s2 i x y = some v)
    (k : W p l e R s m args below meth c H locs cells slots Q (F0 m (pc + 1) real (.int v :: t))) : W p l e R s m args below meth c H locs cells slots Q (F0 m pc real (.int y :: .int x :: t)) := by
  unfold mm_s2 at hs
  split at hs
  · cases hs; exact lv_iadd hx hb hd k
  · cases hs; exact lv_isub hx hb hd k
  · cases hs; exact lv_imul hx hb hd k
  · cases hs; exact lv_iand hx hb hd k
  · cases hs; exact lv_ior hx hb hd k
  · cases hs; exact lv_ixor hx hb hd k
  · cases hs; exact lv_ishl hx hb hd k
  · cases hs; exact lv_ishr hx hb hd k
  · cases hs; exact lv_iushr hx hb hd rfl k
  · split at hs
    · cases hs
    · next h0 => cases hs; exact lv_idiv hx hb hd h0 k
  · split at hs
    · cases hs
    · next h0 => cases hs; exact lv_irem hx hb hd h0 k
  · cases hs
theorem mm_ok3 (hx : p.tables.exec = Jvm.exec) (hb : c.code = cc) {v w : Value} {t : List Value} (hd : decode cc pc = .ok (i, 1)) (hs : mm_s3 i v = some w)
    (k : W p l e R s m args below meth c H locs cells slots Q (F0 m (pc + 1) real (mm_mv B b0 w :: t))) : W p l e R s m args below meth c H locs cells slots Q (F0 m pc real (mm_mv B b0 v :: t)) := by
  unfold mm_s3 at hs
  split at hs
  · cases hs; exact lv_i2l hx hb hd rfl k
  · cases hs; exact lv_i2b hx hb hd rfl k
  · cases hs; exact lv_i2s hx hb hd rfl k
  · cases hs; exact lv_i2c hx hb hd rfl k
  · cases hs; exact lv_l2i hx hb hd rfl k
  · cases hs
theorem mm_ok4 (hx : p.tables.exec = Jvm.exec) (hb : c.code = cc) {x y w : Value} {t : List Value} (hd : decode cc pc = .ok (i, 1)) (hs : mm_s4 i x y = some w)
    (k : W p l e R s m args below meth c H locs cells slots Q (F0 m (pc + 1) real (mm_mv B b0 w :: t))) : W p l e R s m args below meth c H locs cells slots Q (F0 m pc real (mm_mv B b0 y :: mm_mv B b0 x :: t)) := by
  unfold mm_s4 at hs
  split at hs
  · cases hs; exact lv_ladd hx hb hd k
  · cases hs; exact lv_land hx hb hd k
  · cases hs; exact lv_lor hx hb hd k
  · cases hs; exact W.lcmp hx hb hd k
  · cases hs; exact lv_lshl hx hb hd rfl k
  · cases hs; exact lv_lshr hx hb hd rfl k
  · cases hs; exact lv_lushr hx hb hd rfl k
  · cases hs
theorem mm_ok5 (hx : p.tables.exec = Jvm.exec) (hb : c.code = cc) (hd : decode cc pc = .ok (i, 1)) (hs : mm_s5 i st = some st')
    (k : W p l e R s m args below meth c H locs cells slots Q (F0 m (pc + 1) real (st'.map (mm_mv B b0)))) : W p l e R s m args below meth c H locs cells slots Q (F0 m pc real (st.map (mm_mv B b0))) := by
  unfold mm_s5 at hs
  split at hs
  · next v t =>
    cases h1 : mm_c1 v <;> simp [h1] at hs
    subst hs
    exact lv_dup hx hb hd ((mm_mv_cat B b0 v).trans (mm_c1_cat h1)) k
  · next v t =>
    cases h1 : mm_c1 v <;> simp [h1] at hs
    subst hs
    exact lv_pop (va := mm_mv B b0 v) hx hb hd ((mm_mv_cat B b0 v).trans (mm_c1_cat h1)) k
  · next v w t =>
    cases h1 : mm_c1 v <;> cases h2 : mm_c1 w <;> simp [h1, h2] at hs
    subst hs
    exact lv_dup2_11 hx hb hd ((mm_mv_cat B b0 v).trans (mm_c1_cat h1)) ((mm_mv_cat B b0 w).trans (mm_c1_cat h2)) k
  · cases hs
theorem mm_li_s {o : Option Value} {v : Value} (h : mm_li o = some v) : ∃ x, o = some (.int x) ∧ v = .int x := by
  unfold mm_li at h
  split at h
  · cases h; exact ⟨_, rfl, rfl⟩
  · cases h
theorem mm_ll_s {o : Option Value} {v : Value} (h : mm_ll o = some v) : ∃ x, o = some (.long x) ∧ v = .long x := by
  unfold mm_ll at h
  split at h
  · cases h; exact ⟨_, rfl, rfl⟩
  · cases h
theorem mm_lr_s {o : Option Value} {v : Value} (h : mm_lr o = some v) : o = some v ∧ ∃ a, mm_mv B b0 v = .ref a := by
  unfold mm_lr at h
  split at h
  · cases h; exact ⟨rfl, _, rfl⟩
  · cases h; exact ⟨rfl, _, rfl⟩
  · cases h
theorem mm_ok6 (hx : p.tables.exec = Jvm.exec) (hb : c.code = cc) {v : Value} {t : List Value} (hd : decode cc pc = .ok (i, n)) (hl : mm_LR B b0 real ls) (hs : mm_s6 i n ls = some v)
    (k : W p l e R s m args below meth c H locs cells slots Q (F0 m (pc + n) real (mm_mv B b0 v :: t))) : W p l e R s m args below meth c H locs cells slots Q (F0 m pc real t) := by
  unfold mm_s6 at hs
  split at hs
  · obtain ⟨x, h1, rfl⟩ := mm_li_s hs; exact lv_iload_n hx hb hd rfl (hl.get h1) k
  · obtain ⟨x, h1, rfl⟩ := mm_li_s hs; exact lv_iload hx hb hd (hl.get h1) k
  · obtain ⟨x, h1, rfl⟩ := mm_ll_s hs; exact lv_lload_n hx hb hd rfl (hl.get h1) k
  · obtain ⟨x, h1, rfl⟩ := mm_ll_s hs; exact lv_lload hx hb hd (hl.get h1) k
  · obtain ⟨h1, a, h2⟩ := mm_lr_s (B := B) (b0 := b0) hs
    have h3 := hl.get h1
    rw [h2] at h3 k
    exact lv_aload_n hx hb hd rfl h3 k
  · obtain ⟨h1, a, h2⟩ := mm_lr_s (B := B) (b0 := b0) hs
    have h3 := hl.get h1
    rw [h2] at h3 k
    exact lv_aload hx hb hd h3 k
  · cases hs
theorem mm_map_s {α β : Type} {o : Option α} {f : α → β} {b : β} (h : o.map f = some b) : ∃ a, o = some a ∧ f a = b := by
  cases o with
  | none => cases h
  | some a => exact ⟨a, rfl, Option.some.inj h⟩
theorem mm_ok7 (hx : p.tables.exec = Jvm.exec) (hb : c.code = cc) (hd : decode cc pc = .ok (i, n)) (hl : mm_LR B b0 real ls) {q : mm_L × List Value} (hs : mm_s7 i n ls st = some q)
    (k : ∀ real', mm_LR B b0 real' q.1 → W p l e R s m args below meth c H locs cells slots Q (F0 m (pc + n) real' (q.2.map (mm_mv B b0)))) : W p l e R s m args below meth c H locs cells slots Q (F0 m pc real (st.map (mm_mv B b0))) := by
  unfold mm_s7 at hs
  split at hs
  · obtain ⟨ls', h1, rfl⟩ := mm_map_s hs
    obtain ⟨h2, h3, rfl⟩ := mm_sv_spec h1
    exact lv_istore_n hx hb hd rfl hl.has h2 rfl (fun real' h4 => k real' (hl.set h2 h3 h4))
  · obtain ⟨ls', h1, rfl⟩ := mm_map_s hs
    obtain ⟨h2, h3, rfl⟩ := mm_sv_spec h1
    exact lv_istore hx hb hd hl.has h2 rfl (fun real' h4 => k real' (hl.set h2 h3 h4))
  · obtain ⟨ls', h1, rfl⟩ := mm_map_s hs
    obtain ⟨h2, h3, rfl⟩ := mm_sv_spec h1
    exact lv_astore_n hx hb hd rfl hl.has h2 rfl (fun real' h4 => k real' (hl.set h2 h3 h4))
  · obtain ⟨ls', h1, rfl⟩ := mm_map_s hs
    obtain ⟨h2, h3, rfl⟩ := mm_sv_spec h1
    exact lv_astore hx hb hd hl.has h2 rfl (fun real' h4 => k real' (hl.set h2 h3 h4))
  · split at hs
    · next x hx0 =>
      obtain ⟨ls', h1, rfl⟩ := mm_map_s hs
      obtain ⟨h2, h3, rfl⟩ := mm_sv_spec h1
      have h5 := mm_ld_s hx0
      obtain ⟨kk, hkk⟩ := List.getElem?_of_mem (mm_lvl_in (B := B) (b0 := b0) h5)
      exact lv_iinc hx hb hd hl.has hkk rfl h2 rfl (fun real' h4 => k real' (hl.set h2 h3 h4))
    · cases hs
  · cases hs
theorem mm_tg_s {pc t : Nat} {off : Int} (h : mm_tg pc off = some t) : (pc : Int) + off = (t : Int) := by
  unfold mm_tg at h
  split at h
  · next k hk => cases h; exact hk
  · cases h
theorem mm_br_s {b : Bool} {pc t n : Nat} {off : Int} (h : mm_br b pc off n = some t) : ∃ t0 : Nat, (pc : Int) + off = (t0 : Int) ∧ ((b = true ∧ t = t0) ∨ (b = false ∧ t = pc + n)) := by
  obtain ⟨t0, h1, h2⟩ := mm_map_s h
  refine ⟨t0, mm_tg_s h1, ?_⟩
  cases b
  · exact Or.inr ⟨rfl, h2.symm⟩
  · exact Or.inl ⟨rfl, h2.symm⟩
theorem mm_br1 (hx : p.tables.exec = Jvm.exec) (hb : c.code = cc) {cnd : ClassFile.Cond} {off : Int} {x : Int32} {t : Nat} {rest : List Value} (hd : decode cc pc = .ok (.ifCond cnd off, 3)) (hs : mm_br (mm_cc cnd x 0) pc off 3 = some t)
    (k : W p l e R s m args below meth c H locs cells slots Q (F0 m t real rest)) : W p l e R s m args below meth c H locs cells slots Q (F0 m pc real (.int x :: rest)) := by
  obtain ⟨t0, h4, ⟨h2, rfl⟩ | ⟨h2, rfl⟩⟩ := mm_br_s hs
  · cases cnd <;> simp only [mm_cc, decide_eq_true_eq, Bool.not_eq_true', decide_eq_false_iff_not] at h2
    · exact lv_if_eq hx hb hd h4 (fun _ => k) (fun h => absurd h2 h)
    · exact lv_if_ne hx hb hd h4 (fun _ => k) (fun h => by first | exact absurd h2 h | exact absurd h h2)
    · exact lv_if_lt hx hb hd h4 (fun _ => k) (fun h => absurd h2 h)
    · exact lv_if_ge hx hb hd h4 (fun _ => k) (fun h => absurd h2 h)
    · exact lv_if_gt hx hb hd h4 (fun _ => k) (fun h => absurd h2 h)
    · exact lv_if_le hx hb hd h4 (fun _ => k) (fun h => absurd h2 h)
  · cases cnd <;> simp only [mm_cc, decide_eq_false_iff_not, Bool.not_eq_false', decide_eq_true_eq] at h2
    · exact lv_if_eq hx hb hd h4 (fun h => absurd h h2) (fun _ => k)
    · exact lv_if_ne hx hb hd h4 (fun h => by first | exact absurd h2 h | exact absurd h h2) (fun _ => k)
    · exact lv_if_lt hx hb hd h4 (fun h => absurd h h2) (fun _ => k)
    · exact lv_if_ge hx hb hd h4 (fun h => absurd h h2) (fun _ => k)
    · exact lv_if_gt hx hb hd h4 (fun h => absurd h h2) (fun _ => k)
    · exact lv_if_le hx hb hd h4 (fun h => absurd h h2) (fun _ => k)
theorem mm_br2 (hx : p.tables.exec = Jvm.exec) (hb : c.code = cc) {cnd : ClassFile.Cond} {off : Int} {x y : Int32} {t : Nat} {rest : List Value} (hd : decode cc pc = .ok (.if_icmp cnd off, 3)) (hs : mm_br (mm_cc cnd x y) pc off 3 = some t)
    (k : W p l e R s m args below meth c H locs cells slots Q (F0 m t real rest)) : W p l e R s m args below meth c H locs cells slots Q (F0 m pc real (.int y :: .int x :: rest)) := by
  obtain ⟨t0, h4, ⟨h2, rfl⟩ | ⟨h2, rfl⟩⟩ := mm_br_s hs
  · cases cnd <;> simp only [mm_cc, decide_eq_true_eq, Bool.not_eq_true', decide_eq_false_iff_not] at h2
    · exact lv_icmp_eq hx hb hd h4 (fun _ => k) (fun h => absurd h2 h)
    · exact lv_icmp_ne hx hb hd h4 (fun _ => k) (fun h => by first | exact absurd h2 h | exact absurd h h2)
    · exact lv_icmp_lt hx hb hd h4 (fun _ => k) (fun h => absurd h2 h)
    · exact lv_icmp_ge hx hb hd h4 (fun _ => k) (fun h => absurd h2 h)
    · exact lv_icmp_gt hx hb hd h4 (fun _ => k) (fun h => absurd h2 h)
    · exact lv_icmp_le hx hb hd h4 (fun _ => k) (fun h => absurd h2 h)
  · cases cnd <;> simp only [mm_cc, decide_eq_false_iff_not, Bool.not_eq_false', decide_eq_true_eq] at h2
    · exact lv_icmp_eq hx hb hd h4 (fun h => absurd h h2) (fun _ => k)
    · exact lv_icmp_ne hx hb hd h4 (fun h => by first | exact absurd h2 h | exact absurd h h2) (fun _ => k)
    · exact lv_icmp_lt hx hb hd h4 (fun h => absurd h h2) (fun _ => k)
    · exact lv_icmp_ge hx hb hd h4 (fun h => absurd h h2) (fun _ => k)
    · exact lv_icmp_gt hx hb hd h4 (fun h => absurd h h2) (fun _ => k)
    · exact lv_icmp_le hx hb hd h4 (fun h => absurd h h2) (fun _ => k)
theorem mm_ok8 (hx : p.tables.exec = Jvm.exec) (hb : c.code = cc) (hd : decode cc pc = .ok (i, n)) {q : Nat × List Value} (hs : mm_s8 i n pc st = some q)
    (k : W p l e R s m args below meth c H locs cells slots Q (F0 m q.1 real (q.2.map (mm_mv B b0)))) : W p l e R s m args below meth c H locs cells slots Q (F0 m pc real (st.map (mm_mv B b0))) := by
  unfold mm_s8 at hs
  split at hs
  · cases h3 : Nat.beq n 3 <;> simp only [h3, cond_true, cond_false] at hs
    · cases hs
    · have := Nat.eq_of_beq_eq_true h3; subst this
      obtain ⟨t, h1, rfl⟩ := mm_map_s hs
      exact lv_goto hx hb hd (mm_tg_s h1) k
  · cases h3 : Nat.beq n 3 <;> simp only [h3, cond_true, cond_false] at hs
    · cases hs
    · have := Nat.eq_of_beq_eq_true h3; subst this
      obtain ⟨t, h1, rfl⟩ := mm_map_s hs
      exact mm_br1 hx hb hd h1 k
  · cases h3 : Nat.beq n 3 <;> simp only [h3, cond_true, cond_false] at hs
    · cases hs
    · have := Nat.eq_of_beq_eq_true h3; subst this
      obtain ⟨t, h1, rfl⟩ := mm_map_s hs
      exact mm_br2 hx hb hd h1 k
  · next d lo hi offs x t =>
    obtain ⟨tg, h1, rfl⟩ := mm_map_s hs
    unfold mm_sw at h1
    split at h1
    · next h2 => exact lv_tableOut hx hb hd h2 (mm_tg_s h1) k
    · next h2 =>
      split at h1
      · next off h3 => exact lv_tableIn hx hb hd (fun h => h2 (Or.inl h)) (fun h => h2 (Or.inr h)) h3 (mm_tg_s h1) k
      · cases h1
  · next d ps x t =>
    cases h3 : (ps.toList.zip (ps.toList.drop 1)).all (fun (a, next) => a.1 < next.1) <;> simp only [h3, cond_true, cond_false] at hs
    · cases hs
    · obtain ⟨tg, h1, rfl⟩ := mm_map_s hs
      exact lv_lookup hx hb hd h3 rfl (mm_tg_s h1) k
  · cases hs
end mmA
