/-! cells: what the mini-machine's heap says of the machine's -/
def mm_W : List Cond := lw_tbl.filter goodWord
theorem mm_W_in {w : Cond} (h : w ∈ lw_tbl) (g : goodWord w = true) : w ∈ mm_W := List.mem_filter.mpr ⟨h, g⟩
theorem mm_W_has {ps : List (Nat × Nat)} {ws : List Cond} (h : mm_has ps ws = true) (g : ws.all goodWord = true) : ∀ w ∈ ws, w ∈ mm_W := fun w hw => mm_W_in (mm_has_in h w hw) (List.all_eq_true.mp g w hw)
theorem mm_W_good {w : Cond} (h : w ∈ mm_W) : (w.onTables && w.keeps) = true ∨ ∃ ty, w = .arrayClass ty := good_of_word (List.mem_filter.mp h).2
theorem mm_lay {ci : Nat} {q : vw_C} (h : vwCl[ci]? = some q) : ∀ w ∈ u_ws q.1 q.2.1 q.2.2, w ∈ mm_W := by
  match ci, h with
  | 0, h => cases h; exact fun w hw => mm_W_in (inX0 w hw) (List.all_eq_true.mp (show (u_ws RX0 TX0 8).all goodWord = true by decide +kernel) w hw)
  | 1, h => cases h; exact fun w hw => mm_W_in (inX1 w hw) (List.all_eq_true.mp (show (u_ws RX1 TX1 4).all goodWord = true by decide +kernel) w hw)
  | 2, h => cases h; exact fun w hw => mm_W_in (inX2 w hw) (List.all_eq_true.mp (show (u_ws RX2 TX2 12).all goodWord = true by decide +kernel) w hw)
  | 3, h => cases h; exact fun w hw => mm_W_in (inX3 w hw) (List.all_eq_true.mp (show (u_ws RX3 TX3 3).all goodWord = true by decide +kernel) w hw)
  | 4, h => cases h; exact fun w hw => mm_W_in (inX4 w hw) (List.all_eq_true.mp (show (u_ws RX4 TX4 16).all goodWord = true by decide +kernel) w hw)
  | 5, h => cases h; exact fun w hw => mm_W_in (inX5 w hw) (List.all_eq_true.mp (show (u_ws RX5 TX5 10).all goodWord = true by decide +kernel) w hw)
  | 6, h => cases h; exact fun w hw => mm_W_in (inX6 w hw) (List.all_eq_true.mp (show (u_ws RX6 TX6 7).all goodWord = true by decide +kernel) w hw)
  | 7, h => cases h; exact fun w hw => mm_W_in (inX7 w hw) (List.all_eq_true.mp (show (u_ws RX7 TX7 3).all goodWord = true by decide +kernel) w hw)
  | 8, h => cases h; exact fun w hw => mm_W_in (inX8 w hw) (List.all_eq_true.mp (show (u_ws RX8 TX8 2).all goodWord = true by decide +kernel) w hw)
  | 9, h => cases h; exact fun w hw => mm_W_in (inX9 w hw) (List.all_eq_true.mp (show (u_ws RX9 TX9 11).all goodWord = true by decide +kernel) w hw)
  | 10, h => cases h; exact fun w hw => mm_W_in (inX10 w hw) (List.all_eq_true.mp (show (u_ws RX10 TX10 46).all goodWord = true by decide +kernel) w hw)
  | k + 11, h => simp [vwCl] at h
theorem mm_tyok {ci : Nat} {q : vw_C} (h : vwCl[ci]? = some q) : ∀ k, k < q.2.2 → parseFieldDescriptor (q.2.1 k).2.2.1 = some (mm_ft ci k) := by
  match ci, h with
  | 0, h => cases h; exact tyX0_ok
  | 1, h => cases h; exact tyX1_ok
  | 2, h => cases h; exact tyX2_ok
  | 3, h => cases h; exact tyX3_ok
  | 4, h => cases h; exact tyX4_ok
  | 5, h => cases h; exact tyX5_ok
  | 6, h => cases h; exact tyX6_ok
  | 7, h => cases h; exact tyX7_ok
  | 8, h => cases h; exact tyX8_ok
  | 9, h => cases h; exact tyX9_ok
  | 10, h => cases h; exact tyX10_ok
  | k + 11, h => simp [vwCl] at h
theorem mm_nm {ci : Nat} {q : vw_C} (h : vwCl[ci]? = some q) : ∀ a, a < q.2.2 → ∀ b, b < q.2.2 → a ≠ b → (q.2.1 a).2.1 ≠ (q.2.1 b).2.1 := by
  match ci, h with
  | 0, h => cases h; exact nmX0
  | 1, h => cases h; exact nmX1
  | 2, h => cases h; exact nmX2
  | 3, h => cases h; exact nmX3
  | 4, h => cases h; exact nmX4
  | 5, h => cases h; exact nmX5
  | 6, h => cases h; exact nmX6
  | 7, h => cases h; exact nmX7
  | 8, h => cases h; exact nmX8
  | 9, h => cases h; exact nmX9
  | 10, h => cases h; exact nmX10
  | k + 11, h => simp [vwCl] at h
theorem mm_fit_s {ty : FieldType} {v : Value} (B : Nat) (b0 : mm_X) (h : mm_fit ty v = true) : narrow ty (mm_mv B b0 v) = mm_mv B b0 v ∧ fits ty (mm_mv B b0 v) = true := by
  unfold mm_fit at h
  split at h
  · exact ⟨rfl, rfl⟩
  · simp only [Bool.or_eq_true, decide_eq_true_eq] at h
    rcases h with rfl | rfl
    · exact ⟨(show narrow .boolean (.int 0) = .int 0 by decide +kernel), (show fits .boolean (.int 0) = true by decide +kernel)⟩
    · exact ⟨(show narrow .boolean (.int 1) = .int 1 by decide +kernel), (show fits .boolean (.int 1) = true by decide +kernel)⟩
  · exact ⟨rfl, rfl⟩
  · exact ⟨rfl, rfl⟩
  · cases h
def mm_ma (B : Nat) : mm_A → vp_A
  | .inl l => (l.length, .inl (fun j => l.getD j 0))
  | .inr (.inl l) => (l.length, .inr (.inl (fun j => l.getD j 0)))
  | .inr (.inr l) => (l.length, .inr (.inr (.inr (.inr (fun j => (l.getD j none).map (fun a => B + a))))))
def mm_me (dA : Nat → ClassId) (B : Nat) (b0 : mm_X) : mm_E → va_E
  | .inl (t, a) => .inl (dA t, mm_ma B a)
  | .inr (ci, fs) => .inr (ci, fs.map (mm_mv B b0))
def mm_Sim (D : va_G) (dA : Nat → ClassId) (B : Nat) (b0 : mm_X) (H0 H : Heap) (h : mm_H) : Prop :=
  H.size = B + h.length ∧ (∀ (k : Nat) (e : mm_E), h[k]? = some e → va_at D vwCl (B + k, mm_me dA B b0 e) H) ∧ ∀ q : Nat, q < B → H[q]? = H0[q]?
theorem mm_lt {α : Type} {l : List α} {k : Nat} {x : α} (h : l[k]? = some x) : k < l.length := (List.getElem?_eq_some_iff.mp h).1
theorem mm_Sim.set {D : va_G} {dA : Nat → ClassId} {B : Nat} {b0 : mm_X} {H0 H H1 : Heap} {h : mm_H} {a : Nat} {e e' : mm_E} (S : mm_Sim D dA B b0 H0 H h) (ha : h[a]? = some e) (he : va_at D vwCl (B + a, mm_me dA B b0 e') H1) (z : H1.size = H.size) (o : ∀ q : Nat, q ≠ B + a → H1[q]? = H[q]?) : mm_Sim D dA B b0 H0 H1 (h.set a e') := by
  refine ⟨by rw [z, S.1, List.length_set], fun k x hk => ?_, fun q hq => by rw [o q (by omega)]; exact S.2.2 q hq⟩
  by_cases hka : k = a
  · subst hka
    rw [List.getElem?_set_self (mm_lt ha)] at hk
    cases hk
    exact he
  · rw [List.getElem?_set_ne (Ne.symm hka)] at hk
    exact (S.2.1 k x hk).kept (o _ (by show B + k ≠ B + a; omega))
theorem mm_Sim.push {D : va_G} {dA : Nat → ClassId} {B : Nat} {b0 : mm_X} {H0 H H1 : Heap} {h : mm_H} {e' : mm_E} (S : mm_Sim D dA B b0 H0 H h) (he : va_at D vwCl (H.size, mm_me dA B b0 e') H1) (z : H1.size = H.size + 1) (o : ∀ q : Nat, q < H.size → H1[q]? = H[q]?) : mm_Sim D dA B b0 H0 H1 (h ++ [e']) := by
  refine ⟨by rw [z, S.1, List.length_append]; rfl, fun k x hk => ?_, fun q hq => by rw [o q (by rw [S.1]; omega)]; exact S.2.2 q hq⟩
  by_cases hl : k < h.length
  · rw [List.getElem?_append_left hl] at hk
    exact (S.2.1 k x hk).kept (o _ (by show B + k < H.size; rw [S.1]; omega))
  · rw [List.getElem?_append_right (by omega)] at hk
    have h0 : k = h.length := by have := mm_lt hk; simp at this; omega
    subst h0
    rw [Nat.sub_self] at hk
    cases hk
    rw [← S.1]
    exact he
-- how many places the cells have
def mm_al : mm_A → Nat
  | .inl l => l.length
  | .inr (.inl l) => l.length
  | .inr (.inr l) => l.length
def mm_cs : mm_E → Nat
  | .inl (_, a) => mm_al a
  | .inr (ci, _) => match vwCl[ci]? with
    | some q => q.2.2
    | none => 0
def mm_sz (h : mm_H) : Nat := (h.map mm_cs).sum
theorem mm_sz_set {h : mm_H} {a : Nat} {e e' : mm_E} (ha : h[a]? = some e) (hc : mm_cs e' = mm_cs e) : mm_sz (h.set a e') = mm_sz h := by
  unfold mm_sz
  rw [List.map_set]
  congr 1
  apply List.ext_getElem?
  intro k
  by_cases hk : k = a
  · subst hk
    rw [List.getElem?_set_self (by rw [List.length_map]; exact mm_lt ha), List.getElem?_map, ha, hc]
    rfl
  · rw [List.getElem?_set_ne (Ne.symm hk)]
theorem mm_sz_app (h h' : mm_H) : mm_sz (h ++ h') = mm_sz h + mm_sz h' := by simp [mm_sz]
/-- the machine between two steps: the heap, the places written, the cells and slots since the method's entry -/
def mm_CF (D : va_G) (dA : Nat → ClassId) (B : Nat) (b0 : mm_X) (H0 : Heap) (n0 s0 : Nat) (H : Heap) (locs : List Loc) (cells slots : Nat) (h : mm_H) : Prop :=
  mm_Sim D dA B b0 H0 H h ∧ (∀ q ∈ locs, B ≤ q.base) ∧ n0 + cells = h.length ∧ s0 + slots = mm_sz h
theorem mm_CF.set {D : va_G} {dA : Nat → ClassId} {B n0 s0 : Nat} {b0 : mm_X} {H0 H H1 : Heap} {locs : List Loc} {cells slots : Nat} {h : mm_H} {a k : Nat} {e e' : mm_E} (S : mm_CF D dA B b0 H0 n0 s0 H locs cells slots h) (ha : h[a]? = some e) (he : va_at D vwCl (B + a, mm_me dA B b0 e') H1) (z : H1.size = H.size) (o : ∀ q : Nat, q ≠ B + a → H1[q]? = H[q]?) (hc : mm_cs e' = mm_cs e) :
    mm_CF D dA B b0 H0 n0 s0 H1 (locs ++ [⟨B + a, k⟩]) cells slots (h.set a e') := by
  refine ⟨S.1.set ha he z o, fun q hq => ?_, by rw [List.length_set]; exact S.2.2.1, by rw [mm_sz_set ha hc]; exact S.2.2.2⟩
  rcases List.mem_append.mp hq with h1 | h1
  · exact S.2.1 q h1
  · rw [List.mem_singleton.mp h1]
    exact Nat.le_add_right B a
theorem mm_CF.push {D : va_G} {dA : Nat → ClassId} {B n0 s0 : Nat} {b0 : mm_X} {H0 H H1 : Heap} {locs : List Loc} {cells slots : Nat} {h : mm_H} {e' : mm_E} {n : Nat} (S : mm_CF D dA B b0 H0 n0 s0 H locs cells slots h) (he : va_at D vwCl (H.size, mm_me dA B b0 e') H1) (z : H1.size = H.size + 1) (o : ∀ q : Nat, q < H.size → H1[q]? = H[q]?) (hc : mm_cs e' = n) :
    mm_CF D dA B b0 H0 n0 s0 H1 locs (cells + 1) (slots + n) (h ++ [e']) := by
  refine ⟨S.1.push he z o, S.2.1, by rw [List.length_append, ← S.2.2.1]; simp; omega, ?_⟩
  rw [mm_sz_app, ← S.2.2.2]
  simp [mm_sz, hc]
  omega
theorem mm_gd {α : Type} (l : List α) (j q : Nat) (x d : α) (hj : j < l.length) : (l.set j x).getD q d = if q = j then x else l.getD q d := by
  by_cases h : q = j
  · subst h
    simp [List.getD_eq_getElem?_getD, hj]
  · simp [List.getD_eq_getElem?_getD, h, List.getElem?_set_ne (Ne.symm h)]
theorem mm_in_s {j : Int32} {n : Nat} (h : mm_in j n = true) : vp_in j n ∧ j.toNatClampNeg < n := by
  unfold mm_in at h
  simp only [Bool.and_eq_true, Bool.not_eq_true', decide_eq_false_iff_not] at h
  have h2 : j.toNatClampNeg < n := Nat.le_of_ble_eq_true h.2
  exact ⟨fun q => q.elim h.1 (fun q => absurd q (Nat.not_le.mpr h2)), h2⟩
theorem mm_P1 {D : va_G} {q : Nat × va_E} {H : Heap} (h : va_at D vwCl q H) : va_P D vwCl [q] H := by
  intro k x hk
  have h0 : k = 0 := by have := mm_lt hk; simp at this; omega
  subst h0
  cases hk
  exact h
-- what is known of the tables
def mm_tys (dA : Nat → ClassId) : List (ClassId × FieldType) := [(dA 0, .int), (dA 1, .long), (dA 2, .byte), (dA 3, .boolean), (dA 4, .array .int), (dA 5, .object RX3), (dA 6, .object RX7)]
def mm_AO (t : FieldType) (U : State) : Prop := (Cond.arrayOver t).before #[] U = true
theorem mm_AO.moved {t : FieldType} {u U : State} (hvm : u.vm.Alike U.vm) (h : mm_AO t u) : mm_AO t U := by
  unfold mm_AO at h ⊢
  rw [← Cond.arrayOver_setVmC hvm t] at h
  exact h
def mm_TX (B : Nat) (b0 : mm_X) (H0 : Heap) (U : State) : Prop := (∀ (i : Nat) (q : Nat × String) (l : List Int32), mm_tl[i]? = some q → mm_txt[i]? = some l → va_O "java/lang/String" (b0.1 (1 + i)) (fun x => B ≤ x) U H0 ∧ va_OF "java/lang/String" "coder" "B" (.int 0) (b0.1 (1 + i)) (fun x => B ≤ x) U H0 ∧ va_OF "java/lang/String" "value" "[B" (.ref (b0.1 (100 + i))) (b0.1 (1 + i)) (fun x => B ≤ x) U H0 ∧ va_T .byte (b0.1 (100 + i)) l.length (fun j => .int (l.getD j 0)) (fun x => B ≤ x) U H0 ∧ vk_R RX5 q.1 q.2 (b0.1 (1 + i)) U) ∧
  va_Z "java/lang/String" "COMPACT_STRINGS" "Z" (.int 1) (fun x => B ≤ x) U H0 ∧ va_Z "jdk/internal/util/Preconditions" "SIOOBE_FORMATTER" "Ljava/util/function/BiFunction;" (va_rf b0.2) (fun x => B ≤ x) U H0
theorem mm_TX.warm {B : Nat} {b0 : mm_X} {H0 : Heap} {s U : State} (h : mm_TX B b0 H0 s) (hW : s.WarmedH U.vm) : mm_TX B b0 H0 U :=
  ⟨fun i q l h1 h2 => ⟨va_O.moved hW.alike (h.1 i q l h1 h2).1, va_OF.moved hW.alike (h.1 i q l h1 h2).2.1, va_OF.moved hW.alike (h.1 i q l h1 h2).2.2.1, va_T.moved hW.alike (h.1 i q l h1 h2).2.2.2.1, vk_R.warm hW (h.1 i q l h1 h2).2.2.2.2⟩, va_Z.moved hW.alike h.2.1, va_Z.moved hW.alike h.2.2⟩
theorem mm_TX.same {B : Nat} {b0 : mm_X} {H0 : Heap} {s U : State} (h : mm_TX B b0 H0 s) (hv : s.vm = U.vm) : mm_TX B b0 H0 U := by
  have ha : s.vm.Alike U.vm := by rw [← hv]; exact Vm.Alike.refl _
  exact ⟨fun i q l h1 h2 => ⟨va_O.moved ha (h.1 i q l h1 h2).1, va_OF.moved ha (h.1 i q l h1 h2).2.1, va_OF.moved ha (h.1 i q l h1 h2).2.2.1, va_T.moved ha (h.1 i q l h1 h2).2.2.2.1, vk_R.same hv.symm (h.1 i q l h1 h2).2.2.2.2⟩, va_Z.moved ha h.2.1, va_Z.moved ha h.2.2⟩
def mm_GI (D : va_G) (dA : Nat → ClassId) (B : Nat) (b0 : mm_X) (H0 : Heap) (X : Option (List Int32)) (U : State) : Prop :=
  va_K D vwCl (mm_tys dA) U ∧ (∀ w ∈ mm_nest, va_Nw w U) ∧ (mm_AO (.object RX3) U ∧ mm_AO (.object RX7) U ∧ mm_AO (.array .int) U ∧ mm_TX B b0 H0 U) ∧ (∀ xs, X = some xs → va_X (b0.1 0) xs.length (fun j => xs.getD j 0) U H0 ∧ b0.1 0 < B) ∧ B = H0.size
theorem mm_nest_s {w : Cond} (h : w ∈ mm_nest) : ∃ a i y b, w = .methodLinkNest a i y b := by
  simp only [mm_nest, List.mem_cons, List.not_mem_nil, or_false] at h
  rcases h with rfl | rfl | rfl | rfl | rfl | rfl | rfl | rfl | rfl | rfl | rfl | rfl | rfl | rfl | rfl <;> exact ⟨_, _, _, _, rfl⟩
theorem mm_GI.warm {D : va_G} {dA : Nat → ClassId} {B : Nat} {b0 : mm_X} {H0 : Heap} {X : Option (List Int32)} {s U : State} (h : mm_GI D dA B b0 H0 X s) (hW : s.WarmedH U.vm) : mm_GI D dA B b0 H0 X U := by
  obtain ⟨h1, h2, ⟨h3, h4, h5, h8⟩, h6, h7⟩ := h
  refine ⟨h1.moved hW.alike, fun w hw => ?_, ⟨h3.moved hW.alike, h4.moved hW.alike, h5.moved hW.alike, h8.warm hW⟩, fun xs hx => ⟨(h6 xs hx).1.moved hW.alike, (h6 xs hx).2⟩, h7⟩
  obtain ⟨a, i, y, b, rfl⟩ := mm_nest_s hw
  exact va_Nw.warmM hW (h2 _ hw)
theorem mm_GI.same {D : va_G} {dA : Nat → ClassId} {B : Nat} {b0 : mm_X} {H0 : Heap} {X : Option (List Int32)} {s U : State} (h : mm_GI D dA B b0 H0 X s) (hv : s.vm = U.vm) : mm_GI D dA B b0 H0 X U := by
  have ha : s.vm.Alike U.vm := by rw [← hv]; exact Vm.Alike.refl _
  obtain ⟨h1, h2, ⟨h3, h4, h5, h8⟩, h6, h7⟩ := h
  refine ⟨h1.moved ha, fun w hw => ?_, ⟨h3.moved ha, h4.moved ha, h5.moved ha, h8.same hv⟩, fun xs hx => ⟨(h6 xs hx).1.moved ha, (h6 xs hx).2⟩, h7⟩
  obtain ⟨a, i, y, b, rfl⟩ := mm_nest_s hw
  exact va_Nw.same rfl hv (h2 _ hw)
