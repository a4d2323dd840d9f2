/-! steps on cells, by what is known of the cell -/
theorem mm_ss {h : mm_H} {a : Nat} {e e' : mm_E} (ha : h[a]? = some e) : (h.set a e')[a]? = some e' := List.getElem?_set_self (mm_lt ha)
theorem mm_sn {h : mm_H} {a b : Nat} {e e' : mm_E} (hn : Nat.beq a b = false) (ha : h[b]? = some e) : (h.set a e')[b]? = some e := by
  rw [List.getElem?_set_ne (fun q => by subst q; rw [Nat.beq_refl] at hn; cases hn)]
  exact ha
theorem mm_sf {h : mm_H} {a : Nat} {e : mm_E} (ha : h[a]? = some e) : h.set a e = h := by
  apply List.ext_getElem?
  intro k
  by_cases hk : k = a
  · subst hk; rw [List.getElem?_set_self (mm_lt ha), ha]
  · rw [List.getElem?_set_ne (Ne.symm hk)]
theorem mm_rs2 {h : mm_H} {a : Nat} {e e' : mm_E} : (h.set a e).set a e' = h.set a e' := by rw [List.set_set]
theorem mm_rc {h h2 : mm_H} {a b : Nat} {e e' : mm_E} (hn : Nat.beq b a = false) (k : h.set a e' = h2) : (h.set b e).set a e' = h2.set b e := by
  rw [List.set_comm _ _ (fun q => by subst q; rw [Nat.beq_refl] at hn; cases hn), k]
section wpc
variable {X : Option (List Int32)} {Dp : Nat} {r : mm_R} {pc pc' n : Nat} {ls : mm_L} {t : List Value} {h h' : mm_H} {Q : Option Value → mm_H → Prop} {idx ci k a : Nat} {fs fs' : List Value} {v : Value} {y : Int × List (Nat × Nat)} {j : Int32}
theorem wp_gf (hat : mm_at r pc = some (.getfield idx, 3)) (hrk : mm_rk r.2.2.2 idx = some (idx, 0, ci, k, y)) (ha : h[a]? = some (.inr (ci, fs))) (hv : fs[k]? = some v) (hp : pc + 3 = pc') (kk : mm_Wp X Dp r pc' ls (v :: t) h Q) : mm_Wp X Dp r pc ls (.ref a :: t) h Q := by
  subst hp
  refine wp_s hat (ls' := ls) (st' := v :: t) (h' := h) ?_ kk
  show (Sum.inl (Option.map (fun q : List Value × mm_H => (pc + 3, ls, q.1, q.2)) (mm_s9 r (.getfield idx) (.ref a :: t) h)) : mm_O) = _
  unfold mm_s9
  simp only [hrk, ha, hv, Nat.beq_refl, cond_true]
  rfl
theorem wp_pf (hat : mm_at r pc = some (.putfield idx, 3)) {fin : Nat} {ps : List (Nat × Nat)} (hrk : mm_rk r.2.2.2 idx = some (idx, 0, ci, k, .ofNat fin, ps)) (hfin : Nat.ble 2 fin = false) (ha : h[a]? = some (.inr (ci, fs))) (hk : Nat.blt k fs.length = true) (hfit : mm_fit (mm_ft ci k) v = true) (hfs : fs.set k v = fs') (hs : h.set a (.inr (ci, fs')) = h') (hp : pc + 3 = pc') (kk : mm_Wp X Dp r pc' ls t h' Q) : mm_Wp X Dp r pc ls (v :: .ref a :: t) h Q := by
  subst hp hs hfs
  refine wp_s hat (ls' := ls) (st' := t) (h' := h.set a (.inr (ci, fs.set k v))) ?_ kk
  show (Sum.inl (Option.map (fun q : List Value × mm_H => (pc + 3, ls, q.1, q.2)) (mm_s9 r (.putfield idx) (v :: .ref a :: t) h)) : mm_O) = _
  unfold mm_s9
  simp only [hrk, hfin, ha, hk, hfit, Nat.beq_refl, cond_true, cond_false, Bool.and_true]
  rfl
theorem wp_ia {l : List Int32} {x : Int32} (hat : mm_at r pc = some (.iaload, 1)) (ha : h[a]? = some (.inl (0, .inl l))) (hj : mm_in j l.length = true) (hx : l.getD j.toNatClampNeg 0 = x) (hp : pc + 1 = pc') (kk : mm_Wp X Dp r pc' ls (.int x :: t) h Q) : mm_Wp X Dp r pc ls (.int j :: .ref a :: t) h Q := by
  subst hp hx
  refine wp_s hat (ls' := ls) (st' := .int (l.getD j.toNatClampNeg 0) :: t) (h' := h) ?_ kk
  have e : mm_g1 X .iaload (.int j :: .ref a :: t) h = some (.int (l.getD j.toNatClampNeg 0) :: t) := by
    unfold mm_g1
    simp only [ha, hj, cond_true]
  show (match mm_g1 X .iaload (.int j :: .ref a :: t) h with | some t => (.inl (some (pc + 1, ls, t, h)) : mm_O) | none => .inl ((mm_g2 .iaload (.int j :: .ref a :: t) h).map (fun q : List Value × mm_H => (pc + 1, ls, q.1, q.2)))) = _
  rw [e]
theorem wp_ba {l : List Int32} {x : Int32} (hat : mm_at r pc = some (.baload, 1)) (ha : h[a]? = some (.inl (2, .inl l)) ∨ h[a]? = some (.inl (3, .inl l))) (hj : mm_in j l.length = true) (hx : l.getD j.toNatClampNeg 0 = x) (hp : pc + 1 = pc') (kk : mm_Wp X Dp r pc' ls (.int x :: t) h Q) : mm_Wp X Dp r pc ls (.int j :: .ref a :: t) h Q := by
  subst hp hx
  refine wp_s hat (ls' := ls) (st' := .int (l.getD j.toNatClampNeg 0) :: t) (h' := h) ?_ kk
  have e : mm_g1 X .baload (.int j :: .ref a :: t) h = some (.int (l.getD j.toNatClampNeg 0) :: t) := by
    unfold mm_g1
    rcases ha with ha | ha <;> simp only [ha, hj, cond_true]
  show (match mm_g1 X .baload (.int j :: .ref a :: t) h with | some t => (.inl (some (pc + 1, ls, t, h)) : mm_O) | none => .inl ((mm_g2 .baload (.int j :: .ref a :: t) h).map (fun q : List Value × mm_H => (pc + 1, ls, q.1, q.2)))) = _
  rw [e]
theorem wp_la {l : List Int64} {x : Int64} (hat : mm_at r pc = some (.laload, 1)) (ha : h[a]? = some (.inl (1, .inr (.inl l)))) (hj : mm_in j l.length = true) (hx : l.getD j.toNatClampNeg 0 = x) (hp : pc + 1 = pc') (kk : mm_Wp X Dp r pc' ls (.long x :: t) h Q) : mm_Wp X Dp r pc ls (.int j :: .ref a :: t) h Q := by
  subst hp hx
  refine wp_s hat (ls' := ls) (st' := .long (l.getD j.toNatClampNeg 0) :: t) (h' := h) ?_ kk
  have e : mm_g1 X .laload (.int j :: .ref a :: t) h = some (.long (l.getD j.toNatClampNeg 0) :: t) := by
    unfold mm_g1
    simp only [ha, hj, cond_true]
  show (match mm_g1 X .laload (.int j :: .ref a :: t) h with | some t => (.inl (some (pc + 1, ls, t, h)) : mm_O) | none => .inl ((mm_g2 .laload (.int j :: .ref a :: t) h).map (fun q : List Value × mm_H => (pc + 1, ls, q.1, q.2)))) = _
  rw [e]
theorem wp_aa {l : List (Option Nat)} {tag b : Nat} (hat : mm_at r pc = some (.aaload, 1)) (ht : tag = 4 ∨ tag = 5 ∨ tag = 6) (ha : h[a]? = some (.inl (tag, .inr (.inr l)))) (hj : mm_in j l.length = true) (hx : l.getD j.toNatClampNeg none = some b) (hp : pc + 1 = pc') (kk : mm_Wp X Dp r pc' ls (.ref b :: t) h Q) : mm_Wp X Dp r pc ls (.int j :: .ref a :: t) h Q := by
  subst hp
  refine wp_s hat (ls' := ls) (st' := .ref b :: t) (h' := h) ?_ kk
  have e : mm_g1 X .aaload (.int j :: .ref a :: t) h = some (.ref b :: t) := by
    unfold mm_g1
    rcases ht with rfl | rfl | rfl <;> simp only [ha, hj, cond_true, hx] <;> rfl
  show (match mm_g1 X .aaload (.int j :: .ref a :: t) h with | some t => (.inl (some (pc + 1, ls, t, h)) : mm_O) | none => .inl ((mm_g2 .aaload (.int j :: .ref a :: t) h).map (fun q : List Value × mm_H => (pc + 1, ls, q.1, q.2)))) = _
  rw [e]
theorem wp_is {l l' : List Int32} {x : Int32} (hat : mm_at r pc = some (.iastore, 1)) (ha : h[a]? = some (.inl (0, .inl l))) (hj : mm_in j l.length = true) (hl : l.set j.toNatClampNeg x = l') (hs : h.set a (.inl (0, .inl l')) = h') (hp : pc + 1 = pc') (kk : mm_Wp X Dp r pc' ls t h' Q) : mm_Wp X Dp r pc ls (.int x :: .int j :: .ref a :: t) h Q := by
  subst hp hs hl
  refine wp_s hat (ls' := ls) (st' := t) (h' := h.set a (.inl (0, .inl (l.set j.toNatClampNeg x)))) ?_ kk
  have e : mm_g2 .iastore (.int x :: .int j :: .ref a :: t) h = some (t, h.set a (.inl (0, .inl (l.set j.toNatClampNeg x)))) := by
    unfold mm_g2
    simp only [ha, hj, cond_true]
  show (.inl ((mm_g2 .iastore (.int x :: .int j :: .ref a :: t) h).map (fun q => (pc + 1, ls, q.1, q.2))) : mm_O) = _
  rw [e]
  rfl
theorem wp_bs {l l' : List Int32} {x : Int32} (hat : mm_at r pc = some (.bastore, 1)) (ha : h[a]? = some (.inl (2, .inl l))) (hj : mm_in j l.length = true) (hl : l.set j.toNatClampNeg x.toInt8.toInt32 = l') (hs : h.set a (.inl (2, .inl l')) = h') (hp : pc + 1 = pc') (kk : mm_Wp X Dp r pc' ls t h' Q) : mm_Wp X Dp r pc ls (.int x :: .int j :: .ref a :: t) h Q := by
  subst hp hs hl
  refine wp_s hat (ls' := ls) (st' := t) (h' := h.set a (.inl (2, .inl (l.set j.toNatClampNeg x.toInt8.toInt32)))) ?_ kk
  have e : mm_g2 .bastore (.int x :: .int j :: .ref a :: t) h = some (t, h.set a (.inl (2, .inl (l.set j.toNatClampNeg x.toInt8.toInt32)))) := by
    unfold mm_g2
    simp only [ha, hj, cond_true]
  show (.inl ((mm_g2 .bastore (.int x :: .int j :: .ref a :: t) h).map (fun q => (pc + 1, ls, q.1, q.2))) : mm_O) = _
  rw [e]
  rfl
theorem wp_zs {l l' : List Int32} {x : Int32} (hat : mm_at r pc = some (.bastore, 1)) (ha : h[a]? = some (.inl (3, .inl l))) (hj : mm_in j l.length = true) (hl : l.set j.toNatClampNeg (x &&& 1) = l') (hs : h.set a (.inl (3, .inl l')) = h') (hp : pc + 1 = pc') (kk : mm_Wp X Dp r pc' ls t h' Q) : mm_Wp X Dp r pc ls (.int x :: .int j :: .ref a :: t) h Q := by
  subst hp hs hl
  refine wp_s hat (ls' := ls) (st' := t) (h' := h.set a (.inl (3, .inl (l.set j.toNatClampNeg (x &&& 1))))) ?_ kk
  have e : mm_g2 .bastore (.int x :: .int j :: .ref a :: t) h = some (t, h.set a (.inl (3, .inl (l.set j.toNatClampNeg (x &&& 1))))) := by
    unfold mm_g2
    simp only [ha, hj, cond_true]
  show (.inl ((mm_g2 .bastore (.int x :: .int j :: .ref a :: t) h).map (fun q => (pc + 1, ls, q.1, q.2))) : mm_O) = _
  rw [e]
  rfl
theorem wp_lst {l l' : List Int64} {x : Int64} (hat : mm_at r pc = some (.lastore, 1)) (ha : h[a]? = some (.inl (1, .inr (.inl l)))) (hj : mm_in j l.length = true) (hl : l.set j.toNatClampNeg x = l') (hs : h.set a (.inl (1, .inr (.inl l'))) = h') (hp : pc + 1 = pc') (kk : mm_Wp X Dp r pc' ls t h' Q) : mm_Wp X Dp r pc ls (.long x :: .int j :: .ref a :: t) h Q := by
  subst hp hs hl
  refine wp_s hat (ls' := ls) (st' := t) (h' := h.set a (.inl (1, .inr (.inl (l.set j.toNatClampNeg x))))) ?_ kk
  have e : mm_g2 .lastore (.long x :: .int j :: .ref a :: t) h = some (t, h.set a (.inl (1, .inr (.inl (l.set j.toNatClampNeg x))))) := by
    unfold mm_g2
    simp only [ha, hj, cond_true]
  show (.inl ((mm_g2 .lastore (.long x :: .int j :: .ref a :: t) h).map (fun q => (pc + 1, ls, q.1, q.2))) : mm_O) = _
  rw [e]
  rfl
/-- a call on an object -/
theorem wp_cv {r' : mm_R} {Dq mj b : Nat} {as0 rest : List Value} {z : Int × List (Nat × Nat)} {ls' : mm_L} (hat : mm_at r pc = some (.invokevirtual idx, 3)) (hrk : mm_rk r.2.2.2 idx = some (idx, 1, mj, b, z)) (hmr : mm_rs[mj]? = some r') (htk : mm_tk r'.1.2.2.2.2.1 [] t = some (as0, .ref a :: rest)) (ha : h[a]? = some (.inr (b, fs))) (hmk : mm_mk Dq r' (.ref a :: as0) rest = .inr (.inr (Dq, r', .ref a :: as0, rest))) (he : mm_en r' (.ref a :: as0) = ls') (hp : pc + 3 = pc') (kk : mm_Wp X Dq r' 0 ls' [] h (fun v1 h1 => mm_Wp X (Dq + 1) r pc' ls (v1.toList ++ rest) h1 Q)) : mm_Wp X (Dq + 1) r pc ls t h Q := by
  subst hp
  refine wp_c hat (Dq := Dq) (r' := r') (as := .ref a :: as0) (rest := rest) ?_ he kk
  show mm_cl (Dq + 1) r idx t (fun k => Nat.beq k 1) true h = _
  unfold mm_cl
  simp only [hrk, hmr, htk, ha, Nat.beq_refl, cond_true, Bool.not_true, Bool.and_false, cond_false]
  exact hmk
end wpc
