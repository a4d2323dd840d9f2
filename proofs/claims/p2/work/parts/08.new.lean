/-! what is made -/
theorem mm_dv_s (t : FieldType) (B : Nat) (b0 : mm_X) (h : t = .int ∨ t = .boolean ∨ (∃ n, t = .object n) ∨ ∃ n, t = .array n) : defaultValue t = mm_mv B b0 (mm_dv t) := by
  rcases h with rfl | rfl | ⟨n, rfl⟩ | ⟨n, rfl⟩ <;> rfl
def mm_tk4 (t : FieldType) : Bool := match t with
  | .int | .boolean | .object _ | .array _ => true
  | _ => false
theorem mm_tk4_s {t : FieldType} (h : mm_tk4 t = true) : t = .int ∨ t = .boolean ∨ (∃ n, t = .object n) ∨ ∃ n, t = .array n := by
  cases t <;> first | (cases h; done) | simp
theorem mm_ftk : ∀ ci, ci < 11 → ∀ k, k < 46 → mm_tk4 (mm_ft ci k) = true := by decide +kernel
theorem mm_N46 : ∀ ci, ci < 11 → (match vwCl[ci]? with | some q => decide (q.2.2 ≤ 46) | none => true) = true := by decide +kernel
theorem mm_dfs_s {ci : Nat} {q : vw_C} (hq : vwCl[ci]? = some q) (B : Nat) (b0 : mm_X) : ∀ j, j < q.2.2 → defaultValue (mm_ft ci j) = vp_V ((mm_dfs ci).map (mm_mv B b0)) j := by
  intro j hj
  have hci : ci < 11 := by have := mm_lt hq; simpa [vwCl] using this
  have hN : q.2.2 ≤ 46 := by have := mm_N46 ci hci; rw [hq] at this; simpa using this
  rw [mm_dv_s _ B b0 (mm_tk4_s (mm_ftk ci hci j (by omega)))]
  unfold mm_dfs vp_V
  rw [hq]
  simp [List.getD_eq_getElem?_getD, hj]
theorem mm_nn_s {n : Int32} (h : mm_nn n = true) : ¬ n < 0 ∧ n.toNatClampNeg ≤ 1000 := by
  unfold mm_nn at h
  simp only [Bool.and_eq_true, Bool.not_eq_true', decide_eq_false_iff_not] at h
  exact ⟨h.1, Nat.le_of_ble_eq_true h.2⟩
theorem mm_rep {α : Type} (n j : Nat) (d : α) : (List.replicate n d).getD j d = d := by
  simp only [List.getD_eq_getElem?_getD, List.getElem?_replicate]
  split <;> rfl
section mmD
variable {p : Program} {l : Launch} {e : Env} {R : Room} {s : State} {m : MethodId} {args : Array Value} {below : List Frame} {meth : Method} {c : Code} {H : Heap} {locs : List Loc} {cells slots : Nat} {Q : State → Prop}
variable {cc : ByteArray} {pc n : Nat} {real : Array Slot} {D : va_G} {dA : Nat → ClassId} {B n0 s0 : Nat} {b0 : mm_X} {H0 : Heap} {X : Option (List Int32)} {i : Instr} {st st' : List Value} {h h' : mm_H} {r : mm_R}
theorem mm_newT (hx : p.tables.exec = Jvm.exec) (hb : c.code = cc) (hG : mm_GI D dA B b0 H0 X s) {at0 : ArrayType} (hd : decode cc pc = .ok (.newarray at0, 2)) (S : mm_CF D dA B b0 H0 n0 s0 H locs cells slots h) {nn : Int32} (hnn : mm_nn nn = true) {e0 : mm_E} {tag : Nat} {a0 : mm_A} (he : e0 = .inl (tag, a0)) {t : List Value}
    (harr : (Cond.arrayClass (newarray.typeOf at0)).before args s = true) (hty : (mm_tys dA)[tag]? = some (dA tag, newarray.typeOf at0)) (hnr : ∀ C, newarray.typeOf at0 ≠ .object C) (hcb : componentBytes (newarray.typeOf at0) ≤ 8) (hal : mm_al a0 = nn.toNatClampNeg) (hce : vp_cell (dA tag) (mm_ma B a0) = arrV (dA tag) nn.toNatClampNeg (fun _ => defaultValue (newarray.typeOf at0)))
    (hc1 : (h ++ [e0]).length ≤ n0 + R.cells) (hc2 : mm_sz (h ++ [e0]) ≤ s0 + R.slots)
    (k : ∀ H' locs' cells' slots', mm_CF D dA B b0 H0 n0 s0 H' locs' cells' slots' (h ++ [e0]) → W p l e R s m args below meth c H' locs' cells' slots' Q (F0 m (pc + 2) real (.ref (B + h.length) :: t))) :
    W p l e R s m args below meth c H locs cells slots Q (F0 m pc real (.int nn :: t)) := by
  subst he
  obtain ⟨h1, h2⟩ := mm_nn_s hnn
  have hz : mm_sz (h ++ [(.inl (tag, a0) : mm_E)]) = mm_sz h + nn.toNatClampNeg := by rw [mm_sz_app]; simp [mm_sz, mm_cs, hal]
  have hcc : cells + 1 ≤ R.cells := by
    have := S.2.2.1
    simp at hc1
    omega
  have hss : slots + nn.toNatClampNeg ≤ R.slots := by
    have := S.2.2.2
    rw [hz] at hc2
    omega
  have hsz : H.size = B + h.length := S.1.1
  refine va_newaK hx hb harr rfl hd rfl h1 rfl (Nat.le_trans (Nat.mul_le_mul h2 hcb) (by omega)) hcc hss rfl fun H1 cA e1 z1 o1 hAr hNm => ?_
  have hcA : cA = dA tag := by
    have := (hG.1.2 tag _ hty).2
    unfold va_RA at this
    split at this
    · next C hC => exact absurd hC (hnr C)
    · exact Option.some.inj (hNm.symm.trans this)
  subst hcA
  have hfin := k H1 locs (cells + 1) (slots + nn.toNatClampNeg) (S.push (e' := .inl (tag, a0)) (by show H1[H.size]? = some (vp_cell _ _); rw [e1]; exact congrArg some hce.symm) z1 o1 hal)
  rw [← hsz] at hfin
  exact hfin
theorem mm_AC {ps : List (Nat × Nat)} {ty : FieldType} (h : mm_has ps [.arrayClass ty] = true) (hts : ∀ w ∈ mm_W, w.before args s = true) : (Cond.arrayClass ty).before args s = true := hts _ (mm_one h rfl)
theorem mm_ok13a (hx : p.tables.exec = Jvm.exec) (hb : c.code = cc) (hts : ∀ w ∈ mm_W, w.before args s = true) (hG : mm_GI D dA B b0 H0 X s) {at0 : ArrayType} (hd : decode cc pc = .ok (.newarray at0, 2)) (S : mm_CF D dA B b0 H0 n0 s0 H locs cells slots h) {nn : Int32} (hnn : mm_nn nn = true) {e0 : mm_E} {t : List Value} (hna : mm_na at0 nn.toNatClampNeg = some e0)
    (hc1 : (h ++ [e0]).length ≤ n0 + R.cells) (hc2 : mm_sz (h ++ [e0]) ≤ s0 + R.slots)
    (k : ∀ H' locs' cells' slots', mm_CF D dA B b0 H0 n0 s0 H' locs' cells' slots' (h ++ [e0]) → W p l e R s m args below meth c H' locs' cells' slots' Q (F0 m (pc + 2) real (.ref (B + h.length) :: t))) :
    W p l e R s m args below meth c H locs cells slots Q (F0 m pc real (.int nn :: t)) := by
  unfold mm_na at hna
  split at hna
  · cases hna
    refine mm_newT hx hb hG hd S hnn rfl (mm_AC mm_ac0 hts) rfl (fun C h => by cases h) (by decide) (by simp [mm_al]) ?_ hc1 hc2 k
    simp only [mm_ma, vp_cell_i, List.length_replicate, mm_rep]
    rfl
  · cases hna
    refine mm_newT hx hb hG hd S hnn rfl (mm_AC mm_ac1 hts) rfl (fun C h => by cases h) (by decide) (by simp [mm_al]) ?_ hc1 hc2 k
    simp only [mm_ma, vp_cell_l, List.length_replicate, mm_rep]
    rfl
  · cases hna
    refine mm_newT hx hb hG hd S hnn rfl (mm_AC mm_ac2 hts) rfl (fun C h => by cases h) (by decide) (by simp [mm_al]) ?_ hc1 hc2 k
    simp only [mm_ma, vp_cell_i, List.length_replicate, mm_rep]
    rfl
  · cases hna
    refine mm_newT hx hb hG hd S hnn rfl (mm_AC mm_ac3 hts) rfl (fun C h => by cases h) (by decide) (by simp [mm_al]) ?_ hc1 hc2 k
    simp only [mm_ma, vp_cell_i, List.length_replicate, mm_rep]
    rfl
  · cases hna
theorem mm_ok13b (hx : p.tables.exec = Jvm.exec) (hb : c.code = cc) (hts : ∀ w ∈ mm_W, w.before args s = true) (hG : mm_GI D dA B b0 H0 X s) (hown : s.vm.findClass r.2.1 = some m.cls) {idx ci : Nat} {ps : List (Nat × Nat)} (hek : mm_e7 r idx ci ps = true) (hd : decode cc pc = .ok (.new idx, 3)) (S : mm_CF D dA B b0 H0 n0 s0 H locs cells slots h) {t : List Value}
    (hc1 : (h ++ [(.inr (ci, mm_dfs ci) : mm_E)]).length ≤ n0 + R.cells) (hc2 : mm_sz (h ++ [(.inr (ci, mm_dfs ci) : mm_E)]) ≤ s0 + R.slots)
    (k : ∀ H' locs' cells' slots', mm_CF D dA B b0 H0 n0 s0 H' locs' cells' slots' (h ++ [.inr (ci, mm_dfs ci)]) → W p l e R s m args below meth c H' locs' cells' slots' Q (F0 m (pc + 3) real (.ref (B + h.length) :: t))) :
    W p l e R s m args below meth c H locs cells slots Q (F0 m pc real t) := by
  unfold mm_e7 at hek
  split at hek
  · next q hq =>
    have hw := mm_W_has hek (by simp [goodWord, Cond.onTables, Cond.keeps, Cond.steady])
    have hz : mm_sz (h ++ [(.inr (ci, mm_dfs ci) : mm_E)]) = mm_sz h + q.2.2 := by rw [mm_sz_app]; simp [mm_sz, mm_cs, hq]
    have hcc : cells + 1 ≤ R.cells := by
      have := S.2.2.1
      simp at hc1
      omega
    have hss : slots + q.2.2 ≤ R.slots := by
      have := S.2.2.2
      rw [hz] at hc2
      omega
    have hKn := hG.1.1 ci _ hq
    refine W.newcK hx hb hown (hts _ (hw _ (by simp))) (hts _ (hw (.instantiable q.1 q.2.2) (by simp))) (hts _ (hw (.initialized q.1) (by simp))) rfl hd hcc hss hKn.2.1 rfl fun H1 kC hkC e1 z1 o1 => ?_
    have hfin := k H1 locs (cells + 1) (slots + q.2.2) (S.push (e' := .inr (ci, mm_dfs ci)) ⟨q, hq, (u_born (mm_ft ci) hts (mm_lay hq) hKn hkC e1 (mm_tyok hq)).to (mm_dfs_s hq B b0)⟩ z1 o1 (by simp [mm_cs, hq]))
    rw [← S.1.1] at hfin
    exact hfin
  · cases hek
theorem mm_ok13c (hx : p.tables.exec = Jvm.exec) (hb : c.code = cc) (hts : ∀ w ∈ mm_W, w.before args s = true) (hG : mm_GI D dA B b0 H0 X s) (hown : s.vm.findClass r.2.1 = some m.cls) {idx ci : Nat} {ps : List (Nat × Nat)} (hek : mm_e7 r idx ci ps = true) (hec : Nat.beq (mm_ec (mm_tc ci)) ci = true) (hd : decode cc pc = .ok (.anewarray idx, 3)) (S : mm_CF D dA B b0 H0 n0 s0 H locs cells slots h) {t : List Value} {nn : Int32} (hnn : mm_nn nn = true) {e0 : mm_E} (he0 : e0 = .inl (mm_tc ci, .inr (.inr (List.replicate nn.toNatClampNeg none))))
    (hc1 : (h ++ [e0]).length ≤ n0 + R.cells) (hc2 : mm_sz (h ++ [e0]) ≤ s0 + R.slots)
    (k : ∀ H' locs' cells' slots', mm_CF D dA B b0 H0 n0 s0 H' locs' cells' slots' (h ++ [e0]) → W p l e R s m args below meth c H' locs' cells' slots' Q (F0 m (pc + 3) real (.ref (B + h.length) :: t))) :
    W p l e R s m args below meth c H locs cells slots Q (F0 m pc real (.int nn :: t)) := by
  subst he0
  obtain ⟨h1, h2⟩ := mm_nn_s hnn
  unfold mm_e7 at hek
  split at hek
  · next q hq =>
    have hw := mm_W_has hek (by simp [goodWord, Cond.onTables, Cond.keeps, Cond.steady])
    have hci : ci < 1000 := by have := mm_lt hq; simp [vwCl] at this; omega
    have hec' : Nat.beq ci (mm_ec (mm_tc ci)) = true := by rw [Nat.eq_of_beq_eq_true hec]; exact Nat.beq_refl _
    obtain ⟨q', hq', hty⟩ := mm_ec_s (dA := dA) hec' hci
    cases Option.some.inj (hq.symm.trans hq')
    obtain ⟨kA, comp, k1, k2, k3, k4⟩ := (hG.1.2 _ _ hty).2
    have hAO : (Cond.arrayOver (.object q.1)).before args s = true := by
      have hci2 : ci = 3 ∨ ci = 7 := by
        have := Nat.eq_of_beq_eq_true hec
        unfold mm_tc at this
        split at this
        · exact Or.inl rfl
        · exact Or.inr rfl
        · simp [mm_ec] at this; omega
      rcases hci2 with rfl | rfl
      · cases hq; exact hG.2.2.1.1
      · cases hq; exact hG.2.2.1.2.1
    have hz : mm_sz (h ++ [(.inl (mm_tc ci, .inr (.inr (List.replicate nn.toNatClampNeg none))) : mm_E)]) = mm_sz h + nn.toNatClampNeg := by rw [mm_sz_app]; simp [mm_sz, mm_cs, mm_al]
    have hcc : cells + 1 ≤ R.cells := by
      have := S.2.2.1
      simp at hc1
      omega
    have hss : slots + nn.toNatClampNeg ≤ R.slots := by
      have := S.2.2.2
      rw [hz] at hc2
      omega
    refine W.anew hx hb hown (hts _ (hw _ (by simp))) hAO rfl hd rfl h1 (by omega) hcc hss fun cA kA' comp' f1 f2 f3 f4 => ?_
    have hcA : cA = dA (mm_tc ci) := Option.some.inj (f1.symm.trans k4)
    subst hcA
    have hfin := k (H.push ({ cls := dA (mm_tc ci), slots := Array.replicate nn.toNatClampNeg .null, vm := .none } : Cell)) locs (cells + 1) (slots + nn.toNatClampNeg) (S.push (e' := .inl (mm_tc ci, .inr (.inr (List.replicate nn.toNatClampNeg none)))) (by
      show _ = some (vp_cell _ _)
      rw [Array.getElem?_push_size]
      simp only [mm_ma, vp_cell_q, List.length_replicate, mm_rep]
      rw [arrV_new]
      rfl) (by rw [Array.size_push]) (fun q hq => by rw [Array.getElem?_push, if_neg (Nat.ne_of_lt hq)]) (by simp [mm_cs, mm_al]))
    rw [← S.1.1] at hfin
    exact hfin
  · cases hek
end mmD
