/-! new int[n][k]; a making of any kind; arraycopy -/
theorem mm_outer (c : ClassId) (N h0 : Nat) : ∀ i : Nat, Jvm.Free.Multi.outerC c N h0 i = arrV c N (fun j => va_rf (if j < i then some (h0 + 1 + j) else none))
  | 0 => by
    show ({ cls := c, slots := Array.replicate N .null, vm := .none } : Cell) = _
    rw [arrV_new]
    refine congrArg (arrV c N) (funext fun j => ?_)
    simp [va_rf]
  | i + 1 => by
    show (Jvm.Free.Multi.outerC c N h0 i).setSlot i (.ref (h0 + 1 + i)) = _
    rw [mm_outer c N h0 i, arrV_store]
    refine congrArg (arrV c N) (funext fun j => ?_)
    by_cases e : j = i
    · subst e; simp [updV, va_rf]
    · by_cases h : j < i
      · simp [updV, e, h, Nat.lt_succ_of_lt h]
      · simp [updV, e, h, show ¬ j < i + 1 by omega]
section mmF
variable {p : Program} {l : Launch} {e : Env} {R : Room} {s : State} {m : MethodId} {args : Array Value} {below : List Frame} {meth : Method} {c : Code} {H : Heap} {locs : List Loc} {cells slots : Nat} {Q : State → Prop}
variable {cc : ByteArray} {pc n : Nat} {real : Array Slot} {D : va_G} {dA : Nat → ClassId} {B n0 s0 : Nat} {b0 : mm_X} {H0 : Heap} {X : Option (List Int32)} {i : Instr} {st st' : List Value} {h h' : mm_H} {r : mm_R}
theorem mm_szR (N K : Nat) : mm_sz (List.replicate N (.inl (0, .inl (List.replicate K 0)) : mm_E)) = N * K := by
  unfold mm_sz
  rw [List.map_replicate, List.sum_replicate_nat]
  simp [mm_cs, mm_al]
theorem mm_ok13d (hx : p.tables.exec = Jvm.exec) (hb : c.code = cc) (hts : ∀ w ∈ mm_W, w.before args s = true) (hG : mm_GI D dA B b0 H0 X s) (hown : s.vm.findClass r.2.1 = some m.cls) {idx : Nat} {ps : List (Nat × Nat)} (hek : mm_has ps [.classLink r.2.1 idx "[[I", .arrayClass .int] = true) (hd : decode cc pc = .ok (.multianewarray idx 2, 4)) (S : mm_CF D dA B b0 H0 n0 s0 H locs cells slots h) {t : List Value} {nn kk : Int32} (hnn : mm_nn nn = true) (hkk : mm_nn kk = true)
    (he : h' = (h ++ [.inl (4, .inr (.inr ((List.range nn.toNatClampNeg).map (fun i => some (h.length + 1 + i)))))]) ++ List.replicate nn.toNatClampNeg (.inl (0, .inl (List.replicate kk.toNatClampNeg 0))))
    (hc1 : h'.length ≤ n0 + R.cells) (hc2 : mm_sz h' ≤ s0 + R.slots)
    (k : ∀ H' locs' cells' slots', mm_CF D dA B b0 H0 n0 s0 H' locs' cells' slots' h' → W p l e R s m args below meth c H' locs' cells' slots' Q (F0 m (pc + 4) real (.ref (B + h.length) :: t))) :
    W p l e R s m args below meth c H locs cells slots Q (F0 m pc real (.int kk :: .int nn :: t)) := by
  obtain ⟨h1, h2⟩ := mm_nn_s hnn
  obtain ⟨h3, h4⟩ := mm_nn_s hkk
  generalize hN : nn.toNatClampNeg = N at *
  generalize hK : kk.toNatClampNeg = K at *
  have hlen : h'.length = h.length + 1 + N := by rw [he]; simp; omega
  have hz : mm_sz h' = mm_sz h + (N + N * K) := by
    rw [he, mm_sz_app, mm_sz_app, mm_szR]
    simp [mm_sz, mm_cs, mm_al]
    omega
  have e1 := S.2.2.1
  have e2 := S.2.2.2
  have hw := mm_W_has hek (by simp [goodWord, Cond.onTables, Cond.keeps, Cond.steady])
  intro T hT Xs
  have hcb : componentBytes FieldType.int = 4 := by decide
  have hcl0 : (Cond.classLink r.2.1 idx ("[" ++ (FieldType.array .int).toString)).before args s = true := by
    have e0 : "[" ++ (FieldType.array .int).toString = "[[I" := by decide +kernel
    rw [e0]
    exact hts _ (hw _ (by simp))
  obtain ⟨vm₁, cA, comp, -, fA, fC, hO, -, X', step⟩ := Xs.multianewarray2F (ty := .int) hx hown hcl0 hG.2.2.1.2.2.1 (hts (.arrayClass .int) (hw _ (by simp))) (g := F0 m pc real (.int kk :: .int nn :: t)) rfl (by rw [hb]; exact hd) rfl h1 h3 (by omega) (by rw [hcb]; omega) (by omega) rfl rfl (by rw [hN]; omega) (by rw [hN, hK]; omega)
  rw [hN, hK] at X' step
  have hc0 : comp = dA 0 := by
    have := (hG.1.2 0 _ rfl).2
    exact Option.some.inj (fC.symm.trans this)
  have hc4 : cA = dA 4 := by
    have := (hG.1.2 4 _ rfl).2
    exact Option.some.inj (fA.symm.trans this)
  subst hc0 hc4
  generalize hF : Jvm.Free.Multi.fill (T.setVm vm₁) (dA 4) (dA 0) N K (defaultValue .int) N = F at X' step
  have hTh : (T.setVm vm₁).heap = H := hT
  obtain ⟨f1, f2, -, -⟩ := Jvm.Free.Multi.fill_facts (T.setVm vm₁) (dA 4) (dA 0) N K (defaultValue .int) N
  rw [hF, hTh] at f1 f2
  have hold : ∀ x : Nat, x < H.size → F.heap[x]? = H[x]? := fun x hx => by
    have := Jvm.Free.Multi.fill_old (T.setVm vm₁) (dA 4) (dA 0) N K (defaultValue .int) (a := x) (by rw [hTh]; exact hx) N
    rw [hF, hTh] at this
    exact this
  have hrow : ∀ j : Nat, j < N → F.heap[H.size + 1 + j]? = some (Jvm.Free.Multi.innerC (dA 0) K (defaultValue .int)) := fun j hj => by
    have := Jvm.Free.Multi.fill_inner (T.setVm vm₁) (dA 4) (dA 0) N K (defaultValue .int) N j hj
    rw [hF, hTh] at this
    exact this
  have hsz := S.1.1
  have hSim : mm_Sim D dA B b0 H0 F.heap h' := by
    refine ⟨by rw [f1, hlen, hsz]; omega, fun q x hq => ?_, fun q hq => by rw [hold q (by omega)]; exact S.1.2.2 q hq⟩
    rw [he] at hq
    by_cases c1 : q < h.length
    · rw [List.getElem?_append_left (by simp; omega), List.getElem?_append_left c1] at hq
      exact (S.1.2.1 q x hq).kept (hold _ (by show B + q < H.size; omega))
    · by_cases c2 : q = h.length
      · subst c2
        rw [List.getElem?_append_left (by simp), List.getElem?_append_right (Nat.le_refl _), Nat.sub_self] at hq
        cases hq
        show F.heap[B + h.length]? = some (vp_cell _ _)
        rw [← hsz, f2, mm_outer]
        show _ = some (vp_cell (dA 4) (((List.range N).map (fun i => some (h.length + 1 + i))).length, .inr (.inr (.inr (.inr (fun j => (((List.range N).map (fun i => some (h.length + 1 + i))).getD j none).map (fun a => B + a)))))))
        rw [vp_cell_q]
        simp only [List.length_map, List.length_range]
        congr 2
        funext j
        by_cases hj : j < N
        · rw [if_pos hj, List.getD_eq_getElem?_getD, List.getElem?_map, List.getElem?_range hj]
          show va_rf (some (H.size + 1 + j)) = va_rf (some (B + (h.length + 1 + j)))
          rw [hsz, show B + h.length + 1 + j = B + (h.length + 1 + j) by omega]
        · simp [hj, List.getD_eq_getElem?_getD]
      · have hqN : q < h.length + 1 + N := by have := mm_lt hq; simp at this; omega
        rw [List.getElem?_append_right (by simp; omega)] at hq
        simp only [List.length_append, List.length_cons, List.length_nil, List.getElem?_replicate] at hq
        rw [if_pos (by omega)] at hq
        cases hq
        show F.heap[B + q]? = some (vp_cell _ _)
        have := hrow (q - h.length - 1) (by omega)
        rw [show H.size + 1 + (q - h.length - 1) = B + q by omega] at this
        rw [this]
        simp only [mm_ma, vp_cell_i, List.length_replicate, mm_rep]
        unfold Jvm.Free.Multi.innerC
        rw [arrV_new]
        rfl
  have hfin := k F.heap locs (cells + 1 + N) (slots + N + N * K) ⟨hSim, S.2.1, by rw [hlen, ← e1]; omega, by rw [hz, ← e2]; omega⟩ F rfl X'
  obtain ⟨tt, a1, b1⟩ := hfin
  rw [← hsz, ← hT] at a1
  exact ⟨tt, step tt a1, b1⟩
theorem mm_ok13 (hx : p.tables.exec = Jvm.exec) (hb : c.code = cc) (hr : mm_EOK r) (hts : ∀ w ∈ mm_W, w.before args s = true) (hG : mm_GI D dA B b0 H0 X s) (hown : s.vm.findClass r.2.1 = some m.cls) (hd : decode cc pc = .ok (i, n)) (S : mm_CF D dA B b0 H0 n0 s0 H locs cells slots h)
    (hs : mm_g3 r i n st h = some (st', h')) (hc1 : h'.length ≤ n0 + R.cells) (hc2 : mm_sz h' ≤ s0 + R.slots)
    (k : ∀ H' locs' cells' slots', mm_CF D dA B b0 H0 n0 s0 H' locs' cells' slots' h' → W p l e R s m args below meth c H' locs' cells' slots' Q (F0 m (pc + n) real (st'.map (mm_mv B b0)))) :
    W p l e R s m args below meth c H locs cells slots Q (F0 m pc real (st.map (mm_mv B b0))) := by
  unfold mm_g3 at hs
  split at hs
  · split at hs
    · next i0 ci rest hrk =>
      obtain ⟨he1, he2⟩ := mm_rk_s hrk
      have hek : mm_e7 r i0 ci rest.2.2 = true := hr _ he1
      simp only at he2
      subst he2
      cases hs
      exact mm_ok13b hx hb hts hG hown hek hd S hc1 hc2 k
    · cases hs
  · next ty nn t =>
    cases hnn : mm_nn nn <;> rw [hnn] at hs
    · cases hs
    · obtain ⟨e0, h1, h2⟩ := mm_map_s hs
      cases h2
      exact mm_ok13a hx hb hts hG hd S hnn h1 hc1 hc2 k
  · next idx nn t =>
    split at hs
    · next i0 ci rest hrk =>
      obtain ⟨he1, he2⟩ := mm_rk_s hrk
      have hek : mm_e7 r i0 ci rest.2.2 = true := hr _ he1
      simp only at he2
      subst he2
      obtain ⟨h1, h2⟩ := mm_setB hs
      simp only [Bool.and_eq_true] at h1
      cases h2
      exact mm_ok13c hx hb hts hG hown hek h1.2 hd S h1.1 rfl hc1 hc2 k
    · cases hs
  · next idx kk nn t =>
    split at hs
    · next i0 rest hrk =>
      obtain ⟨he1, he2⟩ := mm_rk_s hrk
      have hek : mm_has rest.2.2.2 [.classLink r.2.1 i0 "[[I", .arrayClass .int] = true := hr _ he1
      simp only at he2
      subst he2
      obtain ⟨h1, h2⟩ := mm_setB hs
      simp only [Bool.and_eq_true] at h1
      cases h2
      exact mm_ok13d hx hb hts hG hown hek hd S h1.1 h1.2 rfl hc1 hc2 k
    · cases hs
  · cases hs
end mmF
