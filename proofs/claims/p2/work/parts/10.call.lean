/-! arraycopy; a call by a contract -/
theorem mm_cp_len {α : Type} {f g : List α} {sp dp n : Nat} (h1 : sp + n ≤ f.length) (h2 : dp + n ≤ g.length) : (mm_cp f g sp dp n).length = g.length := by
  unfold mm_cp
  simp only [List.length_append, List.length_take, List.length_drop]
  omega
theorem mm_cp_get {α : Type} {f g : List α} {sp dp n : Nat} (h1 : sp + n ≤ f.length) (h2 : dp + n ≤ g.length) (d : α) (k : Nat) : (mm_cp f g sp dp n).getD k d = va_cpy (fun j => f.getD j d) (fun j => g.getD j d) sp dp n k := by
  unfold mm_cp va_cpy
  simp only [List.getD_eq_getElem?_getD]
  by_cases c1 : k < dp
  · rw [if_neg (by omega), List.append_assoc, List.getElem?_append_left (by rw [List.length_take]; omega), List.getElem?_take, if_pos c1]
  · rw [List.append_assoc, List.getElem?_append_right (by rw [List.length_take]; omega)]
    have e1 : k - (List.take dp g).length = k - dp := by rw [List.length_take]; omega
    rw [e1]
    by_cases c2 : k < dp + n
    · rw [if_pos (by omega), List.getElem?_append_left (by rw [List.length_take, List.length_drop]; omega), List.getElem?_take, if_pos (by omega), List.getElem?_drop]
    · rw [if_neg (by omega), List.getElem?_append_right (by rw [List.length_take, List.length_drop]; omega), List.getElem?_drop]
      congr 2
      rw [List.length_take, List.length_drop]
      omega
theorem mm_wt_s (B : Nat) (b0 : mm_X) (t : List Value) : ((t.map (mm_mv B b0)).map fun v => v.category).sum = mm_wt t := by
  induction t with
  | nil => rfl
  | cons v t ih =>
    simp only [List.map_cons, List.sum_cons, ih, mm_mv_cat]
    rfl
theorem mm_tk_s {n : Nat} {acc st as rest : List Value} (h : mm_tk n acc st = some (as, rest)) : ∃ xs, st = xs ++ rest ∧ xs.length = n ∧ as = xs.reverse ++ acc := by
  induction n generalizing acc st with
  | zero => cases h; exact ⟨[], rfl, rfl, rfl⟩
  | succ n ih =>
    cases st with
    | nil => cases h
    | cons v st =>
      obtain ⟨xs, h1, h2, h3⟩ := ih h
      exact ⟨v :: xs, by rw [h1]; rfl, by rw [List.length_cons, h2], by rw [h3]; simp⟩
section mmH
variable {p : Program} {l : Launch} {e : Env} {R : Room} {s : State} {m : MethodId} {args : Array Value} {below : List Frame} {meth : Method} {c : Code} {H : Heap} {locs : List Loc} {cells slots : Nat} {Q : State → Prop}
variable {cc : ByteArray} {pc n : Nat} {real : Array Slot} {D : va_G} {dA : Nat → ClassId} {B n0 s0 : Nat} {b0 : mm_X} {H0 : Heap} {X : Option (List Int32)} {i : Instr} {st st' : List Value} {h h' : mm_H} {r : mm_R}
theorem mm_nneg {z : Int32} (hz : ¬ z < 0) : z.toInt = (z.toNatClampNeg : Int) := by
  have hz0 : (0 : Int) ≤ z.toInt := by
    have := Int32.not_lt.mp hz
    simpa using Int32.le_iff_toInt_le.mp this
  show z.toInt = ((z.toInt.toNat : Nat) : Int)
  omega
theorem mm_acG {α : Type} (mk : α → Value) (d : α) {tag : Nat} {ty : FieldType} {f g : List α} {wr : List α → mm_A} (hwr : ∀ x, vp_cell (dA tag) (mm_ma B (wr x)) = arrV (dA tag) x.length (fun j => mk (x.getD j d))) (hal : ∀ x, mm_al (wr x) = x.length)
    (hx : p.tables.exec = Jvm.exec) (hb : c.code = cc) (hml : c.maxLocals = real.size) (hown : s.vm.findClass r.2.1 = some m.cls) (hts : ∀ w ∈ mm_W, w.before args s = true) (hG : mm_GI D dA B b0 H0 X s) {idx : Nat} {ps : List (Nat × Nat)} (hek : mm_has ps [.methodLink r.2.1 idx arraycopyName, .native arraycopyName, .static arraycopyName, .initialized "java/lang/System"] = true)
    (hd : decode cc pc = .ok (.invokestatic idx, 3)) (S : mm_CF D dA B b0 H0 n0 s0 H locs cells slots h) {a b : Nat} {sp dp n : Int32} {t : List Value} (hty : (mm_tys dA)[tag]? = some (dA tag, ty)) (hprim : refKind ty = false) (hfits : ∀ x, fits ty (mk x) = true)
    (ha : h[a]? = some (.inl (tag, wr f))) (hb' : h[b]? = some (.inl (tag, wr g))) (h1 : ¬ sp < 0) (h2 : ¬ dp < 0) (h3 : ¬ n < 0) (h4 : sp.toNatClampNeg + n.toNatClampNeg ≤ f.length) (h5 : dp.toNatClampNeg + n.toNatClampNeg ≤ g.length) (hwt : mm_wt t ≤ 8) (hfr : 1 ≤ R.frames) (hlo : 35 ≤ R.locals)
    (k : ∀ H' locs', mm_CF D dA B b0 H0 n0 s0 H' locs' cells slots (h.set b (.inl (tag, wr (mm_cp f g sp.toNatClampNeg dp.toNatClampNeg n.toNatClampNeg)))) → W p l e R s m args below meth c H' locs' cells slots Q (F0 m (pc + 3) real (t.map (mm_mv B b0)))) :
    W p l e R s m args below meth c H locs cells slots Q (F0 m pc real ((.int n :: .int dp :: .ref b :: .int sp :: .ref a :: t : List Value).map (mm_mv B b0))) := by
  have hw := mm_W_has hek (by simp [goodWord, Cond.onTables, Cond.keeps, Cond.steady])
  have h7 : nativeFrameWords "java/lang/System" "arraycopy" 5 = 7 := by decide +kernel
  have hroom : 2 * 0 + ((t.map (mm_mv B b0)).map fun v => v.category).sum + (nativeFrameWords "java/lang/System" "arraycopy" 5 + 11) ≤ R.locals := by rw [mm_wt_s, h7]; omega
  intro T hT Xs
  have hc0 : H[B + a]? = some (vp_cell (dA tag) (mm_ma B (wr f))) := S.1.2.1 _ _ ha
  have hc1 : H[B + b]? = some (vp_cell (dA tag) (mm_ma B (wr g))) := S.1.2.1 _ _ hb'
  rw [hwr] at hc0 hc1
  obtain ⟨-, k0, hk0, cm0, hkk0⟩ := (hG.1.2 tag _ hty).1 f.length (fun j => mk (f.getD j d))
  obtain ⟨-, k1, hk1, cm1, hkk1⟩ := (hG.1.2 tag _ hty).1 g.length (fun j => mk (g.getD j d))
  obtain ⟨vm', X', step⟩ := Xs.arraycopy hx hown (hts (.methodLink r.2.1 idx arraycopyName) (hw _ (by simp))) (hts (.native arraycopyName) (hw _ (by simp))) (hts (.static arraycopyName) (hw _ (by simp))) (hts (.initialized "java/lang/System") (hw _ (by simp))) (src := B + a) (dst := B + b) (srcPos := sp) (destPos := dp) (n := n) (by rw [hT]; exact hc0) (by rw [hT]; exact hc1)
    (fun _ h => by cases h) (fun _ h => by cases h) (fun h => by cases h) (fun h => by cases h) hk0 hk1 hkk0 hkk1 (by simp [hprim]) h1 h2 h3
    (by rw [mm_nneg h1, mm_nneg h3, arrV_size]; omega)
    (by rw [mm_nneg h2, mm_nneg h3, arrV_size]; omega)
    (fun vm₁ _ i hi => by
      have e : (arrV (dA tag) f.length (fun j => mk (f.getD j d))).slots.getD (sp.toNatClampNeg + i) .null = mk (f.getD (sp.toNatClampNeg + i) d) := by
        rw [Array.getD_eq_getD_getElem?, arrV_read _ _ (by omega)]
        rfl
      refine ⟨?_, ?_⟩
      · rw [e]
        exact hfits _
      · rw [e]
        have := hfits (f.getD (sp.toNatClampNeg + i) d)
        revert this
        generalize mk (f.getD (sp.toNatClampNeg + i) d) = vv
        intro hv
        cases vv <;> first | exact trivial | (exfalso; cases ty <;> first | (simp [refKind] at hprim; done) | (cases hv; done)))
    (g := F0 m pc real ((.int n :: .int dp :: .ref b :: .int sp :: .ref a :: t : List Value).map (mm_mv B b0))) rfl (by rw [hml]) (rest := t.map (mm_mv B b0)) rfl (by rw [hb]; exact hd) hfr hroom
  have e1 : copied (arrV (dA tag) f.length (fun j => mk (f.getD j d))) (arrV (dA tag) g.length (fun j => mk (g.getD j d))) sp dp n = arrV (dA tag) g.length (fun j => mk (va_cpy (fun j => f.getD j d) (fun j => g.getD j d) sp.toNatClampNeg dp.toNatClampNeg n.toNatClampNeg j)) := va_copied mk (dA tag) (dA tag) (fun j => f.getD j d) (fun j => g.getD j d) h4
  have e2 : arrV (dA tag) g.length (fun j => mk (va_cpy (fun j => f.getD j d) (fun j => g.getD j d) sp.toNatClampNeg dp.toNatClampNeg n.toNatClampNeg j)) = vp_cell (dA tag) (mm_ma B (wr (mm_cp f g sp.toNatClampNeg dp.toNatClampNeg n.toNatClampNeg))) := by
    rw [hwr, mm_cp_len h4 h5]
    congr 1
    funext j
    rw [mm_cp_get h4 h5]
  rw [e1, e2] at X' step
  generalize hv : vp_cell (dA tag) (mm_ma B (wr (mm_cp f g sp.toNatClampNeg dp.toNatClampNeg n.toNatClampNeg))) = newc at X' step
  have hl : B + b < H.size := (Array.getElem?_eq_some_iff.mp hc1).1
  have hheap : ((T.setVm vm').setCell (B + b) newc).heap = H.setIfInBounds (B + b) newc := by rw [← hT]; rfl
  have hS' := S.1.set hb' (e' := .inl (tag, wr (mm_cp f g sp.toNatClampNeg dp.toNatClampNeg n.toNatClampNeg))) (H1 := H.setIfInBounds (B + b) newc) (show (H.setIfInBounds (B + b) newc)[B + b]? = some (vp_cell _ _) by rw [← hv]; simp [Array.getElem?_setIfInBounds, hl]) (by simp) (fun q hq => by simp [Array.getElem?_setIfInBounds, Ne.symm hq])
  obtain ⟨tt, a1, b1⟩ := k _ _ ⟨hS', fun q hq => by
      rcases List.mem_append.mp hq with h | h
      · exact S.2.1 q h
      · obtain ⟨z, -, hz⟩ := List.mem_map.mp h
        rw [← hz]
        exact Nat.le_add_right B b, by rw [List.length_set]; exact S.2.2.1, by rw [mm_sz_set hb' (by simp [mm_cs, hal, mm_cp_len h4 h5])]; exact S.2.2.2⟩ _ hheap X'
  exact ⟨tt, step tt a1, b1⟩
end mmH
