/-! arrays: reads and writes, constants -/
theorem mm_setB {b : Bool} {α : Type} {x y : α} (h : (bif b then some x else none) = some y) : b = true ∧ x = y := by
  cases b
  · cases h
  · exact ⟨rfl, Option.some.inj h⟩
theorem mm_rv_mv (B : Nat) (b0 : mm_X) (o : Option Nat) : mm_mv B b0 (mm_rv o) = va_rf (o.map (fun a => B + a)) := by cases o <;> rfl
theorem mm_str_s {a : Nat} {l : List Int32} (h : mm_str a = some l) : ∃ (i : Nat) (q : Nat × String), a = i + 100 ∧ mm_tl[i]? = some q ∧ mm_txt[i]? = some l := by
  unfold mm_str at h
  split at h
  · next k =>
    have hk : k < 15 := by have := mm_lt h; simpa [mm_txt] using this
    obtain ⟨q, hq⟩ := Option.isSome_iff_exists.mp (mm_tx0 k hk).1
    exact ⟨k, q, rfl, hq, h⟩
  · cases h
section mmC
variable {p : Program} {l : Launch} {e : Env} {R : Room} {s : State} {m : MethodId} {args : Array Value} {below : List Frame} {meth : Method} {c : Code} {H : Heap} {locs : List Loc} {cells slots : Nat} {Q : State → Prop}
variable {cc : ByteArray} {pc n : Nat} {real : Array Slot} {D : va_G} {dA : Nat → ClassId} {B n0 s0 : Nat} {b0 : mm_X} {H0 : Heap} {X : Option (List Int32)} {i : Instr} {st st' : List Value} {h h' : mm_H} {r : mm_R}
theorem mm_nA {q : Nat} (hG : mm_GI D dA B b0 H0 X s) (h : q < B) : ¬ (fun x : Nat => B ≤ x) q := Nat.not_le.mpr h
theorem mm_Sof (hG : mm_GI D dA B b0 H0 X s) (S : mm_CF D dA B b0 H0 n0 s0 H locs cells slots h) : va_S (fun x : Nat => B ≤ x) H0 H locs :=
  ⟨by rw [S.1.1, ← hG.2.2.2.2]; omega, fun q h1 _ => S.1.2.2 q (by rw [hG.2.2.2.2]; exact h1), S.2.1⟩
theorem mm_ok10 (hx : p.tables.exec = Jvm.exec) (hb : c.code = cc) (hG : mm_GI D dA B b0 H0 X s) (hd : decode cc pc = .ok (i, 1)) (S : mm_CF D dA B b0 H0 n0 s0 H locs cells slots h)
    (hs : mm_g1 X i st h = some st') (k : W p l e R s m args below meth c H locs cells slots Q (F0 m (pc + 1) real (st'.map (mm_mv B b0)))) :
    W p l e R s m args below meth c H locs cells slots Q (F0 m pc real (st.map (mm_mv B b0))) := by
  unfold mm_g1 at hs
  split at hs
  · split at hs
    · next l0 ha =>
      obtain ⟨h1, rfl⟩ := mm_setB hs
      exact va_iald hx hb hG.1 (mm_P1 (S.1.2.1 _ _ ha)) 0 0 rfl rfl (mm_in_s h1).1 hd k
    · cases hs
  · split at hs
    · next xs =>
      obtain ⟨h1, rfl⟩ := mm_setB hs
      obtain ⟨hX, hlt⟩ := hG.2.2.2.1 _ rfl
      exact va_sld hx hb hX (by rw [← hG.2.2.2.2]; exact hlt) (mm_nA hG hlt) (mm_Sof hG S) (mm_in_s h1).1 hd k
    · cases hs
  · split at hs
    · next l0 ha =>
      obtain ⟨h1, rfl⟩ := mm_setB hs
      exact va_bald hx hb hG.1 (mm_P1 (S.1.2.1 _ _ ha)) 0 2 rfl rfl (mm_in_s h1).1 hd k
    · next l0 ha =>
      obtain ⟨h1, rfl⟩ := mm_setB hs
      exact va_zald hx hb hG.1 (mm_P1 (S.1.2.1 _ _ ha)) 0 3 rfl rfl (mm_in_s h1).1 hd k
    · cases hs
  · next j a t =>
    split at hs
    · next l0 hl0 =>
      obtain ⟨h1, rfl⟩ := mm_setB hs
      obtain ⟨i1, q, rfl, hq, hl⟩ := mm_str_s hl0
      obtain ⟨-, -, -, ⟨cell, g1, g2, g3, g4, g5, g6, g7⟩, -⟩ := hG.2.2.1.2.2.2.1 i1 q l0 hq hl
      obtain ⟨h2, h3⟩ := mm_in_s h1
      have k' := k
      exact W.bald hx hb (by rw [show i1 + 100 = 100 + i1 by omega, S.1.2.2 _ (Nat.not_le.mp g7)]; exact g1) g2 g3 (fun z => z.elim (fun z => h2 (Or.inl z)) (fun z => by omega)) (g6 _ h3) rfl rfl hd k'
    · cases hs
  · split at hs
    · next l0 ha =>
      obtain ⟨h1, rfl⟩ := mm_setB hs
      exact va_lald hx hb hG.1 (mm_P1 (S.1.2.1 _ _ ha)) 0 1 rfl rfl (mm_in_s h1).1 hd k
    · cases hs
  · split at hs
    · next l0 ha =>
      obtain ⟨h1, rfl⟩ := mm_setB hs
      obtain ⟨h2, h3⟩ := mm_in_s h1
      rw [List.map_cons, mm_rv_mv] at k
      exact W.aald (ty := .array .int) hx hb (S.1.2.1 _ _ ha) ((hG.1.2 4 _ rfl).1 l0.length (fun j => va_rf ((l0.getD j none).map (fun a => B + a)))) rfl (fun q => by cases q) (by show ¬ (_ ∨ (arrV _ _ _).slots.size ≤ _); rw [arrV_size]; exact h2) (arrV_read (dA 4) (fun j => va_rf ((l0.getD j none).map (fun a => B + a))) h3) rfl rfl hd k
    · next l0 ha =>
      obtain ⟨h1, rfl⟩ := mm_setB hs
      rw [List.map_cons, mm_rv_mv] at k
      exact va_aldq hx hb hG.1 (mm_P1 (S.1.2.1 _ _ ha)) 0 5 rfl rfl (mm_in_s h1).1 hd k
    · next l0 ha =>
      obtain ⟨h1, rfl⟩ := mm_setB hs
      rw [List.map_cons, mm_rv_mv] at k
      exact va_aldq hx hb hG.1 (mm_P1 (S.1.2.1 _ _ ha)) 0 6 rfl rfl (mm_in_s h1).1 hd k
    · cases hs
  · split at hs
    · next l0 ha =>
      cases hs
      exact va_alen hx hb hG.1 (mm_P1 (S.1.2.1 _ _ ha)) 0 0 rfl rfl rfl hd k
    · next l0 ha =>
      cases hs
      exact va_alen hx hb hG.1 (mm_P1 (S.1.2.1 _ _ ha)) 0 1 rfl rfl rfl hd k
    · cases hs
  · split at hs
    · next xs =>
      cases hs
      obtain ⟨hX, hlt⟩ := hG.2.2.2.1 _ rfl
      exact va_slen hx hb hX (by rw [← hG.2.2.2.2]; exact hlt) (mm_nA hG hlt) (mm_Sof hG S) hd k
    · cases hs
  · next a t =>
    split at hs
    · next l0 hl0 =>
      cases hs
      obtain ⟨i1, q, he, hq, hl⟩ := mm_str_s hl0
      obtain ⟨-, -, -, ⟨cell, g1, g2, g3, g4, g5, g6, g7⟩, -⟩ := hG.2.2.1.2.2.2.1 i1 q l0 hq hl
      exact W.alen hx hb (by show H[b0.1 (a + 1)]? = some cell; rw [he, show i1 + 100 = 100 + i1 by omega, S.1.2.2 _ (Nat.not_le.mp g7)]; exact g1) g2 g5 rfl rfl hd k
    · cases hs
  · cases hs
theorem mm_atI {tag a j : Nat} {H1 : Heap} {l0 : List Int32} {x : Int32} (hj : j < l0.length) (e1 : H1[B + a]? = some ((vp_cell (dA tag) (l0.length, .inl (fun q => l0.getD q 0))).setSlot j (.int x))) :
    va_at D vwCl (B + a, mm_me dA B b0 (.inl (tag, .inl (l0.set j x)))) H1 := by
  show H1[B + a]? = some (vp_cell _ _)
  rw [e1, vp_cell_i, arrV_store]
  show _ = some (vp_cell (dA tag) ((l0.set j x).length, .inl (fun q => (l0.set j x).getD q 0)))
  rw [vp_cell_i, List.length_set]
  congr 2
  funext q
  rw [mm_gd l0 j q x 0 hj]
  by_cases hq : q = j
  · subst hq; simp [updV]
  · simp [updV, hq]
theorem mm_atL {tag a j : Nat} {H1 : Heap} {l0 : List Int64} {x : Int64} (hj : j < l0.length) (e1 : H1[B + a]? = some ((vp_cell (dA tag) (l0.length, .inr (.inl (fun q => l0.getD q 0)))).setSlot j (.long x))) :
    va_at D vwCl (B + a, mm_me dA B b0 (.inl (tag, .inr (.inl (l0.set j x))))) H1 := by
  show H1[B + a]? = some (vp_cell _ _)
  rw [e1, vp_cell_l, arrV_store]
  show _ = some (vp_cell (dA tag) ((l0.set j x).length, .inr (.inl (fun q => (l0.set j x).getD q 0))))
  rw [vp_cell_l, List.length_set]
  congr 2
  funext q
  rw [mm_gd l0 j q x 0 hj]
  by_cases hq : q = j
  · subst hq; simp [updV]
  · simp [updV, hq]
theorem mm_atR {tag a j v : Nat} {H1 : Heap} {l0 : List (Option Nat)} (hj : j < l0.length) (e1 : H1[B + a]? = some ((vp_cell (dA tag) (l0.length, .inr (.inr (.inr (.inr (fun q => (l0.getD q none).map (fun a => B + a))))))).setSlot j (.ref (B + v)))) :
    va_at D vwCl (B + a, mm_me dA B b0 (.inl (tag, .inr (.inr (l0.set j (some v)))))) H1 := by
  show H1[B + a]? = some (vp_cell _ _)
  rw [e1, vp_cell_q, arrV_store]
  show _ = some (vp_cell (dA tag) ((l0.set j (some v)).length, .inr (.inr (.inr (.inr (fun q => ((l0.set j (some v)).getD q none).map (fun a => B + a)))))))
  rw [vp_cell_q, List.length_set]
  congr 2
  funext q
  rw [mm_gd l0 j q (some v) none hj]
  by_cases hq : q = j
  · subst hq; simp [updV, va_rf]
  · simp [updV, hq]
theorem mm_ec_s {tag cj : Nat} (h : Nat.beq cj (mm_ec tag) = true) (hc : cj < 1000) : ∃ q, vwCl[cj]? = some q ∧ (mm_tys dA)[tag]? = some (dA tag, .object q.1) := by
  have := Nat.eq_of_beq_eq_true h
  unfold mm_ec at this
  split at this
  · subst this; exact ⟨_, rfl, rfl⟩
  · subst this; exact ⟨_, rfl, rfl⟩
  · omega
theorem mm_ok11 (hx : p.tables.exec = Jvm.exec) (hb : c.code = cc) (hG : mm_GI D dA B b0 H0 X s) (hd : decode cc pc = .ok (i, 1)) (S : mm_CF D dA B b0 H0 n0 s0 H locs cells slots h)
    (hs : mm_g2 i st h = some (st', h')) (k : ∀ H' locs', mm_CF D dA B b0 H0 n0 s0 H' locs' cells slots h' → W p l e R s m args below meth c H' locs' cells slots Q (F0 m (pc + 1) real (st'.map (mm_mv B b0)))) :
    W p l e R s m args below meth c H locs cells slots Q (F0 m pc real (st.map (mm_mv B b0))) := by
  unfold mm_g2 at hs
  split at hs
  · split at hs
    · next l0 ha =>
      obtain ⟨h1, h2⟩ := mm_setB hs
      cases h2
      obtain ⟨h2, h3⟩ := mm_in_s h1
      refine W.iast hx hb (S.1.2.1 _ _ ha) ((hG.1.2 0 _ rfl).1 l0.length (fun j => .int (l0.getD j 0))) (fun q => by cases q) (by show ¬ (_ ∨ (arrV _ _ _).slots.size ≤ _); rw [arrV_size]; exact h2) rfl rfl hd fun H1 e1 z o => ?_
      exact k H1 _ (S.set ha (mm_atI h3 e1) z o (by simp [mm_cs, mm_al]))
    · cases hs
  · split at hs
    · next l0 ha =>
      obtain ⟨h1, h2⟩ := mm_setB hs
      cases h2
      obtain ⟨h2, h3⟩ := mm_in_s h1
      refine W.bast hx hb (S.1.2.1 _ _ ha) ((hG.1.2 2 _ rfl).1 l0.length (fun j => .int (l0.getD j 0))) (fun q => by cases q) (by show ¬ (_ ∨ (arrV _ _ _).slots.size ≤ _); rw [arrV_size]; exact h2) rfl rfl hd fun H1 e1 z o => ?_
      exact k H1 _ (S.set ha (mm_atI h3 e1) z o (by simp [mm_cs, mm_al]))
    · next l0 ha =>
      obtain ⟨h1, h2⟩ := mm_setB hs
      cases h2
      obtain ⟨h2, h3⟩ := mm_in_s h1
      refine W.zast hx hb (S.1.2.1 _ _ ha) ((hG.1.2 3 _ rfl).1 l0.length (fun j => .int (l0.getD j 0))) (fun q => by cases q) (by show ¬ (_ ∨ (arrV _ _ _).slots.size ≤ _); rw [arrV_size]; exact h2) rfl rfl hd fun H1 e1 z o => ?_
      exact k H1 _ (S.set ha (mm_atI h3 e1) z o (by simp [mm_cs, mm_al]))
    · cases hs
  · split at hs
    · next l0 ha =>
      obtain ⟨h1, h2⟩ := mm_setB hs
      cases h2
      obtain ⟨h2, h3⟩ := mm_in_s h1
      refine W.last hx hb (S.1.2.1 _ _ ha) ((hG.1.2 1 _ rfl).1 l0.length (fun j => .long (l0.getD j 0))) (fun q => by cases q) (by show ¬ (_ ∨ (arrV _ _ _).slots.size ≤ _); rw [arrV_size]; exact h2) rfl rfl hd fun H1 e1 z o => ?_
      exact k H1 _ (S.set ha (mm_atL h3 e1) z o (by simp [mm_cs, mm_al]))
    · cases hs
  · next v j a t =>
    split at hs
    · next tag l0 cj fs ha hv =>
      obtain ⟨h1, h2⟩ := mm_setB hs
      cases h2
      simp only [Bool.and_eq_true] at h1
      obtain ⟨h1, hec⟩ := h1
      obtain ⟨h2, h3⟩ := mm_in_s h1
      obtain ⟨r', hr', cellV, g1, g2, g3, -⟩ := S.1.2.1 _ _ hv
      have hcj : cj < 1000 := by have := mm_lt hr'; simp [vwCl] at this; omega
      obtain ⟨q, hq, hty⟩ := mm_ec_s (dA := dA) hec hcj
      have hcls := (hG.1.1 cj _ hq).2
      obtain ⟨kA, comp, k1, k2, k3, -⟩ := (hG.1.2 tag _ hty).2
      have hcomp : comp = D.1 cj := Option.some.inj (k3.symm.trans hcls.1)
      subst hcomp
      obtain ⟨kC, hkC, -⟩ := hcls.2
      refine W.aast hx hb (S.1.2.1 _ _ ha) (fun q h => by cases h) (fun h => by cases h) k1 k2 rfl hkC ⟨fun q => h2 (Or.inl q), by show _ < (arrV _ _ _).slots.size; rw [arrV_size]; exact h3⟩ g1 (fun q h => by rw [g3] at h; cases h) (by rw [g2]; exact hkC) (by rw [g2]; exact va_assign hcls) rfl rfl hd fun H1 e1 z o => ?_
      exact k H1 _ (S.set ha (mm_atR h3 e1) z o (by simp [mm_cs, mm_al]))
    · cases hs
  · cases hs
theorem mm_ok12 (hx : p.tables.exec = Jvm.exec) (hb : c.code = cc) (hr : mm_EOK r) (hG : mm_GI D dA B b0 H0 X s) (hown : s.vm.findClass r.2.1 = some m.cls) (hts : ∀ w ∈ mm_W, w.before args s = true) (hd : decode cc pc = .ok (i, n)) {v : Value} {t : List Value}
    (hs : mm_g4 r i n = some v) (k : W p l e R s m args below meth c H locs cells slots Q (F0 m (pc + n) real (mm_mv B b0 v :: t))) :
    W p l e R s m args below meth c H locs cells slots Q (F0 m pc real t) := by
  unfold mm_g4 at hs
  split at hs
  · split at hs
    · next hrk =>
      obtain ⟨he1, he2⟩ := mm_rk_s hrk
      have hek := hr _ he1
      simp only at he2
      subst he2
      cases hs
      exact lv_ldc hx hb hown (hts _ (mm_one hek (by first | rfl | simp [goodWord, Cond.onTables, Cond.keeps, Cond.steady]))) hd k
    · next i0 i1 rest hrk =>
      obtain ⟨he1, he2⟩ := mm_rk_s hrk
      have hek : (decide (r.2.1 = RX5) && decide ((mm_tl[i1]?).map Prod.fst = some i0)) = true := hr _ he1
      simp only at he2
      subst he2
      cases hs
      simp only [Bool.and_eq_true, decide_eq_true_eq] at hek
      obtain ⟨ho, hi⟩ := hek
      cases hq : mm_tl[i1]? with
      | none => rw [hq] at hi; cases hi
      | some q =>
        rw [hq] at hi
        have hi : q.1 = i0 := Option.some.inj hi
        have hk : i1 < 15 := by have := mm_lt hq; simpa [mm_tl] using this
        obtain ⟨l0, hl0⟩ := Option.isSome_iff_exists.mp (mm_tx0 i1 hk).2
        have hv := (hG.2.2.1.2.2.2.1 i1 q l0 hq hl0).2.2.2.2
        rw [hi, ← ho] at hv
        exact va_ldcS hx hb hown hv hd k
    · cases hs
  · split at hs
    · next hrk =>
      obtain ⟨he1, he2⟩ := mm_rk_s hrk
      have hek := hr _ he1
      simp only at he2
      subst he2
      cases hs
      exact lv_ldcw hx hb hown (hts _ (mm_one hek (by first | rfl | simp [goodWord, Cond.onTables, Cond.keeps, Cond.steady]))) hd k
    · cases hs
  · split at hs
    · next hrk =>
      obtain ⟨he1, he2⟩ := mm_rk_s hrk
      have hek := hr _ he1
      simp only at he2
      subst he2
      cases hs
      exact lv_ldc2 hx hb hown (hts _ (mm_one hek (by first | rfl | simp [goodWord, Cond.onTables, Cond.keeps, Cond.steady]))) hd k
    · cases hs
  · cases hs
end mmC
