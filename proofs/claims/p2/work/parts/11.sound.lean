/-! THE MINI-MACHINE IS SOUND: a run of it is a run of the machine -/
def mm_Ctx (D : va_G) (dA : Nat → ClassId) (B : Nat) (b0 : mm_X) (H0 : Heap) (X : Option (List Int32)) (r : mm_R) (p : Program) (s : State) (m : MethodId) (args : Array Value) (meth : Method) (c : Code) : Prop :=
  p.tables.exec = Jvm.exec ∧ c.code = r.1.2.1 ∧ c.maxLocals = r.1.2.2.1 ∧ meth.sig.returnType = r.1.2.2.2.1 ∧ meth.locks = false ∧ (r.1.1.name = "<init>" → meth.name = "<init>") ∧ s.vm.findClass r.2.1 = some m.cls ∧ (∀ w ∈ mm_W, w.before args s = true) ∧ mm_GI D dA B b0 H0 X s
def mm_Good (r : mm_R) : Prop := (∀ pc i n, mm_at r pc = some (i, n) → decode r.1.2.1 pc = .ok (i, n)) ∧ mm_EOK r
/-- a method that can be called -/
def mm_GoodC (r : mm_R) : Prop := mm_Good r ∧ plainName r.1.1.cls = true ∧ (r.1.1.cls ≠ "java/lang/invoke/MethodHandle" ∧ r.1.1.cls ≠ "java/lang/invoke/VarHandle" ∧ (parseMethodDescriptor r.1.1.desc).map (fun d => d.parameters.length) = some r.1.2.2.2.2.1) ∧ r.1.2.2.1 ≤ 16 ∧ r.2.1 = r.1.1.cls ∧
  Cond.code r.1.1 r.1.2.1 r.1.2.2.1 r.1.2.2.2.1 ∈ mm_W ∧ Cond.initialized r.1.1.cls ∈ mm_W ∧ (r.1.2.2.2.2.2.1 = true → Cond.static r.1.1 ∈ mm_W) ∧ (r.1.2.2.2.2.2.1 = false → Cond.instanceMethod r.1.1 ∈ mm_W ∧ (¬ r.1.1.name = "<init>" → Cond.selects r.1.1.cls r.1.1 r.1.1 ∈ mm_W))
def mm_ws (r : mm_R) : List Cond := Cond.code r.1.1 r.1.2.1 r.1.2.2.1 r.1.2.2.2.1 :: mm_W
def mm_rm (Dp mc ms : Nat) : Room := { frames := Dp, cells := mc, slots := ms, locals := 35 * Dp }
def mm_Pc (D : va_G) (dA : Nat → ClassId) (B : Nat) (b0 : mm_X) (H0 : Heap) (X : Option (List Int32)) (as : List Value) (h : mm_H) : Array Value → State → Prop := fun a U => a = (as.map (mm_mv B b0)).toArray ∧ mm_Sim D dA B b0 H0 U.heap h ∧ mm_GI D dA B b0 H0 X U
def mm_Qc (D : va_G) (dA : Nat → ClassId) (B : Nat) (b0 : mm_X) (H0 : Heap) (v : Option Value) (h' : mm_H) : Array Value → State → Outcome → State → Prop := fun _ _ o t => o = .returned (v.map (mm_mv B b0)) ∧ mm_Sim D dA B b0 H0 t.heap h'
theorem mm_set2 {h : mm_H} {a : Nat} {e e' : mm_E} (ha : h[a]? = some e) (hc : mm_cs e' = mm_cs e) : h.length ≤ (h.set a e').length ∧ mm_sz h ≤ mm_sz (h.set a e') := ⟨by simp, Nat.le_of_eq (mm_sz_set ha hc).symm⟩
theorem mm_s9_mono {r : mm_R} {i : Instr} {st st' : List Value} {h h' : mm_H} (hs : mm_s9 r i st h = some (st', h')) : h.length ≤ h'.length ∧ mm_sz h ≤ mm_sz h' := by
  unfold mm_s9 at hs
  split at hs
  · split at hs
    · split at hs
      · next ci _ _ _ _ cj fs ha =>
        cases hcc : Nat.beq ci cj <;> rw [hcc] at hs
        · cases hs
        · simp only [cond_true] at hs
          split at hs
          · cases hs; exact ⟨Nat.le_refl _, Nat.le_refl _⟩
          · cases hs
      · cases hs
    · cases hs
  · next a t =>
    cases htx : mm_tx a <;> rw [htx] at hs
    · cases hs
    · simp only [cond_true] at hs
      split at hs
      · cases hs; exact ⟨Nat.le_refl _, Nat.le_refl _⟩
      · cases hs; exact ⟨Nat.le_refl _, Nat.le_refl _⟩
      · cases hs
  · split at hs
    · cases hs; exact ⟨Nat.le_refl _, Nat.le_refl _⟩
    · cases hs; exact ⟨Nat.le_refl _, Nat.le_refl _⟩
    · cases hs
  · split at hs
    · next fin ps hrk =>
      cases hf2 : Nat.ble 2 fin <;> rw [hf2] at hs
      · simp only [cond_false] at hs
        split at hs
        · next cj fs ha =>
          obtain ⟨h1, h2⟩ := mm_setB hs
          cases h2
          exact mm_set2 ha rfl
        · cases hs
      · cases hs
    · cases hs
  · cases hs
theorem mm_g2_mono {i : Instr} {st st' : List Value} {h h' : mm_H} (hs : mm_g2 i st h = some (st', h')) : h.length ≤ h'.length ∧ mm_sz h ≤ mm_sz h' := by
  unfold mm_g2 at hs
  split at hs
  all_goals first
    | (cases hs; done)
    | (split at hs
       all_goals first
         | (cases hs; done)
         | (next ha =>
            obtain ⟨h1, h2⟩ := mm_setB hs
            cases h2
            exact mm_set2 ha (by simp [mm_cs, mm_al]))
         | (next ha hv =>
            obtain ⟨h1, h2⟩ := mm_setB hs
            cases h2
            exact mm_set2 ha (by simp [mm_cs, mm_al])))
theorem mm_app2 {h g : mm_H} : h.length ≤ (h ++ g).length ∧ mm_sz h ≤ mm_sz (h ++ g) := ⟨by simp, by rw [mm_sz_app]; omega⟩
theorem mm_g3_mono {r : mm_R} {i : Instr} {n : Nat} {st st' : List Value} {h h' : mm_H} (hs : mm_g3 r i n st h = some (st', h')) : h.length ≤ h'.length ∧ mm_sz h ≤ mm_sz h' := by
  unfold mm_g3 at hs
  split at hs
  · split at hs
    · cases hs; exact mm_app2
    · cases hs
  · next nn t =>
    cases hnn : mm_nn nn <;> rw [hnn] at hs
    · cases hs
    · obtain ⟨e0, h1, h2⟩ := mm_map_s hs
      cases h2
      exact mm_app2
  · split at hs
    · obtain ⟨h1, h2⟩ := mm_setB hs
      cases h2
      exact mm_app2
    · cases hs
  · split at hs
    · obtain ⟨h1, h2⟩ := mm_setB hs
      cases h2
      rw [List.append_assoc]
      exact mm_app2
    · cases hs
  · cases hs
theorem mm_ac_mono {st st' : List Value} {h h' : mm_H} (hs : mm_ac st h = some (st', h')) : h.length ≤ h'.length ∧ mm_sz h ≤ mm_sz h' := by
  unfold mm_ac at hs
  split at hs
  · next n dp b sp a t =>
    cases hcc : (!decide (sp < 0) && !decide (dp < 0) && !decide (n < 0) && Nat.ble (mm_wt t) 8) <;> rw [hcc] at hs
    · cases hs
    · simp only [cond_true] at hs
      split at hs
      · next f g ha hb =>
        obtain ⟨h1, h2⟩ := mm_setB hs
        simp only [Bool.and_eq_true] at h1
        cases h2
        exact mm_set2 hb (by simp [mm_cs, mm_al, mm_cp_len (Nat.le_of_ble_eq_true h1.1) (Nat.le_of_ble_eq_true h1.2)])
      · next f g ha hb =>
        obtain ⟨h1, h2⟩ := mm_setB hs
        simp only [Bool.and_eq_true] at h1
        cases h2
        exact mm_set2 hb (by simp [mm_cs, mm_al, mm_cp_len (Nat.le_of_ble_eq_true h1.1) (Nat.le_of_ble_eq_true h1.2)])
      · cases hs
  · cases hs
theorem mm_mk_no {Dp : Nat} {r : mm_R} {as rest : List Value} {q : Nat × mm_L × List Value × mm_H} : ¬ mm_mk Dp r as rest = .inl (some q) := by
  unfold mm_mk
  cases (Nat.ble (mm_sl as).length r.1.2.2.1 && Nat.ble (mm_wt rest) 8) <;> exact fun h => by cases h
theorem mm_cl_no {Dp : Nat} {r : mm_R} {idx : Nat} {st : List Value} {want : Nat → Bool} {recv : Bool} {h : mm_H} {q : Nat × mm_L × List Value × mm_H} : ¬ mm_cl Dp r idx st want recv h = .inl (some q) := by
  intro hc
  unfold mm_cl at hc
  split at hc
  · next D0 k mj b x hk =>
    cases hw : want k <;> rw [hw] at hc
    · cases hc
    · simp only [cond_true] at hc
      split at hc
      · cases hc
      · split at hc
        · cases hc
        · cases recv
          · exact mm_mk_no hc
          · simp only [cond_true] at hc
            split at hc
            · split at hc
              · next cj fs ha =>
                cases hb : (Nat.beq k 1 && !Nat.beq cj b) <;> rw [hb] at hc
                · exact mm_mk_no hc
                · cases hc
              · cases hc
            · simp only [cond_eq_ite] at hc
              split at hc
              · exact mm_mk_no hc
              · cases hc
            · cases hc
  · cases hc
theorem mm_go_mono {X : Option (List Int32)} {r : mm_R} {Dp : Nat} {i : Instr} {n pc : Nat} {ls : mm_L} {st : List Value} {h : mm_H} {q : Nat × mm_L × List Value × mm_H} (hg : mm_go X r Dp i n pc ls st h = .inl (some q)) : h.length ≤ q.2.2.2.length ∧ mm_sz h ≤ mm_sz q.2.2.2 := by
  unfold mm_go at hg
  split at hg
  · obtain ⟨t, h1, rfl⟩ := mm_map_s (Sum.inl.inj hg); exact ⟨Nat.le_refl _, Nat.le_refl _⟩
  · split at hg
    · obtain ⟨t, h1, rfl⟩ := mm_map_s (Sum.inl.inj hg); exact ⟨Nat.le_refl _, Nat.le_refl _⟩
    · cases hg
  · split at hg
    · obtain ⟨t, h1, rfl⟩ := mm_map_s (Sum.inl.inj hg); exact ⟨Nat.le_refl _, Nat.le_refl _⟩
    · cases hg
  · split at hg
    · obtain ⟨t, h1, rfl⟩ := mm_map_s (Sum.inl.inj hg); exact ⟨Nat.le_refl _, Nat.le_refl _⟩
    · cases hg
  · split at hg
    · obtain ⟨t, h1, rfl⟩ := mm_map_s (Sum.inl.inj hg); exact ⟨Nat.le_refl _, Nat.le_refl _⟩
    · cases hg
  · obtain ⟨t, h1, rfl⟩ := mm_map_s (Sum.inl.inj hg); exact ⟨Nat.le_refl _, Nat.le_refl _⟩
  · obtain ⟨t, h1, rfl⟩ := mm_map_s (Sum.inl.inj hg); exact ⟨Nat.le_refl _, Nat.le_refl _⟩
  · obtain ⟨t, h1, rfl⟩ := mm_map_s (Sum.inl.inj hg); exact ⟨Nat.le_refl _, Nat.le_refl _⟩
  · split at hg
    · obtain ⟨t, h1, rfl⟩ := mm_map_s (Sum.inl.inj hg); exact mm_s9_mono h1
    · cases hg
  · split at hg
    · split at hg
      · cases hg; exact ⟨Nat.le_refl _, Nat.le_refl _⟩
      · obtain ⟨t, h1, rfl⟩ := mm_map_s (Sum.inl.inj hg); exact mm_g2_mono h1
    · cases hg
  · obtain ⟨t, h1, rfl⟩ := mm_map_s (Sum.inl.inj hg); exact mm_g3_mono h1
  · obtain ⟨t, h1, rfl⟩ := mm_map_s (Sum.inl.inj hg); exact ⟨Nat.le_refl _, Nat.le_refl _⟩
  · split at hg <;> cases hg
  · split at hg
    · unfold mm_iv at hg
      split at hg
      · exact absurd hg mm_cl_no
      · split at hg
        · next t _ _ =>
          cases hw : Nat.ble (mm_wt t) 8 <;> rw [hw] at hg <;> cases hg
          exact ⟨Nat.le_refl _, Nat.le_refl _⟩
        · exact absurd hg mm_cl_no
      · split at hg
        · obtain ⟨t, h1, rfl⟩ := mm_map_s (Sum.inl.inj hg); exact mm_ac_mono h1
        · exact absurd hg mm_cl_no
      · cases hg
    · cases hg
  · cases hg
theorem mm_s7_len {i : Instr} {n : Nat} {ls : mm_L} {st : List Value} {q : mm_L × List Value} (hs : mm_s7 i n ls st = some q) : q.1.length = ls.length := by
  unfold mm_s7 at hs
  split at hs
  all_goals first
    | (obtain ⟨ls', h1, rfl⟩ := mm_map_s hs
       obtain ⟨h2, h3, rfl⟩ := mm_sv_spec h1
       simp; done)
    | (split at hs
       · obtain ⟨ls', h1, rfl⟩ := mm_map_s hs
         obtain ⟨h2, h3, rfl⟩ := mm_sv_spec h1
         simp
       · cases hs)
    | cases hs
section mmI
variable {p : Program} {l : Launch} {e : Env} {R : Room} {s : State} {m : MethodId} {args : Array Value} {below : List Frame} {meth : Method} {c : Code} {H : Heap} {locs : List Loc} {cells slots : Nat} {Q : State → Prop}
variable {pc n : Nat} {real : Array Slot} {D : va_G} {dA : Nat → ClassId} {B n0 s0 : Nat} {b0 : mm_X} {H0 : Heap} {X : Option (List Int32)} {i : Instr} {st st' : List Value} {h h' : mm_H} {r : mm_R} {ls ls' : mm_L} {Dp pc' : Nat}
/-- one step within a frame -/
theorem mm_step_ok (hr : mm_Good r) (C : mm_Ctx D dA B b0 H0 X r p s m args meth c) (hat : mm_at r pc = some (i, n)) (hgo : mm_go X r Dp i n pc ls st h = .inl (some (pc', ls', st', h'))) (hfr : Dp ≤ R.frames) (hlo : 35 * Dp ≤ R.locals)
    (S : mm_CF D dA B b0 H0 n0 s0 H locs cells slots h) (hl : mm_LR B b0 real ls) (hls : ls.length = r.1.2.2.1) (hc1 : h'.length ≤ n0 + R.cells) (hc2 : mm_sz h' ≤ s0 + R.slots)
    (k : ∀ H' locs' cells' slots' real', mm_CF D dA B b0 H0 n0 s0 H' locs' cells' slots' h' → mm_LR B b0 real' ls' → ls'.length = r.1.2.2.1 → W p l e R s m args below meth c H' locs' cells' slots' Q (F0 m pc' real' (st'.map (mm_mv B b0)))) :
    W p l e R s m args below meth c H locs cells slots Q (F0 m pc real (st.map (mm_mv B b0))) := by
  obtain ⟨hx, hb, hml, hret, hlocks, hnm, hown, hts, hG⟩ := C
  have hd := hr.1 _ _ _ hat
  unfold mm_go at hgo
  split at hgo
  · obtain ⟨t, h1, h2⟩ := mm_map_s (Sum.inl.inj hgo)
    cases h2
    exact mm_ok1 hx hb hd h1 (k _ _ _ _ _ S hl hls)
  · split at hgo
    · obtain ⟨t, h1, h2⟩ := mm_map_s (Sum.inl.inj hgo)
      cases h2
      exact mm_ok2 hx hb hd h1 (k _ _ _ _ _ S hl hls)
    · cases hgo
  · split at hgo
    · obtain ⟨t, h1, h2⟩ := mm_map_s (Sum.inl.inj hgo)
      cases h2
      exact mm_ok3 hx hb hd h1 (k _ _ _ _ _ S hl hls)
    · cases hgo
  · split at hgo
    · obtain ⟨t, h1, h2⟩ := mm_map_s (Sum.inl.inj hgo)
      cases h2
      exact mm_ok4 hx hb hd h1 (k _ _ _ _ _ S hl hls)
    · cases hgo
  · split at hgo
    · obtain ⟨t, h1, h2⟩ := mm_map_s (Sum.inl.inj hgo)
      cases h2
      exact mm_ok5 hx hb hd h1 (k _ _ _ _ _ S hl hls)
    · cases hgo
  · obtain ⟨t, h1, h2⟩ := mm_map_s (Sum.inl.inj hgo)
    cases h2
    exact mm_ok6 hx hb hd hl h1 (k _ _ _ _ _ S hl hls)
  · obtain ⟨q, h1, h2⟩ := mm_map_s (Sum.inl.inj hgo)
    cases h2
    exact mm_ok7 hx hb hd hl h1 (fun real' hl' => k _ _ _ _ _ S hl' ((mm_s7_len h1).trans hls))
  · obtain ⟨q, h1, h2⟩ := mm_map_s (Sum.inl.inj hgo)
    cases h2
    exact mm_ok8 hx hb hd h1 (k _ _ _ _ _ S hl hls)
  · split at hgo
    · obtain ⟨q, h1, h2⟩ := mm_map_s (Sum.inl.inj hgo)
      cases h2
      exact mm_ok9 hx hb hr.2 hown hnm hts hG hd S h1 (fun H' locs' S' => k _ _ _ _ _ S' hl hls)
    · cases hgo
  · split at hgo
    · split at hgo
      · next t h1 =>
        cases hgo
        exact mm_ok10 hx hb hG hd S h1 (k _ _ _ _ _ S hl hls)
      · obtain ⟨q, h1, h2⟩ := mm_map_s (Sum.inl.inj hgo)
        cases h2
        exact mm_ok11 hx hb hG hd S h1 (fun H' locs' S' => k _ _ _ _ _ S' hl hls)
    · cases hgo
  · obtain ⟨q, h1, h2⟩ := mm_map_s (Sum.inl.inj hgo)
    cases h2
    exact mm_ok13 hx hb hr.2 hts hG hown hd S h1 hc1 hc2 (fun H' locs' cells' slots' S' => k _ _ _ _ _ S' hl hls)
  · obtain ⟨q, h1, h2⟩ := mm_map_s (Sum.inl.inj hgo)
    cases h2
    exact mm_ok12 hx hb hr.2 hG hown hts hd h1 (k _ _ _ _ _ S hl hls)
  · split at hgo <;> cases hgo
  · split at hgo
    · unfold mm_iv at hgo
      split at hgo
      · exact absurd hgo mm_cl_no
      · split at hgo
        · next i0 x0 a t D0 hrk =>
          cases hw : Nat.ble (mm_wt t) 8 <;> rw [hw] at hgo <;> cases hgo
          obtain ⟨he1, he2⟩ := mm_rk_s hrk
          have hek := hr.2 _ he1
          simp only at he2
          subst he2
          have hw3 := mm_W_has hek (by simp [goodWord, Cond.onTables, Cond.keeps, Cond.steady])
          have hwt := Nat.le_of_ble_eq_true hw
          refine W.objInit hx hb hown (hts (.methodLink r.2.1 i0 objectInit) (hw3 _ (by simp))) (hts (.instanceMethod objectInit) (hw3 _ (by simp))) (hts (.code objectInit ⟨#[0xb1]⟩ 1 none) (hw3 _ (by simp))) rfl (by rw [hml, ← hls]; exact hl.1) rfl hd (by omega) ?_ (k _ _ _ _ _ S hl hls)
          show 2 * 0 + ((List.map (mm_mv B b0) _).map fun v => v.category).sum + 12 ≤ R.locals
          rw [mm_wt_s]
          omega
        · exact absurd hgo mm_cl_no
      · split at hgo
        · next i0 x0 D0 hrk =>
          obtain ⟨he1, he2⟩ := mm_rk_s hrk
          have hek := hr.2 _ he1
          simp only at he2
          subst he2
          obtain ⟨q, h1, h2⟩ := mm_map_s (Sum.inl.inj hgo)
          cases h2
          unfold mm_ac at h1
          split at h1
          · next n dp b sp a t =>
            cases hcc : (!decide (sp < 0) && !decide (dp < 0) && !decide (n < 0) && Nat.ble (mm_wt t) 8) <;> rw [hcc] at h1
            · cases h1
            · simp only [Bool.and_eq_true, Bool.not_eq_true', decide_eq_false_iff_not] at hcc
              obtain ⟨⟨⟨c1, c2⟩, c3⟩, c4⟩ := hcc
              simp only [cond_true] at h1
              split at h1
              · next f g ha hbb =>
                obtain ⟨b1, b2⟩ := mm_setB h1
                simp only [Bool.and_eq_true] at b1
                cases b2
                exact mm_acG (r := r) (tag := 0) (ty := .int) (wr := fun x => .inl x) (fun z => .int z) 0 (fun x => vp_cell_i _ _ _) (fun x => rfl) hx hb (by rw [hml, ← hls]; exact hl.1.symm) hown hts hG hek hd S rfl (by decide) (fun x => rfl) ha hbb c1 c2 c3 (Nat.le_of_ble_eq_true b1.1) (Nat.le_of_ble_eq_true b1.2) (Nat.le_of_ble_eq_true c4) (by omega) (by omega) (fun H' locs' S' => k _ _ _ _ _ S' hl hls)
              · next f g ha hbb =>
                obtain ⟨b1, b2⟩ := mm_setB h1
                simp only [Bool.and_eq_true] at b1
                cases b2
                exact mm_acG (r := r) (tag := 1) (ty := .long) (wr := fun x => .inr (.inl x)) (fun z => .long z) 0 (fun x => vp_cell_l _ _ _) (fun x => rfl) hx hb (by rw [hml, ← hls]; exact hl.1.symm) hown hts hG hek hd S rfl (by decide) (fun x => rfl) ha hbb c1 c2 c3 (Nat.le_of_ble_eq_true b1.1) (Nat.le_of_ble_eq_true b1.2) (Nat.le_of_ble_eq_true c4) (by omega) (by omega) (fun H' locs' S' => k _ _ _ _ _ S' hl hls)
              · cases h1
          · cases h1
        · exact absurd hgo mm_cl_no
      · cases hgo
    · cases hgo
  · cases hgo
end mmI
