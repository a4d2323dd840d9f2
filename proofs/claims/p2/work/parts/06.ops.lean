/-! fields and arrays -/
def mm_e0 (r : mm_R) (i ci k : Nat) (fin : Int) (ps : List (Nat × Nat)) : Bool := match vwCl[ci]? with
    | some q => Nat.blt k q.2.2 && mm_has ps [.fieldLink r.2.1 i (q.2.1 k).1 (q.2.1 k).2.1 (q.2.1 k).2.2.1] && (match fin with
      | .ofNat 0 => !(q.2.1 k).2.2.2
      | .ofNat 1 => (q.2.1 k).2.2.2 && decide (r.1.1.name = "<init>") && decide ((q.2.1 k).1 = r.2.1)
      | _ => true)
    | none => false
def mm_cn (ci : Nat) : Option String := match ci with
  | 1000 => some "java/lang/String"
  | k => (vwCl[k]?).map (fun q => q.1)
def mm_e1 (r : mm_R) (i mj ci : Nat) (ps : List (Nat × Nat)) : Bool := match mm_rs[mj]?, mm_cn ci with
    | some y, some q => mm_has ps [.methodLink r.2.1 i y.1.1] && decide (q = y.1.1.cls) && !y.1.2.2.2.2.2.1 && !decide (y.1.1.name = "<init>")
    | _, _ => false
def mm_e2 (r : mm_R) (i mj : Nat) (ps : List (Nat × Nat)) : Bool := match mm_rs[mj]? with
    | some y => mm_has ps [.methodLink r.2.1 i y.1.1] && y.1.2.2.2.2.2.1
    | none => false
def mm_e3 (r : mm_R) (i mj : Nat) (ps : List (Nat × Nat)) : Bool := match mm_rs[mj]? with
    | some y => mm_has ps [.methodLink r.2.1 i y.1.1] && !y.1.2.2.2.2.2.1 && decide (y.1.1.name = "<init>") && y.1.2.2.2.1.isNone
    | none => false
def mm_e4 (r : mm_R) (i mj : Nat) (v : Int) : Bool := match mm_rs[mj]? with
    | some y => decide (mm_nest[v.toNat]? = some (.methodLinkNest r.2.1 i y.1.1 "RainOrgan")) && !y.1.2.2.2.2.2.1 && decide (y.1.1.name = "<init>") && y.1.2.2.2.1.isNone
    | none => false
def mm_e5 (r : mm_R) (i mj : Nat) (v : Int) : Bool := match mm_rs[mj]? with
    | some y => decide (mm_nest[v.toNat]? = some (.methodLinkNest r.2.1 i y.1.1 "RainOrgan")) && y.1.2.2.2.2.2.1
    | none => false
def mm_e7 (r : mm_R) (i ci : Nat) (ps : List (Nat × Nat)) : Bool := match vwCl[ci]? with
    | some q => mm_has ps [.classLink r.2.1 i q.1, .instantiable q.1 q.2.2, .initialized q.1]
    | none => false
def mm_ek (r : mm_R) (e : mm_K) : Bool := match e.2.1 with
  | 0 => mm_e0 r e.1 e.2.2.1 e.2.2.2.1 e.2.2.2.2.1 e.2.2.2.2.2
  | 1 => mm_e1 r e.1 e.2.2.1 e.2.2.2.1 e.2.2.2.2.2
  | 2 => mm_e2 r e.1 e.2.2.1 e.2.2.2.2.2
  | 3 => mm_e3 r e.1 e.2.2.1 e.2.2.2.2.2
  | 4 => mm_e4 r e.1 e.2.2.1 e.2.2.2.2.1
  | 5 => mm_e5 r e.1 e.2.2.1 e.2.2.2.2.1
  | 6 => mm_has e.2.2.2.2.2 [.methodLink r.2.1 e.1 objectInit, .instanceMethod objectInit, .code objectInit ⟨#[0xb1]⟩ 1 none]
  | 7 => mm_e7 r e.1 e.2.2.1 e.2.2.2.2.2
  | 9 => mm_has e.2.2.2.2.2 [.classLink r.2.1 e.1 "[[I", .arrayClass .int]
  | 10 => mm_has e.2.2.2.2.2 [.constant r.2.1 e.1 (Int32.ofInt e.2.2.2.2.1)]
  | 11 => mm_has e.2.2.2.2.2 [.constantLong r.2.1 e.1 (Int64.ofInt e.2.2.2.2.1)]
  | 13 => decide (r.2.1 = RX5) && decide ((mm_tl[e.2.2.1]?).map Prod.fst = some e.1)
  | 14 => mm_has e.2.2.2.2.2 [.fieldLink r.2.1 e.1 "java/lang/String" "value" "[B"]
  | 15 => mm_has e.2.2.2.2.2 [.fieldLink r.2.1 e.1 "java/lang/String" "coder" "B"]
  | 16 => mm_has e.2.2.2.2.2 [.fieldLink r.2.1 e.1 "java/lang/String" "COMPACT_STRINGS" "Z"]
  | 17 => mm_has e.2.2.2.2.2 [.fieldLink r.2.1 e.1 "jdk/internal/util/Preconditions" "SIOOBE_FORMATTER" "Ljava/util/function/BiFunction;"]
  | 12 => mm_has e.2.2.2.2.2 [.methodLink r.2.1 e.1 arraycopyName, .native arraycopyName, .static arraycopyName, .initialized "java/lang/System"]
  | _ => true
theorem mm_rk_s {l : List mm_K} {i : Nat} {e : mm_K} (h : mm_rk l i = some e) : e ∈ l ∧ e.1 = i := by
  induction l with
  | nil => cases h
  | cons q t ih =>
    unfold mm_rk at h
    cases hq : Nat.beq q.1 i <;> rw [hq] at h
    · obtain ⟨h1, h2⟩ := ih h
      exact ⟨List.mem_cons_of_mem _ h1, h2⟩
    · cases h
      exact ⟨List.mem_cons_self, Nat.eq_of_beq_eq_true hq⟩
def mm_EOK (r : mm_R) : Prop := ∀ e ∈ r.2.2.2, mm_ek r e = true
theorem mm_one {w : Cond} {ps : List (Nat × Nat)} (h : mm_has ps [w] = true) (g : goodWord w = true) : w ∈ mm_W := mm_W_has h (by simpa using g) w List.mem_cons_self
theorem mm_tx0 : ∀ i, i < 15 → (mm_tl[i]?).isSome = true ∧ (mm_txt[i]?).isSome = true := by decide +kernel
theorem mm_tx_s {a : Nat} (h : mm_tx a = true) : ∃ (i : Nat) (q : Nat × String) (l : List Int32), a = 1 + i ∧ mm_tl[i]? = some q ∧ mm_txt[i]? = some l := by
  unfold mm_tx at h
  simp only [Bool.and_eq_true] at h
  have h1 := Nat.le_of_ble_eq_true h.1
  have h2 := Nat.le_of_ble_eq_true h.2
  obtain ⟨g1, g2⟩ := mm_tx0 (a - 1) (by omega)
  obtain ⟨q, hq⟩ := Option.isSome_iff_exists.mp g1
  obtain ⟨l, hl⟩ := Option.isSome_iff_exists.mp g2
  exact ⟨a - 1, q, l, by omega, hq, hl⟩
section mmB
variable {p : Program} {l : Launch} {e : Env} {R : Room} {s : State} {m : MethodId} {args : Array Value} {below : List Frame} {meth : Method} {c : Code} {H : Heap} {locs : List Loc} {cells slots : Nat} {Q : State → Prop}
variable {cc : ByteArray} {pc n : Nat} {real : Array Slot} {D : va_G} {dA : Nat → ClassId} {B n0 s0 : Nat} {b0 : mm_X} {H0 : Heap} {X : Option (List Int32)} {i : Instr} {st st' : List Value} {h h' : mm_H} {r : mm_R}
theorem mm_ok9 (hx : p.tables.exec = Jvm.exec) (hb : c.code = cc) (hr : mm_EOK r) (hown : s.vm.findClass r.2.1 = some m.cls) (hnm : r.1.1.name = "<init>" → meth.name = "<init>") (hts : ∀ w ∈ mm_W, w.before args s = true) (hG : mm_GI D dA B b0 H0 X s) (hd : decode cc pc = .ok (i, 3)) (S : mm_CF D dA B b0 H0 n0 s0 H locs cells slots h)
    (hs : mm_s9 r i st h = some (st', h')) (k : ∀ H' locs', mm_CF D dA B b0 H0 n0 s0 H' locs' cells slots h' → W p l e R s m args below meth c H' locs' cells slots Q (F0 m (pc + 3) real (st'.map (mm_mv B b0)))) :
    W p l e R s m args below meth c H locs cells slots Q (F0 m pc real (st.map (mm_mv B b0))) := by
  unfold mm_s9 at hs
  split at hs
  · next idx a t =>
    split at hs
    · next i0 ci kf rest hrk =>
      obtain ⟨he1, he2⟩ := mm_rk_s hrk
      obtain ⟨fin, ps⟩ := rest
      have hek : mm_e0 r i0 ci kf fin ps = true := hr _ he1
      simp only at he2
      subst he2
      split at hs
      · next cj fs ha =>
        cases hcc : Nat.beq ci cj <;> rw [hcc] at hs
        · cases hs
        · have := Nat.eq_of_beq_eq_true hcc
          subst this
          simp only [cond_true] at hs
          split at hs
          · next v hv =>
            cases hs
            unfold mm_e0 at hek
            split at hek
            · next q hq =>
              simp only [Bool.and_eq_true] at hek
              obtain ⟨⟨hk, hw⟩, -⟩ := hek
              have hlk := hts _ (mm_one hw (by first | rfl | simp [goodWord, Cond.onTables, Cond.keeps, Cond.steady]))
              exact va_get hx hb hts (mm_lay hq) hown hG.1 (mm_P1 (S.1.2.1 _ _ ha)) 0 rfl hq kf (Nat.le_of_ble_eq_true hk) hlk (fun _ h => h) (by rw [List.getElem?_map, hv]; rfl) hd (k H locs S)
            · cases hek
          · cases hs
      · cases hs
    · cases hs
  · next idx a t =>
    cases htx : mm_tx a <;> rw [htx] at hs
    · cases hs
    · simp only [cond_true] at hs
      obtain ⟨i1, q, l, rfl, hq, hl⟩ := mm_tx_s htx
      obtain ⟨-, hco, hva, -, -⟩ := hG.2.2.1.2.2.2.1 i1 q l hq hl
      split at hs
      · next hrk =>
        obtain ⟨he1, he2⟩ := mm_rk_s hrk
        have hek := hr _ he1
        simp only at he2
        subst he2
        cases hs
        have hlk := hts _ (mm_one hek (by first | rfl | simp [goodWord, Cond.onTables, Cond.keeps, Cond.steady]))
        obtain ⟨cf, kk, fi, f, cell, g1, g2, g3, g4, g5, g6⟩ := hva
        have k' := k H locs S
        rw [List.map_cons, show mm_mv B b0 (.retAddr (99 + (1 + i1))) = .ref (b0.1 (100 + i1)) by show Value.ref (b0.1 (99 + (1 + i1))) = _; rw [show 99 + (1 + i1) = 100 + i1 by omega]] at k'
        exact W.getf hx hb hown hlk g1 g2 (by rw [S.1.2.2 _ (Nat.not_le.mp g6)]; exact g3) g4 g5 rfl rfl hd k'
      · next hrk =>
        obtain ⟨he1, he2⟩ := mm_rk_s hrk
        have hek := hr _ he1
        simp only at he2
        subst he2
        cases hs
        have hlk := hts _ (mm_one hek (by first | rfl | simp [goodWord, Cond.onTables, Cond.keeps, Cond.steady]))
        obtain ⟨cf, kk, fi, f, cell, g1, g2, g3, g4, g5, g6⟩ := hco
        exact W.getf hx hb hown hlk g1 g2 (by rw [S.1.2.2 _ (Nat.not_le.mp g6)]; exact g3) g4 g5 rfl rfl hd (k H locs S)
      · cases hs
  · split at hs
    · next hrk =>
      obtain ⟨he1, he2⟩ := mm_rk_s hrk
      have hek := hr _ he1
      simp only at he2
      subst he2
      cases hs
      have hlk := hts _ (mm_one hek (by first | rfl | simp [goodWord, Cond.onTables, Cond.keeps, Cond.steady]))
      obtain ⟨cf, kf, fi, f, a, cell, g1, g2, g3, g4, g5, g6, g7, g8⟩ := hG.2.2.1.2.2.2.2.1
      exact W.gets hx hb hown hlk g1 g2 g3 g4 (by rw [S.1.2.2 _ (Nat.not_le.mp g8)]; exact g5) (fun e => by rw [e] at g6; cases g6) g7 rfl hd (k H locs S)
    · next hrk =>
      obtain ⟨he1, he2⟩ := mm_rk_s hrk
      have hek := hr _ he1
      simp only at he2
      subst he2
      cases hs
      have hlk := hts _ (mm_one hek (by first | rfl | simp [goodWord, Cond.onTables, Cond.keeps, Cond.steady]))
      obtain ⟨cf, kf, fi, f, a, cell, g1, g2, g3, g4, g5, g6, g7, g8⟩ := hG.2.2.1.2.2.2.2.2
      exact W.gets hx hb hown hlk g1 g2 g3 g4 (by rw [S.1.2.2 _ (Nat.not_le.mp g8)]; exact g5) (fun e => by rw [e] at g6; cases g6) g7 rfl hd (k H locs S)
    · cases hs
  · next idx v a t =>
    split at hs
    · next i0 ci kf fin ps hrk =>
      obtain ⟨he1, he2⟩ := mm_rk_s hrk
      have hek : mm_e0 r i0 ci kf (.ofNat fin) ps = true := hr _ he1
      simp only at he2
      subst he2
      cases hf2 : Nat.ble 2 fin <;> rw [hf2] at hs
      · simp only [cond_false] at hs
        split at hs
        · next cj fs ha =>
          cases hcc : Nat.beq ci cj && Nat.blt kf fs.length && mm_fit (mm_ft ci kf) v <;> rw [hcc] at hs
          · cases hs
          · simp only [Bool.and_eq_true] at hcc
            obtain ⟨⟨hcc, hkl⟩, hfit⟩ := hcc
            have := Nat.eq_of_beq_eq_true hcc
            subst this
            cases hs
            have hl : kf < (fs.map (mm_mv B b0)).length := by rw [List.length_map]; exact Nat.le_of_ble_eq_true hkl
            obtain ⟨hn, hft⟩ := mm_fit_s B b0 hfit
            unfold mm_e0 at hek
            split at hek
            · next q hq =>
              simp only [Bool.and_eq_true] at hek
              obtain ⟨⟨hk, hw⟩, hfn⟩ := hek
              have hk : kf < q.2.2 := Nat.le_of_ble_eq_true hk
              have hlk := hts _ (mm_one hw (by first | rfl | simp [goodWord, Cond.onTables, Cond.keeps, Cond.steady]))
              have hin := mm_lay hq
              have hap := va_apart (own := r.2.1) hts hin (mm_ft ci) (mm_tyok hq) (mm_nm hq) hG.1 hq
              obtain ⟨r', h1, cell, q1, q2, q3, q4⟩ := S.1.2.1 _ _ ha
              have hr' : r' = q := Option.some.inj (h1.symm.trans hq)
              subst hr'
              obtain ⟨hS, hfc, kC, hkC, hkind⟩ := hG.1.1 ci _ hq
              obtain ⟨cf, kf', fi, f, hi, hsl⟩ := hS kf hk
              have hlays := u_lays hts hin hk
              have hst := (u_facts hfc hkC hlays hi).1
              have hfin : ∀ H' : Heap, H'[B + a]? = some (cell.setSlot f.slot (mm_mv B b0 v)) → H'.size = H.size → (∀ q, q ≠ B + a → H'[q]? = H[q]?) → W p l e R s m args below meth c H' (locs ++ [⟨B + a, f.slot⟩]) cells slots Q (F0 m (pc + 3) real (st'.map (mm_mv B b0))) := by
                intro H' e1 e2 e3
                rw [hsl] at e1
                refine k H' _ (S.set ha ?_ e2 e3 rfl)
                refine ⟨_, hq, ?_⟩
                show t_OB (B + a) (D.1 ci) _ (D.2 ci) H' (vp_V ((fs.set kf v).map (mm_mv B b0)))
                rw [List.map_set]
                exact t_OB.to (V := updV (vp_V (fs.map (mm_mv B b0))) kf (mm_mv B b0 v)) ⟨_, e1, q2, q3, t_set q4 hap hk _⟩ (fun j _ => vp_updV_set hl _ j)
              have hlay := hts _ (hin _ (u_in_lay hk))
              unfold u_lay at hlay
              split at hfn
              · have hf0 : (r'.2.1 kf).2.2.2 = false := by simpa using hfn
                rw [if_neg (by rw [hf0]; decide)] at hlay
                have h6 := u_store hfc hkC hkind hlay hi (mm_tyok hq kf hk) hn hft
                exact W.putK hx hb (f := f) ⟨hown, hlk, ⟨_, _, _, hi⟩, hst⟩ (by rw [q2]; exact h6) q1 q3 (by rw [hsl]; exact k2_hasslot (q4 kf hk)) rfl rfl hd hfin
              · simp only [Bool.and_eq_true, decide_eq_true_eq] at hfn
                obtain ⟨⟨hf0, hin2⟩, hdecl⟩ := hfn
                rw [if_pos hf0] at hlay
                have h6 := u_fits hfc hkC hkind hlays hi (mm_tyok hq kf hk) hn hft
                have hcf : m.cls = cf := by
                  obtain ⟨_, _, c', _, _, _, -, -, hf', -, -, -, hown2, -⟩ := Cond.laysFinal_spec hlay
                  have e1 : c' = cf := by have := hi.symm.trans hf'; simp at this; exact this.1.symm
                  rw [hdecl] at hown2
                  rw [← e1]; exact Option.some.inj (hown.symm.trans hown2)
                exact W.putFinK hx hb hown hlk hi hst hcf (hnm hin2) (by rw [q2]; exact h6) q1 q3 (by rw [hsl]; exact k2_hasslot (q4 kf hk)) rfl rfl hd hfin
              · next f0 f1 =>
                exfalso
                match fin, hf2, f0, f1 with
                | 0, _, f0, _ => exact f0 rfl
                | 1, _, _, f1 => exact f1 rfl
                | k + 2, hf2, _, _ => exact absurd (Nat.le_of_ble_eq_true (show Nat.ble 2 (k + 2) = true from by simp)) (fun h => by rw [show Nat.ble 2 (k + 2) = true by simp] at hf2; cases hf2)
            · cases hek
        · cases hs
      · cases hs
    · cases hs
  · cases hs
end mmB
