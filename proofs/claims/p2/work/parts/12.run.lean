/-! a run, with calls -/
theorem mm_mk_call {Dp Dq : Nat} {r r' : mm_R} {as rest as' rest' : List Value} (h : mm_mk Dp r as rest = .inr (.inr (Dq, r', as', rest'))) : Dq = Dp ∧ r' = r ∧ as' = as ∧ rest' = rest ∧ (mm_sl as).length ≤ r.1.2.2.1 ∧ mm_wt rest ≤ 8 := by
  unfold mm_mk at h
  cases hb : (Nat.ble (mm_sl as).length r.1.2.2.1 && Nat.ble (mm_wt rest) 8) <;> rw [hb] at h <;> cases h
  simp only [Bool.and_eq_true] at hb
  exact ⟨rfl, rfl, rfl, rfl, Nat.le_of_ble_eq_true hb.1, Nat.le_of_ble_eq_true hb.2⟩
theorem mm_mk_ret {Dp : Nat} {r : mm_R} {as rest : List Value} {v : Option Value} : ¬ mm_mk Dp r as rest = .inr (.inl v) := by
  unfold mm_mk
  cases (Nat.ble (mm_sl as).length r.1.2.2.1 && Nat.ble (mm_wt rest) 8) <;> exact fun h => by cases h
/-- what a call is -/
def mm_Call (r : mm_R) (idx : Nat) (st : List Value) (want : Nat → Bool) (recv : Bool) (h : mm_H) (Dp Dq : Nat) (r' : mm_R) (as rest : List Value) : Prop :=
  ∃ (k mj b : Nat) (v : Int) (ps : List (Nat × Nat)), (idx, k, mj, b, v, ps) ∈ r.2.2.2 ∧ want k = true ∧ mm_rs[mj]? = some r' ∧ Dp = Dq + 1 ∧ (mm_sl as).length ≤ r'.1.2.2.1 ∧ mm_wt rest ≤ 8 ∧
    ((recv = true ∧ ∃ (a : Nat) (xs : List Value) (cj : Nat) (fs : List Value), as = .ref a :: xs ∧ st = xs.reverse ++ .ref a :: rest ∧ xs.length = r'.1.2.2.2.2.1 ∧ h[a]? = some (.inr (cj, fs)) ∧ (k = 1 → cj = b)) ∨ (recv = true ∧ ∃ (a : Nat) (xs : List Value), as = .retAddr a :: xs ∧ st = xs.reverse ++ .retAddr a :: rest ∧ xs.length = r'.1.2.2.2.2.1 ∧ mm_tx a = true ∧ k = 1 ∧ b = 1000) ∨ (recv = false ∧ st = as.reverse ++ rest ∧ as.length = r'.1.2.2.2.2.1))
theorem mm_cl_call {Dp Dq : Nat} {r r' : mm_R} {idx : Nat} {st as rest : List Value} {want : Nat → Bool} {recv : Bool} {h : mm_H} (hc : mm_cl Dp r idx st want recv h = .inr (.inr (Dq, r', as, rest))) : mm_Call r idx st want recv h Dp Dq r' as rest := by
  unfold mm_cl at hc
  split at hc
  · next D0 i0 k mj b x hrk =>
    obtain ⟨he1, he2⟩ := mm_rk_s hrk
    simp only at he2
    subst he2
    obtain ⟨v, ps⟩ := x
    cases hw : want k <;> rw [hw] at hc
    · cases hc
    · simp only [cond_true] at hc
      split at hc
      · cases hc
      · next r0 hr0 =>
        split at hc
        · cases hc
        · next as0 rest0 htk =>
          obtain ⟨xs, t1, t2, t3⟩ := mm_tk_s htk
          rw [List.append_nil] at t3
          cases recv
          · obtain ⟨rfl, rfl, rfl, rfl, m1, m2⟩ := mm_mk_call hc
            exact ⟨k, mj, b, v, ps, he1, hw, hr0, rfl, m1, m2, Or.inr (Or.inr ⟨rfl, by rw [t3, List.reverse_reverse]; exact t1, by rw [t3, List.length_reverse]; exact t2⟩)⟩
          · simp only [cond_true] at hc
            split at hc
            · next a rest1 =>
              split at hc
              · next cj fs ha =>
                cases hb : (Nat.beq k 1 && !Nat.beq cj b) <;> rw [hb] at hc
                · obtain ⟨rfl, rfl, rfl, rfl, m1, m2⟩ := mm_mk_call hc
                  refine ⟨k, mj, b, v, ps, he1, hw, hr0, rfl, m1, m2, Or.inl ⟨rfl, a, as0, cj, fs, rfl, by rw [t3, List.reverse_reverse]; exact t1, by rw [t3, List.length_reverse]; exact t2, ha, fun hk => ?_⟩⟩
                  subst hk
                  cases hcb : Nat.beq cj b
                  · rw [hcb] at hb; cases hb
                  · exact Nat.eq_of_beq_eq_true hcb
                · cases hc
              · cases hc
            · next a rest1 =>
              cases hb : (mm_tx a && Nat.beq k 1 && Nat.beq b 1000) <;> rw [hb] at hc
              · cases hc
              · simp only [Bool.and_eq_true] at hb
                obtain ⟨rfl, rfl, rfl, rfl, m1, m2⟩ := mm_mk_call hc
                exact ⟨k, mj, b, v, ps, he1, hw, hr0, rfl, m1, m2, Or.inr (Or.inl ⟨rfl, a, as0, rfl, by rw [t3, List.reverse_reverse]; exact t1, by rw [t3, List.length_reverse]; exact t2, hb.1.1, Nat.eq_of_beq_eq_true hb.1.2, Nat.eq_of_beq_eq_true hb.2⟩)⟩
            · cases hc
  · cases hc
theorem mm_cl_ret {Dp : Nat} {r : mm_R} {idx : Nat} {st : List Value} {want : Nat → Bool} {recv : Bool} {h : mm_H} {v : Option Value} : ¬ mm_cl Dp r idx st want recv h = .inr (.inl v) := by
  intro hc
  unfold mm_cl at hc
  split at hc
  · next D0 k mj b x hk =>
    cases hw : want k <;> rw [hw] at hc
    · cases hc
    · simp only [cond_true] at hc
      split at hc
      · cases hc
      · split at hc
        · cases hc
        · cases recv
          · exact mm_mk_ret hc
          · simp only [cond_true] at hc
            split at hc
            · split at hc
              · next cj fs ha =>
                cases hb : (Nat.beq k 1 && !Nat.beq cj b) <;> rw [hb] at hc
                · exact mm_mk_ret hc
                · cases hc
              · cases hc
            · simp only [cond_eq_ite] at hc
              split at hc
              · exact mm_mk_ret hc
              · cases hc
            · cases hc
  · cases hc
theorem mm_go_ret {X : Option (List Int32)} {r : mm_R} {Dp : Nat} {i : Instr} {n pc : Nat} {ls : mm_L} {st : List Value} {h : mm_H} {v : Option Value} (hg : mm_go X r Dp i n pc ls st h = .inr (.inl v)) : n = 1 ∧ mm_rt r.1.2.2.2.1 i st = some v := by
  unfold mm_go at hg
  split at hg
  · cases hg
  · split at hg <;> cases hg
  · split at hg <;> cases hg
  · split at hg <;> cases hg
  · split at hg <;> cases hg
  · cases hg
  · cases hg
  · cases hg
  · split at hg <;> cases hg
  · split at hg
    · split at hg <;> cases hg
    · cases hg
  · cases hg
  · cases hg
  · split at hg
    · next h1 => cases hg; exact ⟨rfl, h1⟩
    · cases hg
  · split at hg
    · unfold mm_iv at hg
      split at hg
      · exact absurd hg mm_cl_ret
      · split at hg
        · next t _ _ => cases hw : Nat.ble (mm_wt t) 8 <;> rw [hw] at hg <;> cases hg
        · exact absurd hg mm_cl_ret
      · split at hg
        · cases hg
        · exact absurd hg mm_cl_ret
      · cases hg
    · cases hg
  · cases hg
theorem mm_go_call {X : Option (List Int32)} {r r' : mm_R} {Dp Dq : Nat} {i : Instr} {n pc : Nat} {ls : mm_L} {st as rest : List Value} {h : mm_H} (hg : mm_go X r Dp i n pc ls st h = .inr (.inr (Dq, r', as, rest))) :
    n = 3 ∧ ∃ idx, (i = .invokevirtual idx ∧ mm_Call r idx st (fun k => Nat.beq k 1) true h Dp Dq r' as rest) ∨ (i = .invokespecial idx ∧ mm_Call r idx st (fun k => Nat.beq k 3 || Nat.beq k 4) true h Dp Dq r' as rest) ∨ (i = .invokestatic idx ∧ mm_Call r idx st (fun k => Nat.beq k 2 || Nat.beq k 5) false h Dp Dq r' as rest) := by
  unfold mm_go at hg
  split at hg
  · cases hg
  · split at hg <;> cases hg
  · split at hg <;> cases hg
  · split at hg <;> cases hg
  · split at hg <;> cases hg
  · cases hg
  · cases hg
  · cases hg
  · split at hg <;> cases hg
  · split at hg
    · split at hg <;> cases hg
    · cases hg
  · cases hg
  · cases hg
  · split at hg <;> cases hg
  · split at hg
    · refine ⟨rfl, ?_⟩
      unfold mm_iv at hg
      split at hg
      · exact ⟨_, Or.inl ⟨rfl, mm_cl_call hg⟩⟩
      · split at hg
        · next t _ _ => cases hw : Nat.ble (mm_wt t) 8 <;> rw [hw] at hg <;> cases hg
        · exact ⟨_, Or.inr (Or.inl ⟨rfl, mm_cl_call hg⟩)⟩
      · split at hg
        · cases hg
        · exact ⟨_, Or.inr (Or.inr ⟨rfl, mm_cl_call hg⟩)⟩
      · cases hg
    · cases hg
  · cases hg
theorem mm_x_mono {X : Option (List Int32)} : ∀ (f Dp : Nat) (r : mm_R) (pc : Nat) (ls : mm_L) (st : List Value) (h : mm_H) (v : Option Value) (h' : mm_H), mm_x X f Dp r pc ls st h = some (v, h') → h.length ≤ h'.length ∧ mm_sz h ≤ mm_sz h'
  | 0, _, _, _, _, _, _, _, _, hx => by cases hx
  | f + 1, Dp, r, pc, ls, st, h, v, h', hx => by
    unfold mm_x at hx
    split at hx
    · cases hx
    · split at hx
      · cases hx
      · next hg =>
        have h1 := mm_go_mono hg
        have h2 := mm_x_mono f _ _ _ _ _ _ _ _ hx
        exact ⟨Nat.le_trans h1.1 h2.1, Nat.le_trans h1.2 h2.2⟩
      · cases hx; exact ⟨Nat.le_refl _, Nat.le_refl _⟩
      · split at hx
        · cases hx
        · next hc =>
          have h1 := mm_x_mono f _ _ _ _ _ _ _ _ hc
          have h2 := mm_x_mono f _ _ _ _ _ _ _ _ hx
          exact ⟨Nat.le_trans h1.1 h2.1, Nat.le_trans h1.2 h2.2⟩
-- the entry
def mm_sv2 (B : Nat) (b0 : mm_X) (o : Option Value) : Slot := match o with
  | some v => .val (mm_mv B b0 v)
  | none => .second
theorem mm_sl_lg (B : Nat) (b0 : mm_X) (as : List Value) : lg_sl (as.map (mm_mv B b0)) = (mm_sl as).map (mm_sv2 B b0) := by
  induction as with
  | nil => rfl
  | cons v t ih =>
    have e1 : lg_sl ((v :: t).map (mm_mv B b0)) = (if (mm_mv B b0 v).category = 2 then [Slot.val (mm_mv B b0 v), .second] else [.val (mm_mv B b0 v)]) ++ lg_sl (t.map (mm_mv B b0)) := by simp [lg_sl]
    have e2 : mm_sl (v :: t) = bif mm_c1 v then some v :: mm_sl t else some v :: none :: mm_sl t := rfl
    rw [e1, ih, mm_mv_cat, e2]
    cases hc : mm_c1 v
    · rw [mm_c1_cat' hc]; rfl
    · rw [mm_c1_cat hc]; rfl
theorem mm_ent_LR (B : Nat) (b0 : mm_X) (r : mm_R) (as : List Value) (hl : (mm_sl as).length ≤ r.1.2.2.1) : mm_LR B b0 ((lg_sl (as.map (mm_mv B b0)) ++ List.replicate (r.1.2.2.1 - (lg_sl (as.map (mm_mv B b0))).length) Slot.unset).toArray) (mm_en r as) ∧ (mm_en r as).length = r.1.2.2.1 := by
  have e1 : (lg_sl (as.map (mm_mv B b0))).length = (mm_sl as).length := by rw [mm_sl_lg, List.length_map]
  have hh := lv_entry (as.map (mm_mv B b0)) (n := r.1.2.2.1) (by rw [e1]; exact hl)
  have e2 : (mm_en r as).length = r.1.2.2.1 := by
    unfold mm_en
    simp
    omega
  refine ⟨⟨by rw [hh.1, e2], hh.2.1, fun i v hi => ?_⟩, e2⟩
  unfold mm_en at hi
  by_cases hc : i < (mm_sl as).length
  · rw [List.getElem?_append_left hc] at hi
    rw [List.getElem?_toArray, List.getElem?_append_left (by rw [e1]; exact hc), mm_sl_lg, List.getElem?_map, hi]
    rfl
  · rw [List.getElem?_append_right (by omega), List.getElem?_replicate] at hi
    split at hi <;> cases hi
section mmJ
variable {l : Launch} {D : va_G} {dA : Nat → ClassId} {B : Nat} {b0 : mm_X} {H0 : Heap} {X : Option (List Int32)}
/-- what a run of the mini-machine from a place gives of the machine -/
def mm_OK (l : Launch) (D : va_G) (dA : Nat → ClassId) (B : Nat) (b0 : mm_X) (H0 : Heap) (X : Option (List Int32)) (Dp : Nat) (r : mm_R) (pc : Nat) (ls : mm_L) (st : List Value) (h : mm_H) (v : Option Value) (h' : mm_H) : Prop :=
  ∀ (p : Program) (e : Env) (R : Room) (s : State) (m : MethodId) (args : Array Value) (below : List Frame) (meth : Method) (c : Code) (Q : State → Prop) (n0 s0 : Nat) (H : Heap) (locs : List Loc) (cells slots : Nat) (real : Array Slot),
    mm_Ctx D dA B b0 H0 X r p s m args meth c → Dp ≤ R.frames → 35 * Dp ≤ R.locals → mm_CF D dA B b0 H0 n0 s0 H locs cells slots h → mm_LR B b0 real ls → ls.length = r.1.2.2.1 → h'.length ≤ n0 + R.cells → mm_sz h' ≤ s0 + R.slots →
    (∀ H' locs' cells' slots' real' pc' i stk, mm_at r pc' = some (i, 1) → mm_rt r.1.2.2.2.1 i stk = some v → mm_CF D dA B b0 H0 n0 s0 H' locs' cells' slots' h' → W p l e R s m args below meth c H' locs' cells' slots' Q (F0 m pc' real' (stk.map (mm_mv B b0)))) →
    W p l e R s m args below meth c H locs cells slots Q (F0 m pc real (st.map (mm_mv B b0)))
theorem mm_met {Dp : Nat} {r : mm_R} {as : List Value} {h h' : mm_H} {v : Option Value} (hg : mm_GoodC r) (hl : (mm_sl as).length ≤ r.1.2.2.1) (hm : h.length ≤ h'.length ∧ mm_sz h ≤ mm_sz h') (ih : mm_OK l D dA B b0 H0 X Dp r 0 (mm_en r as) [] h v h') :
    Met l r.1.1 (mm_ws r) (mm_rm Dp (h'.length - h.length) (mm_sz h' - mm_sz h)) (mm_Pc D dA B b0 H0 X as h) (mm_Qc D dA B b0 H0 v h') (h'.length - h.length) (mm_sz h' - mm_sz h) (fun q => B ≤ q) := by
  obtain ⟨hgood, hplain, hmh, h16, hown, hcode, hini, hstat, hinst⟩ := hg
  refine Met.ofW (cc := r.1.2.1) (maxL := r.1.2.2.1) (ret := r.1.2.2.2.1) hplain rfl ?_
  intro p e s m args below meth c s₁ Bd hml hv
  obtain ⟨rfl, hSim, hGI⟩ := hv
  have hts := atoms_spec (ws := mm_ws r) Bd.pre
  have C : mm_Ctx D dA B b0 H0 X r p s m (as.map (mm_mv B b0)).toArray meth c := ⟨Bd.exec, Bd.bytes, hml, Bd.returns, Bd.notSynchronized, fun hi => (name_of_methodNamed Bd.named Bd.method).1.trans hi, by rw [hown]; exact findClass_of_methodNamed Bd.named, fun w hw => hts w (List.mem_cons_of_mem _ hw), hGI⟩
  obtain ⟨hLR, hlen⟩ := mm_ent_LR B b0 r as hl
  rw [lg_entry_eq]
  refine ih p e _ s m _ below meth c _ h.length (mm_sz h) s.heap [] 0 0 _ C (Nat.le_refl Dp) (Nat.le_refl (35 * Dp)) ⟨hSim, fun q hq => (by cases hq), rfl, rfl⟩ hLR hlen (by show _ ≤ _ + (h'.length - h.length); omega) (by show _ ≤ _ + (mm_sz h' - mm_sz h); omega) ?_
  intro H' locs' cells' slots' real' pc' i stk hat hrt S
  have hd := hgood.1 _ _ _ hat
  have e1 : cells' = h'.length - h.length := by have := S.2.2.1; omega
  have e2 : slots' = mm_sz h' - mm_sz h := by have := S.2.2.2; omega
  subst e1 e2
  have hx := Bd.exec
  have hb := Bd.bytes
  have hr := Bd.returns
  have hlocks := Bd.notSynchronized
  unfold mm_rt at hrt
  split at hrt
  · next he => cases hrt; exact W.iret hx hb (by rw [hr]; exact he) (fun t ht _ => ⟨rfl, by rw [ht]; exact S.1⟩) S.2.1 hd
  · next x he =>
    obtain ⟨h1, h2⟩ := mm_setB hrt
    cases h2
    refine W.zret (ty := .boolean) hx hb (by rw [hr]; exact he) ?_ (fun t ht _ => ⟨rfl, by rw [ht]; exact S.1⟩) S.2.1 hd
    simp only [Bool.or_eq_true, decide_eq_true_eq] at h1
    rcases h1 with rfl | rfl
    · decide +kernel
    · decide +kernel
  · next x he =>
    obtain ⟨h1, h2⟩ := mm_setB hrt
    cases h2
    exact W.zret (ty := .byte) hx hb (by rw [hr]; exact he) (by show Value.int _ = _; rw [of_decide_eq_true h1]) (fun t ht _ => ⟨rfl, by rw [ht]; exact S.1⟩) S.2.1 hd
  · next x he =>
    obtain ⟨h1, h2⟩ := mm_setB hrt
    cases h2
    exact W.zret (ty := .char) hx hb (by rw [hr]; exact he) (by show Value.int _ = _; rw [of_decide_eq_true h1]) (fun t ht _ => ⟨rfl, by rw [ht]; exact S.1⟩) S.2.1 hd
  · next he => cases hrt; exact W.vret hx hb (by rw [hr]; exact he) (fun t ht _ => ⟨rfl, by rw [ht]; exact S.1⟩) S.2.1 hd
  · cases hrt
theorem mm_blind {as : List Value} {h : mm_H} : FrameBlind (mm_Pc D dA B b0 H0 X as h) := fun a U g mk hq => ⟨hq.1, hq.2.1, hq.2.2.same rfl⟩
theorem mm_goodIn {r : mm_R} (hg : mm_GoodC r) : GoodIn mm_W (mm_ws r) := fun w hw => (List.mem_cons.mp hw).elim (fun e => e ▸ ⟨hg.2.2.2.2.2.1, mm_W_good hg.2.2.2.2.2.1⟩) (fun h => ⟨h, mm_W_good h⟩)
/-- behind a call -/
theorem mm_after {p : Program} {e : Env} {R : Room} {s : State} {m : MethodId} {args : Array Value} {below : List Frame} {meth : Method} {c : Code} {H : Heap} {locs : List Loc} {cells slots : Nat} {Q : State → Prop} {pc n0 s0 : Nat} {real : Array Slot} {h h' : mm_H} {v : Option Value} {rest st : List Value} {a : Array Value}
    (S : mm_CF D dA B b0 H0 n0 s0 H locs cells slots h) (hm : h.length ≤ h'.length ∧ mm_sz h ≤ mm_sz h')
    (hr : va_Run p l e R s m args below meth c H locs cells slots (h'.length - h.length) (mm_sz h' - mm_sz h) (F0 m pc real st) (rest.map (mm_mv B b0)) (mm_Qc D dA B b0 H0 v h' a) (fun q => B ≤ q))
    (k : ∀ H' locs' cells' slots', mm_CF D dA B b0 H0 n0 s0 H' locs' cells' slots' h' → W p l e R s m args below meth c H' locs' cells' slots' Q (F0 m (pc + 3) real ((v.toList ++ rest).map (mm_mv B b0)))) :
    W p l e R s m args below meth c H locs cells slots Q (F0 m pc real st) := by
  intro T hT Xs
  obtain ⟨v', st₀, t, T', L, h0, X', hL, e1, e2, ⟨hv, hSim⟩, stp⟩ := hr T hT Xs
  cases hv
  obtain ⟨tt, a1, b1⟩ := k T'.heap (locs ++ L) _ _ ⟨by rw [e1]; exact hSim, fun q hq => (List.mem_append.mp hq).elim (S.2.1 q) (hL q), by have := S.2.2.1; omega, by have := S.2.2.2; omega⟩ T' rfl X'
  refine ⟨tt, stp tt ?_, b1⟩
  have e3 : (v.toList ++ rest).map (mm_mv B b0) = (v.map (mm_mv B b0)).toList ++ rest.map (mm_mv B b0) := by cases v <;> simp
  rw [e3] at a1
  exact a1
end mmJ
