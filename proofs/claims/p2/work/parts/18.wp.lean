/-! reasoning on the mini-machine: what a run comes to -/
theorem mm_x_fuel {X : Option (List Int32)} : ∀ (f Dp : Nat) (r : mm_R) (pc : Nat) (ls : mm_L) (st : List Value) (h : mm_H) (q : Option Value × mm_H) (f' : Nat), mm_x X f Dp r pc ls st h = some q → f ≤ f' → mm_x X f' Dp r pc ls st h = some q
  | 0, _, _, _, _, _, _, _, _, hx, _ => by cases hx
  | f + 1, Dp, r, pc, ls, st, h, q, 0, hx, hf => by omega
  | f + 1, Dp, r, pc, ls, st, h, q, f' + 1, hx, hf => by
    unfold mm_x at hx ⊢
    split at hx
    · cases hx
    · next i n hat =>
      split at hx
      · cases hx
      · exact mm_x_fuel f _ _ _ _ _ _ _ f' hx (by omega)
      · exact hx
      · split at hx
        · cases hx
        · next hc =>
          rw [mm_x_fuel f _ _ _ _ _ _ _ f' hc (by omega)]
          exact mm_x_fuel f _ _ _ _ _ _ _ f' hx (by omega)
theorem mm_g1_X {X : Option (List Int32)} {i : Instr} {st t : List Value} {h : mm_H} (hs : mm_g1 none i st h = some t) : mm_g1 X i st h = some t := by
  unfold mm_g1 at hs ⊢
  split at hs
  · exact hs
  · cases hs
  · exact hs
  · exact hs
  · exact hs
  · exact hs
  · exact hs
  · cases hs
  · exact hs
  · cases hs
theorem mm_g2_X {X : Option (List Int32)} {i : Instr} {st : List Value} {h : mm_H} {q : List Value × mm_H} (hs : mm_g2 i st h = some q) : mm_g1 X i st h = none := by
  unfold mm_g2 at hs
  split at hs
  · rfl
  · rfl
  · rfl
  · rfl
  · cases hs
theorem mm_go_X {X : Option (List Int32)} {r : mm_R} {Dp : Nat} {i : Instr} {n pc : Nat} {ls : mm_L} {st : List Value} {h : mm_H} {o : mm_O} (hg : mm_go none r Dp i n pc ls st h = o) (ho : o ≠ .inl none) : mm_go X r Dp i n pc ls st h = o := by
  unfold mm_go at hg ⊢
  split at hg
  · exact hg
  · exact hg
  · exact hg
  · exact hg
  · exact hg
  · exact hg
  · exact hg
  · exact hg
  · exact hg
  · split at hg
    · split at hg
      · next t h1 => rw [mm_g1_X h1]; exact hg
      · next h1 =>
        cases h2 : mm_g2 i st h with
        | none => rw [h2] at hg; exact absurd hg.symm ho
        | some q => rw [h2] at hg; rw [mm_g2_X h2]; exact hg
    · exact absurd hg.symm ho
  · exact hg
  · exact hg
  · exact hg
  · exact hg
  · exact hg
theorem mm_x_X {X : Option (List Int32)} : ∀ (f Dp : Nat) (r : mm_R) (pc : Nat) (ls : mm_L) (st : List Value) (h : mm_H) (q : Option Value × mm_H), mm_x none f Dp r pc ls st h = some q → mm_x X f Dp r pc ls st h = some q
  | 0, _, _, _, _, _, _, _, hx => by cases hx
  | f + 1, Dp, r, pc, ls, st, h, q, hx => by
    unfold mm_x at hx ⊢
    split at hx
    · cases hx
    · next i n hat =>
      split at hx
      · cases hx
      · next hg => rw [mm_go_X hg (fun h => by cases h)]; exact mm_x_X f _ _ _ _ _ _ _ hx
      · next hg => rw [mm_go_X hg (fun h => by cases h)]; exact hx
      · next hg =>
        rw [mm_go_X hg (fun h => by cases h)]
        simp only
        split at hx
        · cases hx
        · next hc =>
          rw [mm_x_X f _ _ _ _ _ _ _ hc]
          exact mm_x_X f _ _ _ _ _ _ _ hx
def mm_Wp (X : Option (List Int32)) (Dp : Nat) (r : mm_R) (pc : Nat) (ls : mm_L) (st : List Value) (h : mm_H) (Q : Option Value → mm_H → Prop) : Prop := ∃ (f : Nat) (v : Option Value) (h' : mm_H), mm_x X f Dp r pc ls st h = some (v, h') ∧ Q v h'
section wp
variable {X : Option (List Int32)} {Dp Dq : Nat} {r r' : mm_R} {pc pc' n : Nat} {ls ls' : mm_L} {st st' as rest : List Value} {h h' : mm_H} {i : Instr} {Q : Option Value → mm_H → Prop}
theorem wp_s (ha : mm_at r pc = some (i, n)) (hg : mm_go X r Dp i n pc ls st h = .inl (some (pc', ls', st', h'))) (k : mm_Wp X Dp r pc' ls' st' h' Q) : mm_Wp X Dp r pc ls st h Q := by
  obtain ⟨f, v, h1, hx, hq⟩ := k
  refine ⟨f + 1, v, h1, ?_, hq⟩
  unfold mm_x
  rw [ha]
  simp only
  rw [hg]
  exact hx
theorem wp_r {v : Option Value} (ha : mm_at r pc = some (i, n)) (hg : mm_go X r Dp i n pc ls st h = .inr (.inl v)) (k : Q v h) : mm_Wp X Dp r pc ls st h Q := by
  refine ⟨1, v, h, ?_, k⟩
  unfold mm_x
  rw [ha]
  simp only
  rw [hg]
theorem wp_c (ha : mm_at r pc = some (i, n)) (hg : mm_go X r Dp i n pc ls st h = .inr (.inr (Dq, r', as, rest))) (he : mm_en r' as = ls') (k : mm_Wp X Dq r' 0 ls' [] h (fun v1 h1 => mm_Wp X Dp r (pc + 3) ls (v1.toList ++ rest) h1 Q)) : mm_Wp X Dp r pc ls st h Q := by
  subst he
  obtain ⟨f, v, h1, hx, f2, v2, h2, hx2, hq⟩ := k
  refine ⟨max f f2 + 1, v2, h2, ?_, hq⟩
  unfold mm_x
  rw [ha]
  simp only
  rw [hg]
  simp only
  rw [mm_x_fuel f _ _ _ _ _ _ _ (max f f2) hx (Nat.le_max_left _ _)]
  exact mm_x_fuel f2 _ _ _ _ _ _ _ (max f f2) hx2 (Nat.le_max_right _ _)
theorem wp_if {c : ClassFile.Cond} {off : Int} {x : Int32} {t : Nat} (ha : mm_at r pc = some (.ifCond c off, 3)) (ht : mm_tg pc off = some t) (kt : mm_cc c x 0 = true → mm_Wp X Dp r t ls st h Q) (kf : mm_cc c x 0 = false → mm_Wp X Dp r (pc + 3) ls st h Q) : mm_Wp X Dp r pc ls (.int x :: st) h Q := by
  cases hb : mm_cc c x 0
  · refine wp_s ha (pc' := pc + 3) (ls' := ls) (st' := st) (h' := h) ?_ (kf hb)
    show (Sum.inl ((((mm_tg pc off).map (fun t => bif mm_cc c x 0 then t else pc + 3)).map (fun a => (a, st))).map (fun q => (q.1, ls, q.2, h))) : mm_O) = _
    rw [ht, hb]
    rfl
  · refine wp_s ha (pc' := t) (ls' := ls) (st' := st) (h' := h) ?_ (kt hb)
    show (Sum.inl ((((mm_tg pc off).map (fun t => bif mm_cc c x 0 then t else pc + 3)).map (fun a => (a, st))).map (fun q => (q.1, ls, q.2, h))) : mm_O) = _
    rw [ht, hb]
    rfl
theorem wp_ic {c : ClassFile.Cond} {off : Int} {x y : Int32} {t : Nat} (ha : mm_at r pc = some (.if_icmp c off, 3)) (ht : mm_tg pc off = some t) (kt : mm_cc c x y = true → mm_Wp X Dp r t ls st h Q) (kf : mm_cc c x y = false → mm_Wp X Dp r (pc + 3) ls st h Q) : mm_Wp X Dp r pc ls (.int y :: .int x :: st) h Q := by
  cases hb : mm_cc c x y
  · refine wp_s ha (pc' := pc + 3) (ls' := ls) (st' := st) (h' := h) ?_ (kf hb)
    show (Sum.inl ((((mm_tg pc off).map (fun t => bif mm_cc c x y then t else pc + 3)).map (fun a => (a, st))).map (fun q => (q.1, ls, q.2, h))) : mm_O) = _
    rw [ht, hb]
    rfl
  · refine wp_s ha (pc' := t) (ls' := ls) (st' := st) (h' := h) ?_ (kt hb)
    show (Sum.inl ((((mm_tg pc off).map (fun t => bif mm_cc c x y then t else pc + 3)).map (fun a => (a, st))).map (fun q => (q.1, ls, q.2, h))) : mm_O) = _
    rw [ht, hb]
    rfl
theorem wp_ts {d lo hi : Int} {offs : Array Int} {x : Int32} {t : Nat} (ha : mm_at r pc = some (.tableswitch d lo hi offs, n)) (ht : mm_sw pc d lo hi offs x.toInt = some t) (k : mm_Wp X Dp r t ls st h Q) : mm_Wp X Dp r pc ls (.int x :: st) h Q := by
  refine wp_s ha (pc' := t) (ls' := ls) (st' := st) (h' := h) ?_ k
  show (Sum.inl (((mm_sw pc d lo hi offs x.toInt).map (fun a => (a, st))).map (fun q => (q.1, ls, q.2, h))) : mm_O) = _
  rw [ht]
  rfl
/-- a closed run -/
theorem wp_x {v : Option Value} (f : Nat) (hx : mm_x none f Dp r pc ls st h = some (v, h')) (k : Q v h') : mm_Wp X Dp r pc ls st h Q := ⟨f, v, h', mm_x_X f _ _ _ _ _ _ _ hx, k⟩
theorem mm_Wp.mono {Q' : Option Value → mm_H → Prop} (hw : mm_Wp X Dp r pc ls st h Q) (hq : ∀ v h', Q v h' → Q' v h') : mm_Wp X Dp r pc ls st h Q' := by
  obtain ⟨f, v, h1, hx, q⟩ := hw
  exact ⟨f, v, h1, hx, hq _ _ q⟩
end wp
