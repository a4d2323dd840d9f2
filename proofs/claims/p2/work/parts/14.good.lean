/-! every method's table is good -/
def mm_tok (r : mm_R) : Bool := r.2.2.1.all (fun l => l.all (fun q => decide (decode r.1.2.1 q.1 = .ok q.2)))
theorem mm_lk_s {l : List (Nat × Instr × Nat)} {pc : Nat} {x : Instr × Nat} (h : mm_lk l pc = some x) : (pc, x) ∈ l := by
  induction l with
  | nil => cases h
  | cons q t ih =>
    unfold mm_lk at h
    cases hq : Nat.beq q.1 pc <;> rw [hq] at h
    · exact List.mem_cons_of_mem _ (ih h)
    · have h1 := Nat.eq_of_beq_eq_true hq
      cases h
      subst h1
      exact List.mem_cons_self
theorem mm_tok_s {r : mm_R} (h : mm_tok r = true) : ∀ pc i n, mm_at r pc = some (i, n) → decode r.1.2.1 pc = .ok (i, n) := by
  intro pc i n ha
  unfold mm_at at ha
  split at ha
  · next l hl =>
    have h1 := List.all_eq_true.mp h l (List.mem_of_getElem? hl)
    have h2 := List.all_eq_true.mp h1 _ (mm_lk_s ha)
    exact of_decide_eq_true h2
  · cases ha
theorem mm_good_of {r : mm_R} (h1 : mm_tok r = true) (h2 : r.2.2.2.all (mm_ek r) = true) : mm_Good r := ⟨mm_tok_s h1, fun e he => List.all_eq_true.mp h2 e he⟩
def mm_mw (r : mm_R) : Bool := plainName r.1.1.cls && decide (r.1.1.cls ≠ "java/lang/invoke/MethodHandle") && decide (r.1.1.cls ≠ "java/lang/invoke/VarHandle") && decide ((parseMethodDescriptor r.1.1.desc).map (fun d => d.parameters.length) = some r.1.2.2.2.2.1) && Nat.ble r.1.2.2.1 16 && decide (r.2.1 = r.1.1.cls)
def mm_mv0 (r : mm_R) : Bool := bif r.1.2.2.2.2.2.1 then mm_has r.1.2.2.2.2.2.2.1 [.static r.1.1, .initialized r.1.1.cls] else (bif decide (r.1.1.name = "<init>") then mm_has r.1.2.2.2.2.2.2.1 [.instanceMethod r.1.1, .initialized r.1.1.cls] else mm_has r.1.2.2.2.2.2.2.1 [.instanceMethod r.1.1, .initialized r.1.1.cls, .selects r.1.1.cls r.1.1 r.1.1])
theorem mm_goodC_of {r : mm_R} (hg : mm_Good r) (h3 : mm_mw r = true) (h4 : mm_mv0 r = true) (h5 : mm_tb r.1.2.2.2.2.2.2.2.1 r.1.2.2.2.2.2.2.2.2 = some (Cond.code r.1.1 r.1.2.1 r.1.2.2.1 r.1.2.2.2.1)) (h6 : goodWord (Cond.code r.1.1 r.1.2.1 r.1.2.2.1 r.1.2.2.2.1) = true) : mm_GoodC r := by
  unfold mm_mw at h3
  simp only [Bool.and_eq_true, decide_eq_true_eq] at h3
  obtain ⟨⟨⟨⟨⟨a1, a2⟩, a3⟩, a4⟩, a5⟩, a6⟩ := h3
  refine ⟨hg, a1, ⟨a2, a3, a4⟩, Nat.le_of_ble_eq_true a5, a6, mm_W_in (mm_tb_in h5) h6, ?_⟩
  unfold mm_mv0 at h4
  cases hs : r.1.2.2.2.2.2.1 <;> rw [hs] at h4
  · simp only [cond_false] at h4
    cases hi : decide (r.1.1.name = "<init>") <;> rw [hi] at h4
    · have hw := mm_W_has h4 (by simp [goodWord, Cond.onTables, Cond.keeps, Cond.steady])
      exact ⟨hw _ (by simp), fun h => (by cases h), fun _ => ⟨hw _ (by simp), fun _ => hw _ (by simp)⟩⟩
    · have hw := mm_W_has h4 (by simp [goodWord, Cond.onTables, Cond.keeps, Cond.steady])
      exact ⟨hw _ (by simp), fun h => (by cases h), fun _ => ⟨hw _ (by simp), fun hn => absurd (of_decide_eq_true hi) hn⟩⟩
  · have hw := mm_W_has h4 (by simp [goodWord, Cond.onTables, Cond.keeps, Cond.steady])
    exact ⟨hw _ (by simp), fun _ => hw _ (by simp), fun h => (by cases h)⟩
