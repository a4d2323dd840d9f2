/-! how much water there is: bounds on a second -/
def so_sm (g : Int → Int) : Nat → Int
  | 0 => 0
  | n + 1 => so_sm g n + g n
theorem sm_c {g g' : Int → Int} : ∀ n : Nat, (∀ i : Int, 0 ≤ i → i < n → g i = g' i) → so_sm g n = so_sm g' n
  | 0, _ => rfl
  | n + 1, h => by
    show so_sm g n + g n = so_sm g' n + g' n
    rw [sm_c n (fun i h0 h1 => h i h0 (by omega)), h n (by omega) (by omega)]
theorem sm_u (g : Int → Int) (j v : Int) : ∀ n : Nat, so_sm (fun i => if i = j then v else g i) n = so_sm g n + (if 0 ≤ j ∧ j < n then v - g j else 0)
  | 0 => by rw [if_neg (by omega)]; rfl
  | n + 1 => by
    show so_sm _ n + (if (n : Int) = j then v else g n) = so_sm g n + g n + _
    rw [sm_u g j v n]
    by_cases h : (n : Int) = j
    · subst h
      rw [if_neg (by omega), if_pos rfl, if_pos (by omega)]
      omega
    · rw [if_neg h]
      by_cases h2 : 0 ≤ j ∧ j < (n : Int)
      · rw [if_pos h2, if_pos (by omega)]
        omega
      · rw [if_neg h2, if_neg (by omega)]
        omega
theorem sm_0 {g : Int → Int} : ∀ n : Nat, (∀ i : Int, 0 ≤ i → i < n → 0 ≤ g i) → 0 ≤ so_sm g n
  | 0, _ => Int.le_refl _
  | n + 1, h => by
    show 0 ≤ so_sm g n + g n
    have h1 := sm_0 n (fun i h0 h1 => h i h0 (by omega))
    have h2 := h n (by omega) (by omega)
    omega
theorem sm_m {g : Int → Int} {k : Nat} : ∀ n : Nat, k ≤ n → (∀ i : Int, 0 ≤ i → i < n → 0 ≤ g i) → so_sm g k ≤ so_sm g n
  | 0, hk, _ => by
    have : k = 0 := by omega
    subst this
    exact Int.le_refl _
  | n + 1, hk, h => by
    by_cases e : k = n + 1
    · subst e
      exact Int.le_refl _
    · have h1 := sm_m (g := g) (k := k) n (by omega) (fun i h0 h1 => h i h0 (by omega))
      have h2 := h n (by omega) (by omega)
      show so_sm g k ≤ so_sm g n + g n
      omega
theorem sm_z : ∀ n : Nat, so_sm (fun _ => 0) n = 0
  | 0 => rfl
  | n + 1 => by
    show so_sm (fun _ => 0) n + 0 = 0
    rw [sm_z n]
    rfl
/-- one of them, by the sum -/
theorem sm_1 {g : Int → Int} {n : Nat} {j : Int} (h : ∀ i : Int, 0 ≤ i → i < n → 0 ≤ g i) (h0 : 0 ≤ j) (h1 : j < n) : g j ≤ so_sm g n := by
  have e := sm_u g j 0 n
  rw [if_pos ⟨h0, h1⟩] at e
  have := sm_0 (g := fun i => if i = j then 0 else g i) n (fun i h0 h1 => by
    show 0 ≤ if i = j then 0 else g i
    split
    · omega
    · exact h i h0 h1)
  omega
theorem ou_fn {o : ob_O} {f : Nat} {i v : Int} : ob_u o f i v f = fun i' => if i' = i then v else o f i' := by
  funext i'
  exact ou_a
theorem ou_ff {o : ob_O} {f f' : Nat} {i v : Int} (h : f' ≠ f) : ob_u o f i v f' = o f' := by
  funext i'
  exact ou_f h
/-- nothing in gutters or at spouts is below 0 -/
def so_nn (o : ob_O) : Prop := (∀ i : Int, 0 ≤ i → i < 5 → 0 ≤ o 10 i) ∧ (∀ i : Int, 0 ≤ i → i < 8 → 0 ≤ o 11 i)
/-- what is in gutters from g on, and at spouts -/
def so_ps (g : Nat) (o : ob_O) : Int := so_sm (o 10) 5 - so_sm (o 10) g + so_sm (o 11) 8
section sb
variable {P S o : ob_O} {w d v q : Int} {g : Nat}
theorem sb_nl (hn : so_nn o) (hd : 0 ≤ d) : so_nn (so_lead o w d) := by
  unfold so_lead
  split
  · refine ⟨fun i h0 h1 => ?_, fun i h0 h1 => ?_⟩
    · rw [ou_a]
      have := hn.1 i h0 h1
      split
      · next e => rw [← e]; omega
      · exact this
    · rw [ou_f (by decide)]
      exact hn.2 i h0 h1
  · split
    · refine ⟨fun i h0 h1 => ?_, fun i h0 h1 => ?_⟩
      · rw [ou_f (by decide)]
        exact hn.1 i h0 h1
      · rw [ou_a]
        have := hn.2 i h0 h1
        split
        · next e => rw [← e]; omega
        · exact this
    · refine ⟨fun i h0 h1 => ?_, fun i h0 h1 => ?_⟩
      · rw [ou_f (by decide)]
        exact hn.1 i h0 h1
      · rw [ou_f (by decide)]
        exact hn.2 i h0 h1
theorem sb_pl (hd : 0 ≤ d) (hw : so_way w) (hg : g ≤ 5) : so_ps g (so_lead o w d) ≤ so_ps g o + d := by
  unfold so_lead so_ps
  unfold so_way at hw
  split
  · rw [ou_fn, ou_ff (by decide), sm_u, sm_u, if_pos (by omega)]
    split <;> omega
  · split
    · rw [ou_fn, ou_ff (by decide), sm_u, if_pos (by omega)]
      omega
    · rw [ou_ff (by decide), ou_ff (by decide)]
      omega
theorem sb_roof (hP : so_P P) (hv : 0 ≤ v ∧ v ≤ 9) (hn : so_nn o) : ∀ r : Nat, (r : Int) ≤ P 0 0 → so_nn (so_roof P v r o) ∧ so_ps 0 (so_roof P v r o) ≤ so_ps 0 o + 81 * r
  | 0, _ => ⟨hn, by show so_ps 0 o ≤ _; omega⟩
  | r + 1, hr => by
    obtain ⟨h1, h2⟩ := sb_roof hP hv hn r (by omega)
    have h3 := hP.2.1 r (by omega) (by omega)
    have h4 : 0 ≤ P 1 r * v := Int.mul_nonneg (by omega) hv.1
    have h5 : P 1 r * v ≤ 9 * 9 := Int.mul_le_mul h3.1.2 hv.2 hv.1 (by omega)
    have e10 : ob_u (so_roof P v r o) 6 0 (so_roof P v r o 6 0 + P 1 r * v) 10 = so_roof P v r o 10 := ou_ff (by decide)
    have e11 : ob_u (so_roof P v r o) 6 0 (so_roof P v r o 6 0 + P 1 r * v) 11 = so_roof P v r o 11 := ou_ff (by decide)
    refine ⟨sb_nl (by unfold so_nn; rw [e10, e11]; exact h1) h4, ?_⟩
    show so_ps 0 (so_lead _ (P 2 r) (P 1 r * v)) ≤ _
    have := sb_pl (o := ob_u (so_roof P v r o) 6 0 (so_roof P v r o 6 0 + P 1 r * v)) (g := 0) h4 (Or.inl h3.2) (by omega)
    have e : so_ps 0 (ob_u (so_roof P v r o) 6 0 (so_roof P v r o 6 0 + P 1 r * v)) = so_ps 0 (so_roof P v r o) := by unfold so_ps; rw [e10, e11]
    rw [e] at this
    omega
theorem sb_half {peg sec : Int} (hq : 0 ≤ q ∧ q ≤ 2147483647) : 0 ≤ so_half peg sec q ∧ so_half peg sec q ≤ q := by
  have hc : dz_c q = q := dc_ir hq.1 hq.2
  unfold so_half
  rw [hc, Int.tdiv_eq_ediv_of_nonneg hq.1]
  split
  · omega
  · split
    · omega
    · split <;> omega
theorem so_ps_1 {g : Nat} (hg : g < 5) : so_ps g o = so_ps (g + 1) o + o 10 g := by
  unfold so_ps
  show _ = so_sm (o 10) 5 - (so_sm (o 10) g + o 10 g) + so_sm (o 11) 8 + o 10 g
  omega
theorem sb_gin (hn : so_nn o) (hg : g < 5) : 0 ≤ o 10 g ∧ o 10 g ≤ so_ps g o := by
  refine ⟨hn.1 g (by omega) (by omega), ?_⟩
  rw [so_ps_1 hg]
  have h1 := sm_m (g := o 10) (k := g + 1) 5 (by omega) hn.1
  have h2 := sm_0 (g := o 11) 8 hn.2
  unfold so_ps
  omega
theorem sb_gut (hP : so_P P) (hn : so_nn o) (hB : so_ps 0 o ≤ 2147483647) : ∀ r : Nat, (r : Int) ≤ P 3 0 → so_nn (so_gut P S r o) ∧ so_ps r (so_gut P S r o) ≤ so_ps 0 o
  | 0, _ => ⟨hn, Int.le_refl _⟩
  | r + 1, hr => by
    obtain ⟨h1, h2⟩ := sb_gut hP hn hB r (by omega)
    have h3 := hP.2.2.2.1 r (by omega) (by omega)
    have hr5 : r < 5 := by have := hP.2.2.1; omega
    have h4 := sb_gin h1 hr5
    have h5 := so_ps_1 (o := so_gut P S r o) hr5
    show so_nn (so_g1 P S r (so_gut P S r o)) ∧ so_ps (r + 1) (so_g1 P S r (so_gut P S r o)) ≤ _
    unfold so_g1
    split
    · have h6 := sb_half (peg := S 0 r) (sec := so_gut P S r o 5 0) (q := so_gut P S r o 10 r) ⟨h4.1, by omega⟩
      have h7 := sb_pl (o := so_gut P S r o) (g := r + 1) h6.1 h3.1 (by omega)
      have h8 := sb_pl (o := so_lead (so_gut P S r o) (P 4 r) (so_half (S 0 r) (so_gut P S r o 5 0) (so_gut P S r o 10 r))) (d := so_gut P S r o 10 r - so_half (S 0 r) (so_gut P S r o 5 0) (so_gut P S r o 10 r)) (g := r + 1) (by omega) h3.2 (by omega)
      refine ⟨sb_nl (sb_nl h1 h6.1) (by omega), by omega⟩
    · refine ⟨⟨fun i h0 h1' => ?_, fun i h0 h1' => ?_⟩, ?_⟩
      · rw [ou_f (by decide)]; exact h1.1 i h0 h1'
      · rw [ou_f (by decide)]; exact h1.2 i h0 h1'
      · have e : so_ps (r + 1) (ob_u (so_gut P S r o) 7 0 (so_gut P S r o 7 0 + so_gut P S r o 10 r)) = so_ps (r + 1) (so_gut P S r o) := by unfold so_ps; rw [ou_ff (by decide), ou_ff (by decide)]
        rw [e]
        omega
/-- leads change only what is in gutters, at spouts, or ran off -/
theorem so_roof_f {f : Nat} (h : f ≠ 6) (h7 : f ≠ 7) (h10 : f ≠ 10) (h11 : f ≠ 11) : ∀ r : Nat, so_roof P v r o f = o f
  | 0 => rfl
  | r + 1 => by
    show so_lead _ (P 2 r) (P 1 r * v) f = o f
    rw [so_lead_f f h7 h10 h11, ou_ff h]
    exact so_roof_f h h7 h10 h11 r
theorem so_g1_f {f : Nat} {g : Int} (h7 : f ≠ 7) (h10 : f ≠ 10) (h11 : f ≠ 11) : so_g1 P S g o f = o f := by
  unfold so_g1
  split
  · rw [so_lead_f f h7 h10 h11, so_lead_f f h7 h10 h11]
  · rw [ou_ff h7]
theorem so_gut_f {f : Nat} (h7 : f ≠ 7) (h10 : f ≠ 10) (h11 : f ≠ 11) : ∀ r : Nat, so_gut P S r o f = o f
  | 0 => rfl
  | r + 1 => by
    show so_g1 P S r (so_gut P S r o) f = o f
    rw [so_g1_f h7 h10 h11]
    exact so_gut_f h7 h10 h11 r
/-- bounds of a flow: its water, its counts, its hits -/
def so_B (B H : Int) (o : ob_O) : Prop := (∀ i : Int, 0 ≤ i → i < 8 → 0 ≤ o 0 i ∧ 0 ≤ o 3 i ∧ (0 ≤ o 1 i ∧ o 1 i ≤ 30) ∧ 0 ≤ o 2 i ∧ o 2 i ≤ H) ∧ so_sm (o 0) 8 + so_sm (o 3) 8 ≤ B
/-- what comes to the spouts in a second -/
theorem sb_spt {B H : Int} (hP : so_P P) (hv : 0 ≤ v ∧ v ≤ 9) (hb : so_B B H o) (hB : B ≤ 1000000000) : so_nn (so_gs P S v o) ∧ so_sm (so_gs P S v o 11) 8 ≤ so_sm (o 3) 8 + 324 := by
  have n0 : so_nn (so_in o) := ⟨fun i h0 h1 => by unfold so_in; rw [of_s]; omega, fun i h0 h1 => by unfold so_in; rw [of_n (by decide), of_n (by decide), of_s]; exact (hb.1 i h0 h1).2.1⟩
  have p0 : so_ps 0 (so_in o) = so_sm (o 3) 8 := by
    unfold so_ps so_in
    rw [of_s, of_n (by decide), of_n (by decide), of_s, sm_z]
    show 0 - 0 + _ = _
    omega
  have hs0 := sm_0 (g := o 0) 8 (fun i h0 h1 => (hb.1 i h0 h1).1)
  have h1 := sb_roof hP hv n0 (P 0 0).toNat (by have := hP.1; omega)
  have h2 := sb_gut (S := S) hP h1.1 (by have := hP.1; have := hb.2; omega) (P 3 0).toNat (by have := hP.2.2.1; omega)
  refine ⟨h2.1, ?_⟩
  have h3 := sm_m (g := so_gs P S v o 10) (k := (P 3 0).toNat) 5 (by have := hP.2.2.1; omega) h2.1.1
  have h4 := h2.2
  have h5 : so_ps (P 3 0).toNat (so_gs P S v o) = so_sm (so_gs P S v o 10) 5 - so_sm (so_gs P S v o 10) (P 3 0).toNat + so_sm (so_gs P S v o 11) 8 := rfl
  have h6 : so_ps (P 3 0).toNat (so_gs P S v o) ≤ so_ps 0 (so_roof P v (P 0 0).toNat (so_in o)) := h4
  have := hP.1
  omega
end sb
