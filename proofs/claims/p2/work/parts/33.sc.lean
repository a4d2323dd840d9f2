/-! bounds on cups -/
/-- what is held, on the way, and at spouts from s on -/
def so_th (s : Nat) (o : ob_O) : Int := so_sm (o 0) 8 + so_sm (o 3) 8 + (so_sm (o 11) 8 - so_sm (o 11) s)
section sc
variable {P S o : ob_O} {k n ot s d B H : Int}
theorem dv_pos {x m : Int} (hx : 0 ≤ x ∧ x ≤ 2147483647) (hm : 1 ≤ m) : 0 ≤ Int.tdiv (dz_c x) m ∧ Int.tdiv (dz_c x) m * m ≤ x ∧ x - Int.tdiv (dz_c x) m * m < m := by
  rw [dc_ir hx.1 hx.2, Int.tdiv_eq_ediv_of_nonneg hx.1]
  have h1 := Int.emod_add_mul_ediv x m
  have h2 := Int.emod_nonneg x (show m ≠ 0 by omega)
  have h3 := Int.emod_lt_of_pos x (show 0 < m by omega)
  have h4 := Int.ediv_nonneg hx.1 (show 0 ≤ m by omega)
  rw [Int.mul_comm m] at h1
  exact ⟨h4, by omega, by omega⟩
/-- a cup: what it changes, and how much water goes -/
theorem sc_cup (hs : 0 ≤ s ∧ s < 8) (hk : (k ≠ 0 ∧ k ≠ 5) → 1 ≤ n ∧ n ≤ 30) (hot : k = 4 → 0 ≤ ot ∧ ot < 8) (hd : 0 ≤ d ∧ d ≤ 1000000000) (hb : ∀ i : Int, 0 ≤ i → i < 8 → 0 ≤ o 0 i ∧ 0 ≤ o 3 i ∧ (0 ≤ o 1 i ∧ o 1 i ≤ 30)) (hh : o 0 s ≤ 1000000000) : (∀ i : Int, 0 ≤ i → i < 8 → 0 ≤ (so_cup o k n ot s d).2 0 i ∧ 0 ≤ (so_cup o k n ot s d).2 3 i ∧ (0 ≤ (so_cup o k n ot s d).2 1 i ∧ (so_cup o k n ot s d).2 1 i ≤ 30)) ∧ so_sm ((so_cup o k n ot s d).2 0) 8 + so_sm ((so_cup o k n ot s d).2 3) 8 ≤ so_sm (o 0) 8 + so_sm (o 3) 8 + d ∧ (∀ f : Nat, f ≠ 0 → f ≠ 1 → f ≠ 3 → f ≠ 7 → (so_cup o k n ot s d).2 f = o f) ∧ 0 ≤ (so_cup o k n ot s d).1 := by
  have hbs := hb s hs.1 hs.2
  unfold so_cup
  split
  · refine ⟨fun i h0 h1 => ?_, ?_, fun f h0 h1 h3 h7 => ou_ff h7, ?_⟩
    · simp only [ou_f (show (0 : Nat) ≠ 7 by decide), ou_f (show (1 : Nat) ≠ 7 by decide), ou_f (show (3 : Nat) ≠ 7 by decide)]
      exact hb i h0 h1
    · simp only [ou_ff (show (0 : Nat) ≠ 7 by decide), ou_ff (show (3 : Nat) ≠ 7 by decide)]
      omega
    · simp only
      split <;> omega
  split
  · next h0 h1 =>
    have hn := hk (by omega)
    have ht := dv_pos (x := o 0 s + d) (m := n) (by omega) hn.1
    refine ⟨fun i h0 h1 => ?_, ?_, fun f h0 h1 h3 h7 => ?_, ht.1⟩
    · have := hb i h0 h1
      simp only [ou_f (show (0 : Nat) ≠ 7 by decide), ou_f (show (1 : Nat) ≠ 7 by decide), ou_f (show (3 : Nat) ≠ 7 by decide), ou_f (show (1 : Nat) ≠ 0 by decide), ou_f (show (3 : Nat) ≠ 0 by decide), ou_a]
      unfold so_tip
      refine ⟨?_, this.2.1, this.2.2⟩
      split <;> omega
    · simp only [ou_ff (show (0 : Nat) ≠ 7 by decide), ou_ff (show (3 : Nat) ≠ 7 by decide), ou_ff (show (3 : Nat) ≠ 0 by decide), ou_fn]
      rw [sm_u, if_pos (by omega)]
      unfold so_tip
      have : 0 ≤ Int.tdiv (dz_c (o 0 s + d)) n * n := Int.mul_nonneg ht.1 (by omega)
      omega
    · simp only [ou_ff h7, ou_ff h0]
  split
  · next h0 h1 h2 =>
    have hn := hk (by omega)
    have hc : dz_c (o 0 s + d) = o 0 s + d := dc_ir (by omega) (by omega)
    rw [hc]
    split
    · split
      · refine ⟨fun i h0 h1 => ?_, ?_, fun f h0 h1 h3 h7 => ou_ff h0, Int.le_refl _⟩
        · have := hb i h0 h1
          simp only [ou_f (show (1 : Nat) ≠ 0 by decide), ou_f (show (3 : Nat) ≠ 0 by decide), ou_a]
          refine ⟨?_, this.2.1, this.2.2⟩
          split <;> omega
        · simp only [ou_ff (show (3 : Nat) ≠ 0 by decide), ou_fn]
          rw [sm_u, if_pos (by omega)]
          omega
      · refine ⟨fun i h0 h1 => ?_, ?_, fun f h0 h1 h3 h7 => ?_, Int.le_refl _⟩
        · have := hb i h0 h1
          simp only [ou_f (show (0 : Nat) ≠ 7 by decide), ou_f (show (1 : Nat) ≠ 7 by decide), ou_f (show (3 : Nat) ≠ 7 by decide), ou_f (show (1 : Nat) ≠ 0 by decide), ou_f (show (3 : Nat) ≠ 0 by decide), ou_a]
          refine ⟨?_, this.2.1, this.2.2⟩
          split <;> omega
        · simp only [ou_ff (show (0 : Nat) ≠ 7 by decide), ou_ff (show (3 : Nat) ≠ 7 by decide), ou_ff (show (3 : Nat) ≠ 0 by decide), ou_fn]
          rw [sm_u, if_pos (by omega)]
          omega
        · simp only [ou_ff h7, ou_ff h0]
    · refine ⟨fun i h0 h1 => ?_, ?_, fun f h0 h1 h3 h7 => ?_, by omega⟩
      · have := hb i h0 h1
        simp only [ou_f (show (0 : Nat) ≠ 7 by decide), ou_f (show (1 : Nat) ≠ 7 by decide), ou_f (show (3 : Nat) ≠ 7 by decide), ou_f (show (1 : Nat) ≠ 0 by decide), ou_f (show (3 : Nat) ≠ 0 by decide), ou_a]
        refine ⟨?_, this.2.1, this.2.2⟩
        split <;> omega
      · simp only [ou_ff (show (0 : Nat) ≠ 7 by decide), ou_ff (show (3 : Nat) ≠ 7 by decide), ou_ff (show (3 : Nat) ≠ 0 by decide), ou_fn]
        rw [sm_u, if_pos (by omega)]
        omega
      · simp only [ou_ff h7, ou_ff h0]
  split
  · next h0 h1 h2 h3 =>
    have hn := hk (by omega)
    have ht := dv_pos (x := o 1 s + d) (m := n) (by omega) hn.1
    refine ⟨fun i h0 h1 => ?_, ?_, fun f h0 h1 h3 h7 => ?_, ht.1⟩
    · have := hb i h0 h1
      simp only [ou_f (show (0 : Nat) ≠ 7 by decide), ou_f (show (1 : Nat) ≠ 7 by decide), ou_f (show (3 : Nat) ≠ 7 by decide), ou_f (show (0 : Nat) ≠ 1 by decide), ou_f (show (3 : Nat) ≠ 1 by decide), ou_a]
      refine ⟨this.1, this.2.1, ?_⟩
      split <;> omega
    · simp only [ou_ff (show (0 : Nat) ≠ 7 by decide), ou_ff (show (3 : Nat) ≠ 7 by decide), ou_ff (show (3 : Nat) ≠ 1 by decide), ou_ff (show (0 : Nat) ≠ 1 by decide)]
      omega
    · simp only [ou_ff h7, ou_ff h1]
  split
  · next h0 h1 h2 h3 h4 =>
    have hn := hk (by omega)
    have hto := hot h4
    have ht := dv_pos (x := o 0 s + d) (m := n) (by omega) hn.1
    have hm : 0 ≤ Int.tdiv (dz_c (o 0 s + d)) n * n := Int.mul_nonneg ht.1 (by omega)
    refine ⟨fun i h0 h1 => ?_, ?_, fun f h0 h1 h3 h7 => ?_, ht.1⟩
    · have := hb i h0 h1
      have := hb ot hto.1 hto.2
      simp only [ou_f (show (0 : Nat) ≠ 3 by decide), ou_f (show (1 : Nat) ≠ 3 by decide), ou_f (show (1 : Nat) ≠ 0 by decide), ou_f (show (3 : Nat) ≠ 0 by decide), ou_a]
      unfold so_tip
      refine ⟨?_, ?_, ?_⟩
      · split <;> omega
      · split <;> omega
      · omega
    · simp only [ou_ff (show (0 : Nat) ≠ 3 by decide), ou_ff (show (3 : Nat) ≠ 0 by decide), ou_fn]
      rw [sm_u, sm_u, if_pos (by omega), if_pos (by omega)]
      unfold so_tip
      omega
    · simp only [ou_ff h3, ou_ff h0]
  · refine ⟨fun i h0 h1 => ?_, ?_, fun f h0 h1 h3 h7 => ou_ff h7, Int.le_refl _⟩
    · simp only [ou_f (show (0 : Nat) ≠ 7 by decide), ou_f (show (1 : Nat) ≠ 7 by decide), ou_f (show (3 : Nat) ≠ 7 by decide)]
      exact hb i h0 h1
    · simp only [ou_ff (show (0 : Nat) ≠ 7 by decide), ou_ff (show (3 : Nat) ≠ 7 by decide)]
      omega
theorem so_ld_f {x : Int × ob_O} {l : Int} {f : Nat} (h4 : f ≠ 4) (h8 : f ≠ 8) (h9 : f ≠ 9) : (so_ld P s l x).2 f = x.2 f := by
  unfold so_ld
  split
  · exact ou_ff h4
  · show ob_u (ob_u (ob_u _ 4 _ _) 8 _ _) 9 _ _ f = _
    rw [ou_ff h9, ou_ff h8, ou_ff h4]
/-- all cups up to r -/
theorem sc_cups {g : ob_O} (hP : so_P P) (hS : so_S P S) (hg : so_nn g) (hb : so_B B H g) (hB : B + so_sm (g 11) 8 ≤ 1000000000) (r : Nat) (hr : (r : Int) ≤ P 6 0) :
    (∀ i : Int, 0 ≤ i → i < 8 → 0 ≤ (so_cups P S r (0, g)).2 0 i ∧ 0 ≤ (so_cups P S r (0, g)).2 3 i ∧ (0 ≤ (so_cups P S r (0, g)).2 1 i ∧ (so_cups P S r (0, g)).2 1 i ≤ 30)) ∧ so_sm ((so_cups P S r (0, g)).2 0) 8 + so_sm ((so_cups P S r (0, g)).2 3) 8 ≤ B + so_sm (g 11) r ∧ (so_cups P S r (0, g)).2 11 = g 11 ∧ (so_cups P S r (0, g)).2 5 = g 5 ∧ (so_cups P S r (0, g)).2 6 = g 6 ∧ (∀ i : Int, 0 ≤ i → i < 8 → (so_cups P S r (0, g)).2 2 i = g 2 i + (if i < r then g 11 i else 0)) := by
  induction r with
  | zero =>
    refine ⟨fun i h0 h1 => ⟨(hb.1 i h0 h1).1, (hb.1 i h0 h1).2.1, (hb.1 i h0 h1).2.2.1⟩, ?_, rfl, rfl, rfl, fun i h0 h1 => ?_⟩
    · show so_sm (g 0) 8 + so_sm (g 3) 8 ≤ B + 0
      have := hb.2
      omega
    · rw [if_neg (by omega)]
      show g 2 i = _
      omega
  | succ r ih =>
    obtain ⟨i1, i2, i3, i5, i6, i4⟩ := ih (by omega)
    have h6 := hP.2.2.2.2.1
    have hs : (0 : Int) ≤ r ∧ (r : Int) < 8 := ⟨by omega, by omega⟩
    have hq := hS.2.2.1 r (by omega) (by omega)
    have hd0 := hg.2 r (by omega) (by omega)
    have hsmr := sm_m (g := g 11) (k := r + 1) 8 (by omega) hg.2
    have hsm1 : so_sm (g 11) (r + 1) = so_sm (g 11) r + g 11 r := rfl
    have hsm0 := sm_0 (g := g 11) r (fun i h0 h1 => hg.2 i h0 (by omega))
    show _ ∧ _ ∧ _ ∧ _ ∧ _ ∧ _
    generalize hx : so_cups P S r (0, g) = x at i1 i2 i3 i5 i6 i4
    have e1 : so_cups P S (r + 1) (0, g) = so_c1 P S r x := by show so_c1 P S r (so_cups P S r (0, g)) = _; rw [hx]
    rw [e1]
    have hB0 := sm_0 (g := x.2 3) 8 (fun i h0 h1 => (i1 i h0 h1).2.1)
    have hB1 := sm_1 (g := x.2 0) (n := 8) (j := r) (fun i h0 h1 => (i1 i h0 h1).1) hs.1 hs.2
    have hbn := sm_0 (g := g 0) 8 (fun i h0 h1 => (hb.1 i h0 h1).1)
    have hbn3 := sm_0 (g := g 3) 8 (fun i h0 h1 => (hb.1 i h0 h1).2.1)
    have hb2 := hb.2
    have hdc : dz_c (x.2 11 r) = g 11 r := by rw [i3]; exact dc_ir hd0 (by omega)
    have hcup := sc_cup (o := ob_u x.2 2 r (x.2 2 r + dz_c (x.2 11 r))) (k := S 2 r) (n := P 8 r) (ot := P 9 r) (s := r) (d := x.2 11 r) hs hq.2.1 (fun h => ⟨(hq.2.2 h).1, by have := (hq.2.2 h).2; omega⟩) (by rw [i3]; omega) (fun i h0 h1 => by
      rw [ou_f (by decide), ou_f (by decide), ou_f (by decide)]
      exact i1 i h0 h1) (by rw [ou_f (by decide)]; omega)
    rw [ou_ff (show (0 : Nat) ≠ 2 by decide), ou_ff (show (3 : Nat) ≠ 2 by decide)] at hcup
    obtain ⟨c1, c2, c3, c4⟩ := hcup
    unfold so_c1
    simp only [so_ld_f (show (0 : Nat) ≠ 4 by decide) (show (0 : Nat) ≠ 8 by decide) (show (0 : Nat) ≠ 9 by decide), so_ld_f (show (3 : Nat) ≠ 4 by decide) (show (3 : Nat) ≠ 8 by decide) (show (3 : Nat) ≠ 9 by decide), so_ld_f (show (1 : Nat) ≠ 4 by decide) (show (1 : Nat) ≠ 8 by decide) (show (1 : Nat) ≠ 9 by decide), so_ld_f (show (2 : Nat) ≠ 4 by decide) (show (2 : Nat) ≠ 8 by decide) (show (2 : Nat) ≠ 9 by decide), so_ld_f (show (5 : Nat) ≠ 4 by decide) (show (5 : Nat) ≠ 8 by decide) (show (5 : Nat) ≠ 9 by decide), so_ld_f (show (6 : Nat) ≠ 4 by decide) (show (6 : Nat) ≠ 8 by decide) (show (6 : Nat) ≠ 9 by decide), so_ld_f (show (11 : Nat) ≠ 4 by decide) (show (11 : Nat) ≠ 8 by decide) (show (11 : Nat) ≠ 9 by decide)]
    refine ⟨c1, ?_, ?_, ?_, ?_, fun i h0 h1 => ?_⟩
    · rw [hsm1]
      rw [i3] at c2
      rw [i3]
      omega
    · rw [c3 11 (by decide) (by decide) (by decide) (by decide), ou_ff (by decide), i3]
    · rw [c3 5 (by decide) (by decide) (by decide) (by decide), ou_ff (by decide), i5]
    · rw [c3 6 (by decide) (by decide) (by decide) (by decide), ou_ff (by decide), i6]
    · rw [c3 2 (by decide) (by decide) (by decide) (by decide), ou_a, hdc]
      have := i4 i h0 h1
      by_cases e : i = r
      · subst e
        rw [if_pos rfl, if_pos (by omega), this, if_neg (by omega)]
        omega
      · rw [if_neg e, this]
        by_cases e2 : i < r
        · rw [if_pos e2, if_pos (by omega)]
        · rw [if_neg e2, if_neg (by omega)]
/-- a second keeps the bounds -/
theorem sc_sec {v : Int} (hP : so_P P) (hS : so_S P S) (hv : 0 ≤ v ∧ v ≤ 9) (hb : so_B B H o) (hB : B ≤ 400000000) : so_B (B + 324) (H + B + 324) (so_sec P S v o).2 ∧ (so_sec P S v o).2 5 0 = o 5 0 + 1 := by
  have hsp := sb_spt (S := S) hP hv hb (by omega)
  have hm3 := sm_0 (g := o 3) 8 (fun i h0 h1 => (hb.1 i h0 h1).2.1)
  have hm0 := sm_0 (g := o 0) 8 (fun i h0 h1 => (hb.1 i h0 h1).1)
  have hb2 := hb.2
  have gf : ∀ f : Nat, f ≠ 3 → f ≠ 6 → f ≠ 7 → f ≠ 10 → f ≠ 11 → so_gs P S v o f = o f := by
    intro f h3 h6 h7 h10 h11
    show so_gut P S _ (so_roof P v _ (so_in o)) f = o f
    rw [so_gut_f h7 h10 h11, so_roof_f h6 h7 h10 h11]
    unfold so_in
    rw [of_n h10, of_n h3, of_n h11]
  have g3 : so_gs P S v o 3 = fun _ => 0 := by
    show so_gut P S _ (so_roof P v _ (so_in o)) 3 = _
    rw [so_gut_f (by decide) (by decide) (by decide), so_roof_f (by decide) (by decide) (by decide) (by decide)]
    unfold so_in
    rw [of_n (by decide), of_s]
  have hbg : so_B (so_sm (o 0) 8) H (so_gs P S v o) := by
    refine ⟨fun i h0 h1 => ?_, ?_⟩
    · rw [gf 0 (by decide) (by decide) (by decide) (by decide) (by decide), gf 1 (by decide) (by decide) (by decide) (by decide) (by decide), gf 2 (by decide) (by decide) (by decide) (by decide) (by decide), g3]
      have := hb.1 i h0 h1
      exact ⟨this.1, Int.le_refl _, this.2.2⟩
    · rw [gf 0 (by decide) (by decide) (by decide) (by decide) (by decide), g3, sm_z]
      omega
  obtain ⟨i1, i2, i3, i5, i6, i4⟩ := sc_cups (S := S) hP hS hsp.1 hbg (by omega) (P 6 0).toNat (by have := hP.2.2.2.2.1; omega)
  have hmr := sm_m (g := so_gs P S v o 11) (k := (P 6 0).toNat) 8 (by have := hP.2.2.2.2.1; omega) hsp.1.2
  unfold so_sec so_end
  simp only [so_B]
  refine ⟨⟨fun i h0 h1 => ?_, ?_⟩, ?_⟩
  · rw [ou_f (by decide), ou_f (by decide), ou_f (by decide), ou_f (by decide)]
    have a1 := i1 i h0 h1
    have a2 := i4 i h0 h1
    have a3 := hbg.1 i h0 h1
    have a4 := hsp.1.2 i h0 h1
    have a5 := sm_1 (g := so_gs P S v o 11) (n := 8) hsp.1.2 h0 h1
    refine ⟨a1.1, a1.2.1, a1.2.2, ?_, ?_⟩
    · rw [a2]; split <;> omega
    · rw [a2]; split <;> omega
  · rw [ou_ff (by decide), ou_ff (by decide)]
    omega
  · rw [ou_s, i5, gf 5 (by decide) (by decide) (by decide) (by decide) (by decide)]
end sc
