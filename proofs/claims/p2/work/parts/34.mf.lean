/-! a second of the reference, against the same words -/
/-- the reference's plan -/
def mr_P (P m : ob_O) : Prop := m 1 0 = P 0 0 ∧ (∀ r : Int, 0 ≤ r → r < P 0 0 → m 7 (2 * r) = P 1 r ∧ m 7 (2 * r + 1) = P 2 r) ∧ m 2 0 = P 3 0 ∧ (∀ g : Int, 0 ≤ g → g < P 3 0 → m 8 (2 * g) = P 4 g ∧ m 8 (2 * g + 1) = P 5 g) ∧ m 3 0 = P 6 0 ∧ (∀ s : Int, 0 ≤ s → s < P 6 0 → m 9 s = P 7 s) ∧ m 4 0 = P 10 0 ∧ m 5 0 = P 11 0 ∧ (∀ k : Int, 0 ≤ k → k < P 11 0 → m 10 (3 * k) = P 12 k ∧ m 10 (3 * k + 1) = P 13 k ∧ m 10 (3 * k + 2) = P 14 k) ∧ m 6 0 = P 15 0
/-- the reference's setup, on the page that begins at e: as a second needs it -/
def mr_W (e : Int) (P S m : ob_O) : Prop := (∀ g : Int, 0 ≤ g → g < P 3 0 → m 0 (e + g) = S 0 g) ∧ (∀ g : Int, 0 ≤ g → g < 5 → m 0 (e + (5 + g)) = S 1 g) ∧ (∀ s : Int, 0 ≤ s → s < P 6 0 → m 0 (e + (10 + s)) = S 2 s ∧ ((S 2 s ≠ 0 ∧ S 2 s ≠ 5) → m 0 (e + (18 + s)) = P 8 s) ∧ (S 2 s = 4 → m 0 (e + (26 + s)) = P 9 s))
/-- the reference's flow, on the page that begins at e -/
def mr_F (e : Int) (P o m : ob_O) : Prop := (∀ i : Int, 0 ≤ i → i < 8 → m 0 (e + 86 + i) = o 0 i ∧ m 0 (e + 94 + i) = o 1 i ∧ m 0 (e + 102 + i) = o 2 i ∧ m 0 (e + 110 + i) = o 3 i ∧ m 0 (e + 126 + i) = o 4 i ∧ m 0 (e + 118 + i) = (if i < P 6 0 ∧ 0 < P 15 0 ∧ P 15 0 ≤ o 2 i then 1 else 0) ∧ (P 6 0 ≤ i → o 3 i = 0 ∧ o 4 i = 0)) ∧ m 0 (e + 134) = o 5 0 ∧ m 0 (e + 135) = o 6 0 ∧ m 0 (e + 136) = o 7 0 ∧ m 0 (e + 137) = o 8 0
/-- a page of the reference -/
def mr_pg (e : Int) : Prop := e = 0 ∨ e = 420
def mo_lead (e : Int) (m : ob_O) (w d : Int) : ob_O := if w < 5 then ob_u m 32 w (m 32 w + d) else if w < 18 then ob_u m 33 (w - 10) (m 33 (w - 10) + d) else ob_u m 0 (e + 136) (m 0 (e + 136) + d)
/-- while rain runs through gutters: w0 is what was on the way, m0 the reference before -/
def mg_R (e : Int) (w0 : Int → Int) (m0 o m : ob_O) : Prop := (∀ i : Int, 0 ≤ i → i < 5 → m 32 i = o 10 i) ∧ (∀ i : Int, 0 ≤ i → i < 8 → m 33 i + w0 i = o 11 i) ∧ m 0 (e + 135) = o 6 0 ∧ m 0 (e + 136) = o 7 0 ∧ (∀ f : Nat, f ≠ 0 → f ≠ 32 → f ≠ 33 → m f = m0 f) ∧ (∀ j : Int, j ≠ e + 135 → j ≠ e + 136 → m 0 j = m0 0 j)
section mf
variable {Y : dz_Z} {P S o m m0 : ob_O} {e v w d s q : Int} {w0 : Int → Int}
theorem mf_lead (he : mr_pg e) (hw : so_way w) : jf_M_leads e w d (ob_z Y 114 m) = some (ob_z Y 114 (mo_lead e m w d)) := by
  have hc : dz_c w = w := dc_ir (by unfold so_way at hw; omega) (by unfold so_way at hw; omega)
  have hc' : dz_c (w - 10) = w - 10 := dz_ci (by unfold so_way at hw; omega) (by unfold so_way at hw; omega)
  have hc2 : dz_c (e + 136) = e + 136 := dc_ir (by unfold mr_pg at he; omega) (by unfold mr_pg at he; omega)
  unfold jf_M_leads mo_lead
  rw [hc, hc', hc2]
  rcases hw with h | h | h
  · rw [if_pos (by omega), if_pos (by omega), if_pos (by omega), if_pos (by omega)]
    simp only [dz_a, oz_uz, oz_s]
  · rw [if_pos (by omega), if_neg (by omega), if_pos (by omega), if_neg (by omega), if_pos (by omega)]
    simp only [dz_a, oz_uz, oz_s]
  · rw [if_neg (by omega), if_pos (by unfold mr_pg at he; omega), if_neg (by omega), if_neg (by omega)]
    simp only [dz_a, oz_uz, oz_s]
theorem mg_lead (h : mg_R e w0 m0 o m) (hw : so_way w) : mg_R e w0 m0 (so_lead o w d) (mo_lead e m w d) := by
  obtain ⟨h1, h2, h3, h4, h5, h6⟩ := h
  unfold so_lead mo_lead
  unfold so_way at hw
  split
  · refine ⟨fun i a b => ?_, fun i a b => ?_, ?_, ?_, fun f a b c => ?_, fun j a b => ?_⟩
    · rw [ou_a, ou_a, h1 i a b, h1 w (by omega) (by omega)]
    · rw [ou_f (by decide), ou_f (by decide)]; exact h2 i a b
    · rw [ou_f (by decide), ou_f (by decide)]; exact h3
    · rw [ou_f (by decide), ou_f (by decide)]; exact h4
    · rw [ou_ff b]; exact h5 f a b c
    · rw [ou_f (by decide)]; exact h6 j a b
  · split
    · refine ⟨fun i a b => ?_, fun i a b => ?_, ?_, ?_, fun f a b c => ?_, fun j a b => ?_⟩
      · rw [ou_f (by decide), ou_f (by decide)]; exact h1 i a b
      · rw [ou_a, ou_a, ← h2 i a b, ← h2 (w - 10) (by omega) (by omega)]
        split
        · next hi => rw [hi]; omega
        · rfl
      · rw [ou_f (by decide), ou_f (by decide)]; exact h3
      · rw [ou_f (by decide), ou_f (by decide)]; exact h4
      · rw [ou_ff c]; exact h5 f a b c
      · rw [ou_f (by decide)]; exact h6 j a b
    · refine ⟨fun i a b => ?_, fun i a b => ?_, ?_, ?_, fun f a b c => ?_, fun j a b => ?_⟩
      · rw [ou_f (by decide), ou_f (by decide)]; exact h1 i a b
      · rw [ou_f (by decide), ou_f (by decide)]; exact h2 i a b
      · rw [ou_i (by omega), ou_f (by decide)]; exact h3
      · rw [ou_s, ou_s, h4]
      · rw [ou_ff a]; exact h5 f a b c
      · rw [ou_i b]; exact h6 j a b
theorem mf_half {peg : Int} (hq : 0 ≤ q ∧ q ≤ 2147483646) : so_half peg d q = if peg = 0 then q else if peg = 1 then 0 else if Int.tmod (dz_c d) 2 = 0 then Int.tdiv (dz_c (q + 1)) 2 else Int.tdiv (dz_c (q + 0)) 2 := by
  unfold so_half
  rw [dc_ir hq.1 (by omega), dc_ir (x := q + 1) (by omega) (by omega), dc_ir (x := q + 0) (by omega) (by omega), Int.tdiv_eq_ediv_of_nonneg hq.1, Int.tdiv_eq_ediv_of_nonneg (a := q + 1) (by omega), Int.tdiv_eq_ediv_of_nonneg (a := q + 0) (by omega)]
  split
  · rfl
  · split
    · rfl
    · split <;> omega
/-- rain on the roofs, through the gutters -/
theorem mf_gut {B H : Int} (he : mr_pg e) (hP : so_P P) (hS : so_S P S) (hv : 0 ≤ v ∧ v ≤ 9) (hb : so_B B H o) (hB : B ≤ 1000000000) (rP : mr_P P m0) (rW : mr_W 0 P S m0) (r5 : m0 0 (e + 134) = o 5 0) (r6 : m0 0 (e + 135) = o 6 0) (r7 : m0 0 (e + 136) = o 7 0) {K : dz_Z → Prop} (k : ∀ m', mg_R e (o 3) m0 (so_gs P S v o) m' → K (ob_z Y 114 m')) : dz_p (jf_M_gutters e v (ob_z Y 114 m0)) K := by
  have n0 : so_nn (so_in o) := ⟨fun i h0 h1 => by unfold so_in; rw [of_s]; omega, fun i h0 h1 => by unfold so_in; rw [of_n (by decide), of_n (by decide), of_s]; exact (hb.1 i h0 h1).2.1⟩
  have p0 : so_ps 0 (so_in o) = so_sm (o 3) 8 := by
    unfold so_ps so_in
    rw [of_s, of_n (by decide), of_n (by decide), of_s, sm_z]
    show 0 - 0 + _ = _
    omega
  have hs0 := sm_0 (g := o 0) 8 (fun i h0 h1 => (hb.1 i h0 h1).1)
  have hb2 := hb.2
  have e135 : dz_c (e + 135) = e + 135 := dc_ir (by unfold mr_pg at he; omega) (by unfold mr_pg at he; omega)
  have e136 : dz_c (e + 136) = e + 136 := dc_ir (by unfold mr_pg at he; omega) (by unfold mr_pg at he; omega)
  have e134 : dz_c (e + 134) = e + 134 := dc_ir (by unfold mr_pg at he; omega) (by unfold mr_pg at he; omega)
  have hpg : 0 ≤ e ∧ e + 137 < 700 := by unfold mr_pg at he; omega
  unfold jf_M_gutters
  -- nothing yet
  refine dp_lp (fun k s => ∃ (r : Nat) (m : ob_O), r + k = 8 ∧ s = ((r : Int), ob_z Y 114 m) ∧ (∀ i : Int, 0 ≤ i → i < r → m 33 i = 0 ∧ (i < 5 → m 32 i = 0)) ∧ (∀ f : Nat, f ≠ 32 → f ≠ 33 → m f = m0 f)) ?_ 5000 8 (0, ob_z Y 114 m0) (by omega) ⟨0, m0, by omega, rfl, fun i h0 h1 => absurd h1 (by omega), fun f _ _ => rfl⟩
  rintro k1 _ ⟨r, m, hr, rfl, hz, hm⟩
  have er : dz_c (r : Int) = r := dc_ir (by omega) (by omega)
  simp only [er, oz_s]
  by_cases hk : ¬ r = 8
  · have et : dz_c (Int.tmod (r : Int) 5) = (r : Int) % 5 := by rw [Int.tmod_eq_emod_of_nonneg (by omega)]; exact dc_ir (by omega) (by omega)
    rw [et]
    refine dp_no (by omega) (dp_ck (by omega) (dp_le (dp_ck (by omega) (dp_le (dp_sm ⟨k1 - 1, by omega, r + 1, ob_u (ob_u m 32 ((r : Int) % 5) 0) 33 r 0, by omega, ?_, fun i h0 h1 => ⟨?_, fun h5 => ?_⟩, fun f h2 h3 => ?_⟩)))))
    · simp only [oz_uz]
      rfl
    · rw [ou_a]
      split
      · rfl
      · rw [ou_f (by decide)]; exact (hz i h0 (by omega)).1
    · rw [ou_f (by decide), ou_a]
      split
      · rfl
      · exact (hz i h0 (by omega)).2 h5
    · rw [ou_ff h3, ou_ff h2]; exact hm f h2 h3
  have hk : r = 8 := by omega
  subst hk
  refine dp_ck (by omega) ?_
  have g0 : mg_R e (o 3) m0 (so_in o) m := by
    refine ⟨fun i a b => ?_, fun i a b => ?_, ?_, ?_, fun f a b c => hm f b c, fun j _ _ => by rw [hm 0 (by decide) (by decide)]⟩
    · rw [(hz i a (by omega)).2 b]; unfold so_in; rw [of_s]
    · rw [(hz i a (by omega)).1]; unfold so_in; rw [of_n (by decide), of_n (by decide), of_s]; omega
    · rw [hm 0 (by decide) (by decide), r6]; unfold so_in; rw [of_n (by decide), of_n (by decide), of_n (by decide)]
    · rw [hm 0 (by decide) (by decide), r7]; unfold so_in; rw [of_n (by decide), of_n (by decide), of_n (by decide)]
  clear hz hm
  -- roofs
  refine dp_lp (fun k s => ∃ (r : Nat) (m : ob_O), r + k = (P 0 0).toNat ∧ s = ((r : Int), ob_z Y 114 m) ∧ mg_R e (o 3) m0 (so_roof P v r (so_in o)) m) ?_ 5000 (P 0 0).toNat (0, ob_z Y 114 m) (by have := hP.1; omega) ⟨0, m, by omega, rfl, g0⟩
  rintro k2 _ ⟨r, m, hr, rfl, hg⟩
  clear g0
  have h0 := hP.1
  have er : dz_c (r : Int) = r := dc_ir (by omega) (by omega)
  have em1 : m 1 0 = P 0 0 := by rw [hg.2.2.2.2.1 1 (by decide) (by decide) (by decide)]; exact rP.1
  have ec1 : dz_c (P 0 0) = P 0 0 := dc_ir (by omega) (by omega)
  simp only [er, oz_s, em1, ec1]
  by_cases hk : ¬ r = (P 0 0).toNat
  · have e7 : m 7 = m0 7 := hg.2.2.2.2.1 7 (by decide) (by decide) (by decide)
    have hrr := rP.2.1 r (by omega) (by omega)
    have hpr := hP.2.1 r (by omega) (by omega)
    have ea : dz_c (2 * (r : Int)) = 2 * r := dc_ir (by omega) (by omega)
    have eb : dz_c (2 * (r : Int) + 1) = 2 * r + 1 := dc_ir (by omega) (by omega)
    have ec : dz_c (P 2 r) = P 2 r := dc_ir (by omega) (by omega)
    simp only [ea, eb, e7, hrr, ec]
    refine dp_no (by omega) (dp_ck (by omega) (dp_ck (by omega) (dp_ck (by omega) (dp_le ?_))))
    rw [e135]
    simp only [oz_uz, oz_s]
    refine dp_ck (by omega) (dp_le (dp_sm ⟨k2 - 1, by omega, r + 1, ob_u (ob_u m 32 (P 2 r) (m 32 (P 2 r) + P 1 r * v)) 0 (e + 135) (m 0 (e + 135) + P 1 r * v), by omega, ?_, ?_⟩))
    · simp only [oz_uz, ou_f (show (7 : Nat) ≠ 32 by decide), ou_f (show (0 : Nat) ≠ 32 by decide), e7, hrr]
      rfl
    · show mg_R e (o 3) m0 (so_lead (ob_u (so_roof P v r (so_in o)) 6 0 (so_roof P v r (so_in o) 6 0 + P 1 r * v)) (P 2 r) (P 1 r * v)) _
      obtain ⟨a1, a2, a3, a4, a5, a6⟩ := hg
      unfold so_lead
      rw [if_pos (by omega)]
      refine ⟨fun i a b => ?_, fun i a b => ?_, ?_, ?_, fun f a b c => ?_, fun j a b => ?_⟩
      · rw [ou_f (by decide), ou_a, ou_a, ou_f (by decide), ou_f (by decide), a1 i a b, a1 (P 2 r) (by omega) (by omega)]
      · rw [ou_f (by decide), ou_f (by decide), ou_f (by decide), ou_f (by decide)]; exact a2 i a b
      · rw [ou_s, ou_f (by decide), ou_s, a3]
      · rw [ou_i (by omega), ou_f (by decide), ou_f (by decide), ou_f (by decide), a4]
      · rw [ou_ff a, ou_ff b]; exact a5 f a b c
      · rw [ou_i a, ou_f (by decide)]; exact a6 j a b
  have hk : r = (P 0 0).toNat := by omega
  refine dp_ck (by omega) ?_
  rw [hk] at hg
  clear hk hr er
  have hn1 := sb_roof (o := so_in o) hP hv n0 (P 0 0).toNat (by omega)
  -- gutters
  refine dp_lp (fun k s => ∃ (r : Nat) (m : ob_O), r + k = (P 3 0).toNat ∧ s = ((r : Int), ob_z Y 114 m) ∧ mg_R e (o 3) m0 (so_gut P S r (so_roof P v (P 0 0).toNat (so_in o))) m) ?_ 5000 (P 3 0).toNat (0, ob_z Y 114 m) (by have := hP.2.2.1; omega) ⟨0, m, by omega, rfl, hg⟩
  clear hg em1
  rintro k3 _ ⟨r, m, hr, rfl, hg⟩
  have h3 := hP.2.2.1
  have er : dz_c (r : Int) = r := dc_ir (by omega) (by omega)
  have em2 : m 2 0 = P 3 0 := by rw [hg.2.2.2.2.1 2 (by decide) (by decide) (by decide)]; exact rP.2.2.1
  have ec2 : dz_c (P 3 0) = P 3 0 := dc_ir (by omega) (by omega)
  simp only [er, oz_s, em2, ec2]
  by_cases hk : r = (P 3 0).toNat
  · refine dp_ck (by omega) (dp_sm ?_)
    refine k m ?_
    rw [hk] at hg
    exact hg
  · have hw := hP.2.2.2.1 r (by omega) (by omega)
    have hgg := rP.2.2.2.1 r (by omega) (by omega)
    have hpeg := hS.1 r (by omega) (by omega)
    have hblk := hS.2.1 r (by omega) (by omega)
    have hn2 := sb_gut (S := S) hP hn1.1 (by omega) r (by omega)
    have hq := sb_gin hn2.1 (show r < 5 by omega)
    have e10 : m 32 r = so_gut P S r (so_roof P v (P 0 0).toNat (so_in o)) 10 r := hg.1 r (by omega) (by omega)
    have e5 : m 0 (e + 134) = so_gut P S r (so_roof P v (P 0 0).toNat (so_in o)) 5 0 := by
      rw [hg.2.2.2.2.2 _ (by omega) (by omega), r5, so_gut_f (by decide) (by decide) (by decide), so_roof_f (by decide) (by decide) (by decide) (by decide)]
      unfold so_in
      rw [of_n (by decide), of_n (by decide), of_n (by decide)]
    have epg : m 0 r = S 0 r := by
      rw [hg.2.2.2.2.2 _ (by omega) (by omega)]
      have := rW.1 r (by omega) (by omega)
      rw [Int.zero_add] at this
      exact this
    have ebl : m 0 (5 + r) = S 1 r := by
      rw [hg.2.2.2.2.2 _ (by omega) (by omega)]
      have := rW.2.1 r (by omega) (by omega)
      rw [Int.zero_add] at this
      exact this
    have e8 : m 8 = m0 8 := hg.2.2.2.2.1 8 (by decide) (by decide) (by decide)
    generalize hgo : so_gut P S r (so_roof P v (P 0 0).toNat (so_in o)) = go at hg e10 e5 hn2 hq
    have ea : dz_c (0 + (r : Int)) = r := by rw [Int.zero_add]; exact er
    have eb : dz_c (5 + (r : Int)) = 5 + r := dc_ir (by omega) (by omega)
    have ec : dz_c (S 0 r) = S 0 r := dc_ir (by omega) (by omega)
    have ed : dz_c (S 1 r) = S 1 r := dz_ci (by omega) (by omega)
    have ef : dz_c (2 * (r : Int)) = 2 * r := dc_ir (by omega) (by omega)
    have eg : dz_c (2 * (r : Int) + 1) = 2 * r + 1 := dc_ir (by omega) (by omega)
    have hm : dz_c (Int.tmod (dz_c (go 5 0)) 2) = Int.tmod (dz_c (go 5 0)) 2 := by
      have h1 := Int.tmod_lt_of_pos (dz_c (go 5 0)) (b := 2) (by omega)
      have h2 := Int.lt_tmod_of_pos (dz_c (go 5 0)) (b := 2) (by omega)
      exact dz_ci (by omega) (by omega)
    simp only [ea, eb, e134, epg, ebl, ec, ed, e5, hm, e10, ef, eg, e8, hgg, e136]
    refine dp_no (by omega) (dp_ck (by omega) (dp_ck (by omega) (dp_bi ?_)))
    have hhalf : ∀ K' : Int → Prop, K' (so_half (S 0 r) (go 5 0) (go 10 r)) → dz_p (if S 0 r ≠ 0 then if S 0 r ≠ 1 then if 0 ≤ e + 134 ∧ e + 134 < 700 then if Int.tmod (dz_c (go 5 0)) 2 ≠ 0 then some (Int.tdiv (dz_c (go 10 r + 0)) 2) else some (Int.tdiv (dz_c (go 10 r + 1)) 2) else none else some 0 else some (go 10 r)) K' := by
      intro K' hK
      rw [mf_half (by omega)] at hK
      by_cases c0 : S 0 r = 0
      · rw [if_pos c0] at hK
        exact dp_no (by omega) (dp_sm hK)
      · rw [if_neg c0] at hK
        refine dp_ck c0 ?_
        by_cases c1 : S 0 r = 1
        · rw [if_pos c1] at hK
          exact dp_no (by omega) (dp_sm hK)
        · rw [if_neg c1] at hK
          refine dp_ck c1 (dp_ck (by omega) ?_)
          by_cases c2 : Int.tmod (dz_c (go 5 0)) 2 = 0
          · rw [if_pos c2] at hK
            exact dp_no (by omega) (dp_sm hK)
          · rw [if_neg c2] at hK
            exact dp_ck c2 (dp_sm hK)
    apply hhalf
    refine dp_ck (by omega) ?_
    have step : so_gut P S (r + 1) (so_roof P v (P 0 0).toNat (so_in o)) = so_g1 P S r go := by show so_g1 P S r (so_gut P S r _) = _; rw [hgo]
    refine dp_br (fun hb1 => ?_) (fun hb1 => ?_)
    · have hb0 : S 1 r = 0 := by omega
      refine dp_ck (by omega) (dp_bi (dp_eq (mf_lead he hw.1) ?_))
      have g1 := mg_lead (d := so_half (S 0 r) (go 5 0) (go 10 r)) hg hw.1
      have e8' : mo_lead e m (P 4 r) (so_half (S 0 r) (go 5 0) (go 10 r)) 8 = m0 8 := g1.2.2.2.2.1 8 (by decide) (by decide) (by decide)
      simp only [oz_s, e8', hgg]
      refine dp_ck (by omega) (dp_bi (dp_eq (mf_lead he hw.2) (dp_sm ⟨k3 - 1, by omega, r + 1, _, by omega, rfl, ?_⟩)))
      rw [step]
      unfold so_g1
      rw [if_pos hb0]
      exact mg_lead g1 hw.2
    · have hb0 : ¬ S 1 r = 0 := by omega
      refine dp_ck (by omega) (dp_le (dp_sm ⟨k3 - 1, by omega, r + 1, ob_u m 0 (e + 136) (m 0 (e + 136) + go 10 r), by omega, ?_, ?_⟩))
      · simp only [oz_uz]
        rfl
      · rw [step]
        unfold so_g1
        rw [if_neg hb0]
        obtain ⟨a1, a2, a3, a4, a5, a6⟩ := hg
        refine ⟨fun i a b => ?_, fun i a b => ?_, ?_, ?_, fun f a b c => ?_, fun j a b => ?_⟩
        · rw [ou_f (by decide), ou_f (by decide)]; exact a1 i a b
        · rw [ou_f (by decide), ou_f (by decide)]; exact a2 i a b
        · rw [ou_i (by omega), ou_f (by decide)]; exact a3
        · rw [ou_s, ou_s, a4]
        · rw [ou_ff a]; exact a5 f a b c
        · rw [ou_i b]; exact a6 j a b
end mf
