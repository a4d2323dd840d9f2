/-! a second of the reference -/
section ms
variable {Y : dz_Z} {P S o m0 : ob_O} {e v B H : Int}
/-- while cups are filled: x is the class's way of it, g what came to the spouts -/
def mc_R (e : Int) (P : ob_O) (m0 g : ob_O) (x : ob_O) (m : ob_O) : Prop := (∀ i : Int, 0 ≤ i → i < P 6 0 → m 33 i = g 11 i) ∧ (∀ i : Int, 0 ≤ i → i < 8 → m 0 (e + 86 + i) = x 0 i ∧ m 0 (e + 94 + i) = x 1 i ∧ m 0 (e + 102 + i) = x 2 i ∧ m 0 (e + 110 + i) = x 3 i ∧ m 0 (e + 126 + i) = x 4 i ∧ m 0 (e + 118 + i) = m0 0 (e + 118 + i)) ∧ m 0 (e + 134) = x 5 0 ∧ m 0 (e + 135) = x 6 0 ∧ m 0 (e + 136) = x 7 0 ∧ m 0 (e + 137) = x 8 0 ∧ (∀ f : Nat, f ≠ 0 → f ≠ 32 → f ≠ 33 → f ≠ 34 → m f = m0 f) ∧ (∀ j : Int, (j < e + 86 ∨ e + 138 ≤ j) → m 0 j = m0 0 j)
theorem so_cup_3s {oo : ob_O} {k n ot s d i : Int} : (so_cup oo k n ot s d).2 3 i = if k = 4 ∧ i = ot then oo 3 ot + so_tip oo s n d * n else oo 3 i := by
  unfold so_cup
  by_cases c0 : k = 0
  · rw [if_pos c0, if_neg (show ¬(k = 4 ∧ i = ot) by omega)]; dsimp only; rw [ou_f (by decide)]
  rw [if_neg c0]
  by_cases c1 : k = 1
  · rw [if_pos c1, if_neg (show ¬(k = 4 ∧ i = ot) by omega)]; dsimp only; rw [ou_f (by decide), ou_f (by decide)]
  rw [if_neg c1]
  by_cases c2 : k = 2
  · rw [if_pos c2, if_neg (show ¬(k = 4 ∧ i = ot) by omega)]
    by_cases d1 : dz_c (oo 0 s + d) < n
    · rw [if_pos d1]
      by_cases d2 : dz_c (oo 0 s + d) ≤ 0
      · rw [if_pos d2]; dsimp only; rw [ou_f (by decide)]
      · rw [if_neg d2]; dsimp only; rw [ou_f (by decide), ou_f (by decide)]
    · rw [if_neg d1]; dsimp only; rw [ou_f (by decide), ou_f (by decide)]
  rw [if_neg c2]
  by_cases c3 : k = 3
  · rw [if_pos c3, if_neg (show ¬(k = 4 ∧ i = ot) by omega)]; dsimp only; rw [ou_f (by decide), ou_f (by decide)]
  rw [if_neg c3]
  by_cases c4 : k = 4
  · rw [if_pos c4]; dsimp only; rw [ou_a, ou_f (by decide)]
    by_cases c : i = ot
    · rw [if_pos c, if_pos ⟨c4, c⟩]
    · rw [if_neg c, if_neg (fun q => c q.2)]
  · rw [if_neg c4, if_neg (fun q => c4 q.1)]; dsimp only; rw [ou_f (by decide)]
theorem so_cup_i {oo : ob_O} {k n ot s d i : Int} (h : i ≠ s) : (so_cup oo k n ot s d).2 0 i = oo 0 i ∧ (so_cup oo k n ot s d).2 1 i = oo 1 i := by
  unfold so_cup
  by_cases c0 : k = 0
  · rw [if_pos c0]; dsimp only; rw [ou_f (by decide), ou_f (by decide)]; exact ⟨rfl, rfl⟩
  rw [if_neg c0]
  by_cases c1 : k = 1
  · rw [if_pos c1]; dsimp only; rw [ou_f (by decide), ou_i h, ou_f (by decide), ou_f (by decide)]; exact ⟨rfl, rfl⟩
  rw [if_neg c1]
  by_cases c2 : k = 2
  · rw [if_pos c2]
    by_cases d1 : dz_c (oo 0 s + d) < n
    · rw [if_pos d1]
      by_cases d2 : dz_c (oo 0 s + d) ≤ 0
      · rw [if_pos d2]; dsimp only; rw [ou_i h, ou_f (by decide)]; exact ⟨rfl, rfl⟩
      · rw [if_neg d2]; dsimp only; rw [ou_f (by decide), ou_i h, ou_f (by decide), ou_f (by decide)]; exact ⟨rfl, rfl⟩
    · rw [if_neg d1]; dsimp only; rw [ou_f (by decide), ou_i h, ou_f (by decide), ou_f (by decide)]; exact ⟨rfl, rfl⟩
  rw [if_neg c2]
  by_cases c3 : k = 3
  · rw [if_pos c3]; dsimp only; rw [ou_f (by decide), ou_f (by decide), ou_i h, ou_f (by decide)]; exact ⟨rfl, rfl⟩
  rw [if_neg c3]
  by_cases c4 : k = 4
  · rw [if_pos c4]; dsimp only; rw [ou_f (by decide), ou_i h, ou_f (by decide), ou_f (by decide)]; exact ⟨rfl, rfl⟩
  · rw [if_neg c4]; dsimp only; rw [ou_f (by decide), ou_f (by decide)]; exact ⟨rfl, rfl⟩
theorem so_cup_4 {oo : ob_O} {k n ot s d i : Int} : (so_cup oo k n ot s d).2 4 i = oo 4 i := by
  unfold so_cup
  by_cases c0 : k = 0
  · rw [if_pos c0]; dsimp only; rw [ou_f (by decide)]
  rw [if_neg c0]
  by_cases c1 : k = 1
  · rw [if_pos c1]; dsimp only; rw [ou_f (by decide), ou_f (by decide)]
  rw [if_neg c1]
  by_cases c2 : k = 2
  · rw [if_pos c2]
    by_cases d1 : dz_c (oo 0 s + d) < n
    · rw [if_pos d1]
      by_cases d2 : dz_c (oo 0 s + d) ≤ 0
      · rw [if_pos d2]; dsimp only; rw [ou_f (by decide)]
      · rw [if_neg d2]; dsimp only; rw [ou_f (by decide), ou_f (by decide)]
    · rw [if_neg d1]; dsimp only; rw [ou_f (by decide), ou_f (by decide)]
  rw [if_neg c2]
  by_cases c3 : k = 3
  · rw [if_pos c3]; dsimp only; rw [ou_f (by decide), ou_f (by decide)]
  rw [if_neg c3]
  by_cases c4 : k = 4
  · rw [if_pos c4]; dsimp only; rw [ou_f (by decide), ou_f (by decide)]
  · rw [if_neg c4]; dsimp only; rw [ou_f (by decide)]
theorem so_ld_c {x : Int × ob_O} {s l : Int} (h : 0 ≤ l ∧ l ≤ 2147483647) : (so_ld P s l x).2 4 = (fun i => if i = s then l else x.2 4 i) ∧ (so_ld P s l x).2 8 0 = x.2 8 0 + l := by
  have hc : dz_c l = l := dc_ir h.1 h.2
  unfold so_ld
  rw [hc]
  split
  · refine ⟨ou_fn, ?_⟩
    dsimp only
    rw [ou_f (by decide)]
    omega
  · refine ⟨?_, ?_⟩
    · dsimp only
      rw [ou_ff (by decide), ou_ff (by decide), ou_fn]
    · dsimp only
      rw [ou_f (by decide), ou_s]
theorem so_ld_1 {x : Int × ob_O} {s l : Int} (hx : dz_c x.1 = x.1) : (so_ld P s l x).1 = dz_or x.1 (if dz_c l ≤ 0 then 0 else dz_sl 1 (P 7 s)) := by
  unfold so_ld
  split
  · next h => rw [dc_o0, hx]
  · next h => rfl
theorem so_ld_d {x : Int × ob_O} {s l : Int} (hx : dz_c x.1 = x.1) : dz_c (so_ld P s l x).1 = (so_ld P s l x).1 := by
  rw [so_ld_1 hx, dc_or]
theorem so_cups_d {g : ob_O} : ∀ r : Nat, dz_c (so_cups P S r (0, g)).1 = (so_cups P S r (0, g)).1
  | 0 => by show dz_c 0 = 0; decide
  | r + 1 => by
    show dz_c (so_c1 P S r (so_cups P S r (0, g))).1 = _
    unfold so_c1
    exact so_ld_d (so_cups_d r)
theorem so_ld_4 {x : Int × ob_O} {s l i : Int} (h : i ≠ s) : (so_ld P s l x).2 4 i = x.2 4 i := by
  unfold so_ld
  by_cases c : dz_c l ≤ 0
  · rw [if_pos c]; dsimp only; rw [ou_i h]
  · rw [if_neg c]; dsimp only; rw [ou_f (by decide), ou_f (by decide), ou_i h]
/-- louds beyond the spouts stay -/
theorem so_cups_4 {g : ob_O} {i : Int} : ∀ r : Nat, (r : Int) ≤ i → (so_cups P S r (0, g)).2 4 i = g 4 i
  | 0, _ => rfl
  | r + 1, h => by
    show (so_c1 P S r (so_cups P S r (0, g))).2 4 i = _
    rw [← so_cups_4 (g := g) (i := i) r (by omega)]
    generalize so_cups P S r (0, g) = x
    have hc : (so_cup (ob_u x.2 2 r (x.2 2 r + dz_c (x.2 11 r))) (S 2 r) (P 8 r) (P 9 r) r (x.2 11 r)).2 4 i = x.2 4 i := by rw [so_cup_4, ou_f (by decide)]
    unfold so_c1
    rw [so_ld_4 (by omega)]
    exact hc
/-- nothing goes to a spout that there isn't -/
theorem so_cups_3 {g : ob_O} {i : Int} (hS : so_S P S) (hi : P 6 0 ≤ i) : ∀ r : Nat, (r : Int) ≤ P 6 0 → (so_cups P S r (0, g)).2 3 i = g 3 i
  | 0, _ => rfl
  | r + 1, h => by
    show (so_c1 P S r (so_cups P S r (0, g))).2 3 i = _
    rw [← so_cups_3 (g := g) hS hi r (by omega)]
    unfold so_c1
    have hne : ¬(S 2 r = 4 ∧ i = P 9 r) := by
      rintro ⟨h4, hi2⟩
      have := (hS.2.2.1 r (by omega) (by omega)).2.2 h4
      omega
    rw [so_ld_f (by decide) (by decide) (by decide), so_cup_3s, if_neg hne, ou_f (by decide)]
theorem mf_sec (he : mr_pg e) (hP : so_P P) (hS : so_S P S) (hv : 0 ≤ v ∧ v ≤ 9) (hb : so_B B H o) (hB : B ≤ 400000000) (hH : H ≤ 1000000000000000) (rP : mr_P P m0) (rW : mr_W 0 P S m0) (rF : mr_F e P o m0) {K : Int × dz_Z → Prop} (k : ∀ m' : ob_O, mr_F e P (so_sec P S v o).2 m' → (∀ f : Nat, f ≠ 0 → f ≠ 32 → f ≠ 33 → f ≠ 34 → m' f = m0 f) → (∀ j : Int, (j < e + 86 ∨ e + 138 ≤ j) → m' 0 j = m0 0 j) → K ((so_sec P S v o).1, ob_z Y 114 m')) : dz_p (jf_M_second e v (ob_z Y 114 m0)) K := by
  have hpg : 0 ≤ e ∧ e + 280 ≤ 700 := by unfold mr_pg at he; omega
  have h6 := hP.2.2.2.2.1
  have hwr := hP.2.2.2.2.2.2.2.2.2
  have hsp := sb_spt (S := S) hP hv hb (by omega)
  have hm3 := sm_0 (g := o 3) 8 (fun i h0 h1 => (hb.1 i h0 h1).2.1)
  have hm0 := sm_0 (g := o 0) 8 (fun i h0 h1 => (hb.1 i h0 h1).1)
  have hb2 := hb.2
  have gf : ∀ f : Nat, f ≠ 3 → f ≠ 6 → f ≠ 7 → f ≠ 10 → f ≠ 11 → so_gs P S v o f = o f := by
    intro f h3 h6 h7 h10 h11
    show so_gut P S _ (so_roof P v _ (so_in o)) f = o f
    rw [so_gut_f h7 h10 h11, so_roof_f h6 h7 h10 h11]
    unfold so_in
    rw [of_n h10, of_n h3, of_n h11]
  have g3 : so_gs P S v o 3 = fun _ => 0 := by
    show so_gut P S _ (so_roof P v _ (so_in o)) 3 = _
    rw [so_gut_f (by decide) (by decide) (by decide), so_roof_f (by decide) (by decide) (by decide) (by decide)]
    unfold so_in
    rw [of_n (by decide), of_s]
  have hbg : so_B (so_sm (o 0) 8) H (so_gs P S v o) := by
    refine ⟨fun i h0 h1 => ?_, ?_⟩
    · rw [gf 0 (by decide) (by decide) (by decide) (by decide) (by decide), gf 1 (by decide) (by decide) (by decide) (by decide) (by decide), gf 2 (by decide) (by decide) (by decide) (by decide) (by decide), g3]
      have := hb.1 i h0 h1
      exact ⟨this.1, Int.le_refl _, this.2.2⟩
    · rw [gf 0 (by decide) (by decide) (by decide) (by decide) (by decide), g3, sm_z]
      omega
  have g0 := gf 0 (by decide) (by decide) (by decide) (by decide) (by decide)
  have g1 := gf 1 (by decide) (by decide) (by decide) (by decide) (by decide)
  have g2 := gf 2 (by decide) (by decide) (by decide) (by decide) (by decide)
  have g4 := gf 4 (by decide) (by decide) (by decide) (by decide) (by decide)
  have g5 := gf 5 (by decide) (by decide) (by decide) (by decide) (by decide)
  have g8 := gf 8 (by decide) (by decide) (by decide) (by decide) (by decide)
  have hE : ∀ (x : Int), 0 ≤ x → x < 280 → dz_c (e + x) = e + x := fun x h0 h1 => dc_ir (by omega) (by omega)
  unfold jf_M_second
  refine dp_bi (mf_gut he hP hS hv hb (by omega) rP rW rF.2.1 rF.2.2.1 rF.2.2.2.1 (fun m1 hg => ?_))
  -- what was on the way comes
  refine dp_lp (fun k s => ∃ (r : Nat) (m : ob_O), r + k = (P 6 0).toNat ∧ s = ((r : Int), ob_z Y 114 m) ∧ (∀ i : Int, 0 ≤ i → i < 8 → m 33 i = (if i < r then so_gs P S v o 11 i else m1 33 i) ∧ m 0 (e + 110 + i) = (if i < r then 0 else o 3 i)) ∧ (∀ f : Nat, f ≠ 0 → f ≠ 33 → m f = m1 f) ∧ (∀ j : Int, (j < e + 110 ∨ e + 118 ≤ j) → m 0 j = m1 0 j)) ?_ 5000 (P 6 0).toNat (0, ob_z Y 114 m1) (by omega) ⟨0, m1, by omega, rfl, fun i h0 h1 => ⟨by rw [if_neg (by omega)], by rw [if_neg (by omega), hg.2.2.2.2.2 _ (by omega) (by omega)]; exact (rF.1 i h0 h1).2.2.2.1⟩, fun f _ _ => rfl, fun j _ => rfl⟩
  rintro k1 _ ⟨r, m, hr, rfl, ha, hb', hc⟩
  have er : dz_c (r : Int) = r := dc_ir (by omega) (by omega)
  have em3 : m 3 0 = P 6 0 := by rw [hb' 3 (by decide) (by decide), hg.2.2.2.2.1 3 (by decide) (by decide) (by decide)]; exact rP.2.2.2.2.1
  have ec3 : dz_c (P 6 0) = P 6 0 := dc_ir h6.1 (by omega)
  simp only [er, oz_s, em3, ec3]
  by_cases hk : ¬ r = (P 6 0).toNat
  · have e110 : dz_c (e + 110 + r) = e + 110 + r := by have := hE (110 + r) (by omega) (by omega); rw [← Int.add_assoc] at this; exact this
    rw [e110]
    have hr1 := ha r (by omega) (by omega)
    rw [if_neg (by omega), if_neg (by omega)] at hr1
    refine dp_no (by omega) (dp_ck (by omega) (dp_ck (by omega) (dp_le (dp_le (dp_sm ⟨k1 - 1, by omega, r + 1, ob_u (ob_u m 33 r (m 33 r + m 0 (e + 110 + r))) 0 (e + 110 + r) 0, by omega, ?_, fun i h0 h1 => ⟨?_, ?_⟩, fun f a b => ?_, fun j a => ?_⟩)))))
    · simp only [oz_uz, oz_s]
      rfl
    · rw [ou_f (by decide), ou_a]
      have := hg.2.1 i h0 h1
      by_cases c : i = r
      · subst c
        rw [if_pos rfl, if_pos (by omega), hr1.1, hr1.2]
        exact this
      · rw [if_neg c, (ha i h0 h1).1]
        by_cases c2 : i < r
        · rw [if_pos c2, if_pos (by omega)]
        · rw [if_neg c2, if_neg (by omega)]
    · rw [ou_a]
      by_cases c : i = r
      · subst c
        rw [if_pos rfl, if_pos (by omega)]
      · rw [if_neg (by omega), ou_f (by decide), (ha i h0 h1).2]
        by_cases c2 : i < r
        · rw [if_pos c2, if_pos (by omega)]
        · rw [if_neg c2, if_neg (by omega)]
    · rw [ou_ff a, ou_ff b]; exact hb' f a b
    · rw [ou_i (by omega), ou_f (by decide)]; exact hc j a
  have hk : r = (P 6 0).toNat := by omega
  refine dp_ck (by omega) ?_
  have hr6 : (r : Int) = P 6 0 := by omega
  have c0 : mc_R e P m0 (so_gs P S v o) (so_gs P S v o) m := by
    refine ⟨fun i a b => ?_, fun i a b => ?_, ?_, ?_, ?_, ?_, fun f a b c d => ?_, fun j a => ?_⟩
    · rw [(ha i a (by omega)).1, if_pos (by omega)]
    · have hF := rF.1 i a b
      have hm : ∀ j : Int, (j < e + 110 ∨ e + 118 ≤ j) → j ≠ e + 135 → j ≠ e + 136 → m 0 j = m0 0 j := fun j a b c => by rw [hc j a, hg.2.2.2.2.2 j b c]
      rw [hm (e + 86 + i) (by omega) (by omega) (by omega), hm (e + 94 + i) (by omega) (by omega) (by omega), hm (e + 102 + i) (by omega) (by omega) (by omega), hm (e + 126 + i) (by omega) (by omega) (by omega), hm (e + 118 + i) (by omega) (by omega) (by omega), g0, g1, g2, g4, g3]
      refine ⟨hF.1, hF.2.1, hF.2.2.1, ?_, hF.2.2.2.2.1, rfl⟩
      rw [(ha i a b).2]
      by_cases c : i < r
      · rw [if_pos c]
      · rw [if_neg c]; exact (hF.2.2.2.2.2.2 (by omega)).1
    · rw [hc _ (by omega), hg.2.2.2.2.2 _ (by omega) (by omega), rF.2.1, g5]
    · rw [hc _ (by omega), hg.2.2.1]
    · rw [hc _ (by omega), hg.2.2.2.1]
    · rw [hc _ (by omega), hg.2.2.2.2.2 _ (by omega) (by omega), rF.2.2.2.2, g8]
    · rw [hb' f a c, hg.2.2.2.2.1 f a b c]
    · rw [hc j (by omega), hg.2.2.2.2.2 j (by omega) (by omega)]
  clear ha hb' hc em3 hk hr er hr6
  -- cups
  refine dp_lp (fun k s => ∃ (r : Nat) (m : ob_O), r + k = (P 6 0).toNat ∧ s = ((so_cups P S r (0, so_gs P S v o)).1, (r : Int), ob_z Y 114 m) ∧ mc_R e P m0 (so_gs P S v o) (so_cups P S r (0, so_gs P S v o)).2 m) ?_ 5000 (P 6 0).toNat (0, 0, ob_z Y 114 m) (by omega) ⟨0, m, by omega, rfl, c0⟩
  clear c0
  rintro k2 _ ⟨r, m, hr, rfl, hR⟩
  have er : dz_c (r : Int) = r := dc_ir (by omega) (by omega)
  have em3 : m 3 0 = P 6 0 := by rw [hR.2.2.2.2.2.2.1 3 (by decide) (by decide) (by decide) (by decide)]; exact rP.2.2.2.2.1
  have hcb := sc_cups (S := S) hP hS hsp.1 hbg (by omega) r (by omega)
  have hxd := so_cups_d (P := P) (S := S) (g := so_gs P S v o) r
  by_cases hk : ¬ r = (P 6 0).toNat
  · have hs : (0 : Int) ≤ r ∧ (r : Int) < 8 := ⟨by omega, by omega⟩
    have e26 : dz_c (26 + (r : Int)) = 26 + r := dc_ir (by omega) (by omega)
    have e102 : dz_c (e + 102 + r) = e + 102 + r := by have := hE (102 + r) (by omega) (by omega); rw [← Int.add_assoc] at this; exact this
    have e118 : dz_c (e + 118 + r) = e + 118 + r := by have := hE (118 + r) (by omega) (by omega); rw [← Int.add_assoc] at this; exact this
    have e126 : dz_c (e + 126 + r) = e + 126 + r := by have := hE (126 + r) (by omega) (by omega); rw [← Int.add_assoc] at this; exact this
    have e137 := hE 137 (by omega) (by omega)
    have ex1 : so_cups P S (r + 1) (0, so_gs P S v o) = so_c1 P S r (so_cups P S r (0, so_gs P S v o)) := rfl
    have hd0 := hsp.1.2 r (by omega) (by omega)
    have hd1 := sm_1 (g := so_gs P S v o 11) (n := 8) (j := r) hsp.1.2 hs.1 hs.2
    have hcb2 := hcb.2.2.2.2.2 r hs.1 hs.2
    rw [if_neg (by omega), g2] at hcb2
    have hcb11 := hcb.2.2.1
    have hcb0 := hcb.2.1
    have hcbi := hcb.1
    generalize hx : so_cups P S r (0, so_gs P S v o) = x at hR hxd ex1 hcb2 hcb11 hcb0 hcbi
    clear hcb
    obtain ⟨R1, R2, R5, R6, R7, R8, Rf, Rj⟩ := hR
    have hdc : dz_c (x.2 11 r) = x.2 11 r := by rw [hcb11]; exact dc_ir hd0 (by omega)
    have hq := hS.2.2.1 r (by omega) (by omega)
    have hqW := rW.2.2 r (by omega) (by omega)
    rw [Int.zero_add, Int.zero_add, Int.zero_add] at hqW
    simp only [er, oz_s, em3, ec3, e102, e118, e126, e137, e26]
    refine dp_no (by omega) (dp_ck (by omega) (dp_ck hs (dp_le ?_)))
    simp only [oz_uz, oz_s, ou_f (show (33 : Nat) ≠ 0 by decide)]
    rw [R1 r hs.1 (by omega), ← hcb11]
    have R2r := R2 r hs.1 hs.2
    rw [R2r.2.2.1]
    -- the cup
    have hoB := hcbi r hs.1 hs.2
    refine dp_bi (mc_snd (o := ob_u x.2 2 r (x.2 2 r + dz_c (x.2 11 r))) (k := S 2 r) (n := P 8 r) (ot := P 9 r) he hs hq.1 (fun h => ⟨?_, hq.2.1 h⟩) ?_ ?_ ?_ ?_ ?_ ?_)
    · rw [ou_i (by omega), Rj _ (by omega)]; exact hqW.2.1 h
    · rw [ou_i (by omega), Rj _ (by omega)]; exact hqW.1
    · rw [ou_i (by omega), ou_f (by decide)]; exact R2r.1
    · rw [ou_i (by omega), ou_f (by decide)]; exact R2r.2.1
    · rw [ou_i (by omega), ou_f (by decide)]; exact R7
    · rw [ou_f (by decide), hcb11]; omega
    intro m2 s86 s94 s136 s34 sf sj
    rw [hdc] at s86 s94 s136 s34
    have hcx : ob_u x.2 2 r (x.2 2 r + x.2 11 r) = ob_u x.2 2 r (x.2 2 r + dz_c (x.2 11 r)) := by rw [hdc]
    rw [hcx] at s86 s94 s136 s34
    have scb := sc_cup (o := ob_u x.2 2 r (x.2 2 r + dz_c (x.2 11 r))) (k := S 2 r) (n := P 8 r) (ot := P 9 r) (s := r) (d := x.2 11 r) hs hq.2.1 (fun h => ⟨(hq.2.2 h).1, by have := (hq.2.2 h).2; omega⟩) (by rw [hcb11]; omega) (fun i h0 h1 => by
      rw [ou_f (by decide), ou_f (by decide), ou_f (by decide)]
      exact hcbi i h0 h1) (by rw [ou_f (by decide)]; have := sm_1 (g := x.2 0) (n := 8) (j := r) (fun i h0 h1 => (hcbi i h0 h1).1) hs.1 hs.2; have := sm_0 (g := x.2 3) 8 (fun i h0 h1 => (hcbi i h0 h1).2.1); have := sm_m (g := so_gs P S v o 11) (k := r) 8 (by omega) hsp.1.2; omega)
    have h3s : ∀ i : Int, (so_cup (ob_u x.2 2 r (x.2 2 r + dz_c (x.2 11 r))) (S 2 r) (P 8 r) (P 9 r) r (x.2 11 r)).2 3 i = _ := fun i => so_cup_3s
    have hii : ∀ i : Int, i ≠ r → _ := fun i h => so_cup_i (oo := ob_u x.2 2 r (x.2 2 r + dz_c (x.2 11 r))) (k := S 2 r) (n := P 8 r) (ot := P 9 r) (d := x.2 11 r) h
    obtain ⟨-, -, hfx, ht0⟩ := scb
    have htb : (so_cup (ob_u x.2 2 r (x.2 2 r + dz_c (x.2 11 r))) (S 2 r) (P 8 r) (P 9 r) r (x.2 11 r)).1 ≤ 2147483647 := by
      have hx0 : x.2 0 r ≤ 900000000 := by have := sm_1 (g := x.2 0) (n := 8) (j := r) (fun i h0 h1 => (hcbi i h0 h1).1) hs.1 hs.2; have := sm_0 (g := x.2 3) 8 (fun i h0 h1 => (hcbi i h0 h1).2.1); have := sm_m (g := so_gs P S v o 11) (k := r) 8 (by omega) hsp.1.2; omega
      have key : ∀ y : Int, 0 ≤ y → y ≤ 2147483647 → ∀ n : Int, 1 ≤ n → Int.tdiv (dz_c y) n ≤ 2147483647 := by
        intro y h0 h1 n hn
        rw [dc_ir h0 h1, Int.tdiv_eq_ediv_of_nonneg h0]
        have := Int.ediv_le_self n h0
        omega
      unfold so_cup
      split
      · simp only; split <;> omega
      split
      · have := hq.2.1 (by omega)
        exact key _ (by rw [ou_f (by decide), hcb11]; omega) (by rw [ou_f (by decide), hcb11]; omega) _ this.1
      split
      · split
        · split
          · simp only; omega
          · simp only; omega
        · simp only; omega
      split
      · have := hq.2.1 (by omega)
        exact key _ (by rw [ou_f (by decide), hcb11]; omega) (by rw [ou_f (by decide), hcb11]; omega) _ this.1
      split
      · have := hq.2.1 (by omega)
        exact key _ (by rw [ou_f (by decide), hcb11]; omega) (by rw [ou_f (by decide), hcb11]; omega) _ this.1
      · simp only; omega
    have hc3 : so_tip (ob_u x.2 2 r (x.2 2 r + dz_c (x.2 11 r))) r (P 8 r) (x.2 11 r) * P 8 r = so_tip x.2 r (P 8 r) (x.2 11 r) * P 8 r := by unfold so_tip; rw [ou_f (by decide)]
    unfold so_c1 at ex1
    generalize hcu : so_cup (ob_u x.2 2 r (x.2 2 r + dz_c (x.2 11 r))) (S 2 r) (P 8 r) (P 9 r) r (x.2 11 r) = cu at *
    -- what is tipped on
    refine dp_bi ?_
    have way : ∀ K' : dz_Z → Prop, (∀ m3 : ob_O, (∀ i : Int, 0 ≤ i → i < 8 → m3 0 (e + 110 + i) = cu.2 3 i) → (∀ f : Nat, f ≠ 0 → m3 f = m2 f) → (∀ j : Int, (j < e + 110 ∨ e + 118 ≤ j) → m3 0 j = m2 0 j) → K' (ob_z Y 114 m3)) → dz_p (if dz_c (ob_z Y 114 m2 114 34 0) ≤ 0 then some (ob_z Y 114 m2) else if 0 ≤ 26 + (r : Int) ∧ 26 + (r : Int) < 700 then if 0 ≤ dz_c (e + 110 + ob_z Y 114 m2 114 0 (26 + r)) ∧ dz_c (e + 110 + ob_z Y 114 m2 114 0 (26 + r)) < 700 then dz_a (dz_u (ob_z Y 114 m2) 114 0 (dz_c (e + 110 + ob_z Y 114 m2 114 0 (26 + r))) (ob_z Y 114 m2 114 0 (dz_c (e + 110 + ob_z Y 114 m2 114 0 (26 + r))) + ob_z Y 114 m2 114 34 0)) fun Z39 => some Z39 else none else none) K' := by
      intro K' hK
      simp only [oz_s]
      have w2 : ∀ i : Int, 0 ≤ i → i < 8 → m2 0 (e + 110 + i) = x.2 3 i := fun i h0 h1 => by rw [sj _ (by omega) (by omega) (by omega), ou_i (by omega)]; exact (R2 i h0 h1).2.2.2.1
      rw [s34, hc3]
      by_cases h4 : S 2 r = 4
      · rw [if_pos h4]
        have hn := hq.2.1 (by omega)
        have hto := hq.2.2 h4
        have htp : 0 ≤ so_tip x.2 r (P 8 r) (x.2 11 r) * P 8 r ∧ so_tip x.2 r (P 8 r) (x.2 11 r) * P 8 r ≤ 2147483647 := by
          have hx0 : x.2 0 r ≤ 900000000 := by have := sm_1 (g := x.2 0) (n := 8) (j := r) (fun i h0 h1 => (hcbi i h0 h1).1) hs.1 hs.2; have := sm_0 (g := x.2 3) 8 (fun i h0 h1 => (hcbi i h0 h1).2.1); have := sm_m (g := so_gs P S v o 11) (k := r) 8 (by omega) hsp.1.2; omega
          have hdv := dv_pos (x := x.2 0 r + x.2 11 r) (m := P 8 r) (by rw [hcb11]; omega) hn.1
          rw [hcb11] at hdv ⊢
          unfold so_tip
          exact ⟨Int.mul_nonneg hdv.1 (by omega), by omega⟩
        rw [dc_ir htp.1 htp.2]
        have eot : m2 0 (26 + r) = P 9 r := by rw [sj _ (by omega) (by omega) (by omega), ou_i (by omega), Rj _ (by omega)]; exact hqW.2.2 h4
        have e110 : dz_c (e + 110 + P 9 r) = e + 110 + P 9 r := by have := hE (110 + P 9 r) (by omega) (by omega); rw [← Int.add_assoc] at this; exact this
        rw [eot, e110]
        refine dp_br (fun hz => dp_sm (hK _ (fun i h0 h1 => ?_) (fun f _ => rfl) (fun j _ => rfl))) (fun hz => dp_ck (by omega) (dp_ck (by omega) (dp_le (dp_sm ?_))))
        · rw [w2 i h0 h1, h3s, hc3, ou_f (by decide), ou_f (by decide)]
          split
          · next hh => rw [hh.2]; omega
          · rfl
        · rw [oz_uz]
          refine hK _ (fun i h0 h1 => ?_) (fun f a => ou_ff a) (fun j a => ou_i (by omega))
          rw [ou_a, w2 i h0 h1, w2 _ hto.1 (by omega), h3s, hc3, ou_f (by decide), ou_f (by decide)]
          by_cases c : i = P 9 r
          · rw [if_pos (by omega), if_pos ⟨h4, c⟩]
          · rw [if_neg (by omega), if_neg (fun hh => c hh.2)]
      · rw [if_neg h4]
        refine dp_ck (by decide) (dp_sm (hK _ (fun i h0 h1 => ?_) (fun f _ => rfl) (fun j _ => rfl)))
        rw [w2 i h0 h1, h3s, if_neg (fun hh => h4 hh.1), ou_f (by decide)]
    apply way
    intro m3 u110 uf uj
    simp only [oz_s]
    -- broken?
    have hfl : m3 0 (e + 118 + r) = if so_brk P x.2 r = false then 0 else 1 := by
      rw [uj _ (by omega), sj _ (by omega) (by omega) (by omega), ou_i (by omega), (R2 r hs.1 hs.2).2.2.2.2.2, (rF.1 r hs.1 hs.2).2.2.2.2.2.1]
      unfold so_brk
      have hbr := hb.1 r hs.1 hs.2
      rw [hcb2, dz_li' (by omega) (by omega)]
      by_cases c : 0 < P 15 0 ∧ P 15 0 ≤ o 2 r
      · rw [if_pos ⟨by omega, c⟩, decide_eq_true (by omega)]
        rfl
      · rw [if_neg (fun hh => c hh.2), decide_eq_false (by omega)]
        rfl
    refine dp_ck (by omega) (dp_bi ?_)
    have loud : ∀ K' : Int → Prop, K' (if so_brk P x.2 r = false then cu.1 else 0) → dz_p (if dz_c (m3 0 (e + 118 + r)) ≠ 1 then some cu.1 else some 0) K' := by
      intro K' hK
      rw [hfl]
      by_cases c : so_brk P x.2 r = false
      · rw [if_pos c] at hK ⊢
        exact dp_ck (by decide) (dp_sm hK)
      · rw [if_neg c] at hK ⊢
        exact dp_no (by decide) (dp_sm hK)
    apply loud
    generalize hl : (if so_brk P x.2 r = false then cu.1 else 0) = l at ex1
    have hl0 : 0 ≤ l ∧ l ≤ 2147483647 := by rw [← hl]; split <;> omega
    have hlc : dz_c l = l := dc_ir hl0.1 hl0.2
    have hld := so_ld_c (P := P) (x := (x.1, cu.2)) (s := r) hl0
    have hl1 := so_ld_1 (P := P) (x := (x.1, cu.2)) (s := r) (l := l) hxd
    rw [hlc] at hl1
    refine dp_ck (by omega) (dp_le (dp_ck (by omega) (dp_le (dp_bi ?_))))
    simp only [oz_uz, oz_s]
    have e9 : ob_u (ob_u m3 0 (e + 126 + r) l) 0 (e + 137) (ob_u m3 0 (e + 126 + r) l 0 (e + 137) + l) 9 r = P 7 r := by
      rw [ou_f (by decide), ou_f (by decide), uf 9 (by decide), sf 9 (by decide) (by decide), ou_f (by decide), Rf 9 (by decide) (by decide) (by decide) (by decide)]
      exact rP.2.2.2.2.2.1 r (by omega) (by omega)
    rw [e9, hlc]
    have fin : ∀ q : Int, q = (if l ≤ 0 then 0 else dz_sl 1 (P 7 r)) → Sum.elim (fun s' => ∃ k', k' < k2 ∧ ∃ (r : Nat) (m : ob_O), r + k' = (P 6 0).toNat ∧ s' = ((so_cups P S r (0, so_gs P S v o)).1, (r : Int), ob_z Y 114 m) ∧ mc_R e P m0 (so_gs P S v o) (so_cups P S r (0, so_gs P S v o)).2 m) (Sum.elim (fun s' => ∃ k', k' < k1 ∧ ∃ (r : Nat) (m : ob_O), r + k' = (P 6 0).toNat ∧ s' = ((r : Int), ob_z Y 114 m) ∧ (∀ i : Int, 0 ≤ i → i < 8 → m 33 i = (if i < r then so_gs P S v o 11 i else m1 33 i) ∧ m 0 (e + 110 + i) = (if i < r then 0 else o 3 i)) ∧ (∀ f : Nat, f ≠ 0 → f ≠ 33 → m f = m1 f) ∧ (∀ j : Int, (j < e + 110 ∨ e + 118 ≤ j) → m 0 j = m1 0 j)) K) (Sum.inl (dz_or x.1 q, (r : Int) + 1, ob_z Y 114 (ob_u (ob_u m3 0 (e + 126 + r) l) 0 (e + 137) (ob_u m3 0 (e + 126 + r) l 0 (e + 137) + l)))) := by
      intro q hq'
      refine ⟨k2 - 1, by omega, r + 1, ob_u (ob_u m3 0 (e + 126 + r) l) 0 (e + 137) (ob_u m3 0 (e + 126 + r) l 0 (e + 137) + l), by omega, ?_, ?_⟩
      · rw [ex1, hl1, hq']
        rfl
      · rw [ex1]
        have lf : ∀ f : Nat, f ≠ 4 → f ≠ 8 → f ≠ 9 → (so_ld P r l (x.1, cu.2)).2 f = cu.2 f := fun f a b c => so_ld_f a b c
        refine ⟨fun i a b => ?_, fun i a b => ?_, ?_, ?_, ?_, ?_, fun f a b c d => ?_, fun j a => ?_⟩
        · rw [ou_f (by decide), ou_f (by decide), uf 33 (by decide), sf 33 (by decide) (by decide), ou_f (by decide)]; exact R1 i a b
        · rw [lf 0 (by decide) (by decide) (by decide), lf 1 (by decide) (by decide) (by decide), lf 2 (by decide) (by decide) (by decide), lf 3 (by decide) (by decide) (by decide), hld.1]
          have R := R2 i a b
          refine ⟨?_, ?_, ?_, ?_, ?_, ?_⟩
          · rw [ou_i (by omega), ou_i (by omega), uj _ (by omega)]
            by_cases c : i = r
            · rw [c]; exact s86
            · rw [sj _ (by omega) (by omega) (by omega), ou_i (by omega), (hii i c).1, ou_f (by decide)]; exact R.1
          · rw [ou_i (by omega), ou_i (by omega), uj _ (by omega)]
            by_cases c : i = r
            · rw [c]; exact s94
            · rw [sj _ (by omega) (by omega) (by omega), ou_i (by omega), (hii i c).2, ou_f (by decide)]; exact R.2.1
          · rw [ou_i (by omega), ou_i (by omega), uj _ (by omega), sj _ (by omega) (by omega) (by omega), hfx 2 (by decide) (by decide) (by decide) (by decide), ou_a, ou_a, hdc]
            by_cases c : i = r
            · rw [if_pos (by omega), if_pos c]
            · rw [if_neg (by omega), if_neg c]; exact R.2.2.1
          · rw [ou_i (by omega), ou_i (by omega)]; exact u110 i a b
          · rw [ou_i (by omega), ou_a]
            by_cases c : i = r
            · rw [if_pos (by omega)]; show l = if i = r then l else cu.2 4 i; rw [if_pos c]
            · rw [if_neg (by omega), uj _ (by omega), sj _ (by omega) (by omega) (by omega), ou_i (by omega)]
              show _ = if i = r then l else cu.2 4 i
              rw [if_neg c, hfx 4 (by decide) (by decide) (by decide) (by decide), ou_f (by decide)]; exact R.2.2.2.2.1
          · rw [ou_i (by omega), ou_i (by omega), uj _ (by omega), sj _ (by omega) (by omega) (by omega), ou_i (by omega)]; exact R.2.2.2.2.2
        · rw [ou_i (by omega), ou_i (by omega), uj _ (by omega), sj _ (by omega) (by omega) (by omega), ou_i (by omega), lf 5 (by decide) (by decide) (by decide), hfx 5 (by decide) (by decide) (by decide) (by decide), ou_f (by decide)]; exact R5
        · rw [ou_i (by omega), ou_i (by omega), uj _ (by omega), sj _ (by omega) (by omega) (by omega), ou_i (by omega), lf 6 (by decide) (by decide) (by decide), hfx 6 (by decide) (by decide) (by decide) (by decide), ou_f (by decide)]; exact R6
        · rw [lf 7 (by decide) (by decide) (by decide), ou_i (by omega), ou_i (by omega), uj _ (by omega)]; exact s136
        · rw [hld.2, ou_s, ou_i (by omega), uj _ (by omega), sj _ (by omega) (by omega) (by omega), ou_i (by omega), R8]
          show _ = cu.2 8 0 + l
          rw [hfx 8 (by decide) (by decide) (by decide) (by decide), ou_f (by decide)]
        · rw [ou_ff a, ou_ff a, uf f a, sf f a d, ou_ff a]; exact Rf f a b c d
        · rw [ou_i (by omega), ou_i (by omega), uj _ (by omega), sj _ (by omega) (by omega) (by omega), ou_i (by omega)]; exact Rj j a
    refine dp_br (fun c => dp_sm (dp_sm (fin _ (by rw [if_pos c])))) (fun c => dp_sm (dp_sm (fin _ (by rw [if_neg c]))))
  have hk : r = (P 6 0).toNat := by omega
  simp only [er, oz_s, em3, ec3]
  refine dp_ck (by omega) ?_
  -- who is broken now
  have hcb2 := hcb.2.2.2.2.2
  rw [hk] at hR hcb2
  have hs3 : ∀ i : Int, P 6 0 ≤ i → (so_cups P S (P 6 0).toNat (0, so_gs P S v o)).2 3 i = 0 := fun i hi => by rw [so_cups_3 hS hi _ (by omega), g3]
  have hs4 : ∀ i : Int, i < 8 → P 6 0 ≤ i → (so_cups P S (P 6 0).toNat (0, so_gs P S v o)).2 4 i = 0 := fun i hi1 hi => by rw [so_cups_4 _ (by omega), g4]; exact ((rF.1 i (by omega) hi1).2.2.2.2.2.2 hi).2
  have hsec : so_sec P S v o = so_end (so_cups P S (P 6 0).toNat (0, so_gs P S v o)) := rfl
  rw [hk]
  generalize hx : so_cups P S (P 6 0).toNat (0, so_gs P S v o) = x at hR hcb2 hs3 hs4 hsec
  clear hcb hxd hk hr er em3
  obtain ⟨R1, R2, R5, R6, R7, R8, Rf, Rj⟩ := hR
  refine dp_lp (fun k s => ∃ (r : Nat) (m' : ob_O), r + k = (P 6 0).toNat ∧ s = ((r : Int), ob_z Y 114 m') ∧ (∀ i : Int, 0 ≤ i → i < 8 → m' 0 (e + 118 + i) = (if (i < P 6 0 ∧ 0 < P 15 0 ∧ P 15 0 ≤ (if i < r then x.2 2 i else o 2 i)) then 1 else 0)) ∧ (∀ f : Nat, f ≠ 0 → m' f = m f) ∧ (∀ j : Int, (j < e + 118 ∨ e + 126 ≤ j) → m' 0 j = m 0 j)) ?_ 5000 (P 6 0).toNat (0, ob_z Y 114 m) (by omega) ⟨0, m, by omega, rfl, fun i h0 h1 => by rw [if_neg (show ¬ i < ((0 : Nat) : Int) by omega), (R2 i h0 h1).2.2.2.2.2, (rF.1 i h0 h1).2.2.2.2.2.1], fun f _ => rfl, fun j _ => rfl⟩
  rintro k3 _ ⟨r, m', hr, rfl, hf, hff, hj⟩
  have er : dz_c (r : Int) = r := dc_ir (by omega) (by omega)
  have em3 : m' 3 0 = P 6 0 := by rw [hff 3 (by decide), Rf 3 (by decide) (by decide) (by decide) (by decide)]; exact rP.2.2.2.2.1
  have em6 : m' 6 0 = P 15 0 := by rw [hff 6 (by decide), Rf 6 (by decide) (by decide) (by decide) (by decide)]; exact rP.2.2.2.2.2.2.2.2.2
  have ec6 : dz_c (P 15 0) = P 15 0 := dc_ir hwr.1 (by omega)
  have e134 := hE 134 (by omega) (by omega)
  simp only [er, oz_s, em3, ec3, em6, ec6, e134]
  by_cases hk : r = (P 6 0).toNat
  · refine dp_ck (by omega) (dp_ck (by omega) (dp_le (dp_sm ?_)))
    simp only [oz_uz]
    show K (x.1, ob_z Y 114 (ob_u m' 0 (e + 134) (m' 0 (e + 134) + 1)))
    have hx1 : (so_sec P S v o).1 = x.1 := by rw [hsec]; rfl
    have hx2 : (so_sec P S v o).2 = ob_u x.2 5 0 (x.2 5 0 + 1) := by rw [hsec]; rfl
    rw [← hx1]
    apply k
    · rw [hx2]
      refine ⟨fun i a b => ?_, ?_, ?_, ?_, ?_⟩
      · have R := R2 i a b
        rw [ou_i (by omega), ou_i (by omega), ou_i (by omega), ou_i (by omega), ou_i (by omega), ou_i (by omega), hj _ (by omega), hj _ (by omega), hj _ (by omega), hj _ (by omega), hj _ (by omega), ou_f (by decide), ou_f (by decide), ou_f (by decide), ou_f (by decide), ou_f (by decide)]
        refine ⟨R.1, R.2.1, R.2.2.1, R.2.2.2.1, R.2.2.2.2.1, ?_, fun h => ⟨hs3 i h, hs4 i b h⟩⟩
        rw [hf i a b]
        by_cases c : i < P 6 0
        · rw [if_pos (show i < (r : Int) by omega)]
        · rw [if_neg (fun hh => c hh.1), if_neg (fun hh => c hh.1)]
      · rw [ou_s, ou_s, hj _ (by omega), R5]
      · rw [ou_i (by omega), hj _ (by omega), ou_f (by decide)]; exact R6
      · rw [ou_i (by omega), hj _ (by omega), ou_f (by decide)]; exact R7
      · rw [ou_i (by omega), hj _ (by omega), ou_f (by decide)]; exact R8
    · intro f a b c d; rw [ou_ff a, hff f a]; exact Rf f a b c d
    · intro j a; rw [ou_i (by omega), hj _ (by omega)]; exact Rj j a
  · have e102 : dz_c (e + 102 + r) = e + 102 + r := by have := hE (102 + r) (by omega) (by omega); rw [← Int.add_assoc] at this; exact this
    have e118 : dz_c (e + 118 + r) = e + 118 + r := by have := hE (118 + r) (by omega) (by omega); rw [← Int.add_assoc] at this; exact this
    rw [e102, e118]
    refine dp_no (by omega) ?_
    have hh := hcb2 r (by omega) (by omega)
    rw [if_pos (by omega), g2] at hh
    have hbr := hb.1 r (by omega) (by omega)
    have hd0 := hsp.1.2 r (by omega) (by omega)
    have hd1 := sm_1 (g := so_gs P S v o 11) (n := 8) (j := r) hsp.1.2 (by omega) (by omega)
    have e2 : m' 0 (e + 102 + r) = x.2 2 r := by rw [hj _ (by omega)]; exact (R2 r (by omega) (by omega)).2.2.1
    have step : ∀ m2 : ob_O, m2 0 (e + 118 + r) = (if 0 < P 15 0 ∧ P 15 0 ≤ x.2 2 r then 1 else 0) → (∀ f : Nat, f ≠ 0 → m2 f = m' f) → (∀ j : Int, j ≠ e + 118 + r → m2 0 j = m' 0 j) → ∃ k', k' < k3 ∧ ∃ (r' : Nat) (m' : ob_O), r' + k' = (P 6 0).toNat ∧ ((r : Int) + 1, ob_z Y 114 m2) = ((r' : Int), ob_z Y 114 m') ∧ (∀ i : Int, 0 ≤ i → i < 8 → m' 0 (e + 118 + i) = (if (i < P 6 0 ∧ 0 < P 15 0 ∧ P 15 0 ≤ (if i < r' then x.2 2 i else o 2 i)) then 1 else 0)) ∧ (∀ f : Nat, f ≠ 0 → m' f = m f) ∧ (∀ j : Int, (j < e + 118 ∨ e + 126 ≤ j) → m' 0 j = m 0 j) := by
      intro m2 a1 a2 a3
      refine ⟨k3 - 1, by omega, r + 1, m2, by omega, rfl, fun i h0 h1 => ?_, fun f a => by rw [a2 f a, hff f a], fun j a => by rw [a3 j (by omega), hj j a]⟩
      by_cases c : i = r
      · subst c
        rw [a1, if_pos (show (r : Int) < ((r + 1 : Nat) : Int) by omega)]
        by_cases c2 : 0 < P 15 0 ∧ P 15 0 ≤ x.2 2 r
        · rw [if_pos c2, if_pos ⟨by omega, c2⟩]
        · rw [if_neg c2, if_neg (fun q => c2 q.2)]
      · rw [a3 _ (by omega), hf i h0 h1]
        by_cases c2 : i < r
        · rw [if_pos c2, if_pos (show i < ((r + 1 : Nat) : Int) by omega)]
        · rw [if_neg c2, if_neg (show ¬ i < ((r + 1 : Nat) : Int) by omega)]
    have old := hf r (by omega) (by omega)
    rw [if_neg (show ¬ (r : Int) < r by omega)] at old
    refine dp_br (fun cw => dp_sm (step m' ?_ (fun f _ => rfl) (fun j _ => rfl))) (fun cw => dp_ck (by omega) ?_)
    · rw [old, if_neg (by omega), if_neg (by omega)]
    · rw [e2]
      refine dp_br (fun ch => dp_sm (step m' ?_ (fun f _ => rfl) (fun j _ => rfl))) (fun ch => dp_ck (by omega) (dp_le (dp_sm ?_)))
      · rw [old]
        by_cases c : P 15 0 ≤ o 2 r
        · rw [if_pos ⟨by omega, by omega, c⟩, if_pos ⟨by omega, by omega⟩]
        · have : dz_c (x.2 2 r) = x.2 2 r := dc_ir (by omega) (by omega)
          rw [if_neg (fun q => c q.2.2), if_neg (by omega)]
      · rw [oz_uz]
        refine step _ ?_ (fun f a => ou_ff a) (fun j a => ou_i a)
        rw [ou_s]
        by_cases c : P 15 0 ≤ x.2 2 r
        · rw [if_pos ⟨by omega, c⟩]
        · exfalso
          have : dz_c (x.2 2 r) = x.2 2 r := dc_ir (by omega) (by omega)
          omega
end ms
