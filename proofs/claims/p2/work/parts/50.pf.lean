/-! a shower by itself: what it is, whatever was there before -/
def ob_0 : ob_O := fun _ _ => 0
/-- from o on -/
def pf_o (P S : ob_O) (R : Int → Int) (o : ob_O) : Nat → ob_O
  | 0 => o
  | k + 1 => (so_sec P S (R k) (pf_o P S R o k)).2
def pf_t (P S : ob_O) (R : Int → Int) (o : ob_O) (k : Nat) : Int := (so_sec P S (R k) (pf_o P S R o k)).1
def pf_l (P S : ob_O) (R : Int → Int) (o : ob_O) (k : Nat) : Int := pf_o P S R o (k + 1) 8 0 - pf_o P S R o k 8 0
/-- spouts that sound, as bits -/
def so_hb (lo : Int → Int) : Nat → Int → Int
  | 0, e => e
  | k + 1, e => dz_or (so_hb lo k e) (if dz_c (lo k) ≤ 0 then 0 else dz_sl 1 k)
section pf
variable {P S o o' g : ob_O} {v w d k n ot s l B H : Int} {R : Int → Int} {x x' : Int × ob_O}
def so_q2 (o o' : ob_O) : Prop := so_qF o o' ∧ o' 10 = o 10 ∧ o' 11 = o 11
theorem q2_u {f : Nat} {i a b : Int} (h : so_q2 o o') (hv : b = a) : so_q2 (ob_u o f i a) (ob_u o' f i b) := by
  subst hv
  obtain ⟨⟨h0, h1, h2, h3, h4, h5, h6, h7, h8, h9⟩, h10, h11⟩ := h
  have key : ∀ q : Nat, o' q = o q → ob_u o' f i b q = ob_u o f i b q := fun q e => by
    funext j
    unfold ob_u
    rw [e]
  have key0 : ∀ q : Nat, o' q 0 = o q 0 → ob_u o' f i b q 0 = ob_u o f i b q 0 := fun q e => by
    unfold ob_u
    rw [e]
  exact ⟨⟨key 0 h0, key 1 h1, key 2 h2, key 3 h3, key 4 h4, key0 5 h5, key0 6 h6, key0 7 h7, key0 8 h8, key0 9 h9⟩, key 10 h10, key 11 h11⟩
theorem q2_lead (h : so_q2 o o') : so_q2 (so_lead o w d) (so_lead o' w d) := by
  unfold so_lead
  split
  · exact q2_u h (by rw [h.2.1])
  · split
    · exact q2_u h (by rw [h.2.2])
    · exact q2_u h (by rw [h.1.2.2.2.2.2.2.2.1])
theorem q2_roof (h : so_q2 o o') : ∀ r : Nat, so_q2 (so_roof P v r o) (so_roof P v r o')
  | 0 => h
  | r + 1 => q2_lead (q2_u (q2_roof h r) (by rw [(q2_roof h r).1.2.2.2.2.2.2.1]))
theorem q2_g1 {gg : Int} (h : so_q2 o o') : so_q2 (so_g1 P S gg o) (so_g1 P S gg o') := by
  unfold so_g1
  rw [h.2.1, h.1.2.2.2.2.2.1]
  split
  · exact q2_lead (q2_lead h)
  · exact q2_u h (by rw [h.1.2.2.2.2.2.2.2.1])
theorem q2_gut (h : so_q2 o o') : ∀ r : Nat, so_q2 (so_gut P S r o) (so_gut P S r o')
  | 0 => h
  | r + 1 => q2_g1 (q2_gut h r)
theorem q2_in (h : so_qF o o') : so_q2 (so_in o) (so_in o') := by
  obtain ⟨h0, h1, h2, h3, h4, h5, h6, h7, h8, h9⟩ := h
  have e : ∀ q : Nat, q ≠ 3 → q ≠ 10 → q ≠ 11 → so_in o q = o q ∧ so_in o' q = o' q := fun q a b c => by
    unfold so_in
    exact ⟨by rw [of_n b, of_n a, of_n c], by rw [of_n b, of_n a, of_n c]⟩
  have f : ∀ q : Nat, q ≠ 3 → q ≠ 10 → q ≠ 11 → o' q = o q → so_in o' q = so_in o q := fun q a b c d => by rw [(e q a b c).1, (e q a b c).2, d]
  have f0 : ∀ q : Nat, q ≠ 3 → q ≠ 10 → q ≠ 11 → o' q 0 = o q 0 → so_in o' q 0 = so_in o q 0 := fun q a b c d => by rw [(e q a b c).1, (e q a b c).2, d]
  refine ⟨⟨f 0 (by decide) (by decide) (by decide) h0, f 1 (by decide) (by decide) (by decide) h1, f 2 (by decide) (by decide) (by decide) h2, ?_, f 4 (by decide) (by decide) (by decide) h4, f0 5 (by decide) (by decide) (by decide) h5, f0 6 (by decide) (by decide) (by decide) h6, f0 7 (by decide) (by decide) (by decide) h7, f0 8 (by decide) (by decide) (by decide) h8, f0 9 (by decide) (by decide) (by decide) h9⟩, ?_, ?_⟩
  · unfold so_in; rw [of_n (by decide), of_s, of_n (by decide), of_s]
  · unfold so_in; rw [of_s, of_s]
  · unfold so_in; rw [of_n (by decide), of_n (by decide), of_s, of_n (by decide), of_n (by decide), of_s, h3]
theorem q2_cup (h : so_q2 o o') : (so_cup o' k n ot s d).1 = (so_cup o k n ot s d).1 ∧ so_q2 (so_cup o k n ot s d).2 (so_cup o' k n ot s d).2 := by
  have h0 := h.1.1
  have h1 := h.1.2.1
  have h3 := h.1.2.2.2.1
  have h7 := h.1.2.2.2.2.2.2.2.1
  unfold so_cup so_tip
  rw [h0, h1, h3, h7]
  by_cases c0 : k = 0
  · rw [if_pos c0, if_pos c0]; exact ⟨rfl, q2_u h rfl⟩
  rw [if_neg c0, if_neg c0]
  by_cases c1 : k = 1
  · rw [if_pos c1, if_pos c1]; exact ⟨rfl, q2_u (q2_u h rfl) rfl⟩
  rw [if_neg c1, if_neg c1]
  by_cases c2 : k = 2
  · rw [if_pos c2, if_pos c2]
    by_cases d1 : dz_c (o 0 s + d) < n
    · rw [if_pos d1, if_pos d1]
      by_cases d2 : dz_c (o 0 s + d) ≤ 0
      · rw [if_pos d2, if_pos d2]; exact ⟨rfl, q2_u h rfl⟩
      · rw [if_neg d2, if_neg d2]; exact ⟨rfl, q2_u (q2_u h rfl) rfl⟩
    · rw [if_neg d1, if_neg d1]; exact ⟨rfl, q2_u (q2_u h rfl) rfl⟩
  rw [if_neg c2, if_neg c2]
  by_cases c3 : k = 3
  · rw [if_pos c3, if_pos c3]; exact ⟨rfl, q2_u (q2_u h rfl) rfl⟩
  rw [if_neg c3, if_neg c3]
  by_cases c4 : k = 4
  · rw [if_pos c4, if_pos c4]; exact ⟨rfl, q2_u (q2_u h rfl) rfl⟩
  · rw [if_neg c4, if_neg c4]; exact ⟨rfl, q2_u h rfl⟩
theorem q2_ld (h : so_q2 x.2 x'.2) (h1 : x'.1 = x.1) : (so_ld P s l x').1 = (so_ld P s l x).1 ∧ so_q2 (so_ld P s l x).2 (so_ld P s l x').2 := by
  unfold so_ld
  rw [h1, h.1.2.2.2.2.2.2.2.2.1, h.1.2.2.2.2.2.2.2.2.2]
  by_cases c : dz_c l ≤ 0
  · rw [if_pos c, if_pos c]; exact ⟨rfl, q2_u h rfl⟩
  · rw [if_neg c, if_neg c]; exact ⟨rfl, q2_u (q2_u (q2_u h rfl) rfl) rfl⟩
theorem q2_c1 (h : so_q2 x.2 x'.2) (h1 : x'.1 = x.1) : (so_c1 P S s x').1 = (so_c1 P S s x).1 ∧ so_q2 (so_c1 P S s x).2 (so_c1 P S s x').2 := by
  unfold so_c1
  have e2 := h.1.2.2.1
  have e11 := h.2.2
  have hb : so_brk P x'.2 s = so_brk P x.2 s := by unfold so_brk; rw [e2]
  rw [e2, e11, hb]
  have hc := q2_cup (k := S 2 s) (n := P 8 s) (ot := P 9 s) (s := s) (d := x.2 11 s) (q2_u (f := 2) (i := s) h (show x.2 2 s + dz_c (x.2 11 s) = x.2 2 s + dz_c (x.2 11 s) from rfl))
  rw [hc.1]
  exact q2_ld hc.2 h1
theorem q2_cups (h : so_q2 x.2 x'.2) (h1 : x'.1 = x.1) : ∀ r : Nat, (so_cups P S r x').1 = (so_cups P S r x).1 ∧ so_q2 (so_cups P S r x).2 (so_cups P S r x').2
  | 0 => ⟨h1, h⟩
  | r + 1 => q2_c1 (q2_cups h h1 r).2 (q2_cups h h1 r).1
theorem qF_sec (h : so_qF o o') : (so_sec P S v o').1 = (so_sec P S v o).1 ∧ so_qF (so_sec P S v o).2 (so_sec P S v o').2 := by
  have hg : so_q2 (so_gs P S v o) (so_gs P S v o') := q2_gut (q2_roof (q2_in h) _) _
  have hc := q2_cups (P := P) (S := S) (x := (0, so_gs P S v o)) (x' := (0, so_gs P S v o')) hg rfl (P 6 0).toNat
  exact ⟨hc.1, (q2_u (f := 5) (i := 0) hc.2 (by rw [hc.2.1.2.2.2.2.2.1])).1⟩
theorem D_qF (h : so_D o) : so_qF ob_0 o := by
  obtain ⟨h0, h1, h2, h3, h4, h5, h6, h7, h8, h9⟩ := h
  exact ⟨h0, h1, h2, h3, h4, h5, h6, h7, h8, h9⟩
theorem D_0 : so_D ob_0 := ⟨rfl, rfl, rfl, rfl, rfl, rfl, rfl, rfl, rfl, rfl⟩
/-- bounds within a shower -/
theorem pf_B {t : Nat} (hP : so_P P) (hS : so_S P S) (hB : so_B (324 * t) (400000 * t) o) : ∀ k : Nat, t + k ≤ 1200 → (∀ i : Nat, i < k → 0 ≤ R i ∧ R i ≤ 9) → so_B (324 * (t + k : Nat)) (400000 * (t + k : Nat)) (pf_o P S R o k)
  | 0, _, _ => hB
  | k + 1, hk, hR => by
    have ih := pf_B hP hS hB k (by omega) (fun i hi => hR i (by omega))
    have := (sc_sec (v := R k) hP hS (hR k (by omega)) ih (by omega)).1
    exact sB_m this (by omega) (by omega)
/-- two flows that nobody can tell apart go the same way -/
theorem pf_q (h : so_qF o o') : ∀ k : Nat, so_qF (pf_o P S R o k) (pf_o P S R o' k)
  | 0 => h
  | k + 1 => (qF_sec (pf_q h k)).2
theorem pf_qt (h : so_qF o o') (k : Nat) : pf_t P S R o' k = pf_t P S R o k ∧ pf_l P S R o' k = pf_l P S R o k := by
  refine ⟨(qF_sec (pf_q h k)).1, ?_⟩
  unfold pf_l
  rw [(pf_q (P := P) (S := S) (R := R) h (k + 1)).2.2.2.2.2.2.2.2.1, (pf_q (P := P) (S := S) (R := R) h k).2.2.2.2.2.2.2.2.1]
/-- what sounds in a second, added up -/
theorem ld_8 {r : Nat} (hl : 0 ≤ l ∧ l ≤ 2147483647) : (so_ld P r l x).2 8 0 - x.2 8 0 = l ∧ so_sm ((so_ld P r l x).2 4) (r + 1) = so_sm (x.2 4) r + l ∧ (so_ld P r l x).2 9 0 = (if dz_c l ≤ 0 then x.2 9 0 else dz_or (x.2 9 0) (dz_sl 1 r)) := by
  have hld := so_ld_c (P := P) (x := x) (s := (r : Int)) hl
  refine ⟨by rw [hld.2]; omega, ?_, ?_⟩
  · rw [hld.1]
    show so_sm (fun i => if i = (r : Int) then l else x.2 4 i) r + (if (r : Int) = r then l else x.2 4 r) = _
    rw [if_pos rfl, sm_c r (g' := x.2 4) (fun i a b => by show (if i = (r : Int) then l else x.2 4 i) = _; rw [if_neg (by omega)])]
  · unfold so_ld
    split
    · dsimp only; rw [ou_f (by decide)]
    · dsimp only; rw [ou_s]
theorem cup_f {f : Nat} (h0 : f ≠ 0) (h1 : f ≠ 1) (h3 : f ≠ 3) (h7 : f ≠ 7) : (so_cup o k n ot s d).2 f = o f := by
  unfold so_cup
  by_cases c0 : k = 0
  · rw [if_pos c0]; dsimp only; rw [ou_ff h7]
  rw [if_neg c0]
  by_cases c1 : k = 1
  · rw [if_pos c1]; dsimp only; rw [ou_ff h7, ou_ff h0]
  rw [if_neg c1]
  by_cases c2 : k = 2
  · rw [if_pos c2]
    by_cases d1 : dz_c (o 0 s + d) < n
    · rw [if_pos d1]
      by_cases d2 : dz_c (o 0 s + d) ≤ 0
      · rw [if_pos d2]; dsimp only; rw [ou_ff h0]
      · rw [if_neg d2]; dsimp only; rw [ou_ff h7, ou_ff h0]
    · rw [if_neg d1]; dsimp only; rw [ou_ff h7, ou_ff h0]
  rw [if_neg c2]
  by_cases c3 : k = 3
  · rw [if_pos c3]; dsimp only; rw [ou_ff h1, ou_ff h7]
  rw [if_neg c3]
  by_cases c4 : k = 4
  · rw [if_pos c4]; dsimp only; rw [ou_ff h3, ou_ff h0]
  · rw [if_neg c4]; dsimp only; rw [ou_ff h7]
/-- how often a cup sounds is a number within bounds -/
theorem cup_1 (hs : 0 ≤ s ∧ s < 8) (hk : (k ≠ 0 ∧ k ≠ 5) → 1 ≤ n ∧ n ≤ 30) (hd : 0 ≤ d ∧ d ≤ 1000000000) (h0 : 0 ≤ o 0 s ∧ o 0 s ≤ 1000000000) (h1 : 0 ≤ o 1 s ∧ o 1 s ≤ 30) : 0 ≤ (so_cup o k n ot s d).1 ∧ (so_cup o k n ot s d).1 ≤ 2147483647 := by
  have key : ∀ y : Int, 0 ≤ y → y ≤ 2147483647 → ∀ n : Int, 1 ≤ n → 0 ≤ Int.tdiv (dz_c y) n ∧ Int.tdiv (dz_c y) n ≤ 2147483647 := by
    intro y h0 h1 n hn
    rw [dc_ir h0 h1, Int.tdiv_eq_ediv_of_nonneg h0]
    have := Int.ediv_le_self n h0
    have := Int.ediv_nonneg h0 (show 0 ≤ n by omega)
    omega
  unfold so_cup so_tip
  by_cases c0 : k = 0
  · rw [if_pos c0]; dsimp only; split <;> omega
  rw [if_neg c0]
  by_cases c1 : k = 1
  · rw [if_pos c1]; exact key _ (by omega) (by omega) _ (hk (by omega)).1
  rw [if_neg c1]
  by_cases c2 : k = 2
  · rw [if_pos c2]
    by_cases d1 : dz_c (o 0 s + d) < n
    · rw [if_pos d1]
      by_cases d2 : dz_c (o 0 s + d) ≤ 0
      · rw [if_pos d2]; dsimp only; omega
      · rw [if_neg d2]; dsimp only; omega
    · rw [if_neg d1]; dsimp only; omega
  rw [if_neg c2]
  by_cases c3 : k = 3
  · rw [if_pos c3]; exact key _ (by omega) (by omega) _ (hk (by omega)).1
  rw [if_neg c3]
  by_cases c4 : k = 4
  · rw [if_pos c4]; exact key _ (by omega) (by omega) _ (hk (by omega)).1
  · rw [if_neg c4]; dsimp only; omega
theorem hb_c {lo : Int → Int} {e : Int} (he : dz_c e = e) : ∀ k : Nat, dz_c (so_hb lo k e) = so_hb lo k e
  | 0 => he
  | k + 1 => dc_or _ _
theorem hb_e {lo lo' : Int → Int} {e : Int} : ∀ k : Nat, (∀ i : Nat, i < k → lo i = lo' i) → so_hb lo k e = so_hb lo' k e
  | 0, _ => rfl
  | k + 1, h => by
    show dz_or (so_hb lo k e) _ = dz_or (so_hb lo' k e) _
    rw [hb_e k (fun i hi => h i (by omega)), h k (by omega)]
/-- all cups: their louds, added up and as bits -/
theorem cups_8 (hP : so_P P) (hS : so_S P S) (hg : so_nn g) (hb : so_B B H g) (hB : B + so_sm (g 11) 8 ≤ 1000000000) (h9 : dz_c (g 9 0) = g 9 0) : ∀ r : Nat, (r : Int) ≤ P 6 0 → (so_cups P S r (0, g)).2 8 0 = g 8 0 + so_sm ((so_cups P S r (0, g)).2 4) r ∧ (so_cups P S r (0, g)).2 9 0 = so_hb ((so_cups P S r (0, g)).2 4) r (g 9 0) ∧ b8 (so_cups P S r (0, g)).1 ∧ (∀ i : Int, 0 ≤ i → i < r → 0 ≤ (so_cups P S r (0, g)).2 4 i)
  | 0, _ => ⟨by show g 8 0 = g 8 0 + 0; omega, rfl, b8_i (by show (0 : Int) ≤ 0 ∧ (0 : Int) < 256; decide), fun i a b => absurd b (by omega)⟩
  | r + 1, hr => by
    obtain ⟨i8, i9, ib, il⟩ := cups_8 hP hS hg hb hB h9 r (by omega)
    have hcb := sc_cups (S := S) hP hS hg hb hB r (by omega)
    have h6 := hP.2.2.2.2.1
    have hs : (0 : Int) ≤ r ∧ (r : Int) < 8 := ⟨by omega, by omega⟩
    have hq := hS.2.2.1 r (by omega) (by omega)
    have ht := hP.2.2.2.2.2.1 r (by omega) (by omega)
    have hd0 := hg.2 r (by omega) (by omega)
    have hd1 := sm_1 (g := g 11) (n := 8) (j := r) hg.2 hs.1 hs.2
    have hbn := sm_0 (g := g 0) 8 (fun i h0 h1 => (hb.1 i h0 h1).1)
    have hbn3 := sm_0 (g := g 3) 8 (fun i h0 h1 => (hb.1 i h0 h1).2.1)
    have hb2 := hb.2
    generalize hx : so_cups P S r (0, g) = x at *
    have e1 : so_cups P S (r + 1) (0, g) = so_c1 P S r x := by show so_c1 P S r (so_cups P S r (0, g)) = _; rw [hx]
    rw [e1]
    unfold so_c1
    have hx0 := sm_1 (g := x.2 0) (n := 8) (j := r) (fun i h0 h1 => (hcb.1 i h0 h1).1) hs.1 hs.2
    have hx3 := sm_0 (g := x.2 3) 8 (fun i h0 h1 => (hcb.1 i h0 h1).2.1)
    have hm := sm_m (g := g 11) (k := r) 8 (by omega) hg.2
    have hxr := hcb.1 r hs.1 hs.2
    have h12 := hcb.2.1
    have hc1 := cup_1 (o := ob_u x.2 2 r (x.2 2 r + dz_c (x.2 11 r))) (k := S 2 r) (n := P 8 r) (ot := P 9 r) (s := r) (d := x.2 11 r) hs hq.2.1 (by rw [hcb.2.2.1]; omega) (by rw [ou_f (by decide)]; omega) (by rw [ou_f (by decide)]; exact hxr.2.2)
    have hcf : ∀ f : Nat, f ≠ 0 → f ≠ 1 → f ≠ 2 → f ≠ 3 → f ≠ 7 → (so_cup (ob_u x.2 2 r (x.2 2 r + dz_c (x.2 11 r))) (S 2 r) (P 8 r) (P 9 r) r (x.2 11 r)).2 f = x.2 f := fun f a b c d e => by rw [cup_f a b d e, ou_ff c]
    generalize so_cup (ob_u x.2 2 r (x.2 2 r + dz_c (x.2 11 r))) (S 2 r) (P 8 r) (P 9 r) r (x.2 11 r) = cu at *
    generalize hl : (if so_brk P x.2 r = false then cu.1 else 0) = l
    have hl0 : 0 ≤ l ∧ l ≤ 2147483647 := by rw [← hl]; split <;> omega
    obtain ⟨l8, l4, l9⟩ := ld_8 (P := P) (x := (x.1, cu.2)) (r := r) hl0
    have hlc := so_ld_c (P := P) (x := (x.1, cu.2)) (s := (r : Int)) hl0
    dsimp only at l8 l4 l9
    rw [hcf 8 (by decide) (by decide) (by decide) (by decide) (by decide)] at l8
    rw [hcf 4 (by decide) (by decide) (by decide) (by decide) (by decide)] at l4
    rw [hcf 9 (by decide) (by decide) (by decide) (by decide) (by decide)] at l9
    have hlo : ∀ i : Int, (so_ld P r l (x.1, cu.2)).2 4 i = if i = (r : Int) then l else x.2 4 i := fun i => by
      rw [hlc.1]
      show (if i = (r : Int) then l else cu.2 4 i) = _
      rw [hcf 4 (by decide) (by decide) (by decide) (by decide) (by decide)]
    refine ⟨by omega, ?_, ?_, fun i a b => ?_⟩
    · rw [l9]
      show _ = dz_or (so_hb ((so_ld P r l (x.1, cu.2)).2 4) r (g 9 0)) (if dz_c ((so_ld P r l (x.1, cu.2)).2 4 r) ≤ 0 then 0 else dz_sl 1 r)
      rw [hlo, if_pos rfl, hb_e (lo' := x.2 4) r (fun i hi => by rw [hlo, if_neg (by omega)]), ← i9]
      have hc9 : dz_c (x.2 9 0) = x.2 9 0 := by rw [i9]; exact hb_c h9 r
      split
      · rw [dc_o0, hc9]
      · rfl
    · unfold so_ld
      split
      · exact ib
      · exact b8_or ib (b8_sl ht)
    · rw [hlo]
      split
      · exact hl0.1
      · exact il i a (by omega)
end pf
