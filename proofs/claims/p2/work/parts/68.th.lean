/-! what was read so far -/
def rf_c (P m : ob_O) : Prop := (m 16 0 = P 0 0 ∧ 0 ≤ P 0 0 ∧ P 0 0 ≤ 4) ∧ (m 16 1 = P 3 0 ∧ 0 ≤ P 3 0 ∧ P 3 0 ≤ 5) ∧ (m 16 2 = P 6 0 ∧ 0 ≤ P 6 0 ∧ P 6 0 ≤ 8) ∧ (m 16 3 = P 10 0 ∧ 0 ≤ P 10 0 ∧ P 10 0 ≤ 3) ∧ (m 16 4 = P 11 0 ∧ 0 ≤ P 11 0 ∧ P 11 0 ≤ 4)
def rf_r (P m : ob_O) : Prop := ∀ r : Int, 0 ≤ r → r < P 0 0 → m 12 (2 * r) = P 1 r ∧ m 12 (2 * r + 1) = P 2 r ∧ (1 ≤ P 1 r ∧ P 1 r ≤ 9) ∧ 0 ≤ P 2 r ∧ P 2 r < 5
def rf_g (P m : ob_O) : Prop := ∀ g : Int, 0 ≤ g → g < P 3 0 → m 13 (2 * g) = P 4 g ∧ m 13 (2 * g + 1) = P 5 g ∧ so_way (P 4 g) ∧ so_way (P 5 g)
def rf_s (P S m : ob_O) : Prop := ∀ s : Int, 0 ≤ s → s < P 6 0 → m 14 s = P 7 s ∧ (0 ≤ P 7 s ∧ P 7 s < 8) ∧ m 11 (10 + s) = S 2 s ∧ (0 ≤ S 2 s ∧ S 2 s ≤ 5) ∧ ((S 2 s ≠ 0 ∧ S 2 s ≠ 5) → m 11 (18 + s) = P 8 s ∧ 1 ≤ P 8 s ∧ P 8 s ≤ 30) ∧ ((S 2 s = 0 ∨ S 2 s = 5) → m 11 (18 + s) = 0) ∧ (S 2 s = 4 → m 11 (26 + s) = P 9 s ∧ 0 ≤ P 9 s ∧ P 9 s < 8) ∧ (S 2 s ≠ 4 → m 11 (26 + s) = -4)
def rf_w (P S m : ob_O) : Prop := ∀ w : Int, 0 ≤ w → w < P 10 0 → m 11 (34 + 13 * w) = S 3 w ∧ (1 ≤ S 3 w ∧ S 3 w ≤ 12) ∧ ∀ i : Int, 0 ≤ i → i < S 3 w → m 11 (34 + 13 * w + 1 + i) = S (20 + w.toNat) i ∧ 0 ≤ S (20 + w.toNat) i ∧ S (20 + w.toNat) i ≤ 9
def rf_t (S m : ob_O) : Prop := (0 ≤ S 6 0 ∧ S 6 0 ≤ 12) ∧ m 11 73 = S 6 0 ∧ ∀ i : Int, 0 ≤ i → i < S 6 0 → m 11 (73 + 1 + i) = S 5 i ∧ 0 ≤ S 5 i ∧ S 5 i ≤ 255
def rf_z (P m : ob_O) : Prop := ∀ k : Int, 0 ≤ k → k < P 11 0 → m 15 (3 * k) = P 12 k ∧ m 15 (3 * k + 1) = P 13 k ∧ m 15 (3 * k + 2) = P 14 k ∧ 0 ≤ P 12 k ∧ P 12 k ≤ P 13 k ∧ P 13 k ≤ 11 ∧ 1 ≤ P 14 k ∧ P 14 k ≤ 99
def rf_o (R P S m : ob_O) : Prop := m 17 0 = P 15 0 ∧ (0 ≤ P 15 0 ∧ P 15 0 ≤ 999) ∧ (R 5 0 = 0 ∨ R 5 0 = 1) ∧ m 20 0 = (if 0 < S 6 0 then 32 else 0) + 64 * R 5 0
def rf_p (P S m : ob_O) : Prop := (∀ g : Int, 0 ≤ g → g < P 3 0 → m 11 g = 2) ∧ (∀ g : Int, 0 ≤ g → g < 5 → m 11 (5 + g) = 0) ∧ (∀ j : Int, 86 ≤ j → j < 140 → m 11 j = 0) ∧ (∀ s : Int, P 6 0 ≤ s → s < 8 → m 11 (18 + s) = 0) ∧ (∀ g : Int, 0 ≤ g → g < 5 → S 0 g = 2 ∧ S 1 g = 0)
def rf_h (P m : ob_O) : Prop := (-1 ≤ m 18 0 ∧ m 18 0 ≤ 4) ∧ (∀ N : Int, 0 ≤ N → (m 18 0 < N ↔ (∀ r : Int, 0 ≤ r → r < P 0 0 → P 2 r < N) ∧ (∀ g : Int, 0 ≤ g → g < P 3 0 → (P 4 g < 5 → P 4 g < N) ∧ (P 5 g < 5 → P 5 g < N))))
def rf_i (P S m : ob_O) : Prop := (-1 ≤ m 19 0 ∧ m 19 0 ≤ 7) ∧ (∀ N : Int, 0 ≤ N → (m 19 0 < N ↔ (∀ g : Int, 0 ≤ g → g < P 3 0 → (10 ≤ P 4 g → P 4 g < 18 → P 4 g - 10 < N) ∧ (10 ≤ P 5 g → P 5 g < 18 → P 5 g - 10 < N)) ∧ (∀ s : Int, 0 ≤ s → s < P 6 0 → S 2 s = 4 → P 9 s < N)))
def rg_A (R P S m : ob_O) : Prop := rf_c P m ∧ rf_r P m ∧ rf_g P m ∧ rf_s P S m ∧ rf_w P S m ∧ rf_t S m ∧ rf_z P m ∧ rf_o R P S m ∧ rf_p P S m ∧ rf_h P m ∧ rf_i P S m
section th
variable {R R' P P' S S' m m' : ob_O} {v w x y z n : Int}
-- what is not touched
theorem fr_c (h : rf_c P m) (e : m' 16 = m 16) (e0 : P' 0 = P 0) (e3 : P' 3 = P 3) (e6 : P' 6 = P 6) (e10 : P' 10 = P 10) (e11 : P' 11 = P 11) : rf_c P' m' := by unfold rf_c; rw [e, e0, e3, e6, e10, e11]; exact h
theorem fr_r (h : rf_r P m) (e : m' 12 = m 12) (e0 : P' 0 = P 0) (e1 : P' 1 = P 1) (e2 : P' 2 = P 2) : rf_r P' m' := by unfold rf_r; rw [e, e0, e1, e2]; exact h
theorem fr_g (h : rf_g P m) (e : m' 13 = m 13) (e3 : P' 3 = P 3) (e4 : P' 4 = P 4) (e5 : P' 5 = P 5) : rf_g P' m' := by unfold rf_g; rw [e, e3, e4, e5]; exact h
theorem fr_z (h : rf_z P m) (e : m' 15 = m 15) (e11 : P' 11 = P 11) (e12 : P' 12 = P 12) (e13 : P' 13 = P 13) (e14 : P' 14 = P 14) : rf_z P' m' := by unfold rf_z; rw [e, e11, e12, e13, e14]; exact h
theorem fr_o (h : rf_o R P S m) (e : m' 17 = m 17) (e20 : m' 20 = m 20) (e15 : P' 15 = P 15) (e5 : R' 5 = R 5) (e6 : S' 6 = S 6) : rf_o R' P' S' m' := by unfold rf_o; rw [e, e20, e15, e5, e6]; exact h
theorem fr_s (h : rf_s P S m) (hb : P 6 0 ≤ 8) (e14 : m' 14 = m 14) (e11 : ∀ j : Int, 10 ≤ j → j < 34 → m' 11 j = m 11 j) (e6 : P' 6 = P 6) (e7 : P' 7 = P 7) (e8 : P' 8 = P 8) (e9 : P' 9 = P 9) (e2 : S' 2 = S 2) : rf_s P' S' m' := by
  unfold rf_s
  rw [e14, e6, e7, e8, e9, e2]
  intro s a b
  rw [e11 (10 + s) (by omega) (by omega), e11 (18 + s) (by omega) (by omega), e11 (26 + s) (by omega) (by omega)]
  exact h s a b
theorem fr_w (h : rf_w P S m) (hb : P 10 0 ≤ 3) (e11 : ∀ j : Int, 34 ≤ j → j < 73 → m' 11 j = m 11 j) (e10 : P' 10 = P 10) (eS : ∀ f : Nat, (f = 3 ∨ 20 ≤ f) → S' f = S f) : rf_w P' S' m' := by
  unfold rf_w
  rw [e10, eS 3 (Or.inl rfl)]
  intro w a b
  have hw := h w a b
  rw [e11 (34 + 13 * w) (by omega) (by omega), eS (20 + w.toNat) (by omega)]
  refine ⟨hw.1, hw.2.1, fun i c d => ?_⟩
  rw [e11 _ (by omega) (by omega)]
  exact hw.2.2 i c d
theorem fr_t (h : rf_t S m) (e11 : ∀ j : Int, 73 ≤ j → j < 86 → m' 11 j = m 11 j) (e5 : S' 5 = S 5) (e6 : S' 6 = S 6) : rf_t S' m' := by
  unfold rf_t
  rw [e5, e6, e11 73 (by omega) (by omega)]
  refine ⟨h.1, h.2.1, fun i a b => ?_⟩
  have := h.1
  rw [e11 _ (by omega) (by omega)]
  exact h.2.2 i a b
theorem fr_p (h : rf_p P S m) (hb : 0 ≤ P 3 0 ∧ P 3 0 ≤ 5) (hb6 : 0 ≤ P 6 0) (e11 : ∀ j : Int, (0 ≤ j ∧ j < 10) ∨ (18 ≤ j ∧ j < 26) ∨ 86 ≤ j → m' 11 j = m 11 j) (e3 : P' 3 = P 3) (e6 : P' 6 = P 6) (e0 : S' 0 = S 0) (e1 : S' 1 = S 1) : rf_p P' S' m' := by
  unfold rf_p
  rw [e3, e6, e0, e1]
  refine ⟨fun g a b => ?_, fun g a b => ?_, fun j a b => ?_, fun s a b => ?_, h.2.2.2.2⟩
  · rw [e11 g (by omega)]; exact h.1 g a b
  · rw [e11 (5 + g) (by omega)]; exact h.2.1 g a b
  · rw [e11 j (by omega)]; exact h.2.2.1 j a b
  · rw [e11 (18 + s) (by omega)]; exact h.2.2.2.1 s a b
theorem fr_h (h : rf_h P m) (e : m' 18 = m 18) (e0 : P' 0 = P 0) (e2 : P' 2 = P 2) (e3 : P' 3 = P 3) (e4 : P' 4 = P 4) (e5 : P' 5 = P 5) : rf_h P' m' := by unfold rf_h; rw [e, e0, e2, e3, e4, e5]; exact h
theorem fr_i (h : rf_i P S m) (e : m' 19 = m 19) (e3 : P' 3 = P 3) (e4 : P' 4 = P 4) (e5 : P' 5 = P 5) (e6 : P' 6 = P 6) (e9 : P' 9 = P 9) (e2 : S' 2 = S 2) : rf_i P' S' m' := by unfold rf_i; rw [e, e3, e4, e5, e6, e9, e2]; exact h
/-- one more roof -/
theorem rf_roof (h : rg_A R P S m) (hn : P 0 0 < 4) (hv : 1 ≤ v ∧ v ≤ 9) (hw : 0 ≤ w ∧ w < 5) (h5 : R' 5 = R 5) (hm : ∀ f : Nat, f ≠ 12 → f ≠ 16 → f ≠ 18 → (f < 24 ∨ 29 < f) → m' f = m f) (h12 : m' 12 = ob_u (ob_u m 12 (2 * P 0 0) v) 12 (2 * P 0 0 + 1) w 12) (h16 : m' 16 = ob_u m 16 0 (P 0 0 + 1) 16) (h18 : m' 18 0 = if m 18 0 < w then w else m 18 0) (hP : ∀ f : Nat, f ≠ 0 → f ≠ 1 → f ≠ 2 → P' f = P f) (p0 : P' 0 0 = P 0 0 + 1) (p1 : P' 1 = ob_u P 1 (P 0 0) v 1) (p2 : P' 2 = ob_u P 2 (P 0 0) w 2) : rg_A R' P' S m' := by
  obtain ⟨hc, hr, hg, hs, hw', ht, hz, ho, hp, hh, hi⟩ := h
  have m11 : m' 11 = m 11 := hm 11 (by decide) (by decide) (by decide) (by decide)
  have q3 : P' 3 = P 3 := hP 3 (by decide) (by decide) (by decide)
  have q4 : P' 4 = P 4 := hP 4 (by decide) (by decide) (by decide)
  have q5 : P' 5 = P 5 := hP 5 (by decide) (by decide) (by decide)
  have q6 : P' 6 = P 6 := hP 6 (by decide) (by decide) (by decide)
  have q7 : P' 7 = P 7 := hP 7 (by decide) (by decide) (by decide)
  have q8 : P' 8 = P 8 := hP 8 (by decide) (by decide) (by decide)
  have q9 : P' 9 = P 9 := hP 9 (by decide) (by decide) (by decide)
  have q10 : P' 10 = P 10 := hP 10 (by decide) (by decide) (by decide)
  have q11 : P' 11 = P 11 := hP 11 (by decide) (by decide) (by decide)
  refine ⟨?_, ?_, fr_g hg (hm 13 (by decide) (by decide) (by decide) (by decide)) q3 q4 q5, fr_s hs hc.2.2.1.2.2 (hm 14 (by decide) (by decide) (by decide) (by decide)) (fun j _ _ => by rw [m11]) q6 q7 q8 q9 rfl, fr_w hw' hc.2.2.2.1.2.2 (fun j _ _ => by rw [m11]) q10 (fun _ _ => rfl), fr_t ht (fun j _ _ => by rw [m11]) rfl rfl, fr_z hz (hm 15 (by decide) (by decide) (by decide) (by decide)) q11 (hP 12 (by decide) (by decide) (by decide)) (hP 13 (by decide) (by decide) (by decide)) (hP 14 (by decide) (by decide) (by decide)), fr_o ho (hm 17 (by decide) (by decide) (by decide) (by decide)) (hm 20 (by decide) (by decide) (by decide) (by decide)) (hP 15 (by decide) (by decide) (by decide)) h5 rfl, fr_p hp hc.2.1.2 hc.2.2.1.2.1 (fun j _ => by rw [m11]) q3 q6 rfl rfl, ?_, fr_i hi (hm 19 (by decide) (by decide) (by decide) (by decide)) q3 q4 q5 q6 q9 rfl⟩
  · unfold rf_c at hc ⊢
    rw [h16, p0, q3, q6, q10, q11, ou_s, ou_i (by decide), ou_i (by decide), ou_i (by decide), ou_i (by decide)]
    exact ⟨⟨rfl, by omega, by omega⟩, hc.2⟩
  · intro r a b
    rw [p0] at b
    by_cases c : r = P 0 0
    · refine ⟨?_, ?_, ?_, ?_⟩
      · rw [c, h12, p1, ou_i (by omega), ou_s, ou_s]
      · rw [c, h12, p2, ou_s, ou_s]
      · rw [c, p1, ou_s]; exact hv
      · rw [c, p2, ou_s]; exact hw
    · have hq := hr r a (by omega)
      rw [h12, p1, p2, ou_i (i' := 2 * r) (by omega), ou_i (i' := 2 * r) (by omega), ou_i (i' := 2 * r + 1) (by omega), ou_i (i' := 2 * r + 1) (by omega), ou_i c, ou_i c]
      exact hq
  · have hc0 := hc.1
    refine ⟨?_, fun N hN => ?_⟩
    · rw [h18]; have := hh.1; split <;> omega
    · have hk := hh.2 N hN
      rw [h18, q3, q4, q5, p0, p2]
      have e : (if m 18 0 < w then w else m 18 0) < N ↔ m 18 0 < N ∧ w < N := by split <;> omega
      rw [e, hk]
      constructor
      · rintro ⟨⟨k1, k2⟩, k3⟩
        refine ⟨fun r a b => ?_, k2⟩
        rw [ou_a]
        by_cases c : r = P 0 0
        · rw [if_pos c]; exact k3
        · rw [if_neg c]; exact k1 r a (by omega)
      · rintro ⟨k1, k2⟩
        refine ⟨⟨fun r a b => ?_, k2⟩, ?_⟩
        · have := k1 r a (by omega)
          rw [ou_i (by omega)] at this
          exact this
        · have := k1 (P 0 0) (by omega) (by omega)
          rw [ou_s] at this
          exact this
/-- one more gutter -/
theorem rf_peg (h : rg_A R P S m) (hn : P 3 0 < 5) (hv : so_way v) (hw : so_way w) (h5 : R' 5 = R 5) (hm : ∀ f : Nat, f ≠ 11 → f ≠ 13 → f ≠ 16 → f ≠ 18 → f ≠ 19 → (f < 24 ∨ 29 < f) → m' f = m f) (h11 : m' 11 = ob_u m 11 (P 3 0) 2 11) (h13 : m' 13 = ob_u (ob_u m 13 (2 * P 3 0) v) 13 (2 * P 3 0 + 1) w 13) (h16 : m' 16 = ob_u m 16 1 (P 3 0 + 1) 16) (h18 : m' 18 0 = if w < 5 ∧ (if v < 5 ∧ m 18 0 < v then v else m 18 0) < w then w else (if v < 5 ∧ m 18 0 < v then v else m 18 0)) (h19 : m' 19 0 = if 10 ≤ w ∧ w < 18 ∧ (if 10 ≤ v ∧ v < 18 ∧ m 19 0 < v - 10 then v - 10 else m 19 0) < w - 10 then w - 10 else (if 10 ≤ v ∧ v < 18 ∧ m 19 0 < v - 10 then v - 10 else m 19 0)) (hP : ∀ f : Nat, f ≠ 3 → f ≠ 4 → f ≠ 5 → P' f = P f) (p3 : P' 3 0 = P 3 0 + 1) (p4 : P' 4 = ob_u P 4 (P 3 0) v 4) (p5 : P' 5 = ob_u P 5 (P 3 0) w 5) : rg_A R' P' S m' := by
  obtain ⟨hc, hr, hg, hs, hw', ht, hz, ho, hp, hh, hi⟩ := h
  have hm' : ∀ f : Nat, f ≠ 11 ∧ f ≠ 13 ∧ f ≠ 16 ∧ f ≠ 18 ∧ f ≠ 19 ∧ (f < 24 ∨ 29 < f) → m' f = m f := fun f q => hm f q.1 q.2.1 q.2.2.1 q.2.2.2.1 q.2.2.2.2.1 q.2.2.2.2.2
  have hP' : ∀ f : Nat, f ≠ 3 ∧ f ≠ 4 ∧ f ≠ 5 → P' f = P f := fun f q => hP f q.1 q.2.1 q.2.2
  have m11 : ∀ j : Int, j ≠ P 3 0 → m' 11 j = m 11 j := fun j q => by rw [h11, ou_i q]
  have c3 := hc.2.1.2
  refine ⟨?_, fr_r hr (hm' 12 (by decide)) (hP' 0 (by decide)) (hP' 1 (by decide)) (hP' 2 (by decide)), ?_, fr_s hs hc.2.2.1.2.2 (hm' 14 (by decide)) (fun j _ _ => m11 j (by omega)) (hP' 6 (by decide)) (hP' 7 (by decide)) (hP' 8 (by decide)) (hP' 9 (by decide)) rfl, fr_w hw' hc.2.2.2.1.2.2 (fun j _ _ => m11 j (by omega)) (hP' 10 (by decide)) (fun _ _ => rfl), fr_t ht (fun j _ _ => m11 j (by omega)) rfl rfl, fr_z hz (hm' 15 (by decide)) (hP' 11 (by decide)) (hP' 12 (by decide)) (hP' 13 (by decide)) (hP' 14 (by decide)), fr_o ho (hm' 17 (by decide)) (hm' 20 (by decide)) (hP' 15 (by decide)) h5 rfl, ?_, ?_, ?_⟩
  · unfold rf_c at hc ⊢
    rw [h16, p3, hP' 0 (by decide), hP' 6 (by decide), hP' 10 (by decide), hP' 11 (by decide), ou_s, ou_i (by decide), ou_i (by decide), ou_i (by decide), ou_i (by decide)]
    exact ⟨hc.1, ⟨rfl, by omega, by omega⟩, hc.2.2⟩
  · intro g a b
    rw [p3] at b
    by_cases c : g = P 3 0
    · refine ⟨?_, ?_, ?_, ?_⟩
      · rw [c, h13, p4, ou_i (by omega), ou_s, ou_s]
      · rw [c, h13, p5, ou_s, ou_s]
      · rw [c, p4, ou_s]; exact hv
      · rw [c, p5, ou_s]; exact hw
    · have hq := hg g a (by omega)
      rw [h13, p4, p5, ou_i (i' := 2 * g) (by omega), ou_i (i' := 2 * g) (by omega), ou_i (i' := 2 * g + 1) (by omega), ou_i (i' := 2 * g + 1) (by omega), ou_i c, ou_i c]
      exact hq
  · unfold rf_p
    rw [hP' 6 (by decide), p3]
    refine ⟨fun g a b => ?_, fun g a b => ?_, fun j a b => ?_, fun s a b => ?_, hp.2.2.2.2⟩
    · rw [h11, ou_a]
      by_cases c : g = P 3 0
      · rw [if_pos c]
      · rw [if_neg c]; exact hp.1 g a (by omega)
    · rw [m11 _ (by omega)]; exact hp.2.1 g a b
    · rw [m11 _ (by omega)]; exact hp.2.2.1 j a b
    · have := hc.2.2.1.2
      rw [m11 _ (by omega)]; exact hp.2.2.2.1 s a b
  · have hh1 := hh.1
    refine ⟨?_, fun N hN => ?_⟩
    · rw [h18]; repeat' split
      all_goals omega
    · have hk := hh.2 N hN
      rw [h18, hP' 0 (by decide), hP' 2 (by decide), p3, p4, p5]
      have e : (if w < 5 ∧ (if v < 5 ∧ m 18 0 < v then v else m 18 0) < w then w else (if v < 5 ∧ m 18 0 < v then v else m 18 0)) < N ↔ m 18 0 < N ∧ (v < 5 → v < N) ∧ (w < 5 → w < N) := by
        generalize m 18 0 = q
        repeat' split
        all_goals omega
      rw [e, hk]
      constructor
      · rintro ⟨⟨k1, k2⟩, k3, k4⟩
        refine ⟨k1, fun g a b => ?_⟩
        rw [ou_a, ou_a]
        by_cases c : g = P 3 0
        · rw [if_pos c, if_pos c]; exact ⟨k3, k4⟩
        · rw [if_neg c, if_neg c]; exact k2 g a (by omega)
      · rintro ⟨k1, k2⟩
        have h0 := k2 (P 3 0) (by omega) (by omega)
        rw [ou_s, ou_s] at h0
        refine ⟨⟨k1, fun g a b => ?_⟩, h0⟩
        have := k2 g a (by omega)
        rw [ou_i (by omega), ou_i (by omega)] at this
        exact this
  · have hi1 := hi.1
    refine ⟨?_, fun N hN => ?_⟩
    · rw [h19]; repeat' split
      all_goals omega
    · have hk := hi.2 N hN
      rw [h19, hP' 6 (by decide), hP' 9 (by decide), p3, p4, p5]
      have e : (if 10 ≤ w ∧ w < 18 ∧ (if 10 ≤ v ∧ v < 18 ∧ m 19 0 < v - 10 then v - 10 else m 19 0) < w - 10 then w - 10 else (if 10 ≤ v ∧ v < 18 ∧ m 19 0 < v - 10 then v - 10 else m 19 0)) < N ↔ m 19 0 < N ∧ (10 ≤ v → v < 18 → v - 10 < N) ∧ (10 ≤ w → w < 18 → w - 10 < N) := by
        generalize m 19 0 = q
        repeat' split
        all_goals omega
      rw [e, hk]
      constructor
      · rintro ⟨⟨k1, k2⟩, k3, k4⟩
        refine ⟨fun g a b => ?_, k2⟩
        rw [ou_a, ou_a]
        by_cases c : g = P 3 0
        · rw [if_pos c, if_pos c]; exact ⟨k3, k4⟩
        · rw [if_neg c, if_neg c]; exact k1 g a (by omega)
      · rintro ⟨k1, k2⟩
        have h0 := k1 (P 3 0) (by omega) (by omega)
        rw [ou_s, ou_s] at h0
        refine ⟨⟨fun g a b => ?_, k2⟩, h0⟩
        have := k1 g a (by omega)
        rw [ou_i (by omega), ou_i (by omega)] at this
        exact this
/-- one more spout -/
theorem rf_spt {mc mc' Pc : ob_O} (h : rg_A R P S m) (hn : P 6 0 < 8) (hv : 0 ≤ v ∧ v < 8) (h5 : R' 5 = R 5) (hm : ∀ f : Nat, f ≠ 11 ∧ f ≠ 14 ∧ f ≠ 16 ∧ f ≠ 19 ∧ (f < 24 ∨ 29 < f) → m' f = m f) (h14 : m' 14 = ob_u m 14 (P 6 0) v 14) (h16 : m' 16 = ob_u m 16 2 (P 6 0 + 1) 16) (hcu : so_cu (ob_u P 7 (P 6 0) v) S mc Pc S' mc' (P 6 0)) (hc1 : mc 11 = m 11) (hc2 : mc 19 0 = m 19 0) (hm11 : m' 11 = mc' 11) (hm19 : m' 19 0 = mc' 19 0) (hP6 : ∀ f : Nat, f ≠ 6 → P' f = Pc f) (p6 : P' 6 0 = P 6 0 + 1) : rg_A R' P' S' m' := by
  obtain ⟨hc, hr, hg, hs, hw', ht, hz, ho, hp, hh, hi⟩ := h
  obtain ⟨u1, u2, u3, u4, u5, u6, u7, u8, u9, u10, u11, u12⟩ := hcu
  have hP : ∀ f : Nat, f ≠ 6 ∧ f ≠ 7 ∧ f ≠ 8 ∧ f ≠ 9 → P' f = P f := fun f q => by rw [hP6 f q.1, u1 f q.2.2.1 q.2.2.2, ou_ff q.2.1]
  have p7 : P' 7 = ob_u P 7 (P 6 0) v 7 := by rw [hP6 7 (by decide), u1 7 (by decide) (by decide)]
  have p8 : ∀ j : Int, j ≠ P 6 0 → P' 8 j = P 8 j := fun j q => by rw [hP6 8 (by decide), (u2 j q).1, ou_f (by decide)]
  have p9 : ∀ j : Int, j ≠ P 6 0 → P' 9 j = P 9 j := fun j q => by rw [hP6 9 (by decide), (u2 j q).2, ou_f (by decide)]
  have c6 := hc.2.2.1.2
  have j11 : ∀ j : Int, j ≠ 10 + P 6 0 → j ≠ 18 + P 6 0 → j ≠ 26 + P 6 0 → m' 11 j = m 11 j := fun j a b c => by rw [hm11, u11 j a b c, hc1]
  rw [hc1] at u8
  rw [hc2] at u9 u10
  have z18 := hp.2.2.2.1 (P 6 0) (by omega) hn
  rw [← hP6 8 (by decide)] at u7
  rw [← hP6 9 (by decide)] at u9
  rw [← hm11] at u6 u7 u8 u9 u10
  rw [← hm19] at u9 u10
  refine ⟨?_, fr_r hr (hm 12 (by decide)) (hP 0 (by decide)) (hP 1 (by decide)) (hP 2 (by decide)), fr_g hg (hm 13 (by decide)) (hP 3 (by decide)) (hP 4 (by decide)) (hP 5 (by decide)), ?_, fr_w hw' hc.2.2.2.1.2.2 (fun j _ _ => j11 j (by omega) (by omega) (by omega)) (hP 10 (by decide)) (fun f q => u3 f (by omega)), fr_t ht (fun j _ _ => j11 j (by omega) (by omega) (by omega)) (u3 5 (by decide)) (u3 6 (by decide)), fr_z hz (hm 15 (by decide)) (hP 11 (by decide)) (hP 12 (by decide)) (hP 13 (by decide)) (hP 14 (by decide)), fr_o ho (hm 17 (by decide)) (hm 20 (by decide)) (hP 15 (by decide)) h5 (u3 6 (by decide)), ?_, fr_h hh (hm 18 (by decide)) (hP 0 (by decide)) (hP 2 (by decide)) (hP 3 (by decide)) (hP 4 (by decide)) (hP 5 (by decide)), ?_⟩
  · unfold rf_c at hc ⊢
    rw [h16, p6, hP 0 (by decide), hP 3 (by decide), hP 10 (by decide), hP 11 (by decide), ou_s, ou_i (by decide), ou_i (by decide), ou_i (by decide), ou_i (by decide)]
    exact ⟨hc.1, hc.2.1, ⟨rfl, by omega, by omega⟩, hc.2.2.2⟩
  · intro s a b
    rw [p6] at b
    rw [h14, p7, ou_a, ou_a]
    by_cases c : s = P 6 0
    · rw [c, if_pos rfl, if_pos rfl]
      exact ⟨rfl, hv, u6, u5, u7, fun q => (u8 q).trans z18, fun q => ⟨(u9 q).1, (u9 q).2.1⟩, fun q => (u10 q).1⟩
    · rw [if_neg c, if_neg c, u4 s c, p8 s c, p9 s c, j11 (10 + s) (by omega) (by omega) (by omega), j11 (18 + s) (by omega) (by omega) (by omega), j11 (26 + s) (by omega) (by omega) (by omega)]
      exact hs s a (by omega)
  · unfold rf_p
    have c3 := hc.2.1.2
    rw [hP 3 (by decide), p6, u3 0 (by decide), u3 1 (by decide)]
    refine ⟨fun g a b => ?_, fun g a b => ?_, fun j a b => ?_, fun s a b => ?_, hp.2.2.2.2⟩
    · rw [j11 _ (by omega) (by omega) (by omega)]; exact hp.1 g a b
    · rw [j11 _ (by omega) (by omega) (by omega)]; exact hp.2.1 g a b
    · rw [j11 _ (by omega) (by omega) (by omega)]; exact hp.2.2.1 j a b
    · rw [j11 _ (by omega) (by omega) (by omega)]; exact hp.2.2.2.1 s (by omega) b
  · have hi1 := hi.1
    by_cases c4 : S' 2 (P 6 0) = 4
    · obtain ⟨-, b1, b2⟩ := u9 c4
      refine ⟨?_, fun N hN => ?_⟩
      · rw [b2]; split <;> omega
      · have hk := hi.2 N hN
        have e : m' 19 0 < N ↔ m 19 0 < N ∧ P' 9 (P 6 0) < N := by rw [b2]; split <;> omega
        rw [e, hk, hP 3 (by decide), hP 4 (by decide), hP 5 (by decide), p6]
        constructor
        · rintro ⟨⟨k1, k2⟩, k3⟩
          refine ⟨k1, fun s a b q => ?_⟩
          by_cases c : s = P 6 0
          · rw [c]; exact k3
          · rw [p9 s c]; rw [u4 s c] at q; exact k2 s a (by omega) q
        · rintro ⟨k1, k2⟩
          refine ⟨⟨k1, fun s a b q => ?_⟩, k2 _ (by omega) (by omega) c4⟩
          rw [← p9 s (by omega)]
          exact k2 s a (by omega) (by rw [u4 s (by omega)]; exact q)
    · obtain ⟨-, b2⟩ := u10 c4
      refine ⟨by rw [b2]; exact hi1, fun N hN => ?_⟩
      have hk := hi.2 N hN
      rw [b2, hk, hP 3 (by decide), hP 4 (by decide), hP 5 (by decide), p6]
      constructor
      · rintro ⟨k1, k2⟩
        refine ⟨k1, fun s a b q => ?_⟩
        by_cases c : s = P 6 0
        · rw [c] at q; exact absurd q c4
        · rw [p9 s c]; rw [u4 s c] at q; exact k2 s a (by omega) q
      · rintro ⟨k1, k2⟩
        refine ⟨k1, fun s a b q => ?_⟩
        rw [← p9 s (by omega)]
        exact k2 s a (by omega) (by rw [u4 s (by omega)]; exact q)
/-- one more shower -/
theorem rf_rain (h : rg_A R P S m) (hn : P 10 0 < 3) (hx : 1 ≤ n ∧ n ≤ 12) (h5 : R' 5 = R 5) (hm : ∀ f : Nat, f ≠ 11 ∧ f ≠ 16 ∧ (f < 24 ∨ 29 < f) → m' f = m f) (h16 : m' 16 = ob_u m 16 3 (P 10 0 + 1) 16) (hj : ∀ j : Int, (j < 34 + 13 * P 10 0 ∨ 34 + 13 * P 10 0 + 13 ≤ j) → m' 11 j = m 11 j) (h11 : m' 11 (34 + 13 * P 10 0) = n) (hent : ∀ i : Int, 0 ≤ i → i < n → m' 11 (34 + 13 * P 10 0 + 1 + i) = S' (20 + (P 10 0).toNat) i ∧ 0 ≤ S' (20 + (P 10 0).toNat) i ∧ S' (20 + (P 10 0).toNat) i ≤ 9) (hS : ∀ f : Nat, f ≠ 3 → f ≠ 20 + (P 10 0).toNat → S' f = S f) (hS3 : S' 3 = ob_u S 3 (P 10 0) n 3) (hP : ∀ f : Nat, f ≠ 10 → P' f = P f) (p10 : P' 10 0 = P 10 0 + 1) : rg_A R' P' S' m' := by
  obtain ⟨hc, hr, hg, hs, hw', ht, hz, ho, hp, hh, hi⟩ := h
  have c10 := hc.2.2.2.1.2
  have s0 : S' 0 = S 0 := hS 0 (by decide) (by omega)
  have s1 : S' 1 = S 1 := hS 1 (by decide) (by omega)
  have s2 : S' 2 = S 2 := hS 2 (by decide) (by omega)
  have s5 : S' 5 = S 5 := hS 5 (by decide) (by omega)
  have s6 : S' 6 = S 6 := hS 6 (by decide) (by omega)
  refine ⟨?_, fr_r hr (hm 12 (by decide)) (hP 0 (by decide)) (hP 1 (by decide)) (hP 2 (by decide)), fr_g hg (hm 13 (by decide)) (hP 3 (by decide)) (hP 4 (by decide)) (hP 5 (by decide)), fr_s hs hc.2.2.1.2.2 (hm 14 (by decide)) (fun j _ _ => hj j (by omega)) (hP 6 (by decide)) (hP 7 (by decide)) (hP 8 (by decide)) (hP 9 (by decide)) s2, ?_, fr_t ht (fun j _ _ => hj j (by omega)) s5 s6, fr_z hz (hm 15 (by decide)) (hP 11 (by decide)) (hP 12 (by decide)) (hP 13 (by decide)) (hP 14 (by decide)), fr_o ho (hm 17 (by decide)) (hm 20 (by decide)) (hP 15 (by decide)) h5 s6, fr_p hp hc.2.1.2 hc.2.2.1.2.1 (fun j _ => hj j (by omega)) (hP 3 (by decide)) (hP 6 (by decide)) s0 s1, fr_h hh (hm 18 (by decide)) (hP 0 (by decide)) (hP 2 (by decide)) (hP 3 (by decide)) (hP 4 (by decide)) (hP 5 (by decide)), fr_i hi (hm 19 (by decide)) (hP 3 (by decide)) (hP 4 (by decide)) (hP 5 (by decide)) (hP 6 (by decide)) (hP 9 (by decide)) s2⟩
  · unfold rf_c at hc ⊢
    rw [h16, p10, hP 0 (by decide), hP 3 (by decide), hP 6 (by decide), hP 11 (by decide), ou_s, ou_i (by decide), ou_i (by decide), ou_i (by decide), ou_i (by decide)]
    exact ⟨hc.1, hc.2.1, hc.2.2.1, ⟨rfl, by omega, by omega⟩, hc.2.2.2.2⟩
  · intro w a b
    rw [p10] at b
    rw [hS3, ou_a]
    by_cases c : w = P 10 0
    · rw [c, if_pos rfl]
      exact ⟨h11, hx, hent⟩
    · have hq := hw' w a (by omega)
      rw [if_neg c, hj _ (by omega), hS (20 + w.toNat) (by omega) (by omega)]
      refine ⟨hq.1, hq.2.1, fun i x y => ?_⟩
      rw [hj _ (by omega)]
      exact hq.2.2 i x y
/-- the tune -/
theorem rf_tune (h : rg_A R P S m) (h0 : S 6 0 = 0) (hx : 1 ≤ n ∧ n ≤ 12) (h5 : R' 5 = R 5) (hm : ∀ f : Nat, f ≠ 11 ∧ f ≠ 20 ∧ (f < 24 ∨ 29 < f) → m' f = m f) (h20 : m' 20 0 = m 20 0 + 32) (hj : ∀ j : Int, (j < 73 ∨ 86 ≤ j) → m' 11 j = m 11 j) (h11 : m' 11 73 = n) (hent : ∀ i : Int, 0 ≤ i → i < n → m' 11 (73 + 1 + i) = S' 5 i ∧ 0 ≤ S' 5 i ∧ S' 5 i ≤ 255) (hS : ∀ f : Nat, f ≠ 5 → f ≠ 6 → S' f = S f) (hS6 : S' 6 0 = n) : rg_A R' P S' m' := by
  obtain ⟨hc, hr, hg, hs, hw', ht, hz, ho, hp, hh, hi⟩ := h
  refine ⟨fr_c hc (hm 16 (by decide)) rfl rfl rfl rfl rfl, fr_r hr (hm 12 (by decide)) rfl rfl rfl, fr_g hg (hm 13 (by decide)) rfl rfl rfl, fr_s hs hc.2.2.1.2.2 (hm 14 (by decide)) (fun j _ _ => hj j (by omega)) rfl rfl rfl rfl (hS 2 (by decide) (by decide)), fr_w hw' hc.2.2.2.1.2.2 (fun j _ _ => hj j (by omega)) rfl (fun f q => hS f (by omega) (by omega)), ?_, fr_z hz (hm 15 (by decide)) rfl rfl rfl rfl, ?_, fr_p hp hc.2.1.2 hc.2.2.1.2.1 (fun j _ => hj j (by omega)) rfl rfl (hS 0 (by decide) (by decide)) (hS 1 (by decide) (by decide)), fr_h hh (hm 18 (by decide)) rfl rfl rfl rfl rfl, fr_i hi (hm 19 (by decide)) rfl rfl rfl rfl rfl (hS 2 (by decide) (by decide))⟩
  · unfold rf_t
    rw [hS6]
    exact ⟨by omega, h11, hent⟩
  · unfold rf_o at ho ⊢
    have e1 : (if 0 < S 6 0 then (32 : Int) else 0) = 0 := if_neg (by omega)
    have e2 : (if 0 < n then (32 : Int) else 0) = 32 := if_pos (by omega)
    rw [hm 17 (by decide), h20, h5, hS6, e2]
    have h4 := ho.2.2.2
    rw [e1] at h4
    exact ⟨ho.1, ho.2.1, ho.2.2.1, by omega⟩
/-- one more sleeper -/
theorem rf_slp (h : rg_A R P S m) (hn : P 11 0 < 4) (hx : 0 ≤ x ∧ x ≤ y ∧ y ≤ 11) (hz' : 1 ≤ z ∧ z ≤ 99) (h5 : R' 5 = R 5) (hm : ∀ f : Nat, f ≠ 15 ∧ f ≠ 16 ∧ (f < 24 ∨ 29 < f) → m' f = m f) (h15 : m' 15 = ob_u (ob_u (ob_u m 15 (3 * P 11 0) x) 15 (3 * P 11 0 + 1) y) 15 (3 * P 11 0 + 2) z 15) (h16 : m' 16 = ob_u m 16 4 (P 11 0 + 1) 16) (hP : ∀ f : Nat, f ≠ 11 ∧ f ≠ 12 ∧ f ≠ 13 ∧ f ≠ 14 → P' f = P f) (p11 : P' 11 0 = P 11 0 + 1) (p12 : P' 12 = ob_u P 12 (P 11 0) x 12) (p13 : P' 13 = ob_u P 13 (P 11 0) y 13) (p14 : P' 14 = ob_u P 14 (P 11 0) z 14) : rg_A R' P' S m' := by
  obtain ⟨hc, hr, hg, hs, hw', ht, hz, ho, hp, hh, hi⟩ := h
  have m11 : m' 11 = m 11 := hm 11 (by decide)
  have c11 := hc.2.2.2.2.2
  refine ⟨?_, fr_r hr (hm 12 (by decide)) (hP 0 (by decide)) (hP 1 (by decide)) (hP 2 (by decide)), fr_g hg (hm 13 (by decide)) (hP 3 (by decide)) (hP 4 (by decide)) (hP 5 (by decide)), fr_s hs hc.2.2.1.2.2 (hm 14 (by decide)) (fun j _ _ => by rw [m11]) (hP 6 (by decide)) (hP 7 (by decide)) (hP 8 (by decide)) (hP 9 (by decide)) rfl, fr_w hw' hc.2.2.2.1.2.2 (fun j _ _ => by rw [m11]) (hP 10 (by decide)) (fun _ _ => rfl), fr_t ht (fun j _ _ => by rw [m11]) rfl rfl, ?_, fr_o ho (hm 17 (by decide)) (hm 20 (by decide)) (hP 15 (by decide)) h5 rfl, fr_p hp hc.2.1.2 hc.2.2.1.2.1 (fun j _ => by rw [m11]) (hP 3 (by decide)) (hP 6 (by decide)) rfl rfl, fr_h hh (hm 18 (by decide)) (hP 0 (by decide)) (hP 2 (by decide)) (hP 3 (by decide)) (hP 4 (by decide)) (hP 5 (by decide)), fr_i hi (hm 19 (by decide)) (hP 3 (by decide)) (hP 4 (by decide)) (hP 5 (by decide)) (hP 6 (by decide)) (hP 9 (by decide)) rfl⟩
  · unfold rf_c at hc ⊢
    rw [h16, p11, hP 0 (by decide), hP 3 (by decide), hP 6 (by decide), hP 10 (by decide), ou_s, ou_i (by decide), ou_i (by decide), ou_i (by decide), ou_i (by decide)]
    exact ⟨hc.1, hc.2.1, hc.2.2.1, hc.2.2.2.1, ⟨rfl, by omega, by omega⟩⟩
  · intro k a b
    rw [p11] at b
    by_cases c : k = P 11 0
    · refine ⟨?_, ?_, ?_, ?_⟩
      · rw [c, h15, p12, ou_i (by omega), ou_i (by omega), ou_s, ou_s]
      · rw [c, h15, p13, ou_i (by omega), ou_s, ou_s]
      · rw [c, h15, p14, ou_s, ou_s]
      · rw [c, p12, p13, p14, ou_s, ou_s, ou_s]; omega
    · have hq := hz k a (by omega)
      rw [h15, p12, p13, p14, ou_i (i' := 3 * k) (by omega), ou_i (i' := 3 * k) (by omega), ou_i (i' := 3 * k) (by omega), ou_i (i' := 3 * k + 1) (by omega), ou_i (i' := 3 * k + 1) (by omega), ou_i (i' := 3 * k + 1) (by omega), ou_i (i' := 3 * k + 2) (by omega), ou_i (i' := 3 * k + 2) (by omega), ou_i (i' := 3 * k + 2) (by omega), ou_i c, ou_i c, ou_i c]
      exact hq
/-- wear -/
theorem rf_wear (h : rg_A R P S m) (h0 : R 5 0 = 0) (hv : 0 ≤ v ∧ v ≤ 999) (h5 : R' 5 0 = 1) (hm : ∀ f : Nat, f ≠ 17 ∧ f ≠ 20 ∧ (f < 24 ∨ 29 < f) → m' f = m f) (h17 : m' 17 0 = v) (h20 : m' 20 0 = m 20 0 + 64) (hP : ∀ f : Nat, f ≠ 15 → P' f = P f) (p15 : P' 15 0 = v) : rg_A R' P' S m' := by
  obtain ⟨hc, hr, hg, hs, hw', ht, hz, ho, hp, hh, hi⟩ := h
  have m11 : m' 11 = m 11 := hm 11 (by decide)
  refine ⟨fr_c hc (hm 16 (by decide)) (hP 0 (by decide)) (hP 3 (by decide)) (hP 6 (by decide)) (hP 10 (by decide)) (hP 11 (by decide)), fr_r hr (hm 12 (by decide)) (hP 0 (by decide)) (hP 1 (by decide)) (hP 2 (by decide)), fr_g hg (hm 13 (by decide)) (hP 3 (by decide)) (hP 4 (by decide)) (hP 5 (by decide)), fr_s hs hc.2.2.1.2.2 (hm 14 (by decide)) (fun j _ _ => by rw [m11]) (hP 6 (by decide)) (hP 7 (by decide)) (hP 8 (by decide)) (hP 9 (by decide)) rfl, fr_w hw' hc.2.2.2.1.2.2 (fun j _ _ => by rw [m11]) (hP 10 (by decide)) (fun _ _ => rfl), fr_t ht (fun j _ _ => by rw [m11]) rfl rfl, fr_z hz (hm 15 (by decide)) (hP 11 (by decide)) (hP 12 (by decide)) (hP 13 (by decide)) (hP 14 (by decide)), ?_, fr_p hp hc.2.1.2 hc.2.2.1.2.1 (fun j _ => by rw [m11]) (hP 3 (by decide)) (hP 6 (by decide)) rfl rfl, fr_h hh (hm 18 (by decide)) (hP 0 (by decide)) (hP 2 (by decide)) (hP 3 (by decide)) (hP 4 (by decide)) (hP 5 (by decide)), fr_i hi (hm 19 (by decide)) (hP 3 (by decide)) (hP 4 (by decide)) (hP 5 (by decide)) (hP 6 (by decide)) (hP 9 (by decide)) rfl⟩
  unfold rf_o at ho ⊢
  rw [h17, h20, h5, p15, ho.2.2.2, h0]
  exact ⟨rfl, hv, Or.inr rfl, by omega⟩
end th
