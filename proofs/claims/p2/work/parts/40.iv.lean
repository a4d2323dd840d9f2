/-! what holds between two calls: the class's objects against the reference's -/
def mr_S (e : Int) (P S m : ob_O) : Prop := mr_W e P S m ∧ (∀ s : Int, 0 ≤ s → s < P 6 0 → ((S 2 s = 0 ∨ S 2 s = 5) → m 0 (e + (18 + s)) = 0) ∧ (S 2 s ≠ 4 → m 0 (e + (26 + s)) = -4)) ∧ (∀ w : Int, 0 ≤ w → w < P 10 0 → m 0 (e + (34 + 13 * w)) = S 3 w ∧ ∀ i : Int, 0 ≤ i → i < S 3 w → m 0 (e + (34 + 13 * w + 1 + i)) = S (20 + w.toNat) i) ∧ m 0 (e + 73) = S 6 0 ∧ (∀ i : Int, 0 ≤ i → i < S 6 0 → m 0 (e + (74 + i)) = S 5 i)
/-- a page: a setup and a flow -/
def iv_I (n : Nat) (e : Int) (P S F m : ob_O) : Prop := so_S P S ∧ mr_S e P S m ∧ so_B (3888 * n) (24000000 * n) F ∧ mr_F e P F m
def iv_p (Z : dz_Z) : Nat := (Z 0 2 0).toNat
def iv_s (Z : dz_Z) : Nat := (Z 0 3 0).toNat
def iv_R (o0 o1 : ob_O) : Prop := ((o0 2 0 = 25 ∧ o1 1 0 = 4) ∨ (o0 2 0 = 4 ∧ o1 1 0 = 25)) ∧ ((o0 3 0 = 36 ∧ o1 2 0 = 15) ∨ (o0 3 0 = 15 ∧ o1 2 0 = 36))
def iv_by (b u : Int) : Prop := (-128 ≤ b ∧ b ≤ 127) ∧ u = b % 256
def iv_T (T m : ob_O) : Prop := (0 ≤ T 1 0 ∧ T 1 0 ≤ 320) ∧ m 22 0 = T 1 0 ∧ (∀ i : Int, 0 ≤ i → i < T 1 0 → iv_by (T 0 i) (m 21 i))
def iv_h (H : ob_O) (m : ob_O) (k : Int) : Prop := (H 2 0 = -1 ∧ m 42 k = -4) ∨ ((0 ≤ H 2 0 ∧ H 2 0 ≤ 40) ∧ m 42 k = H 1 0 ∧ (0 ≤ H 1 0 ∧ H 1 0 ≤ 2) ∧ m 43 k = H 2 0 ∧ (∀ i : Int, 0 ≤ i → i < 40 → (-2147483648 ≤ H 0 i ∧ H 0 i ≤ 2147483647) ∧ m 44 (40 * k + i) = H 0 i))
def iv_G (n : Nat) (P I S F m : ob_O) (k : Nat) : Prop := I 2 0 = m 41 k ∧ (m 41 k = 0 ∨ (m 41 k = 1 ∧ iv_I n (140 * ((k : Int) + 1)) P S F m))
/-- behind n calls -/
def iv (n : Nat) (Z : dz_Z) (m : ob_O) : Prop := iv_R (Z 0) (Z 1) ∧ so_P (Z (iv_p Z)) ∧ mr_P (Z (iv_p Z)) m ∧ iv_I n 0 (Z (iv_p Z)) (Z (iv_s Z)) (Z 46) m ∧ (iv_G n (Z (iv_p Z)) (Z 68) (Z 69) (Z 79) m 0 ∧ iv_G n (Z (iv_p Z)) (Z 87) (Z 88) (Z 98) m 1) ∧ iv_T (Z 2) m ∧ (iv_h (Z 106) m 0 ∧ iv_h (Z 108) m 1 ∧ iv_h (Z 110) m 2 ∧ iv_h (Z 112) m 3) ∧ Z 0 10 0 = m 45 0 ∧ m 30 = dz_0 114 30 ∧ m 31 = dz_0 114 31
def iv_Z (n : Nat) (Z : dz_Z) : Prop := iv n Z (Z 114)
section ivs
variable {n n' : Nat} {Z Z' : dz_Z} {e : Int} {P S F m m' I H T : ob_O} {k : Nat} {j : Int}
theorem iv_isP (h : iv_R (Z 0) (Z 1)) : hz_isP (iv_p Z) := by unfold iv_p hz_isP; unfold iv_R at h; omega
theorem iv_isS (h : iv_R (Z 0) (Z 1)) : hz_isS (iv_s Z) := by unfold iv_s hz_isS; unfold iv_R at h; omega
theorem iv_s2 (h : iv_R (Z 0) (Z 1)) : iv_s Z = 36 ∨ iv_s Z = 15 := by unfold iv_s; unfold iv_R at h; omega
theorem iv_p2 (h : iv_R (Z 0) (Z 1)) : iv_p Z = 25 ∨ iv_p Z = 4 := by unfold iv_p; unfold iv_R at h; omega
theorem sB_m {B H B' H' : Int} {o : ob_O} (h : so_B B H o) (h1 : B ≤ B') (h2 : H ≤ H') : so_B B' H' o := ⟨fun i a b => by have := h.1 i a b; exact ⟨this.1, this.2.1, this.2.2.1, this.2.2.2.1, by omega⟩, by have := h.2; omega⟩
theorem iv_In (h : iv_I n e P S F m) (hn : n ≤ n') : iv_I n' e P S F m := ⟨h.1, h.2.1, sB_m h.2.2.1 (by omega) (by omega), h.2.2.2⟩
theorem iv_n (h : iv n Z m) (hn : n ≤ n') : iv n' Z m := by
  obtain ⟨h1, h2, h3, h4, ⟨h5, h6⟩, h7⟩ := h
  refine ⟨h1, h2, h3, iv_In h4 hn, ⟨⟨h5.1, ?_⟩, ⟨h6.1, ?_⟩⟩, h7⟩
  · rcases h5.2 with a | a
    · exact Or.inl a
    · exact Or.inr ⟨a.1, iv_In a.2 hn⟩
  · rcases h6.2 with a | a
    · exact Or.inl a
    · exact Or.inr ⟨a.1, iv_In a.2 hn⟩
theorem mrW_m (h : mr_W e P S m) (hP : so_P P) (hj : ∀ j : Int, e ≤ j → j < e + 86 → m' 0 j = m 0 j) : mr_W e P S m' := by
  have h3 := hP.2.2.1
  have h6 := hP.2.2.2.2.1
  refine ⟨fun g a b => ?_, fun g a b => ?_, fun s a b => ?_⟩
  · rw [hj _ (by omega) (by omega)]; exact h.1 g a b
  · rw [hj _ (by omega) (by omega)]; exact h.2.1 g a b
  · rw [hj (e + (10 + s)) (by omega) (by omega), hj (e + (18 + s)) (by omega) (by omega), hj (e + (26 + s)) (by omega) (by omega)]; exact h.2.2 s a b
theorem mrS_m (h : mr_S e P S m) (hP : so_P P) (hS : so_S P S) (hj : ∀ j : Int, e ≤ j → j < e + 86 → m' 0 j = m 0 j) : mr_S e P S m' := by
  have h6 := hP.2.2.2.2.1
  have h10 := hP.2.2.2.2.2.2.1
  refine ⟨mrW_m h.1 hP hj, fun s a b => ?_, fun w a b => ?_, ?_, fun i a b => ?_⟩
  · rw [hj (e + (18 + s)) (by omega) (by omega), hj (e + (26 + s)) (by omega) (by omega)]; exact h.2.1 s a b
  · have := (hS.2.2.2.1 w a b).1
    refine ⟨?_, fun i c d => ?_⟩
    · rw [hj _ (by omega) (by omega)]; exact (h.2.2.1 w a b).1
    · rw [hj _ (by omega) (by omega)]; exact (h.2.2.1 w a b).2 i c d
  · rw [hj _ (by omega) (by omega)]; exact h.2.2.2.1
  · have := hS.2.2.2.2.1
    rw [hj _ (by omega) (by omega)]; exact h.2.2.2.2 i a b
theorem mrF_m (h : mr_F e P F m) (hj : ∀ j : Int, e + 86 ≤ j → j < e + 138 → m' 0 j = m 0 j) : mr_F e P F m' := by
  refine ⟨fun i a b => ?_, ?_, ?_, ?_, ?_⟩
  · rw [hj (e + 86 + i) (by omega) (by omega), hj (e + 94 + i) (by omega) (by omega), hj (e + 102 + i) (by omega) (by omega), hj (e + 110 + i) (by omega) (by omega), hj (e + 126 + i) (by omega) (by omega), hj (e + 118 + i) (by omega) (by omega)]; exact h.1 i a b
  · rw [hj _ (by omega) (by omega)]; exact h.2.1
  · rw [hj _ (by omega) (by omega)]; exact h.2.2.1
  · rw [hj _ (by omega) (by omega)]; exact h.2.2.2.1
  · rw [hj _ (by omega) (by omega)]; exact h.2.2.2.2
theorem iv_Im (h : iv_I n e P S F m) (hP : so_P P) (hj : ∀ j : Int, e ≤ j → j < e + 138 → m' 0 j = m 0 j) : iv_I n e P S F m' := ⟨h.1, mrS_m h.2.1 hP h.1 (fun j a b => hj j a (by omega)), h.2.2.1, mrF_m h.2.2.2 (fun j a b => hj j (by omega) b)⟩
theorem mrP_m (h : mr_P P m) (hf : ∀ f : Nat, 1 ≤ f → f ≤ 10 → m' f = m f) : mr_P P m' := by
  unfold mr_P
  rw [hf 1 (by decide) (by decide), hf 2 (by decide) (by decide), hf 3 (by decide) (by decide), hf 4 (by decide) (by decide), hf 5 (by decide) (by decide), hf 6 (by decide) (by decide), hf 7 (by decide) (by decide), hf 8 (by decide) (by decide), hf 9 (by decide) (by decide), hf 10 (by decide) (by decide)]
  exact h
theorem iv_Gm (h : iv_G n P I S F m k) (hP : so_P P) (hk : k < 2) (h41 : m' 41 = m 41) (hj : ∀ j : Int, 140 ≤ j → j < 420 → m' 0 j = m 0 j) : iv_G n P I S F m' k := by
  unfold iv_G
  rw [h41]
  refine ⟨h.1, ?_⟩
  rcases h.2 with a | a
  · exact Or.inl a
  · exact Or.inr ⟨a.1, iv_Im a.2 hP (fun j c d => hj j (by omega) (by omega))⟩
theorem iv_hm (h : iv_h H m j) (h42 : m' 42 = m 42) (h43 : m' 43 = m 43) (h44 : m' 44 = m 44) : iv_h H m' j := by
  unfold iv_h
  rw [h42, h43, h44]
  exact h
theorem iv_Tm (h : iv_T T m) (h21 : m' 21 = m 21) (h22 : m' 22 = m 22) : iv_T T m' := by
  unfold iv_T
  rw [h21, h22]
  exact h
/-- a new setup and a new flow on the current page; objects that nobody looks at between calls may change -/
theorem iv_pg (h : iv n Z m) (hn : n ≤ n') (hZ : ∀ b : Nat, b ≠ 46 → b ≠ 54 → b ≠ 55 → b ≠ 65 → b ≠ 114 → b ≠ iv_s Z → Z' b = Z b) (hI : iv_I n' 0 (Z (iv_p Z)) (Z' (iv_s Z)) (Z' 46) m') (hf : ∀ f : Nat, f ≠ 0 → (f < 32 ∨ 40 < f) → m' f = m f) (hj : ∀ j : Int, 140 ≤ j → j < 420 → m' 0 j = m 0 j) : iv n' Z' m' := by
  obtain ⟨h1, h2, h3, h4, ⟨h5, h6⟩, h7, ⟨h8, h9, h10, h11⟩, h12, h13, h14⟩ := iv_n h hn
  have hs := iv_s2 h1
  have hp := iv_p2 h1
  have z0 : Z' 0 = Z 0 := hZ 0 (by decide) (by decide) (by decide) (by decide) (by decide) (by omega)
  have z1 : Z' 1 = Z 1 := hZ 1 (by decide) (by decide) (by decide) (by decide) (by decide) (by omega)
  have ep : iv_p Z' = iv_p Z := by unfold iv_p; rw [z0]
  have es : iv_s Z' = iv_s Z := by unfold iv_s; rw [z0]
  have zp : Z' (iv_p Z) = Z (iv_p Z) := hZ _ (by omega) (by omega) (by omega) (by omega) (by omega) (by omega)
  unfold iv
  rw [ep, es, z0, z1, zp, hZ 68 (by decide) (by decide) (by decide) (by decide) (by decide) (by omega), hZ 69 (by decide) (by decide) (by decide) (by decide) (by decide) (by omega), hZ 79 (by decide) (by decide) (by decide) (by decide) (by decide) (by omega), hZ 87 (by decide) (by decide) (by decide) (by decide) (by decide) (by omega), hZ 88 (by decide) (by decide) (by decide) (by decide) (by decide) (by omega), hZ 98 (by decide) (by decide) (by decide) (by decide) (by decide) (by omega), hZ 2 (by decide) (by decide) (by decide) (by decide) (by decide) (by omega), hZ 106 (by decide) (by decide) (by decide) (by decide) (by decide) (by omega), hZ 108 (by decide) (by decide) (by decide) (by decide) (by decide) (by omega), hZ 110 (by decide) (by decide) (by decide) (by decide) (by decide) (by omega), hZ 112 (by decide) (by decide) (by decide) (by decide) (by decide) (by omega), hf 45 (by decide) (by decide), hf 30 (by decide) (by decide), hf 31 (by decide) (by decide)]
  exact ⟨h1, h2, mrP_m h3 (fun f a b => hf f (by omega) (by omega)), hI, ⟨iv_Gm h5 h2 (by decide) (hf 41 (by decide) (by decide)) hj, iv_Gm h6 h2 (by decide) (hf 41 (by decide) (by decide)) hj⟩, iv_Tm h7 (hf 21 (by decide) (by decide)) (hf 22 (by decide) (by decide)), ⟨iv_hm h8 (hf 42 (by decide) (by decide)) (hf 43 (by decide) (by decide)) (hf 44 (by decide) (by decide)), iv_hm h9 (hf 42 (by decide) (by decide)) (hf 43 (by decide) (by decide)) (hf 44 (by decide) (by decide)), iv_hm h10 (hf 42 (by decide) (by decide)) (hf 43 (by decide) (by decide)) (hf 44 (by decide) (by decide)), iv_hm h11 (hf 42 (by decide) (by decide)) (hf 43 (by decide) (by decide)) (hf 44 (by decide) (by decide))⟩, h12, h13, h14⟩
end ivs
section iv0
theorem z0_z {b f : Nat} (h : dz_lk b f dz_n = []) : dz_0 b f = fun _ => 0 := by
  funext i
  unfold dz_0
  rw [h]
  split
  · rfl
  · rfl
theorem sm_zz {g : Int → Int} (h : g = fun _ => 0) (k : Nat) : so_sm g k = 0 := by rw [h, sm_z]
/-- at the start -/
theorem iv_0 : iv 0 dz_0 (dz_0 114) := by
  have p : iv_p dz_0 = 25 := by decide
  have s : iv_s dz_0 = 36 := by decide
  have e25 : ∀ f, dz_0 25 f = fun _ => 0 := fun f => z0_z rfl
  have e36 : ∀ f, dz_0 36 f = fun _ => 0 := fun f => z0_z rfl
  have e46 : ∀ f, dz_0 46 f = fun _ => 0 := fun f => z0_z rfl
  have e2 : ∀ f, dz_0 2 f = fun _ => 0 := fun f => z0_z rfl
  have m0 : dz_0 114 0 = fun _ => 0 := z0_z (by decide)
  have m1 : ∀ f, f ≤ 10 → dz_0 114 f = fun _ => 0 := fun f hf => z0_z (by
    have : f = 0 ∨ f = 1 ∨ f = 2 ∨ f = 3 ∨ f = 4 ∨ f = 5 ∨ f = 6 ∨ f = 7 ∨ f = 8 ∨ f = 9 ∨ f = 10 := by omega
    rcases this with rfl | rfl | rfl | rfl | rfl | rfl | rfl | rfl | rfl | rfl | rfl <;> decide)
  unfold iv
  rw [p, s]
  refine ⟨by unfold iv_R; decide, ?_, ?_, ⟨?_, ?_, ?_, ?_⟩, ⟨⟨by decide, Or.inl (by decide)⟩, ⟨by decide, Or.inl (by decide)⟩⟩, ?_, ⟨Or.inl (by decide), Or.inl (by decide), Or.inl (by decide), Or.inl (by decide)⟩, by decide, rfl, rfl⟩
  · unfold so_P
    simp only [e25]
    refine ⟨by decide, fun r a b => absurd b (by omega), by decide, fun r a b => absurd b (by omega), by decide, fun r a b => absurd b (by omega), by decide, by decide, fun r a b => absurd b (by omega), by decide⟩
  · unfold mr_P
    rw [m1 1 (by decide), m1 2 (by decide), m1 3 (by decide), m1 4 (by decide), m1 5 (by decide), m1 6 (by decide)]
    simp only [e25]
    refine ⟨(by trivial), fun r a b => absurd b (by omega), (by trivial), fun r a b => absurd b (by omega), (by trivial), fun r a b => absurd b (by omega), (by trivial), (by trivial), fun r a b => absurd b (by omega), (by trivial)⟩
  · unfold so_S
    simp only [e25, e36]
    refine ⟨fun r a b => absurd b (by omega), fun g _ _ => Or.inl (by trivial), fun r a b => absurd b (by omega), fun r a b => absurd b (by omega), by decide, fun r a b => absurd b (by omega)⟩
  · unfold mr_S mr_W
    simp only [e25, e36, m0]
    refine ⟨⟨fun r a b => absurd b (by omega), fun g _ _ => (by trivial), fun r a b => absurd b (by omega)⟩, fun r a b => absurd b (by omega), fun r a b => absurd b (by omega), (by trivial), fun r a b => absurd b (by omega)⟩
  · unfold so_B
    simp only [e46]
    refine ⟨fun i _ _ => by decide, ?_⟩
    rw [sm_z]
    decide
  · unfold mr_F
    simp only [e25, e46, m0]
    refine ⟨fun i a b => ⟨(by trivial), (by trivial), (by trivial), (by trivial), (by trivial), ?_, fun _ => ⟨(by trivial), (by trivial)⟩⟩, (by trivial), (by trivial), (by trivial), (by trivial)⟩
    rw [if_neg (by omega)]
  · unfold iv_T
    simp only [e2]
    refine ⟨by decide, by decide, fun i a b => absurd b (by omega)⟩
end iv0
