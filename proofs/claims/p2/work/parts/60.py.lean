/-! read -/
def so_ft (H : ob_O) (la a3 : Int) (t : Nat) : Int := if H 2 0 = -1 then 1 else if la ≠ H 1 0 then 3 else if a3 + t < 0 ∨ H 2 0 ≤ a3 + t then 2 else 0
section py
variable {n : Nat} {P S o m m' H : ob_O} {w a1 a2 a3 a4 f la : Int} {Z Y Z' W : dz_Z} {R : Int → Int}
theorem dz_cw {x : Int} (h : 2147483647 < x) (h' : x ≤ 4294967295) : dz_c x = x - 4294967296 := by
  have e : dz_c x = dz_c (x - 4294967296) := by
    unfold dz_c
    rw [Int32.toInt_ofInt, Int32.toInt_ofInt]
    unfold Int.bmod
    have : (x - 4294967296) % ((Int32.size : Nat) : Int) = x % ((Int32.size : Nat) : Int) := by
      show (x - 4294967296) % 4294967296 = x % 4294967296
      omega
    rw [this]
  rw [e]
  exact dz_ci (by omega) (by omega)
theorem iv_to (h : iv n Z m) (hb : ∀ b : Nat, b ≠ 0 → b ≠ 114 → W b = Z b) (hw : W 0 = ob_u (Z 0) 10 0 f) (hm : m' = ob_u m 45 0 f) : iv n W m' := by
  obtain ⟨h1, h2, h3, h4, ⟨h5, h6⟩, h7, ⟨h8, h9, h10, h11⟩, h12, h13, h14⟩ := h
  have hs := iv_s2 h1
  have hp := iv_p2 h1
  have w2 : W 0 2 = Z 0 2 := by rw [hw, ou_ff (by decide)]
  have w3 : W 0 3 = Z 0 3 := by rw [hw, ou_ff (by decide)]
  have ep : iv_p W = iv_p Z := by unfold iv_p; rw [w2]
  have es : iv_s W = iv_s Z := by unfold iv_s; rw [w3]
  have z : ∀ b : Nat, 0 < b → b < 114 → W b = Z b := fun b a a' => hb b (by omega) (by omega)
  have mf : ∀ g : Nat, g ≠ 45 → m' g = m g := fun g a => by rw [hm, ou_ff a]
  have mj : ∀ j : Int, m' 0 j = m 0 j := fun j => by rw [mf 0 (by decide)]
  unfold iv
  rw [ep, es, z 1 (by decide) (by decide), z (iv_p Z) (by omega) (by omega), z (iv_s Z) (by omega) (by omega), z 46 (by decide) (by decide), z 68 (by decide) (by decide), z 69 (by decide) (by decide), z 79 (by decide) (by decide), z 87 (by decide) (by decide), z 88 (by decide) (by decide), z 98 (by decide) (by decide), z 2 (by decide) (by decide), z 106 (by decide) (by decide), z 108 (by decide) (by decide), z 110 (by decide) (by decide), z 112 (by decide) (by decide), mf 30 (by decide), mf 31 (by decide)]
  have r : iv_R (W 0) (Z 1) := by unfold iv_R; rw [w2, w3]; exact h1
  exact ⟨r, h2, mrP_m h3 (fun g a b => mf g (by omega)), iv_Im h4 h2 (fun j _ _ => mj j), ⟨iv_Gm h5 h2 (by decide) (mf 41 (by decide)) (fun j _ _ => mj j), iv_Gm h6 h2 (by decide) (mf 41 (by decide)) (fun j _ _ => mj j)⟩, iv_Tm h7 (mf 21 (by decide)) (mf 22 (by decide)), ⟨iv_hm h8 (mf 42 (by decide)) (mf 43 (by decide)) (mf 44 (by decide)), iv_hm h9 (mf 42 (by decide)) (mf 43 (by decide)) (mf 44 (by decide)), iv_hm h10 (mf 42 (by decide)) (mf 43 (by decide)) (mf 44 (by decide)), iv_hm h11 (mf 42 (by decide)) (mf 43 (by decide)) (mf 44 (by decide))⟩, by rw [hw, hm, ou_s, ou_s], h13, h14⟩
theorem ft_e (hH : iv_h H m a1) {t : Nat} (c3 : dz_c a3 = a3) (ht : t ≤ 12) : (if H 2 0 = -1 then (1 : Int) else if la ≠ H 1 0 then 3 else if dz_c (a3 + t) < 0 ∨ H 2 0 ≤ dz_c (a3 + t) then 2 else 0) = so_ft H la a3 t := by
  unfold so_ft
  by_cases a : H 2 0 = -1
  · rw [if_pos a, if_pos a]
  · rw [if_neg a, if_neg a]
    by_cases b : la ≠ H 1 0
    · rw [if_pos b, if_pos b]
    · rw [if_neg b, if_neg b]
      have hb := dz_cb a3
      rw [c3] at hb
      have h40 : H 2 0 ≤ 40 := by
        rcases hH with x | x
        · exact absurd x.1 a
        · omega
      by_cases c : a3 + (t : Int) ≤ 2147483647
      · rw [dz_ci (by omega) c]
      · rw [dz_cw (by omega) (by omega), if_pos (by omega), if_pos (by omega)]
theorem ft_m (hH : iv_h H m a1) (c2 : dz_c la = la) {t : Nat} {K : Int → Prop} (k : K (so_ft H la a3 t)) (c3 : dz_c a3 = a3) (ct : dz_c (t : Int) = t) : dz_p (if dz_c (m 42 a1) ≠ (-4) then (if dz_c (m 42 a1) = dz_c la then (if 0 ≤ (dz_c a3) + (dz_c (t : Int)) ∧ (dz_c a3) + (dz_c (t : Int)) ≤ dz_c ((m 43 a1) - 1) then (some 0) else (some 2)) else (some 3)) else (some 1)) K := by
  unfold so_ft at k
  rcases hH with x | x
  · rw [if_pos x.1] at k
    rw [x.2]
    exact dp_no (by decide) (dp_sm k)
  · rw [if_neg (by omega)] at k
    rw [x.2.1, x.2.2.2.1, dc_ir (x := H 1 0) (by omega) (by omega), dz_ci (x := H 2 0 - 1) (by omega) (by omega), c2, c3, ct]
    refine dp_ck (by omega) (dp_br (fun a => dp_br (fun b => dp_sm ?_) (fun b => dp_sm ?_)) (fun a => dp_sm ?_))
    · rw [if_neg (by omega), if_neg (by omega)] at k; exact k
    · rw [if_neg (by omega), if_pos (by omega)] at k; exact k
    · rw [if_pos (by omega)] at k; exact k
/-- how far the reading goes -/
theorem rd_t (g : Nat → Prop) [DecidablePred g] : ∀ N : Nat, ∃ t : Nat, t ≤ N ∧ (∀ i : Nat, i < t → g i) ∧ (t = N ∨ ¬ g t)
  | 0 => ⟨0, Nat.le_refl _, fun i hi => absurd hi (by omega), Or.inl rfl⟩
  | N + 1 => by
    obtain ⟨t, h1, h2, h3⟩ := rd_t g N
    by_cases e : t = N ∧ g N
    · refine ⟨N + 1, Nat.le_refl _, fun i hi => ?_, Or.inl rfl⟩
      by_cases q : i = N
      · rw [q]; exact e.2
      · exact h2 i (by omega)
    · refine ⟨t, by omega, h2, Or.inr ?_⟩
      rcases h3 with q | q
      · intro hg
        exact e ⟨q, q ▸ hg⟩
      · exact q
theorem rd_B (hP : so_P P) (hS : so_S P S) (hn : n < 512) (hB : so_B (3888 * n) (24000000 * n) o) : ∀ k : Nat, k ≤ 12 → (∀ i : Nat, i < k → 0 ≤ R i ∧ R i ≤ 9) → so_B (3888 * n + 324 * k) (24000000 * n + 2000000 * k) (pf_o P S R o k)
  | 0, _, _ => sB_m hB (by omega) (by omega)
  | k + 1, hk, hR => by
    have ih := rd_B hP hS hn hB k (by omega) (fun i hi => hR i (by omega))
    have := sc_sec (v := R k) hP hS (hR k (by omega)) ih (by omega)
    exact sB_m this.1 (by omega) (by omega)
end py
