/-! read -/
def so_ft (H : ob_O) (la a3 : Int) (t : Nat) : Int := if H 2 0 = -1 then 1 else if la ≠ H 1 0 then 3 else if a3 + t < 0 ∨ H 2 0 ≤ a3 + t then 2 else 0
section py
variable {n : Nat} {P S o m m' H : ob_O} {w a1 a2 a3 a4 f la : Int} {Z Y Z' W : dz_Z} {R : Int → Int}
theorem dz_cw {x : Int} (h : 2147483647 < x) (h' : x ≤ 4294967295) : dz_c x = x - 4294967296 := by
  have e : dz_c x = dz_c (x - 4294967296) := by
    unfold dz_c
    rw [Int32.toInt_ofInt, Int32.toInt_ofInt]
    unfold Int.bmod
    have : (x - 4294967296) % ((Int32.size : Nat) : Int) = x % ((Int32.size : Nat) : Int) := by
      show (x - 4294967296) % 4294967296 = x % 4294967296
      omega
    rw [this]
  rw [e]
  exact dz_ci (by omega) (by omega)
theorem iv_to (h : iv n Z m) (hb : ∀ b : Nat, b ≠ 0 → b ≠ 114 → W b = Z b) (hw : W 0 = ob_u (Z 0) 10 0 f) (hm : m' = ob_u m 45 0 f) : iv n W m' := by
  obtain ⟨h1, h2, h3, h4, ⟨h5, h6⟩, h7, ⟨h8, h9, h10, h11⟩, h12, h13, h14⟩ := h
  have hs := iv_s2 h1
  have hp := iv_p2 h1
  have w2 : W 0 2 = Z 0 2 := by rw [hw, ou_ff (by decide)]
  have w3 : W 0 3 = Z 0 3 := by rw [hw, ou_ff (by decide)]
  have ep : iv_p W = iv_p Z := by unfold iv_p; rw [w2]
  have es : iv_s W = iv_s Z := by unfold iv_s; rw [w3]
  have z : ∀ b : Nat, 0 < b → b < 114 → W b = Z b := fun b a a' => hb b (by omega) (by omega)
  have mf : ∀ g : Nat, g ≠ 45 → m' g = m g := fun g a => by rw [hm, ou_ff a]
  have mj : ∀ j : Int, m' 0 j = m 0 j := fun j => by rw [mf 0 (by decide)]
  unfold iv
  rw [ep, es, z 1 (by decide) (by decide), z (iv_p Z) (by omega) (by omega), z (iv_s Z) (by omega) (by omega), z 46 (by decide) (by decide), z 68 (by decide) (by decide), z 69 (by decide) (by decide), z 79 (by decide) (by decide), z 87 (by decide) (by decide), z 88 (by decide) (by decide), z 98 (by decide) (by decide), z 2 (by decide) (by decide), z 106 (by decide) (by decide), z 108 (by decide) (by decide), z 110 (by decide) (by decide), z 112 (by decide) (by decide), mf 30 (by decide), mf 31 (by decide)]
  have r : iv_R (W 0) (Z 1) := by unfold iv_R; rw [w2, w3]; exact h1
  exact ⟨r, h2, mrP_m h3 (fun g a b => mf g (by omega)), iv_Im h4 h2 (fun j _ _ => mj j), ⟨iv_Gm h5 h2 (by decide) (mf 41 (by decide)) (fun j _ _ => mj j), iv_Gm h6 h2 (by decide) (mf 41 (by decide)) (fun j _ _ => mj j)⟩, iv_Tm h7 (mf 21 (by decide)) (mf 22 (by decide)), ⟨iv_hm h8 (mf 42 (by decide)) (mf 43 (by decide)) (mf 44 (by decide)), iv_hm h9 (mf 42 (by decide)) (mf 43 (by decide)) (mf 44 (by decide)), iv_hm h10 (mf 42 (by decide)) (mf 43 (by decide)) (mf 44 (by decide)), iv_hm h11 (mf 42 (by decide)) (mf 43 (by decide)) (mf 44 (by decide))⟩, by rw [hw, hm, ou_s, ou_s], h13, h14⟩
theorem ft_e (hH : iv_h H m a1) {t : Nat} (c3 : dz_c a3 = a3) (ht : t ≤ 12) : (if H 2 0 = -1 then (1 : Int) else if la ≠ H 1 0 then 3 else if dz_c (a3 + t) < 0 ∨ H 2 0 ≤ dz_c (a3 + t) then 2 else 0) = so_ft H la a3 t := by
  unfold so_ft
  by_cases a : H 2 0 = -1
  · rw [if_pos a, if_pos a]
  · rw [if_neg a, if_neg a]
    by_cases b : la ≠ H 1 0
    · rw [if_pos b, if_pos b]
    · rw [if_neg b, if_neg b]
      have hb := dz_cb a3
      rw [c3] at hb
      have h40 : H 2 0 ≤ 40 := by
        rcases hH with x | x
        · exact absurd x.1 a
        · omega
      by_cases c : a3 + (t : Int) ≤ 2147483647
      · rw [dz_ci (by omega) c]
      · rw [dz_cw (by omega) (by omega), if_pos (by omega), if_pos (by omega)]
theorem ft_m (hH : iv_h H m a1) {t : Nat} {K : Int → Prop} (k : K (so_ft H la a3 t)) (c3 : dz_c a3 = a3) (ct : dz_c (t : Int) = t) : dz_p (if dz_c (m 42 a1) ≠ (-4) then (if dz_c (m 42 a1) = la then (if 0 ≤ (dz_c a3) + (dz_c (t : Int)) ∧ (dz_c a3) + (dz_c (t : Int)) ≤ dz_c ((m 43 a1) - 1) then (some 0) else (some 2)) else (some 3)) else (some 1)) K := by
  unfold so_ft at k
  rcases hH with x | x
  · rw [if_pos x.1] at k
    rw [x.2]
    exact dp_no (by decide) (dp_sm k)
  · rw [if_neg (by omega)] at k
    rw [x.2.1, x.2.2.2.1, dc_ir (x := H 1 0) (by omega) (by omega), dz_ci (x := H 2 0 - 1) (by omega) (by omega), c3, ct]
    refine dp_ck (by omega) (dp_br (fun a => dp_br (fun b => dp_sm ?_) (fun b => dp_sm ?_)) (fun a => dp_sm ?_))
    · rw [if_neg (by omega), if_neg (by omega)] at k; exact k
    · rw [if_neg (by omega), if_pos (by omega)] at k; exact k
    · rw [if_pos (by omega)] at k; exact k
/-- how far the reading goes -/
theorem rd_t (g : Nat → Prop) [DecidablePred g] : ∀ N : Nat, ∃ t : Nat, t ≤ N ∧ (∀ i : Nat, i < t → g i) ∧ (t = N ∨ ¬ g t)
  | 0 => ⟨0, Nat.le_refl _, fun i hi => absurd hi (by omega), Or.inl rfl⟩
  | N + 1 => by
    obtain ⟨t, h1, h2, h3⟩ := rd_t g N
    by_cases e : t = N ∧ g N
    · refine ⟨N + 1, Nat.le_refl _, fun i hi => ?_, Or.inl rfl⟩
      by_cases q : i = N
      · rw [q]; exact e.2
      · exact h2 i (by omega)
    · refine ⟨t, by omega, h2, Or.inr ?_⟩
      rcases h3 with q | q
      · intro hg
        exact e ⟨q, q ▸ hg⟩
      · exact q
theorem rd_B (hP : so_P P) (hS : so_S P S) (hn : n < 512) (hB : so_B (3888 * n) (24000000 * n) o) : ∀ k : Nat, k ≤ 12 → (∀ i : Nat, i < k → 0 ≤ R i ∧ R i ≤ 9) → so_B (3888 * n + 324 * k) (24000000 * n + 2000000 * k) (pf_o P S R o k)
  | 0, _, _ => sB_m hB (by omega) (by omega)
  | k + 1, hk, hR => by
    have ih := rd_B hP hS hn hB k (by omega) (fun i hi => hR i (by omega))
    have := sc_sec (v := R k) hP hS (hR k (by omega)) ih (by omega)
    exact sB_m this.1 (by omega) (by omega)
theorem ft_0 {t : Nat} (hH : iv_h H m a1) (h : so_ft H la a3 t = 0) : (0 ≤ a3 + t ∧ a3 + t < 40) ∧ (∀ i : Int, 0 ≤ i → i < 40 → (-2147483648 ≤ H 0 i ∧ H 0 i ≤ 2147483647) ∧ m 44 (40 * a1 + i) = H 0 i) := by
  unfold so_ft at h
  by_cases a : H 2 0 = -1
  · rw [if_pos a] at h; omega
  · rw [if_neg a] at h
    by_cases b : la ≠ H 1 0
    · rw [if_pos b] at h; omega
    · rw [if_neg b] at h
      by_cases c : a3 + (t : Int) < 0 ∨ H 2 0 ≤ a3 + t
      · rw [if_pos c] at h; omega
      · rcases hH with x | x
        · exact absurd x.1 a
        · exact ⟨by omega, x.2.2.2.2⟩
theorem rp_cls {t : Nat} {Q : (Int × Int) ⊕ (Int × dz_Z) → Prop} (h : iv_Z n Z) (ht : t ≤ 12) (ha : 0 ≤ a1 ∧ a1 < 4) (hg : ∀ i : Nat, i < t → 0 ≤ a3 + i ∧ a3 + i < 40) (k : Q (Sum.inr ((t : Int), ob_z (ob_z Z 46 (pf_o (Z (iv_p Z)) (Z (iv_s Z)) (fun i => Z (106 + 2 * a1.toNat) 0 (a3 + i)) (Z 46) t)) 0 (ob_u (Z 0) 10 0 f)))) : dz_p (dz_lp (fun (s10 : Int × dz_Z) => (if dz_c (t : Int) ≤ dz_c s10.1 then (dz_a (dz_u s10.2 0 10 0 f) fun Z12 => some (Sum.inr (Sum.inr ((t : Int), Z12)))) else (if hz_isP (s10.2 0 2 0).toNat then if hz_isS (s10.2 0 3 0).toNat then if 0 ≤ dz_c (a3 + s10.1) ∧ dz_c (a3 + s10.1) < 40 then Option.bind (jf_F_passSecond 46 ((s10.2 0 2 0).toNat) ((s10.2 0 3 0).toNat) (s10.2 (106 + 2 * Int.toNat a1) 0 (dz_c (a3 + s10.1))) s10.2) fun q16 => some (Sum.inl (s10.1 + 1, q16.2)) else none else none else none) : Option ((Int × dz_Z) ⊕ ((Int × Int) ⊕ (Int × dz_Z))))) 5000 (0, Z)) Q := by
  have hp := iv_isP h.1
  have hs := iv_isS h.1
  have hs2 := iv_s2 h.1
  have hp2 := iv_p2 h.1
  have hS := h.2.2.2.1.1
  have et : dz_c (t : Int) = t := dc_ir (by omega) (by omega)
  refine dp_lp (fun k q => ∃ r : Nat, r + k = t ∧ q = ((r : Int), ob_z Z 46 (pf_o (Z (iv_p Z)) (Z (iv_s Z)) (fun i => Z (106 + 2 * a1.toNat) 0 (a3 + i)) (Z 46) r))) ?_ 5000 t (0, Z) (by omega) ⟨0, by omega, by show _ = (_, ob_z Z 46 (Z 46)); rw [oz_i]; rfl⟩
  rintro k1 _ ⟨r, hr, rfl⟩
  have er : dz_c (r : Int) = r := dc_ir (by omega) (by omega)
  generalize hF : pf_o (Z (iv_p Z)) (Z (iv_s Z)) (fun i => Z (106 + 2 * a1.toNat) 0 (a3 + i)) (Z 46) r = F
  have z0 : ob_z Z 46 F 0 = Z 0 := oz_n (by decide)
  have zh : ob_z Z 46 F (106 + 2 * a1.toNat) = Z (106 + 2 * a1.toNat) := oz_n (by omega)
  have zp : ob_z Z 46 F (iv_p Z) = Z (iv_p Z) := oz_n (by omega)
  have zs : ob_z Z 46 F (iv_s Z) = Z (iv_s Z) := oz_n (by omega)
  simp only [et, er, z0, zh, show (Z 0 3 0).toNat = iv_s Z from rfl, show (Z 0 2 0).toNat = iv_p Z from rfl]
  by_cases hk : r = t
  · refine dp_ck (by omega) (dp_le (dp_sm ?_))
    rw [oz_u, z0, ← hF, hk]
    exact k
  · have := hg r (by omega)
    have e3 : dz_c (a3 + (r : Int)) = a3 + r := dc_ir (by omega) (by omega)
    rw [e3]
    refine dp_no (by omega) (dp_ck hp (dp_ck hs (dp_ck (by omega) ?_)))
    have hc := cf_sec (F := 46) (p := iv_p Z) (q := iv_s Z) (Z := ob_z Z 46 F) (v := Z (106 + 2 * a1.toNat) 0 (a3 + r)) (Or.inl rfl) hp hs (by rw [zp]; exact h.2.1) (by rw [zp, zs]; exact hS)
    rw [zp, zs, oz_s, oz_z] at hc
    refine dp_bi (dp_eq hc (dp_sm ⟨k1 - 1, by omega, r + 1, by omega, ?_⟩))
    rw [← hF]
    rfl
theorem rp_ref {t : Nat} {Q : (Int × Int) ⊕ (Int × dz_Z) → Prop} (hP : so_P P) (hS : so_S P S) (rP : mr_P P m) (rW : mr_W 0 P S m) (rF : mr_F 0 P o m) (hn : n < 512) (hB : so_B (3888 * n) (24000000 * n) o) (ht : t ≤ 12) (ha : 0 ≤ a1 ∧ a1 < 4) (hg : ∀ i : Nat, i < t → (0 ≤ a3 + i ∧ a3 + i < 40) ∧ m 44 (40 * a1 + (a3 + i)) = R i ∧ 0 ≤ R i ∧ R i ≤ 9) (k : ∀ m' : ob_O, mr_F 0 P (pf_o P S R o t) m' → (∀ f : Nat, f ≠ 0 → f ≠ 32 → f ≠ 33 → f ≠ 34 → m' f = m f) → (∀ j : Int, (j < 86 ∨ 138 ≤ j) → m' 0 j = m 0 j) → Q (Sum.inr ((t : Int), ob_z Y 114 (ob_u m' 45 0 f)))) : dz_p (dz_lp (fun (s6 : Int × dz_Z) => (if dz_c (t : Int) ≤ dz_c s6.1 then (dz_a (dz_u s6.2 114 45 0 f) fun Z8 => some (Sum.inr (Sum.inr ((t : Int), Z8)))) else (if 0 ≤ dz_c (((40 * a1) + a3) + s6.1) ∧ dz_c (((40 * a1) + a3) + s6.1) < 160 then Option.bind (jf_M_second 0 (s6.2 114 44 (dz_c (((40 * a1) + a3) + s6.1))) s6.2) fun q10 => some (Sum.inl (s6.1 + 1, q10.2)) else none) : Option ((Int × dz_Z) ⊕ ((Int × Int) ⊕ (Int × dz_Z))))) 5000 (0, ob_z Y 114 m)) Q := by
  have et : dz_c (t : Int) = t := dc_ir (by omega) (by omega)
  refine dp_lp (fun k q => ∃ (r : Nat) (m' : ob_O), r + k = t ∧ q = ((r : Int), ob_z Y 114 m') ∧ mr_F 0 P (pf_o P S R o r) m' ∧ (∀ f : Nat, f ≠ 0 → f ≠ 32 → f ≠ 33 → f ≠ 34 → m' f = m f) ∧ (∀ j : Int, (j < 86 ∨ 138 ≤ j) → m' 0 j = m 0 j)) ?_ 5000 t (0, ob_z Y 114 m) (by omega) ⟨0, m, by omega, rfl, rF, fun _ _ _ _ _ => rfl, fun _ _ => rfl⟩
  rintro k1 _ ⟨r, m', hr, rfl, i1, i2, i3⟩
  have er : dz_c (r : Int) = r := dc_ir (by omega) (by omega)
  simp only [et, er, oz_s]
  by_cases hk : r = t
  · refine dp_ck (by omega) (dp_le (dp_sm ?_))
    rw [oz_uz]
    rw [hk] at i1
    exact k m' i1 i2 i3
  · obtain ⟨g1, g2, g3⟩ := hg r (by omega)
    have e3 : dz_c (40 * a1 + a3 + (r : Int)) = 40 * a1 + (a3 + r) := by rw [dc_ir (by omega) (by omega)]; omega
    rw [e3, i2 44 (by decide) (by decide) (by decide) (by decide), g2]
    have hb := rd_B hP hS hn hB r (by omega) (fun i hi => (hg i (by omega)).2.2)
    refine dp_no (by omega) (dp_ck (by omega) (dp_bi (mf_sec (e := 0) (Or.inl rfl) hP hS g3 hb (by omega) (by omega) (mrP_m rP (fun f a b => i2 f (by omega) (by omega) (by omega) (by omega))) (mrW_m rW hP (fun j a b => i3 j (by omega))) i1 (fun m2 f1 f2 f3 => dp_sm ⟨k1 - 1, by omega, r + 1, m2, by omega, rfl, f1, fun f a b c d => by rw [f2 f a b c d, i2 f a b c d], fun j a => by rw [f3 j (by omega), i3 j a]⟩))))
theorem rm_ref {t : Nat} (hH : iv_h H m a1) (c1 : dz_c a1 = a1) (c2 : dz_c a2 = a2) (c3 : dz_c a3 = a3) (c4 : dz_c a4 = a4) (hP : so_P P) (hS : so_S P S) (rP : mr_P P m) (rW : mr_W 0 P S m) (rF : mr_F 0 P o m) (hn : n < 512) (hB : so_B (3888 * n) (24000000 * n) o) (ha : 0 ≤ a1 ∧ a1 < 4) (hl : 0 ≤ a2 ∧ a2 < 3) (h4 : 0 ≤ a4 ∧ a4 ≤ 12) (ht : (t : Int) ≤ a4) (hg : ∀ i : Nat, i < t → so_ft H a2 a3 i = 0 ∧ 0 ≤ H 0 (a3 + i) ∧ H 0 (a3 + i) ≤ 9) (he : (t : Int) = a4 ∨ ¬ (so_ft H a2 a3 t = 0 ∧ 0 ≤ H 0 (a3 + t) ∧ H 0 (a3 + t) ≤ 9)) {K : Int × dz_Z → Prop} (kA : ∀ f : Int, (((t : Int) = a4 ∧ f = 0) ∨ ((t : Int) < a4 ∧ f = so_ft H a2 a3 t ∧ f ≠ 0)) → ∀ m' : ob_O, mr_F 0 P (pf_o P S (fun i => H 0 (a3 + i)) o t) m' → (∀ f : Nat, f ≠ 0 → f ≠ 32 → f ≠ 33 → f ≠ 34 → m' f = m f) → (∀ j : Int, (j < 86 ∨ 138 ≤ j) → m' 0 j = m 0 j) → K ((t : Int), ob_z Y 114 (ob_u m' 45 0 f))) (kB : (t : Int) < a4 → so_ft H a2 a3 t = 0 → K (-20 - (t : Int), ob_z Y 114 m)) : dz_p (jf_M_read a1 a2 a3 a4 (ob_z Y 114 m)) K := by
  unfold jf_M_read
  rw [c1, c2, c4]
  have hgo : ∀ i : Nat, i < t → (0 ≤ a3 + i ∧ a3 + i < 40) ∧ m 44 (40 * a1 + (a3 + i)) = H 0 (a3 + i) ∧ 0 ≤ H 0 (a3 + i) ∧ H 0 (a3 + i) ≤ 9 := fun i hi => by
    have q := hg i hi
    have q2 := ft_0 hH q.1
    exact ⟨q2.1, (q2.2 _ q2.1.1 q2.1.2).2, q.2⟩
  refine dp_no (by omega) (dp_no (by omega) (dp_ck (by omega) ?_))
  refine dp_lp (fun k q => (∃ r : Nat, r ≤ t ∧ r + k = t + 1 ∧ q = (0, (r : Int))) ∨ (q = (so_ft H a2 a3 t, (t : Int)) ∧ (t : Int) < a4 ∧ so_ft H a2 a3 t ≠ 0)) ?_ 5000 (t + 1) (0, 0) (by omega) (Or.inl ⟨0, by omega, by omega, rfl⟩)
  have eft : dz_c (so_ft H a2 a3 t) = so_ft H a2 a3 t := by
    unfold so_ft
    repeat' split
    all_goals decide
  rintro k1 _ (⟨r, hr, hk, rfl⟩ | ⟨rfl, hlt, hf⟩)
  · have er : dz_c (r : Int) = r := dc_ir (by omega) (by omega)
    by_cases hrt : r = t
    · subst hrt
      by_cases h4' : (r : Int) = a4
      · refine dp_ck (by dsimp only; omega) ?_
        exact rp_ref (f := 0) hP hS rP rW rF hn hB (by omega) ha hgo (fun m' x1 x2 x3 => kA 0 (Or.inl ⟨h4', rfl⟩) m' x1 x2 x3)
      · refine dp_no (by dsimp only; omega) (dp_no (by show ¬ dz_c 0 ≠ 0; decide) (dp_ck (by omega) (dp_bi ?_)))
        dsimp only
        rw [oz_s]
        refine ft_m hH ?_ c3 er
        rw [eft]
        refine dp_br (fun hf => dp_ck hf (dp_sm ?_)) (fun hf => ?_)
        · exact ⟨0, by omega, Or.inr ⟨by rw [Int.add_zero], by omega, hf⟩⟩
        · have hf0 : so_ft H a2 a3 r = 0 := by omega
          have q2 := ft_0 hH hf0
          have e3 : dz_c (40 * a1 + a3 + (r : Int)) = 40 * a1 + (a3 + r) := by rw [dc_ir (by omega) (by omega)]; omega
          have q3 := q2.2 _ q2.1.1 q2.1.2
          rw [e3, q3.2, dz_ci q3.1.1 q3.1.2]
          rcases he with he | he
          · exact absurd he h4'
          · exact dp_ck (by omega) (dp_no (fun q => he ⟨hf0, q⟩) (dp_sm (kB (by omega) hf0)))
    · obtain ⟨g1, g2, g3⟩ := hg r (by omega)
      refine dp_no (by dsimp only; omega) (dp_no (by show ¬ dz_c 0 ≠ 0; decide) (dp_ck (by omega) (dp_bi ?_)))
      dsimp only
      rw [oz_s]
      refine ft_m hH ?_ c3 er
      have q2 := ft_0 hH g1
      have e3 : dz_c (40 * a1 + a3 + (r : Int)) = 40 * a1 + (a3 + r) := by rw [dc_ir (by omega) (by omega)]; omega
      have q3 := q2.2 _ q2.1.1 q2.1.2
      rw [g1, e3, q3.2, dz_ci q3.1.1 q3.1.2]
      exact dp_no (by decide) (dp_ck (by omega) (dp_ck ⟨g2, g3⟩ (dp_no (by decide) (dp_sm ⟨k1 - 1, by omega, Or.inl ⟨r + 1, by omega, by omega, rfl⟩⟩))))
  · have er : dz_c (t : Int) = t := dc_ir (by omega) (by omega)
    refine dp_no (by dsimp only; omega) (dp_ck (by dsimp only; rw [eft]; exact hf) ?_)
    exact rp_ref (f := so_ft H a2 a3 t) hP hS rP rW rF hn hB (by omega) ha hgo (fun m' x1 x2 x3 => kA _ (Or.inr ⟨hlt, rfl, hf⟩) m' x1 x2 x3)
theorem rd_r (c1 : dz_c a1 = a1) : jf_O_isRain a1 = some (decide (0 ≤ a1 ∧ a1 ≤ 9)) := by
  unfold jf_O_isRain
  rw [c1]
  by_cases a : a1 < 0
  · rw [if_pos a, decide_eq_false (by omega)]
  · rw [if_neg a]
    by_cases b : 9 < a1
    · rw [if_pos b, decide_eq_false (by omega)]
    · rw [if_neg b, decide_eq_true (by omega)]
theorem op_read (h : iv_Z n Z) (hn : n < 512) (c1 : dz_c a1 = a1) (c2 : dz_c a2 = a2) (c3 : dz_c a3 = a3) (c4 : dz_c a4 = a4) : dz_p (jf_O_read a1 a2 a3 a4 Z) (fun q => dz_p (jf_M_read a1 a2 a3 a4 q.2) (fun q' => iv_Z (n + 1) q'.2 ∧ dz_c q.1 = dz_c q'.1)) := by
  have hs2 := iv_s2 h.1
  have rP := h.2.2.1
  obtain ⟨hS, rS, hB, rF⟩ := h.2.2.2.1
  have bad : ¬((0 ≤ a1 ∧ a1 < 4) ∧ (0 ≤ a2 ∧ a2 < 3) ∧ (0 ≤ a4 ∧ a4 ≤ 12)) → dz_p (jf_M_read a1 a2 a3 a4 Z) (fun q' => iv_Z (n + 1) q'.2 ∧ dz_c (-1) = dz_c q'.1) := by
    intro hv
    unfold jf_M_read
    rw [c1, c2, c4]
    exact dp_br (fun _ => dp_sm ⟨iv_nx h, rfl⟩) (fun x => dp_br (fun _ => dp_sm ⟨iv_nx h, rfl⟩) (fun y => dp_no (by omega) (dp_sm ⟨iv_nx h, rfl⟩)))
  unfold jf_O_read
  refine dp_bi (dp_eq (sh_is c1) ?_)
  simp only [decide_eq_false_iff_not, c1]
  refine dp_br (fun a => dp_sm (bad (by omega))) (fun a => dp_bi (dp_eq (ln_is c2) ?_))
  simp only [decide_eq_false_iff_not, c4]
  refine dp_br (fun b => dp_sm (bad (by omega))) (fun b => dp_br (fun c => dp_sm (bad (by omega))) (fun c => dp_br (fun d => dp_ck (by omega) ?_) (fun d => dp_sm (bad (by omega)))))
  have ha : 0 ≤ a1 ∧ a1 < 4 := by omega
  have hH := iv_sh h ha
  obtain ⟨t, ht, hg, he⟩ := rd_t (fun i : Nat => so_ft (Z (106 + 2 * a1.toNat)) a2 a3 i = 0 ∧ 0 ≤ Z (106 + 2 * a1.toNat) 0 (a3 + i) ∧ Z (106 + 2 * a1.toNat) 0 (a3 + i) ≤ 9) a4.toNat
  have hgo : ∀ i : Nat, i < t → 0 ≤ a3 + i ∧ a3 + i < 40 := fun i hi => (ft_0 hH (hg i hi).1).1
  have he' : (t : Int) = a4 ∨ ¬ (so_ft (Z (106 + 2 * a1.toNat)) a2 a3 t = 0 ∧ 0 ≤ Z (106 + 2 * a1.toNat) 0 (a3 + t) ∧ Z (106 + 2 * a1.toNat) 0 (a3 + t) ≤ 9) := by
    rcases he with q | q
    · exact Or.inl (by omega)
    · exact Or.inr q
  have eft : ∀ t : Nat, dz_c (so_ft (Z (106 + 2 * a1.toNat)) a2 a3 t) = so_ft (Z (106 + 2 * a1.toNat)) a2 a3 t := by
    intro t
    unfold so_ft
    repeat' split
    all_goals decide
  have hfa : ∀ r : Nat, r ≤ 12 → jf_H_faultAt (106 + 2 * a1.toNat) a2 (a3 + (r : Int)) Z = some (so_ft (Z (106 + 2 * a1.toNat)) a2 a3 r) := fun r hr => by
    rw [hf_at hH rfl c2, ft_e hH c3 hr]
  -- the reference, behind a reading
  have modA : ∀ f : Int, (((t : Int) = a4 ∧ f = 0) ∨ ((t : Int) < a4 ∧ f = so_ft (Z (106 + 2 * a1.toNat)) a2 a3 t ∧ f ≠ 0)) → dz_p (jf_M_read a1 a2 a3 a4 (ob_z (ob_z Z 46 (pf_o (Z (iv_p Z)) (Z (iv_s Z)) (fun i => Z (106 + 2 * a1.toNat) 0 (a3 + i)) (Z 46) t)) 0 (ob_u (Z 0) 10 0 f))) (fun q' => iv_Z (n + 1) q'.2 ∧ dz_c (t : Int) = dz_c q'.1) := by
    intro f hf
    generalize hF : pf_o (Z (iv_p Z)) (Z (iv_s Z)) (fun i => Z (106 + 2 * a1.toNat) 0 (a3 + i)) (Z 46) t = F
    have y114 : ob_z (ob_z Z 46 F) 0 (ob_u (Z 0) 10 0 f) 114 = Z 114 := by rw [oz_n (by decide), oz_n (by decide)]
    have ey : ob_z (ob_z Z 46 F) 0 (ob_u (Z 0) 10 0 f) = ob_z (ob_z (ob_z Z 46 F) 0 (ob_u (Z 0) 10 0 f)) 114 (Z 114) := by rw [← y114]; exact oz_i.symm
    rw [ey]
    refine rm_ref hH c1 c2 c3 c4 h.2.1 hS rP rS.1 rF hn hB ha (by omega) (by omega) (by omega) hg he' (fun f' hf' m' x1 x2 x3 => ⟨?_, rfl⟩) (fun q1 q2 => by rcases hf with q | q; exact absurd q.1 (by omega); exact absurd (q.2.1.trans q2) q.2.2)
    have ef : f' = f := by
      rcases hf with q | q
      · rcases hf' with q' | q'
        · rw [q.2, q'.2]
        · omega
      · rcases hf' with q' | q'
        · omega
        · rw [q.2.1, q'.2.1]
    rw [ef]
    have hb := rd_B (R := fun i => Z (106 + 2 * a1.toNat) 0 (a3 + i)) h.2.1 hS hn hB t (by omega) (fun i hi => (hg i hi).2)
    rw [hF] at hb x1
    have i1 : iv_Z (n + 1) (ob_z (ob_z Z 46 F) 114 m') := by
      refine iv_fin h (fun b h46 _ _ _ h114 _ => by rw [oz_n h114, oz_n h46]) ?_ ?_ ?_
      · rw [oz_s, oz_n (show iv_s Z ≠ 114 by omega), oz_n (show iv_s Z ≠ 46 by omega), oz_n (show (46 : Nat) ≠ 114 by decide), oz_s]
        exact ⟨hS, mrS_m rS h.2.1 hS (fun j _ _ => x3 j (by omega)), sB_m hb (by omega) (by omega), x1⟩
      · intro f a b; rw [oz_s, x2 f a (by omega) (by omega) (by omega)]
      · intro j a b; rw [oz_s, x3 j (by omega)]
    unfold iv_Z at i1 ⊢
    dsimp only
    rw [oz_s] at i1 ⊢
    refine iv_to i1 (fun b b0 b114 => ?_) ?_ rfl
    · rw [oz_n b114, oz_n b114, oz_n b0]
    · rw [oz_n (show (0 : Nat) ≠ 114 by decide), oz_s, oz_n (show (0 : Nat) ≠ 114 by decide), oz_n (show (0 : Nat) ≠ 46 by decide)]
  have modB : (t : Int) < a4 → so_ft (Z (106 + 2 * a1.toNat)) a2 a3 t = 0 → dz_p (jf_M_read a1 a2 a3 a4 Z) (fun q' => iv_Z (n + 1) q'.2 ∧ dz_c (-20 - (t : Int)) = dz_c q'.1) := by
    intro q1 q2
    have ey : Z = ob_z Z 114 (Z 114) := oz_i.symm
    rw [ey]
    refine rm_ref hH c1 c2 c3 c4 h.2.1 hS rP rS.1 rF hn hB ha (by omega) (by omega) (by omega) hg he' (fun f' hf' m' x1 x2 x3 => by rcases hf' with q | q; exact absurd q.1 (by omega); exact absurd (q.2.1.trans q2) q.2.2) (fun _ _ => ⟨?_, rfl⟩)
    dsimp only
    rw [← ey]
    exact iv_nx h
  refine dp_lp (fun k q => (∃ r : Nat, r ≤ t ∧ r + k = t + 1 ∧ q = ((r : Int), 0)) ∨ (q = ((t : Int), so_ft (Z (106 + 2 * a1.toNat)) a2 a3 t) ∧ (t : Int) < a4 ∧ so_ft (Z (106 + 2 * a1.toNat)) a2 a3 t ≠ 0)) ?_ 5000 (t + 1) (0, 0) (by omega) (Or.inl ⟨0, by omega, by omega, rfl⟩)
  rintro k1 _ (⟨r, hr, hk, rfl⟩ | ⟨rfl, hlt, hf⟩)
  · have er : dz_c (r : Int) = r := dc_ir (by omega) (by omega)
    by_cases hrt : r = t
    · subst hrt
      by_cases h4' : (r : Int) = a4
      · refine dp_ck (by dsimp only; omega) ?_
        exact rp_cls (f := 0) h (by omega) ha hgo (modA 0 (Or.inl ⟨h4', rfl⟩))
      · refine dp_no (by dsimp only; omega) (dp_no (by show ¬ dz_c 0 ≠ 0; decide) (dp_bi (dp_eq (hfa r (by omega)) ?_)))
        rw [eft]
        refine dp_br (fun hf => dp_sm ⟨0, by omega, Or.inr ⟨rfl, by omega, hf⟩⟩) (fun hf => ?_)
        have hf0 : so_ft (Z (106 + 2 * a1.toNat)) a2 a3 r = 0 := by omega
        have q2 := ft_0 hH hf0
        have e3 : dz_c (a3 + (r : Int)) = a3 + r := dc_ir (by omega) (by omega)
        have q3 := q2.2 _ q2.1.1 q2.1.2
        dsimp only
        rw [e3]
        refine dp_ck (by omega) (dp_bi (dp_eq (rd_r (dz_ci q3.1.1 q3.1.2)) ?_))
        simp only [decide_eq_true_eq]
        rcases he' with he | he
        · exact absurd he h4'
        · exact dp_no (fun q => he ⟨hf0, q⟩) (dp_sm (modB (by omega) hf0))
    · obtain ⟨g1, g2, g3⟩ := hg r (by omega)
      refine dp_no (by dsimp only; omega) (dp_no (by show ¬ dz_c 0 ≠ 0; decide) (dp_bi (dp_eq (hfa r (by omega)) ?_)))
      have q2 := ft_0 hH g1
      have e3 : dz_c (a3 + (r : Int)) = a3 + r := dc_ir (by omega) (by omega)
      have q3 := q2.2 _ q2.1.1 q2.1.2
      dsimp only
      rw [g1, e3]
      refine dp_no (by decide) (dp_ck (by omega) (dp_bi (dp_eq (rd_r (dz_ci q3.1.1 q3.1.2)) ?_)))
      simp only [decide_eq_true_eq]
      exact dp_ck ⟨g2, g3⟩ (dp_sm ⟨k1 - 1, by omega, Or.inl ⟨r + 1, by omega, by omega, rfl⟩⟩)
  · have er : dz_c (t : Int) = t := dc_ir (by omega) (by omega)
    refine dp_no (by dsimp only; omega) (dp_ck (by dsimp only; rw [eft]; exact hf) ?_)
    exact rp_cls (f := so_ft (Z (106 + 2 * a1.toNat)) a2 a3 t) h (by omega) ha hgo (modA _ (Or.inr ⟨hlt, rfl, hf⟩))
end py
