/-! organ -/
def so_zf (Z : dz_Z) (p s : Nat) (R P S : ob_O) : dz_Z := dz_u (dz_u (rk Z p s R P S) 2 1 0 0) 0 9 0 (R 3 0)
/-- what the reference's take leaves -/
def so_mt (m mt : ob_O) : Prop := (∀ j : Int, 0 ≤ j → j < 140 → mt 0 j = m 11 j) ∧ (∀ j : Int, 140 ≤ j → mt 0 j = m 0 j) ∧ (∀ j : Int, 0 ≤ j → j < 8 → mt 7 j = m 12 j) ∧ (∀ j : Int, 0 ≤ j → j < 10 → mt 8 j = m 13 j) ∧ (∀ j : Int, 0 ≤ j → j < 8 → mt 9 j = m 14 j) ∧ (∀ j : Int, 0 ≤ j → j < 12 → mt 10 j = m 15 j) ∧ mt 1 0 = m 16 0 ∧ mt 2 0 = m 16 1 ∧ mt 3 0 = m 16 2 ∧ mt 4 0 = m 16 3 ∧ mt 5 0 = m 16 4 ∧ mt 6 0 = m 17 0 ∧ mt 41 0 = 0 ∧ mt 41 1 = 0 ∧ (∀ f : Nat, 10 < f → f ≠ 41 → mt f = m f)
/-- what the class's take leaves -/
def so_tw (W q : dz_Z) : Prop := q 0 2 0 = W 1 1 0 ∧ q 0 3 0 = W 1 2 0 ∧ q 1 1 0 = W 0 2 0 ∧ q 1 2 0 = W 0 3 0 ∧ (∀ f : Nat, f ≠ 2 → f ≠ 3 → q 0 f = W 0 f) ∧ q 46 = so_dry (W 46) ∧ q 68 2 0 = 0 ∧ q 87 2 0 = 0 ∧ (∀ b : Nat, b ≠ 0 → b ≠ 1 → b ≠ 46 → b ≠ 68 → b ≠ 87 → q b = W b)
section ub
variable {Z W Y : dz_Z} {p s n : Nat} {R R' P S T m m' m1 m2 mt : ob_O} {x : Int}
theorem rk_i (hp : p = 25 ∨ p = 4) (hs : s = 36 ∨ s = 15) : rk Z p s (Z 1) (Z p) (Z s) = Z := by
  funext b
  unfold rk
  by_cases h1 : b = 1
  · rw [if_pos h1, h1]
  · by_cases h2 : b = p
    · rw [if_neg h1, if_pos h2, h2]
    · by_cases h3 : b = s
      · rw [if_neg h1, if_neg h2, if_pos h3, h3]
      · rw [if_neg h1, if_neg h2, if_neg h3]
theorem rk_fs (hp : p = 25 ∨ p = 4) (hs : s = 36 ∨ s = 15) {f : Nat} {g : Int → Int} : dz_f (rk Z p s R P S) s f g = rk Z p s R P (ob_f S f g) := by
  rw [oz_f, rk_s hp hs]
  funext b
  unfold ob_z rk
  by_cases h : b = s
  · rw [if_pos h, if_neg (by omega), if_neg (by omega), if_pos h]
  · rw [if_neg h, if_neg h, if_neg h]
theorem bg_cls (hp : p = 25 ∨ p = 4) (hs : s = 36 ∨ s = 15) (hR1 : (R 1 0).toNat = p) (hR2 : (R 2 0).toNat = s) : jf_R_begin (rk Z p s R P S) = some (rk Z p s (ob_u (ob_u (ob_u (ob_u R 5 0 0) 3 0 0) 4 0 0) 6 0 0) (ob_u (ob_u (ob_u (ob_u (ob_u (ob_u P 0 0 0) 3 0 0) 6 0 0) 10 0 0) 11 0 0) 15 0 0) (ob_u (ob_f (ob_f S 0 (fun _ => 2)) 1 (fun _ => 0)) 6 0 0)) := by
  have hisP : hz_isP p := by unfold hz_isP; omega
  have hisS : hz_isS s := by unfold hz_isS; omega
  unfold jf_R_begin jf_P_forget jf_S_forget
  simp only [dz_a, rk_1, hR1, rk_up hp, Option.bind_some, hR2, rk_fs hp hs, rk_us hp hs, rk_u1, if_pos hisP, if_pos hisS]
theorem rg_0 (p0 : P 0 0 = 0) (p3 : P 3 0 = 0) (p6 : P 6 0 = 0) (p10 : P 10 0 = 0) (p11 : P 11 0 = 0) (p15 : P 15 0 = 0) (r5 : R 5 0 = 0) (s0 : S 0 = fun _ => 2) (s1 : S 1 = fun _ => 0) (s6 : S 6 0 = 0) (h16 : ∀ j : Int, 0 ≤ j → j < 5 → m 16 j = 0) (h11 : ∀ j : Int, 0 ≤ j → j < 140 → m 11 j = 0) (h17 : m 17 0 = 0) (h18 : m 18 0 = -1) (h19 : m 19 0 = -1) (h20 : m 20 0 = 0) : rg_A R P S m := by
  refine ⟨?_, fun r a b => by omega, fun r a b => by omega, fun r a b => by omega, fun r a b => by omega, ?_, fun r a b => by omega, ?_, ?_, ?_, ?_⟩
  · unfold rf_c
    rw [h16 0 (by decide) (by decide), h16 1 (by decide) (by decide), h16 2 (by decide) (by decide), h16 3 (by decide) (by decide), h16 4 (by decide) (by decide), p0, p3, p6, p10, p11]
    decide
  · unfold rf_t
    rw [s6, h11 73 (by decide) (by decide)]
    exact ⟨by decide, rfl, fun i a b => by omega⟩
  · unfold rf_o
    rw [h17, p15, r5, h20, s6]
    decide
  · refine ⟨fun g a b => by omega, fun g a b => h11 _ (by omega) (by omega), fun j a b => h11 _ (by omega) (by omega), fun j a b => h11 _ (by omega) (by omega), fun g a b => ?_⟩
    rw [s0, s1]
    exact ⟨rfl, rfl⟩
  · refine ⟨by rw [h18]; decide, fun N hN => ?_⟩
    rw [h18, p0, p3]
    exact ⟨fun _ => ⟨fun r a b => by omega, fun r a b => by omega⟩, fun _ => by omega⟩
  · refine ⟨by rw [h19]; decide, fun N hN => ?_⟩
    rw [h19, p3, p6]
    exact ⟨fun _ => ⟨fun r a b => by omega, fun r a b => by omega⟩, fun _ => by omega⟩
theorem zf_b {b : Nat} (h0 : b ≠ 0) (h1 : b ≠ 1) (h2 : b ≠ 2) (hp : b ≠ p) (hs : b ≠ s) : so_zf Z p s R P S b = Z b := by
  unfold so_zf
  rw [oz_u, oz_n h0, oz_u, oz_n h2, rk_n h1 hp hs]
theorem zf_p (hp : p = 25 ∨ p = 4) : so_zf Z p s R P S p = P := by
  unfold so_zf
  rw [oz_u, oz_n (by omega), oz_u, oz_n (by omega), rk_p hp]
theorem zf_s (hp : p = 25 ∨ p = 4) (hs : s = 36 ∨ s = 15) : so_zf Z p s R P S s = S := by
  unfold so_zf
  rw [oz_u, oz_n (by omega), oz_u, oz_n (by omega), rk_s hp hs]
theorem zf_1 : so_zf Z p s R P S 1 = R := by
  unfold so_zf
  rw [oz_u, oz_n (by omega), oz_u, oz_n (by omega), rk_1]
theorem zf_2 (hp : p = 25 ∨ p = 4) (hs : s = 36 ∨ s = 15) : so_zf Z p s R P S 2 1 0 = 0 := by
  unfold so_zf
  rw [oz_u, oz_n (by omega), oz_u, oz_s, ou_s]
theorem zf_0 (hp : p = 25 ∨ p = 4) (hs : s = 36 ∨ s = 15) {f : Nat} (h : f ≠ 9) : so_zf Z p s R P S 0 f = Z 0 f := by
  unfold so_zf
  rw [oz_u, oz_s, ou_ff h, oz_u, oz_n (by omega), rk_n (by omega) (by omega) (by omega)]
theorem zf_9 : so_zf Z p s R P S 0 9 0 = R 3 0 := by
  unfold so_zf
  rw [oz_u, oz_s, ou_s]
/-- a text with a fault changes nothing but the tape -/
theorem oF (h : iv_Z n Z) (hp : p = (Z 1 1 0).toNat) (hs : s = (Z 1 2 0).toNat) (hk : kp3 (Z 1) R) (hm : ke (Z 114) m) : iv_Z (n + 1) (ob_z (so_zf Z p s R P S) 114 (ob_u (ob_u m 22 0 0) 23 0 x)) := by
  have hR := h.1
  have hp2 : p = 25 ∨ p = 4 := by unfold iv_R at hR; omega
  have hs2 : s = 36 ∨ s = 15 := by unfold iv_R at hR; omega
  have hpp : iv_p Z ≠ p := by unfold iv_R at hR; unfold iv_p; omega
  have hss : iv_s Z ≠ s := by unfold iv_R at hR; unfold iv_s; omega
  have vp := iv_p2 hR
  have vs := iv_s2 hR
  have hmf : ∀ f : Nat, (f < 11 ∨ f = 21 ∨ 29 < f) → ob_u (ob_u m 22 0 0) 23 0 x f = Z 114 f := fun f q => by rw [ou_ff (by omega), ou_ff (by omega), hm f (by omega)]
  generalize hM : ob_u (ob_u m 22 0 0) 23 0 x = M at hmf
  have m22 : M 22 0 = 0 := by rw [← hM, ou_f (by decide), ou_s]
  have zb : ∀ b : Nat, b ≠ 0 → b ≠ 1 → b ≠ 2 → b ≠ p → b ≠ s → b ≠ 114 → ob_z (so_zf Z p s R P S) 114 M b = Z b := fun b a1 a2 a3 a4 a5 a6 => by rw [oz_n a6, zf_b a1 a2 a3 a4 a5]
  have z0 : ∀ f : Nat, f ≠ 9 → ob_z (so_zf Z p s R P S) 114 M 0 f = Z 0 f := fun f q => by rw [oz_n (by decide), zf_0 hp2 hs2 q]
  have z1 : ob_z (so_zf Z p s R P S) 114 M 1 = R := by rw [oz_n (by decide), zf_1]
  have z2 : ob_z (so_zf Z p s R P S) 114 M 2 1 0 = 0 := by rw [oz_n (by decide), zf_2 hp2 hs2]
  have ep : iv_p (ob_z (so_zf Z p s R P S) 114 M) = iv_p Z := by unfold iv_p; rw [z0 2 (by decide)]
  have es : iv_s (ob_z (so_zf Z p s R P S) 114 M) = iv_s Z := by unfold iv_s; rw [z0 3 (by decide)]
  obtain ⟨-, h2, h3, h4, ⟨h5, h6⟩, h7, ⟨h8, h9, h10, h11⟩, h12, h13, h14⟩ := iv_n h (show n ≤ n + 1 by omega)
  unfold iv_Z
  rw [oz_s]
  unfold iv
  rw [ep, es, zb (iv_p Z) (by omega) (by omega) (by omega) hpp (by omega) (by omega), zb (iv_s Z) (by omega) (by omega) (by omega) (by omega) hss (by omega), zb 46 (by decide) (by decide) (by decide) (by omega) (by omega) (by decide), zb 68 (by decide) (by decide) (by decide) (by omega) (by omega) (by decide), zb 69 (by decide) (by decide) (by decide) (by omega) (by omega) (by decide), zb 79 (by decide) (by decide) (by decide) (by omega) (by omega) (by decide), zb 87 (by decide) (by decide) (by decide) (by omega) (by omega) (by decide), zb 88 (by decide) (by decide) (by decide) (by omega) (by omega) (by decide), zb 98 (by decide) (by decide) (by decide) (by omega) (by omega) (by decide), zb 106 (by decide) (by decide) (by decide) (by omega) (by omega) (by decide), zb 108 (by decide) (by decide) (by decide) (by omega) (by omega) (by decide), zb 110 (by decide) (by decide) (by decide) (by omega) (by omega) (by decide), zb 112 (by decide) (by decide) (by decide) (by omega) (by omega) (by decide), z0 10 (by decide), hmf 45 (by decide), hmf 30 (by decide), hmf 31 (by decide)]
  refine ⟨?_, h2, mrP_m h3 (fun f a b => hmf f (by omega)), iv_Im h4 h2 (fun j _ _ => by rw [hmf 0 (by decide)]), ⟨iv_Gm h5 h2 (by decide) (hmf 41 (by decide)) (fun j _ _ => by rw [hmf 0 (by decide)]), iv_Gm h6 h2 (by decide) (hmf 41 (by decide)) (fun j _ _ => by rw [hmf 0 (by decide)])⟩, ?_, ⟨iv_hm h8 (hmf 42 (by decide)) (hmf 43 (by decide)) (hmf 44 (by decide)), iv_hm h9 (hmf 42 (by decide)) (hmf 43 (by decide)) (hmf 44 (by decide)), iv_hm h10 (hmf 42 (by decide)) (hmf 43 (by decide)) (hmf 44 (by decide)), iv_hm h11 (hmf 42 (by decide)) (hmf 43 (by decide)) (hmf 44 (by decide))⟩, h12, h13, h14⟩
  · unfold iv_R
    rw [z1, z0 2 (by decide), z0 3 (by decide), hk 1 (by decide), hk 2 (by decide)]
    exact hR
  · unfold iv_T
    rw [z2, m22]
    exact ⟨by decide, rfl, fun i a b => by omega⟩
theorem tw_cls (hR : iv_R (W 0) (W 1)) : dz_p (jf_O_takeWhatWasRead W) (fun q => so_tw W q) := by
  have hR' := hR
  unfold iv_R at hR'
  have i1 : hz_isP (W 0 2 0).toNat := by unfold hz_isP; omega
  have i2 : hz_isS (W 0 3 0).toNat := by unfold hz_isS; omega
  have i3 : hz_isP (W 1 1 0).toNat := by unfold hz_isP; omega
  have i4 : hz_isS (W 1 2 0).toNat := by unfold hz_isS; omega
  have e1 : ((W 1 1 0).toNat : Int) = W 1 1 0 := by omega
  have e2 : ((W 1 2 0).toNat : Int) = W 1 2 0 := by omega
  have e3 : ((W 0 2 0).toNat : Int) = W 0 2 0 := by omega
  have e4 : ((W 0 3 0).toNat : Int) = W 0 3 0 := by omega
  unfold jf_O_takeWhatWasRead
  refine dp_ck i1 (dp_ck i2 (dp_ck i3 (dp_le ?_)))
  have z1 : ∀ v : Int, dz_u W 0 2 0 v 1 = W 1 := fun v => by rw [oz_u, oz_n (by decide)]
  rw [z1]
  refine dp_ck i4 (dp_le (dp_le (dp_le (dp_bi (dp_eq dr_cls ?_)))))
  rw [e1, e2, e3, e4]
  generalize hV : dz_u (dz_u (dz_u (dz_u W 0 2 0 (W 1 1 0)) 0 3 0 (W 1 2 0)) 1 1 0 (W 0 2 0)) 1 2 0 (W 0 3 0) = V
  have v0 : V 0 = ob_u (ob_u (W 0) 2 0 (W 1 1 0)) 3 0 (W 1 2 0) := by rw [← hV, oz_u, oz_n (by decide), oz_u, oz_n (by decide), oz_u, oz_s, oz_u, oz_s]
  have v1 : V 1 = ob_u (ob_u (W 1) 1 0 (W 0 2 0)) 2 0 (W 0 3 0) := by rw [← hV, oz_u, oz_s, oz_u, oz_s, oz_u, oz_n (by decide), oz_u, oz_n (by decide)]
  have vb : ∀ b : Nat, b ≠ 0 → b ≠ 1 → V b = W b := fun b a1 a2 => by rw [← hV, oz_u, oz_n a2, oz_u, oz_n a2, oz_u, oz_n a1, oz_u, oz_n a1]
  refine dp_lp (fun n q => ∃ (i : Nat) (U : dz_Z), i + n = 2 ∧ q = ((i : Int), U) ∧ U 46 = so_dry (W 46) ∧ (∀ b : Nat, b ≠ 46 → b ≠ 68 → b ≠ 87 → U b = V b) ∧ (1 ≤ i → U 68 2 0 = 0) ∧ (2 ≤ i → U 87 2 0 = 0)) ?_ 5000 2 _ (by omega) ⟨0, _, by omega, rfl, by rw [oz_s, vb 46 (by decide) (by decide)], fun b a1 a2 a3 => by rw [oz_n a1], fun q => by omega, fun q => by omega⟩
  rintro k _ ⟨i, U, hik, rfl, u46, ub, u68, u87⟩
  have ei : dz_c (i : Int) = i := dz_ci (by omega) (by omega)
  simp only [ei]
  by_cases c : i = 2
  · refine dp_ck (by omega) (dp_sm ?_)
    refine ⟨?_, ?_, ?_, ?_, fun f a1 a2 => ?_, u46, u68 (by omega), u87 (by omega), fun b a1 a2 a3 a4 a5 => ?_⟩
    · show U 0 2 0 = _
      rw [ub 0 (by decide) (by decide) (by decide), v0, ou_f (by decide), ou_s]
    · show U 0 3 0 = _
      rw [ub 0 (by decide) (by decide) (by decide), v0, ou_s]
    · show U 1 1 0 = _
      rw [ub 1 (by decide) (by decide) (by decide), v1, ou_f (by decide), ou_s]
    · show U 1 2 0 = _
      rw [ub 1 (by decide) (by decide) (by decide), v1, ou_s]
    · show U 0 f = _
      rw [ub 0 (by decide) (by decide) (by decide), v0, ou_ff a2, ou_ff a1]
    · show U b = _
      rw [ub b a3 a4 a5, vb b a1 a2]
  · refine dp_no (by omega) (dp_ck (by omega) (dp_le (dp_sm ⟨k - 1, by omega, i + 1, _, by omega, rfl, ?_, fun b a1 a2 a3 => ?_, fun q => ?_, fun q => ?_⟩)))
    · rw [oz_u, oz_n (by omega), u46]
    · rw [oz_u, oz_n (by omega), ub b a1 a2 a3]
    · by_cases d : i = 0
      · rw [d]
        show dz_u U 68 2 0 0 68 2 0 = 0
        rw [oz_u, oz_s, ou_s]
      · rw [oz_u, oz_n (by omega)]
        exact u68 (by omega)
    · have : i = 1 := by omega
      rw [this]
      show dz_u U 87 2 0 0 87 2 0 = 0
      rw [oz_u, oz_s, ou_s]
theorem rg_P (h : rg_A R P S m) (ht : so_mt m mt) (h19 : m 19 0 < P 6 0) : so_P P ∧ mr_P P mt ∧ so_S P S ∧ mr_S 0 P S mt := by
  obtain ⟨hc, hr, hg, hs, hw, htu, hz, ho, hp, hh, hi⟩ := h
  obtain ⟨c0, c3, c6, c10, c11⟩ := hc
  obtain ⟨t0, -, t7, t8, t9, t10, t1, t2, t3, t4, t5, t6, -, -, -⟩ := ht
  have hj := ((hi.2 (P 6 0) c6.2.1).mp h19).2
  refine ⟨⟨c0.2, fun r a b => (hr r a b).2.2, c3.2, fun g a b => (hg g a b).2.2, c6.2, fun s a b => (hs s a b).2.1, c10.2, c11.2, fun k a b => (hz k a b).2.2.2, ho.2.1⟩, ⟨by rw [t1]; exact c0.1, fun r a b => ?_, by rw [t2]; exact c3.1, fun g a b => ?_, by rw [t3]; exact c6.1, fun s a b => ?_, by rw [t4]; exact c10.1, by rw [t5]; exact c11.1, fun k a b => ?_, by rw [t6]; exact ho.1⟩, ⟨fun g a b => ?_, fun g a b => Or.inl (hp.2.2.2.2 g a b).2, fun s a b => ⟨(hs s a b).2.2.2.1, fun q => ((hs s a b).2.2.2.2.1 q).2, fun q => ⟨((hs s a b).2.2.2.2.2.2.1 q).2.1, hj s a b q⟩⟩, fun w a b => ⟨by have := (hw w a b).2.1; omega, fun i x y => ((hw w a b).2.2 i x y).2⟩, htu.1, fun i a b => (htu.2.2 i a b).2⟩, ⟨⟨fun g a b => ?_, fun g a b => ?_, fun s a b => ?_⟩, fun s a b => ?_, fun w a b => ?_, ?_, fun i a b => ?_⟩⟩
  · rw [t7 _ (by omega) (by omega), t7 _ (by omega) (by omega)]; exact ⟨(hr r a b).1, (hr r a b).2.1⟩
  · rw [t8 _ (by omega) (by omega), t8 _ (by omega) (by omega)]; exact ⟨(hg g a b).1, (hg g a b).2.1⟩
  · rw [t9 _ (by omega) (by omega)]; exact (hs s a b).1
  · rw [t10 _ (by omega) (by omega), t10 _ (by omega) (by omega), t10 _ (by omega) (by omega)]; exact ⟨(hz k a b).1, (hz k a b).2.1, (hz k a b).2.2.1⟩
  · have := (hp.2.2.2.2 g a (by omega)).1; omega
  · rw [Int.zero_add, t0 _ (by omega) (by omega), hp.1 g a b, (hp.2.2.2.2 g a (by omega)).1]
  · rw [Int.zero_add, t0 _ (by omega) (by omega), hp.2.1 g a b, (hp.2.2.2.2 g a b).2]
  · rw [Int.zero_add, Int.zero_add, Int.zero_add, t0 _ (by omega) (by omega), t0 _ (by omega) (by omega), t0 _ (by omega) (by omega)]
    exact ⟨(hs s a b).2.2.1, fun q => ((hs s a b).2.2.2.2.1 q).1, fun q => ((hs s a b).2.2.2.2.2.2.1 q).1⟩
  · rw [Int.zero_add, Int.zero_add, t0 _ (by omega) (by omega), t0 _ (by omega) (by omega)]
    exact ⟨(hs s a b).2.2.2.2.2.1, (hs s a b).2.2.2.2.2.2.2⟩
  · have hq := hw w a b
    refine ⟨?_, fun i x y => ?_⟩
    · rw [Int.zero_add, t0 _ (by omega) (by omega)]; exact hq.1
    · rw [Int.zero_add, t0 _ (by omega) (by omega)]; exact (hq.2.2 i x y).1
  · rw [Int.zero_add, t0 _ (by omega) (by omega)]; exact htu.2.1
  · have h1 := htu.1
    have := (htu.2.2 i a b).1
    rw [Int.zero_add, t0 _ (by omega) (by omega)]
    rw [show (73 : Int) + 1 + i = 74 + i by omega] at this
    exact this
/-- a text that is taken -/
theorem oS (h : iv_Z n Z) (hp : p = (Z 1 1 0).toNat) (hs : s = (Z 1 2 0).toNat) (hk : kp3 (Z 1) R) (hm : ke (Z 114) m) (hr : rg_A R' P S m) (h19 : m 19 0 < P 6 0) (hw : so_tw (so_zf Z p s R P S) W) (ht : so_mt (ob_u (ob_u m 22 0 0) 23 0 0) mt) : iv_Z (n + 1) (ob_z W 114 mt) := by
  have hR := h.1
  have hp2 : p = 25 ∨ p = 4 := by unfold iv_R at hR; omega
  have hs2 : s = 36 ∨ s = 15 := by unfold iv_R at hR; omega
  have hr' : rg_A R' P S (ob_u (ob_u m 22 0 0) 23 0 0) := by
    obtain ⟨a1, a2, a3, a4, a5, a6, a7, a8, a9, a10, a11⟩ := hr
    have e : ∀ f : Nat, f ≠ 22 → f ≠ 23 → ob_u (ob_u m 22 0 0) 23 0 0 f = m f := fun f x y => by rw [ou_ff y, ou_ff x]
    have e11 := e 11 (by decide) (by decide)
    exact ⟨fr_c a1 (e 16 (by decide) (by decide)) rfl rfl rfl rfl rfl, fr_r a2 (e 12 (by decide) (by decide)) rfl rfl rfl, fr_g a3 (e 13 (by decide) (by decide)) rfl rfl rfl, fr_s a4 a1.2.2.1.2.2 (e 14 (by decide) (by decide)) (fun j _ _ => by rw [e11]) rfl rfl rfl rfl rfl, fr_w a5 a1.2.2.2.1.2.2 (fun j _ _ => by rw [e11]) rfl (fun _ _ => rfl), fr_t a6 (fun j _ _ => by rw [e11]) rfl rfl, fr_z a7 (e 15 (by decide) (by decide)) rfl rfl rfl rfl, fr_o a8 (e 17 (by decide) (by decide)) (e 20 (by decide) (by decide)) rfl rfl rfl, fr_p a9 a1.2.1.2 a1.2.2.1.2.1 (fun j _ => by rw [e11]) rfl rfl rfl rfl, fr_h a10 (e 18 (by decide) (by decide)) rfl rfl rfl rfl rfl, fr_i a11 (e 19 (by decide) (by decide)) rfl rfl rfl rfl rfl rfl⟩
  obtain ⟨g1, g2, g3, g4⟩ := rg_P hr' ht (by rw [ou_f (by decide), ou_f (by decide)]; exact h19)
  have z86 := hr'.2.2.2.2.2.2.2.2.1.2.2.1
  obtain ⟨t0, -, -, -, -, -, -, -, -, -, -, -, t41, t411, tf⟩ := ht
  obtain ⟨w1, w2, w3, w4, w5, w6, w7, w8, w9⟩ := hw
  rw [zf_1] at w1 w2
  rw [hk 1 (by decide)] at w1
  rw [hk 2 (by decide)] at w2
  rw [zf_0 hp2 hs2 (by decide)] at w3 w4
  rw [zf_b (by decide) (by decide) (by decide) (by omega) (by omega)] at w6
  have z0 : ∀ f : Nat, ob_z W 114 mt 0 f = W 0 f := fun f => by rw [oz_n (by decide)]
  have ep : iv_p (ob_z W 114 mt) = p := by unfold iv_p; rw [z0, w1, hp]
  have es : iv_s (ob_z W 114 mt) = s := by unfold iv_s; rw [z0, w2, hs]
  have zp : ob_z W 114 mt p = P := by rw [oz_n (by omega), w9 p (by omega) (by omega) (by omega) (by omega) (by omega), zf_p hp2]
  have zs : ob_z W 114 mt s = S := by rw [oz_n (by omega), w9 s (by omega) (by omega) (by omega) (by omega) (by omega), zf_s hp2 hs2]
  have zb : ∀ b : Nat, b ≠ 0 → b ≠ 1 → b ≠ 2 → b ≠ 46 → b ≠ 68 → b ≠ 87 → b ≠ p → b ≠ s → b ≠ 114 → ob_z W 114 mt b = Z b := fun b a1 a2 a3 a4 a5 a6 a7 a8 a9 => by rw [oz_n a9, w9 b a1 a2 a4 a5 a6, zf_b a1 a2 a3 a7 a8]
  have mf : ∀ f : Nat, 29 < f → f ≠ 41 → mt f = Z 114 f := fun f a1 a2 => by rw [tf f (by omega) a2, ou_ff (by omega), ou_ff (by omega), hm f (by omega)]
  obtain ⟨-, h2, h3, h4, ⟨h5, h6⟩, h7, ⟨h8, h9, h10, h11⟩, h12, h13, h14⟩ := iv_n h (show n ≤ n + 1 by omega)
  unfold iv_Z
  rw [oz_s]
  unfold iv
  rw [ep, es, zp, zs, zb 106 (by decide) (by decide) (by decide) (by decide) (by decide) (by decide) (by omega) (by omega) (by decide), zb 108 (by decide) (by decide) (by decide) (by decide) (by decide) (by decide) (by omega) (by omega) (by decide), zb 110 (by decide) (by decide) (by decide) (by decide) (by decide) (by decide) (by omega) (by omega) (by decide), zb 112 (by decide) (by decide) (by decide) (by decide) (by decide) (by decide) (by omega) (by omega) (by decide), mf 45 (by decide) (by decide), mf 30 (by decide) (by decide), mf 31 (by decide) (by decide)]
  refine ⟨?_, g1, g2, ⟨g3, g4, ?_, ?_⟩, ⟨⟨?_, Or.inl t41⟩, ⟨?_, Or.inl t411⟩⟩, ?_, ⟨iv_hm h8 (mf 42 (by decide) (by decide)) (mf 43 (by decide) (by decide)) (mf 44 (by decide) (by decide)), iv_hm h9 (mf 42 (by decide) (by decide)) (mf 43 (by decide) (by decide)) (mf 44 (by decide) (by decide)), iv_hm h10 (mf 42 (by decide) (by decide)) (mf 43 (by decide) (by decide)) (mf 44 (by decide) (by decide)), iv_hm h11 (mf 42 (by decide) (by decide)) (mf 43 (by decide) (by decide)) (mf 44 (by decide) (by decide))⟩, ?_, h13, h14⟩
  · unfold iv_R at hR ⊢
    rw [z0, z0, oz_n (by decide), w1, w2, w3, w4]
    omega
  · rw [oz_n (by decide), w6]
    exact dr_B dr_f (by omega) (by omega)
  · rw [oz_n (by decide), w6]
    refine dr_F dr_f (fun j a b => ?_)
    rw [t0 j (by omega) (by omega)]
    exact z86 j (by omega) (by omega)
  · rw [oz_n (by decide), w7]; exact t41.symm
  · rw [oz_n (by decide), w8]; exact t411.symm
  · unfold iv_T
    rw [oz_n (by decide), w9 2 (by decide) (by decide) (by decide) (by decide) (by decide), zf_2 hp2 hs2, tf 22 (by decide) (by decide), ou_f (by decide), ou_s]
    exact ⟨by decide, rfl, fun i a b => by omega⟩
  · rw [z0, w5 10 (by decide) (by decide), zf_0 hp2 hs2 (by decide)]
    exact h12
end ub
