/-! draws, count -/
def so_dx (x : Int) : Nat → Int
  | 0 => x
  | k + 1 => so_dx x k * 1103515245 + 12345
def so_dv (x m : Int) (k : Nat) : Int := Int.tmod (dz_c (dz_an (dz_ur (so_dx x (k + 1)) 16) 32767)) m
def so_ds (x m : Int) : Nat → Int
  | 0 => 0
  | k + 1 => so_ds x m k + so_dv x m k
/-- which spouts are broken, as bits -/
def so_bm (b : Int → Bool) : Nat → Int
  | 0 => 0
  | k + 1 => dz_or (so_bm b k) (if b k = false then 0 else dz_sl 1 k)
section oh
variable {n : Nat} {Z Y : dz_Z} {P S m m' o : ob_O} {a1 a2 a3 a4 : Int}
theorem dv_r {x q : Int} (hq : 1 ≤ q ∧ q ≤ 10) (k : Nat) : 0 ≤ so_dv x q k ∧ so_dv x q k ≤ 9 := by
  unfold so_dv
  have h : 0 ≤ dz_an (dz_ur (so_dx x (k + 1)) 16) 32767 ∧ dz_an (dz_ur (so_dx x (k + 1)) 16) 32767 < 32768 := by rw [bn_32767]; omega
  rw [dc_ir h.1 (by omega), Int.tmod_eq_emod_of_nonneg h.1]
  have h1 := Int.emod_nonneg (dz_an (dz_ur (so_dx x (k + 1)) 16) 32767) (show q ≠ 0 by omega)
  have h2 := Int.emod_lt_of_pos (dz_an (dz_ur (so_dx x (k + 1)) 16) 32767) (show 0 < q by omega)
  omega
theorem op_draws (h : iv_Z n Z) (c1 : dz_c a1 = a1) (c2 : dz_c a2 = a2) (c3 : dz_c a3 = a3) : dz_p (jf_O_draws a1 a2 a3 a4 Z) (fun q => dz_p (jf_M_draws a1 a2 a3 a4 q.2) (fun q' => iv_Z (n + 1) q'.2 ∧ dz_c q.1 = dz_c q'.1)) := by
  have hs := iv_isS h.1
  have hs2 := iv_s2 h.1
  have hP := h.2.1
  have h3 := hP.2.2.1
  have h6 := hP.2.2.2.2.1
  have h10 := hP.2.2.2.2.2.2.1
  have rP := h.2.2.1
  obtain ⟨hS, rS, hB, rF⟩ := h.2.2.2.1
  have hs6 := hS.2.2.2.2.1
  have bad : ¬((0 ≤ a1 ∧ a1 < Z (iv_p Z) 10 0) ∧ (1 ≤ a2 ∧ a2 ≤ 12) ∧ (1 ≤ a3 ∧ a3 ≤ 10)) → dz_p (jf_M_draws a1 a2 a3 a4 Z) (fun q' => iv_Z (n + 1) q'.2 ∧ dz_c (-1) = dz_c q'.1) := by
    intro hv
    unfold jf_M_draws
    refine dp_bi (dp_eq (oi_wM h.2.1 rP rfl c1) ?_)
    simp only [decide_eq_false_iff_not, c2, c3]
    refine dp_br (fun _ => dp_sm ⟨iv_nx h, rfl⟩) (fun x => dp_br (fun _ => dp_sm ⟨iv_nx h, rfl⟩) (fun y => dp_no (by omega) (dp_sm ⟨iv_nx h, rfl⟩)))
  unfold jf_O_draws
  refine dp_bi (dp_eq (oi_wO h c1) ?_)
  simp only [decide_eq_false_iff_not, c1, c2, c3]
  refine dp_br (fun a => dp_sm (bad (fun q => a q.1))) (fun a => ?_)
  have ha : 0 ≤ a1 ∧ a1 < Z (iv_p Z) 10 0 := by omega
  refine dp_br (fun b => dp_sm (bad (by omega))) (fun b => ?_)
  refine dp_br (fun b2 => dp_sm (bad (by omega))) (fun b2 => ?_)
  refine dp_br (fun b3 => dp_sm (bad (by omega))) (fun b3 => ?_)
  refine dp_br (fun b4 => ?_) (fun b4 => dp_sm (bad (by omega)))
  refine dp_lp (fun k s => ∃ (r : Nat) (S' : ob_O), (r : Int) + k = a2 ∧ s = (so_dx a4 r, so_ds a4 a3 r, (r : Int), ob_z Z (iv_s Z) S') ∧ (∀ f : Nat, f ≠ 20 + a1.toNat → S' f = Z (iv_s Z) f) ∧ (∀ i : Nat, i < r → S' (20 + a1.toNat) i = so_dv a4 a3 i)) ?_ 5000 a2.toNat (a4, 0, 0, Z) (by omega) ⟨0, Z (iv_s Z), by omega, by rw [oz_i]; rfl, fun f _ => rfl, fun i hi => absurd hi (by omega)⟩
  rintro k _ ⟨r, S', hr, rfl, hS1, hS2⟩
  have er : dz_c (r : Int) = r := dc_ir (by omega) (by omega)
  have z0 : ∀ S2 : ob_O, ob_z Z (iv_s Z) S2 0 = Z 0 := fun S2 => oz_n (by omega)
  simp only [er, z0, show (Z 0 3 0).toNat = iv_s Z from rfl]
  by_cases hk : ¬ (r : Int) = a2
  · refine dp_no (by omega) (dp_ck (by omega) (dp_le (dp_ck hs (dp_ck (by omega) (dp_ck (by omega) (dp_le (dp_sm ⟨k - 1, by omega, r + 1, ob_u S' (20 + a1.toNat) r (so_dv a4 a3 r), by omega, ?_, fun f hf => ?_, fun i hi => ?_⟩)))))))
    · rw [oz_uz]
      rfl
    · rw [ou_ff hf]; exact hS1 f hf
    · rw [ou_a]
      by_cases c : (i : Int) = r
      · rw [if_pos c, show i = r by omega]
      · rw [if_neg c]; exact hS2 i (by omega)
  have hk : (r : Int) = a2 := by omega
  refine dp_ck (by omega) (dp_ck hs (dp_ck (by omega) (dp_le (dp_sm ?_))))
  rw [oz_uz]
  show dz_p (jf_M_draws a1 a2 a3 a4 (ob_z Z (iv_s Z) (ob_u S' 3 a1 a2))) (fun q' => iv_Z (n + 1) q'.2 ∧ dz_c (so_ds a4 a3 r) = dz_c q'.1)
  generalize hS'' : ob_u S' 3 a1 a2 = S2
  have s3 : ∀ w : Int, S2 3 w = if w = a1 then a2 else Z (iv_s Z) 3 w := fun w => by rw [← hS'', ou_a, hS1 3 (by omega)]
  have sf : ∀ f : Nat, f ≠ 3 → f ≠ 20 + a1.toNat → S2 f = Z (iv_s Z) f := fun f x y => by rw [← hS'', ou_ff x, hS1 f y]
  have sr : ∀ i : Nat, i < r → S2 (20 + a1.toNat) i = so_dv a4 a3 i := fun i hi => by rw [← hS'', ou_f (by omega)]; exact hS2 i hi
  clear hS1 hS2 hS''
  have y114 : ob_z Z (iv_s Z) S2 114 = Z 114 := oz_n (by omega)
  have ey : ob_z Z (iv_s Z) S2 = ob_z (ob_z Z (iv_s Z) S2) 114 (Z 114) := by rw [← y114]; exact oz_i.symm
  rw [ey]
  unfold jf_M_draws
  refine dp_bi (dp_eq (oi_wM (m := Z 114) h.2.1 rP oz_s c1) ?_)
  simp only [decide_eq_false_iff_not, c2, c3]
  have e34 : dz_c (34 + 13 * a1) = 34 + 13 * a1 := dc_ir (by omega) (by omega)
  rw [e34]
  refine dp_no a (dp_no (by omega) (dp_ck (by omega) (dp_ck (by omega) (dp_le ?_))))
  rw [oz_uz]
  refine dp_lp (fun k s => ∃ (q : Nat) (m : ob_O), (q : Int) + k = a2 ∧ s = (so_dx a4 q, so_ds a4 a3 q, (q : Int), ob_z (ob_z Z (iv_s Z) S2) 114 m) ∧ (∀ f : Nat, f ≠ 0 → m f = Z 114 f) ∧ m 0 (34 + 13 * a1) = a2 ∧ (∀ i : Nat, i < q → m 0 (34 + 13 * a1 + 1 + i) = so_dv a4 a3 i) ∧ (∀ j : Int, (j < 34 + 13 * a1 ∨ 34 + 13 * a1 + 1 + a2 ≤ j) → m 0 j = Z 114 0 j)) ?_ 5000 a2.toNat (a4, 0, 0, ob_z (ob_z Z (iv_s Z) S2) 114 (ob_u (Z 114) 0 (34 + 13 * a1) a2)) (by omega) ⟨0, _, by omega, rfl, fun f hf => ou_ff hf, ou_s, fun i hi => absurd hi (by omega), fun j hj => ou_i (by omega)⟩
  rintro k2 _ ⟨q, m, hq, rfl, hm1, hm2, hm3, hm4⟩
  have eq : dz_c (q : Int) = q := dc_ir (by omega) (by omega)
  have eq2 : dz_c (34 + 13 * a1 + 1 + (q : Int)) = 34 + 13 * a1 + 1 + q := dc_ir (by omega) (by omega)
  simp only [eq, eq2]
  by_cases hk2 : ¬ (q : Int) = a2
  · refine dp_no (by omega) (dp_ck (by omega) (dp_le (dp_ck (by omega) (dp_le (dp_sm ⟨k2 - 1, by omega, q + 1, ob_u m 0 (34 + 13 * a1 + 1 + q) (so_dv a4 a3 q), by omega, ?_, fun f hf => ?_, ?_, fun i hi => ?_, fun j hj => ?_⟩)))))
    · rw [oz_uz, ← bd_16]
      rfl
    · rw [ou_ff hf]; exact hm1 f hf
    · rw [ou_i (by omega)]; exact hm2
    · rw [ou_a]
      by_cases c : (i : Int) = q
      · rw [if_pos (by omega), show i = q by omega]
      · rw [if_neg (by omega)]; exact hm3 i (by omega)
    · rw [ou_i (by omega)]; exact hm4 j hj
  have hk2 : (q : Int) = a2 := by omega
  refine dp_ck (by omega) (dp_sm ⟨?_, by rw [show q = r by omega]⟩)
  obtain ⟨w1, w2, w3, w4⟩ := W_s (Z := Z) (S := S2) (m := m) hs2
  dsimp only
  refine iv_fin h w4 ?_ (fun f x _ => by rw [w3]; exact hm1 f x) (fun j x y => by rw [w3]; exact hm4 j (by omega))
  rw [w1, w2, w3]
  have m0 : ∀ j : Int, (j < 34 + 13 * a1 ∨ 34 + 13 * a1 + 13 ≤ j) → m 0 j = Z 114 0 j := fun j x => hm4 j (by omega)
  have swr : ∀ w : Int, 0 ≤ w → w < 3 → w ≠ a1 → S2 (20 + w.toNat) = Z (iv_s Z) (20 + w.toNat) := fun w x y z => sf _ (by omega) (by omega)
  refine ⟨⟨?_, ?_, ?_, fun w x y => ?_, ?_, ?_⟩, ⟨⟨fun i x y => ?_, fun i x y => ?_, fun i x y => ?_⟩, fun i x y => ?_, fun w x y => ?_, ?_, fun i x y => ?_⟩, sB_m hB (by omega) (by omega), mrF_m rF (fun j x y => m0 j (by omega))⟩
  · rw [sf 0 (by omega) (by omega)]; exact hS.1
  · rw [sf 1 (by omega) (by omega)]; exact hS.2.1
  · rw [sf 2 (by omega) (by omega)]; exact hS.2.2.1
  · rw [s3]
    by_cases c : w = a1
    · rw [if_pos c]
      refine ⟨by omega, fun i u z => ?_⟩
      have := sr i.toNat (by omega)
      rw [Int.toNat_of_nonneg u] at this
      rw [c, this]
      exact dv_r (by omega) _
    · rw [if_neg c, swr w x (by omega) c]; exact hS.2.2.2.1 w x y
  · rw [sf 6 (by omega) (by omega)]; exact hS.2.2.2.2.1
  · rw [sf 5 (by omega) (by omega), sf 6 (by omega) (by omega)]; exact hS.2.2.2.2.2
  · rw [m0 _ (by omega), sf 0 (by omega) (by omega)]; exact rS.1.1 i x y
  · rw [m0 _ (by omega), sf 1 (by omega) (by omega)]; exact rS.1.2.1 i x y
  · rw [m0 _ (by omega), m0 _ (by omega), m0 _ (by omega), sf 2 (by omega) (by omega)]; exact rS.1.2.2 i x y
  · rw [m0 _ (by omega), m0 _ (by omega), sf 2 (by omega) (by omega)]; exact rS.2.1 i x y
  · simp only [Int.zero_add]
    have hl := (hS.2.2.2.1 w x y).1
    have rl := rS.2.2.1 w x y
    simp only [Int.zero_add] at rl
    by_cases c : w = a1
    · subst c
      rw [s3, if_pos rfl]
      refine ⟨hm2, fun i u z => ?_⟩
      have h1 := sr i.toNat (by omega)
      have h2 := hm3 i.toNat (by omega)
      rw [Int.toNat_of_nonneg u] at h1 h2
      rw [h1, h2]
    · rw [s3, if_neg c, swr w x (by omega) c]
      refine ⟨?_, fun i u z => ?_⟩
      · rw [m0 _ (by omega)]; exact rl.1
      · rw [m0 _ (by omega)]; exact rl.2 i u z
  · rw [m0 _ (by omega), sf 6 (by omega) (by omega)]; exact rS.2.2.2.1
  · rw [sf 6 (by omega) (by omega)] at y
    rw [m0 _ (by omega), sf 5 (by omega) (by omega)]; exact rS.2.2.2.2 i x y
theorem bm_8 {b : Int → Bool} : ∀ k : Nat, k ≤ 8 → b8 (so_bm b k)
  | 0, _ => by show b8 0; exact b8_i (by decide)
  | k + 1, h => by
    show b8 (dz_or (so_bm b k) _)
    refine b8_or (bm_8 k (by omega)) ?_
    split
    · exact b8_i (by decide)
    · exact b8_sl (by omega)
theorem bm_e {b b' : Int → Bool} : ∀ k : Nat, (∀ i : Nat, i < k → b i = b' i) → so_bm b k = so_bm b' k
  | 0, _ => rfl
  | k + 1, h => by
    show dz_or (so_bm b k) _ = dz_or (so_bm b' k) _
    rw [bm_e k (fun i hi => h i (by omega)), h k (by omega)]
theorem bm_c {b : Int → Bool} : ∀ k : Nat, dz_c (so_bm b k) = so_bm b k
  | 0 => by show dz_c 0 = 0; decide
  | k + 1 => dc_or _ _
/-- none beyond k -/
theorem bm_x {b : Int → Bool} {k : Nat} : ∀ j : Nat, (∀ i : Nat, k ≤ i → i < k + j → b i = false) → so_bm b (k + j) = so_bm b k
  | 0, _ => rfl
  | j + 1, h => by
    show dz_or (so_bm b (k + j)) (if b ((k + j : Nat) : Int) = false then 0 else _) = _
    rw [h (k + j) (by omega) (by omega), if_pos rfl, dc_o0, bm_c]
    exact bm_x j (fun i x y => h i x (by omega))
theorem bm_n : ∀ b0 b1 b2 b3 b4 b5 b6 b7 : Bool, so_bits (dz_or (dz_or (dz_or (dz_or (dz_or (dz_or (dz_or (dz_or 0 (if b0 = false then 0 else dz_sl 1 0)) (if b1 = false then 0 else dz_sl 1 1)) (if b2 = false then 0 else dz_sl 1 2)) (if b3 = false then 0 else dz_sl 1 3)) (if b4 = false then 0 else dz_sl 1 4)) (if b5 = false then 0 else dz_sl 1 5)) (if b6 = false then 0 else dz_sl 1 6)) (if b7 = false then 0 else dz_sl 1 7)) = 0 + (if b0 = false then 0 else 1) + (if b1 = false then 0 else 1) + (if b2 = false then 0 else 1) + (if b3 = false then 0 else 1) + (if b4 = false then 0 else 1) + (if b5 = false then 0 else 1) + (if b6 = false then 0 else 1) + (if b7 = false then 0 else 1) := by decide +kernel
theorem bm_s {b : Int → Bool} : so_bits (so_bm b 8) = so_sm (fun i => if b i = false then 0 else 1) 8 := bm_n (b 0) (b 1) (b 2) (b 3) (b 4) (b 5) (b 6) (b 7)
theorem bk_cls {F p : Nat} (hF : hz_isF F) (hp : hz_isP p) (hP : so_P (Z p)) : jf_F_brokenSpouts F p Z = some (so_bm (fun i => so_brk (Z p) (Z F) i) (Z p 6 0).toNat) := by
  have h6 := hP.2.2.2.2.1
  have e1 : dz_c (Z p 6 0) = Z p 6 0 := dc_ir h6.1 (by omega)
  apply dp_is
  unfold jf_F_brokenSpouts
  refine dp_lp (fun k s => ∃ r : Nat, r + k = (Z p 6 0).toNat ∧ s = (so_bm (fun i => so_brk (Z p) (Z F) i) r, (r : Int))) ?_ 5000 (Z p 6 0).toNat (0, 0) (by omega) ⟨0, by omega, rfl⟩
  rintro k _ ⟨r, hr, rfl⟩
  have er : dz_c (r : Int) = r := dc_ir (by omega) (by omega)
  simp only [e1, er]
  by_cases hk : r = (Z p 6 0).toNat
  · refine dp_ck (by omega) (dp_sm ?_)
    rw [← hk]
    rfl
  · have hb := cf_brk (F := F) (p := p) (Z := Z) (o := Z F) (s := r) (ne_FP hF hp) (by omega) hP.2.2.2.2.2.2.2.2.2
    rw [oz_i] at hb
    refine dp_no (by omega) (dp_bi (dp_eq hb (dp_bi ?_)))
    have key : so_bm (fun i => so_brk (Z p) (Z F) i) (r + 1) = dz_or (so_bm (fun i => so_brk (Z p) (Z F) i) r) (if so_brk (Z p) (Z F) r = false then 0 else dz_sl 1 r) := rfl
    refine dp_br (fun c => dp_sm (dp_sm ⟨k - 1, by omega, r + 1, by omega, ?_⟩)) (fun c => dp_sm (dp_sm ⟨k - 1, by omega, r + 1, by omega, ?_⟩))
    · rw [key, if_pos c]; rfl
    · rw [key, if_neg c]; rfl
theorem g41 {I F : ob_O} {k : Nat} (h : iv_G n P I S F m k) : dz_c (m 41 k) = m 41 k := by
  rcases h.2 with y | y
  · rw [y]; decide
  · rw [y.1]; decide
theorem op_count (h : iv_Z n Z) (hn : n ≤ 512) (c1 : dz_c a1 = a1) : dz_p (jf_O_count a1 Z) (fun q => dz_p (jf_M_count a1 Z) (fun q' => dz_c q = dz_c q')) := by
  have hp := iv_isP h.1
  have hs := iv_isS h.1
  have hP := h.2.1
  have h6 := hP.2.2.2.2.1
  obtain ⟨hS, rS, hB, rF⟩ := h.2.2.2.1
  have hG := h.2.2.2.2.1
  have hT := h.2.2.2.2.2.1
  have hH := h.2.2.2.2.2.2.1.1
  -- the reference adds its blocks up first
  have mod : ∀ (q : Int) (x : Int), dz_c q = dz_c x → dz_p (if a1 = 0 then some (so_sm (fun i => Z 114 0 (5 + i)) 5) else if a1 = 1 then some (so_sm (fun i => Z 114 0 (0 + 118 + i)) 8) else if a1 = 2 then some ((if Z 114 41 0 = 0 then 0 else 1) + (if Z 114 41 1 = 0 then 0 else 1)) else if a1 = 3 then some (Z 114 22 0) else if a1 = 4 then some (if Z 114 42 0 = -4 then -4 else Z 114 43 0) else some (-1)) (fun y => y = x) → dz_p (jf_M_count a1 Z) (fun q' => dz_c q = dz_c q') := by
    intro q x hqx hx
    unfold jf_M_count
    refine dp_lp (fun k s => ∃ r : Nat, r + k = 5 ∧ s = (so_sm (fun i => Z 114 0 (5 + i)) r, (r : Int))) ?_ 5000 5 (0, 0) (by omega) ⟨0, by omega, rfl⟩
    rintro k _ ⟨r, hr, rfl⟩
    have er : dz_c (r : Int) = r := dc_ir (by omega) (by omega)
    have er2 : dz_c (5 + (r : Int)) = 5 + r := dc_ir (by omega) (by omega)
    simp only [er, er2, c1, sm_ms (e := 0) (q := 118) (by decide) (by decide), Option.bind_some]
    by_cases hk : r = 5
    · subst hk
      refine dp_ck (by omega) ?_
      have e0 : dz_c (Z 114 41 0) = Z 114 41 0 := g41 hG.1
      have e1 : dz_c (Z 114 41 1) = Z 114 41 1 := g41 hG.2
      have e42 : dz_c (Z 114 42 0) = Z 114 42 0 := by
        rcases hH with y | y
        · rw [y.2]; decide
        · rw [y.2.1]; exact dc_ir (by omega) (by omega)
      rw [e0, e1, e42]
      refine dp_br (fun b => dp_sm ?_) (fun b => ?_)
      · rw [if_pos b] at hx; have := dz_sm hx; show dz_c q = dz_c _; rw [hqx, ← this]
      rw [if_neg b] at hx
      refine dp_br (fun c => dp_sm ?_) (fun c => ?_)
      · rw [if_pos c] at hx; have := dz_sm hx; show dz_c q = dz_c _; rw [hqx, ← this]
      rw [if_neg c] at hx
      refine dp_br (fun d => dp_bi ?_) (fun d => ?_)
      · rw [if_pos d] at hx
        have := dz_sm hx
        refine dp_br (fun i0 => dp_sm (dp_br (fun i1 => dp_sm ?_) (fun i1 => dp_sm ?_))) (fun i0 => dp_sm (dp_br (fun i1 => dp_sm ?_) (fun i1 => dp_sm ?_)))
        · rw [if_pos i0, if_pos i1] at this; show dz_c q = dz_c _; rw [hqx, ← this]
        · rw [if_pos i0, if_neg i1] at this; show dz_c q = dz_c _; rw [hqx, ← this]
        · rw [if_neg i0, if_pos i1] at this; show dz_c q = dz_c _; rw [hqx, ← this]
        · rw [if_neg i0, if_neg i1] at this; show dz_c q = dz_c _; rw [hqx, ← this]
      rw [if_neg d] at hx
      refine dp_br (fun f => dp_sm ?_) (fun f => ?_)
      · rw [if_pos f] at hx; have := dz_sm hx; show dz_c q = dz_c _; rw [hqx, ← this]
      rw [if_neg f] at hx
      refine dp_br (fun g => ?_) (fun g => dp_sm ?_)
      · rw [if_pos g] at hx
        have := dz_sm hx
        refine dp_br (fun i0 => dp_sm ?_) (fun i0 => dp_sm ?_)
        · rw [if_neg i0] at this; show dz_c q = dz_c _; rw [hqx, ← this]
        · rw [if_pos (by omega)] at this; show dz_c q = dz_c _; rw [hqx, ← this]
      · rw [if_neg g] at hx; have := dz_sm hx; show dz_c q = dz_c _; rw [hqx, ← this]
    · exact dp_no (by omega) (dp_ck (by omega) (dp_sm ⟨k - 1, by omega, r + 1, by omega, rfl⟩))
  unfold jf_O_count
  simp only [c1, show (Z 0 3 0).toNat = iv_s Z from rfl, show (Z 0 2 0).toNat = iv_p Z from rfl, sm_os (show (5 : Nat) ≤ 1000 by decide), Option.bind_some]
  refine dp_br (fun a => dp_ck hs (dp_sm (mod _ (so_sm (fun i => Z 114 0 (5 + i)) 5) ?_ (by rw [if_pos a]; exact dp_sm rfl)))) (fun a => ?_)
  · rw [sm_c 5 (g' := fun i => Z 114 0 (5 + i)) (fun i x y => by have := rS.1.2.1 i x y; rw [Int.zero_add] at this; exact this.symm)]
  refine dp_br (fun b => dp_ck hp ?_) (fun b => ?_)
  · refine dp_bi (dp_eq (bk_cls (Or.inl rfl) hp hP) ?_)
    have e8 : so_bm (fun i => so_brk (Z (iv_p Z)) (Z 46) i) (Z (iv_p Z) 6 0).toNat = so_bm (fun i => if i < Z (iv_p Z) 6 0 then so_brk (Z (iv_p Z)) (Z 46) i else false) 8 := by
      rw [bm_e (b' := fun i => if i < Z (iv_p Z) 6 0 then so_brk (Z (iv_p Z)) (Z 46) i else false) _ (fun i hi => by show _ = if (i : Int) < Z (iv_p Z) 6 0 then _ else _; rw [if_pos (by omega)])]
      have := bm_x (b := fun i => if i < Z (iv_p Z) 6 0 then so_brk (Z (iv_p Z)) (Z 46) i else false) (k := (Z (iv_p Z) 6 0).toNat) (8 - (Z (iv_p Z) 6 0).toNat) (fun i x y => by show (if (i : Int) < Z (iv_p Z) 6 0 then _ else false) = false; rw [if_neg (by omega)])
      rw [← this, show (Z (iv_p Z) 6 0).toNat + (8 - (Z (iv_p Z) 6 0).toNat) = 8 by omega]
    rw [e8]
    refine dp_bi (dp_eq (bc_8 (bm_8 8 (by decide))).1 (dp_sm (mod _ (so_sm (fun i => Z 114 0 (0 + 118 + i)) 8) ?_ (by rw [if_neg a, if_pos b]; exact dp_sm rfl))))
    rw [bm_s]
    congr 1
    refine sm_c 8 (fun i x y => ?_)
    have hr := (rF.1 i x y).2.2.2.2.2.1
    have hbr := hB.1 i x y
    show (if (if i < Z (iv_p Z) 6 0 then so_brk (Z (iv_p Z)) (Z 46) i else false) = false then (0 : Int) else 1) = Z 114 0 (0 + 118 + i)
    rw [hr]
    unfold so_brk
    rw [dz_li' (by omega) (by omega)]
    by_cases c : i < Z (iv_p Z) 6 0
    · rw [if_pos c]
      by_cases d : 0 < Z (iv_p Z) 15 0 ∧ Z (iv_p Z) 15 0 ≤ Z 46 2 i
      · rw [decide_eq_true d, if_neg (by decide), if_pos ⟨c, d⟩]
      · rw [decide_eq_false d, if_pos rfl, if_neg (fun q => d q.2)]
    · rw [if_neg c, if_pos rfl, if_neg (fun q => c q.1)]
  refine dp_br (fun c => ?_) (fun c => ?_)
  · have hk : jf_O_keptImages Z = some ((if Z 114 41 0 = 0 then 0 else 1) + (if Z 114 41 1 = 0 then 0 else 1)) := by
      have e0 : Z 68 2 0 = Z 114 41 0 := hG.1.1
      have e1 : Z 87 2 0 = Z 114 41 1 := hG.2.1
      have d0 : dz_c (Z 114 41 0) = Z 114 41 0 := g41 hG.1
      have d1 : dz_c (Z 114 41 1) = Z 114 41 1 := g41 hG.2
      apply dp_is
      unfold jf_O_keptImages
      refine dp_lp (fun k s => ∃ r : Nat, r + k = 2 ∧ s = ((if r = 0 then 0 else if r = 1 then (if Z 114 41 0 = 0 then 0 else 1) else (if Z 114 41 0 = 0 then 0 else 1) + (if Z 114 41 1 = 0 then 0 else 1)), (r : Int))) ?_ 5000 2 (0, 0) (by omega) ⟨0, by omega, rfl⟩
      rintro k _ ⟨r, hr, rfl⟩
      have er : dz_c (r : Int) = r := dc_ir (by omega) (by omega)
      simp only [er]
      have hr3 : r = 0 ∨ r = 1 ∨ r = 2 := by omega
      rcases hr3 with rfl | rfl | rfl
      · refine dp_no (by decide) (dp_ck (by decide) (dp_bi ?_))
        rw [show Z (68 + 19 * Int.toNat ((0 : Nat) : Int)) 2 0 = Z 68 2 0 from rfl, e0, d0]
        refine dp_br (fun x => dp_sm (dp_sm ⟨1, by omega, 1, by omega, ?_⟩)) (fun x => dp_sm (dp_sm ⟨1, by omega, 1, by omega, ?_⟩))
        · rw [if_pos x]; rfl
        · rw [if_neg x]; rfl
      · refine dp_no (by decide) (dp_ck (by decide) (dp_bi ?_))
        rw [show Z (68 + 19 * Int.toNat ((1 : Nat) : Int)) 2 0 = Z 87 2 0 from rfl, e1, d1]
        refine dp_br (fun x => dp_sm (dp_sm ⟨0, by omega, 2, by omega, ?_⟩)) (fun x => dp_sm (dp_sm ⟨0, by omega, 2, by omega, ?_⟩))
        · rw [if_pos x]; rfl
        · rw [if_neg x]; rfl
      · exact dp_ck (by decide) (dp_sm rfl)
    exact dp_bi (dp_eq hk (dp_sm (mod _ _ rfl (by rw [if_neg a, if_neg b, if_pos c]; exact dp_sm rfl))))
  refine dp_br (fun d => dp_sm (mod _ (Z 114 22 0) (by rw [hT.2.1]) (by rw [if_neg a, if_neg b, if_neg c, if_pos d]; exact dp_sm rfl))) (fun d => ?_)
  refine dp_br (fun f => ?_) (fun f => dp_sm (mod _ (-1) rfl (by rw [if_neg a, if_neg b, if_neg c, if_neg d, if_neg f]; exact dp_sm rfl)))
  have m4 : dz_p (if a1 = 0 then some (so_sm (fun i => Z 114 0 (5 + i)) 5) else if a1 = 1 then some (so_sm (fun i => Z 114 0 (0 + 118 + i)) 8) else if a1 = 2 then some ((if Z 114 41 0 = 0 then 0 else 1) + (if Z 114 41 1 = 0 then 0 else 1)) else if a1 = 3 then some (Z 114 22 0) else if a1 = 4 then some (if Z 114 42 0 = -4 then -4 else Z 114 43 0) else some (-1)) (fun y => y = if Z 114 42 0 = -4 then -4 else Z 114 43 0) := by rw [if_neg a, if_neg b, if_neg c, if_neg d, if_pos f]; exact dp_sm rfl
  rw [show 106 + 2 * Int.toNat 0 = 106 from rfl]
  unfold jf_H_isNothing
  refine dp_bi ?_
  rcases hH with x | x
  · rw [x.1]
    refine dp_no (by decide) (dp_sm (dp_no (by decide) (dp_sm (mod _ _ ?_ m4))))
    rw [x.2, if_pos rfl]
  · have e2 : dz_c (Z 106 2 0) = Z 106 2 0 := dc_ir (by omega) (by omega)
    rw [e2]
    refine dp_ck (by omega) (dp_sm (dp_ck rfl (dp_sm (mod _ _ ?_ m4))))
    rw [x.2.1, if_neg (by omega), x.2.2.2.1]
end oh
