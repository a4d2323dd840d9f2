/-! blocked, frozen: what is missing -/
section ps
variable {n : Nat} {P S o m m0 : ob_O} {w a1 a2 : Int} {Z Y Z' : dz_Z}
/-- a distance within a longer search: the class's objects but 54, 55 stay -/
theorem ds_w (hr : iv_R (Z 0) (Z 1)) (hP : so_P (Z (iv_p Z))) (hS : so_S (Z (iv_p Z)) (Z (iv_s Z))) (hw : 0 ≤ w ∧ w < Z (iv_p Z) 10 0) (cw : dz_c w = w) {K : Int × dz_Z → Prop} (k : ∀ Z' : dz_Z, (∀ b : Nat, b ≠ 54 → b ≠ 55 → Z' b = Z b) → K (so_far (Z (iv_p Z)) (Z (iv_s Z)) w 12, Z')) : dz_p (jf_O_distance w Z) K := ds_cls hr hP hS hw cw (fun C F => k _ (fun b x y => by rw [oz_n x, oz_n y]))
def so_bl (P S : ob_O) (w : Int) : Nat → Int
  | 0 => if so_far P S w 12 = 0 then 32 else 0
  | k + 1 => if S 1 k ≠ 0 then so_bl P S w k else dz_or (so_bl P S w k) (if so_far P (ob_u S 1 k 1) w 12 = 0 then dz_sl 1 k else 0)
def so_fz (P S : ob_O) (w : Int) : Nat → Int
  | 0 => 0
  | k + 1 => if S 2 k = 5 then so_fz P S w k else dz_or (so_fz P S w k) (if so_far P (ob_u S 2 k 5) w 12 = 0 then dz_sl 1 k else 0)
theorem bits_b : ∀ k : Fin 256, 0 ≤ so_bits (k.val : Int) ∧ so_bits (k.val : Int) ≤ 8 := by decide +kernel
theorem far_b (hP : so_P P) (hS : so_S P S) (hw : 0 ≤ w ∧ w < P 10 0) : ∀ k : Nat, k ≤ 12 → 0 ≤ so_far P S w k ∧ so_far P S w k ≤ 8 * k
  | 0, _ => by show (0 : Int) ≤ 0 ∧ (0 : Int) ≤ 8 * ((0 : Nat) : Int); omega
  | k + 1, hk => by
    have ih := far_b hP hS hw k (by omega)
    have hb := b8_r (fr_b (k := k) hP hS hw (by omega))
    have := bits_b ⟨(dz_xo (if (k : Int) < S 3 w then pf_t P S (S (20 + w.toNat)) ob_0 k else 0) (if (k : Int) < S 6 0 then S 5 k else 0)).toNat, by omega⟩
    simp only [Int.toNat_of_nonneg hb.1] at this
    show 0 ≤ so_far P S w k + _ ∧ so_far P S w k + _ ≤ 8 * ((k + 1 : Nat) : Int)
    omega
theorem far_c (hP : so_P P) (hS : so_S P S) (hw : 0 ≤ w ∧ w < P 10 0) : dz_c (so_far P S w 12) = so_far P S w 12 := by
  have := far_b hP hS hw 12 (by decide)
  exact dc_ir this.1 (by omega)
theorem ou_bk {f : Nat} {i v : Int} : ob_u (ob_u o f i v) f i (o f i) = o := by rw [ou_u, ou_m]
theorem op_blocked (h : iv_Z n Z) (c1 : dz_c a1 = a1) : dz_p (jf_O_blocked a1 Z) (fun q => dz_p (jf_M_blocked a1 q.2) (fun q' => iv_Z (n + 1) q'.2 ∧ dz_c q.1 = dz_c q'.1)) := by
  have hp := iv_isP h.1
  have hs := iv_isS h.1
  have hs2 := iv_s2 h.1
  have hp2 := iv_p2 h.1
  have hP := h.2.1
  have h3 := hP.2.2.1
  have rP := h.2.2.1
  obtain ⟨hS, rS, hB, rF⟩ := h.2.2.2.1
  have e3 : dz_c (Z (iv_p Z) 3 0) = Z (iv_p Z) 3 0 := dc_ir h3.1 (by omega)
  unfold jf_O_blocked
  refine dp_bi (dp_eq (oi_wO h c1) ?_)
  simp only [decide_eq_true_eq]
  refine dp_br (fun ha => ?_) (fun ha => dp_sm ?_)
  · have fc := far_c (S := Z (iv_s Z)) hP hS ha
    refine dp_bi (ds_w h.1 hP hS ha c1 (fun Z1 z1 => dp_bi ?_))
    dsimp only
    rw [fc]
    -- the class goes through the gutters
    have main : ∀ q5 : Int, q5 = so_bl (Z (iv_p Z)) (Z (iv_s Z)) a1 0 → dz_p (dz_lp (fun (s6 : Int × Int × dz_Z) => if hz_isP (s6.2.2 0 2 0).toNat then if dz_c (s6.2.2 ((s6.2.2 0 2 0).toNat) 3 0) ≤ dz_c s6.2.1 then (some (Sum.inr (s6.1, s6.2.2))) else (if hz_isS (s6.2.2 0 3 0).toNat then if 0 ≤ dz_c s6.2.1 ∧ dz_c s6.2.1 < 5 then if dz_c (s6.2.2 ((s6.2.2 0 3 0).toNat) 1 (dz_c s6.2.1)) ≠ 0 then (some (Sum.inl (s6.1, s6.2.1 + 1, s6.2.2))) else (dz_a (dz_u s6.2.2 ((s6.2.2 0 3 0).toNat) 1 (dz_c s6.2.1) 1) fun Z12 => Option.bind (jf_O_distance a1 Z12) fun q13 => Option.bind (α := Int) (if dz_c q13.1 ≠ 0 then (some 0) else (some (dz_sl 1 s6.2.1))) (fun (q15 : Int) => if hz_isS (q13.2 0 3 0).toNat then dz_a (dz_u q13.2 ((q13.2 0 3 0).toNat) 1 (dz_c s6.2.1) 0) fun Z17 => some (Sum.inl (dz_or s6.1 q15, s6.2.1 + 1, Z17)) else none)) else none else none) else none) 5000 (q5, 0, Z1)) (fun q => dz_p (jf_M_blocked a1 q.2) (fun q' => iv_Z (n + 1) q'.2 ∧ dz_c q.1 = dz_c q'.1)) := by
      intro q5 hq5
      subst hq5
      refine dp_lp (fun k q => ∃ (r : Nat) (Z' : dz_Z), r + k = (Z (iv_p Z) 3 0).toNat ∧ q = (so_bl (Z (iv_p Z)) (Z (iv_s Z)) a1 r, (r : Int), Z') ∧ (∀ b : Nat, b ≠ 54 → b ≠ 55 → Z' b = Z b)) ?_ 5000 (Z (iv_p Z) 3 0).toNat (so_bl (Z (iv_p Z)) (Z (iv_s Z)) a1 0, 0, Z1) (by omega) ⟨0, Z1, by omega, rfl, z1⟩
      rintro k _ ⟨r, Z', hr, rfl, hz⟩
      have er : dz_c (r : Int) = r := dc_ir (by omega) (by omega)
      have z0 : Z' 0 = Z 0 := hz 0 (by decide) (by decide)
      have zp : Z' (iv_p Z) = Z (iv_p Z) := hz _ (by omega) (by omega)
      have zs : Z' (iv_s Z) = Z (iv_s Z) := hz _ (by omega) (by omega)
      simp only [z0, show (Z 0 2 0).toNat = iv_p Z from rfl, show (Z 0 3 0).toNat = iv_s Z from rfl, zp, zs, er, e3]
      refine dp_ck hp ?_
      by_cases hk : ¬ r = (Z (iv_p Z) 3 0).toNat
      · have hb := hS.2.1 r (by omega) (by omega)
        have eb : dz_c (Z (iv_s Z) 1 r) = Z (iv_s Z) 1 r := dz_ci (by omega) (by omega)
        have key : so_bl (Z (iv_p Z)) (Z (iv_s Z)) a1 (r + 1) = if Z (iv_s Z) 1 r ≠ 0 then so_bl (Z (iv_p Z)) (Z (iv_s Z)) a1 r else dz_or (so_bl (Z (iv_p Z)) (Z (iv_s Z)) a1 r) (if so_far (Z (iv_p Z)) (ob_u (Z (iv_s Z)) 1 r 1) a1 12 = 0 then dz_sl 1 r else 0) := rfl
        rw [eb]
        refine dp_no (by omega) (dp_ck hs (dp_ck (by omega) (dp_br (fun c => dp_sm ⟨k - 1, by omega, r + 1, Z', by omega, by rw [key, if_pos c]; rfl, hz⟩) (fun c => dp_le ?_))))
        have hS1 := so_S_blk (g := (r : Int)) hS (Or.inr rfl : (1 : Int) = 0 ∨ (1 : Int) = 1)
        have fc1 := far_c (S := ob_u (Z (iv_s Z)) 1 r 1) hP hS1 ha
        have y0 : dz_u Z' (iv_s Z) 1 r 1 0 = Z 0 := by rw [oz_u, oz_n (by omega), z0]
        have y1 : dz_u Z' (iv_s Z) 1 r 1 1 = Z 1 := by rw [oz_u, oz_n (by omega), hz 1 (by decide) (by decide)]
        have ep : iv_p (dz_u Z' (iv_s Z) 1 r 1) = iv_p Z := by unfold iv_p; rw [y0]
        have es : iv_s (dz_u Z' (iv_s Z) 1 r 1) = iv_s Z := by show (dz_u Z' (iv_s Z) 1 r 1 0 3 0).toNat = (Z 0 3 0).toNat; rw [y0]
        have yp : dz_u Z' (iv_s Z) 1 r 1 (iv_p Z) = Z (iv_p Z) := by rw [oz_u, oz_n (by omega), zp]
        have ys : dz_u Z' (iv_s Z) 1 r 1 (iv_s Z) = ob_u (Z (iv_s Z)) 1 r 1 := by rw [oz_u, oz_s, zs]
        have hd := ds_w (w := a1) (Z := dz_u Z' (iv_s Z) 1 r 1) (K := fun q13 => dz_p (Option.bind (α := Int) (if dz_c q13.1 ≠ 0 then (some 0) else (some (dz_sl 1 r))) (fun (q15 : Int) => if hz_isS (q13.2 0 3 0).toNat then dz_a (dz_u q13.2 ((q13.2 0 3 0).toNat) 1 r 0) fun Z17 => some (Sum.inl (dz_or (so_bl (Z (iv_p Z)) (Z (iv_s Z)) a1 r) q15, (r : Int) + 1, Z17)) else none)) (Sum.elim (fun s' => ∃ k', k' < k ∧ ∃ (r : Nat) (Z' : dz_Z), r + k' = (Z (iv_p Z) 3 0).toNat ∧ s' = (so_bl (Z (iv_p Z)) (Z (iv_s Z)) a1 r, (r : Int), Z') ∧ (∀ b : Nat, b ≠ 54 → b ≠ 55 → Z' b = Z b)) (fun q : Int × dz_Z => dz_p (jf_M_blocked a1 q.2) (fun q' => iv_Z (n + 1) q'.2 ∧ dz_c q.1 = dz_c q'.1)))) (by rw [y0, y1]; exact h.1) (by rw [ep, yp]; exact hP) (by rw [ep, es, yp, ys]; exact hS1) (by rw [ep, yp]; exact ha) c1 (fun Z2 hz2 => ?_)
        · exact dp_bi hd
        · rw [ep, es, yp, ys]
          dsimp only
          rw [fc1]
          have w0 : Z2 0 = Z 0 := by rw [hz2 0 (by decide) (by decide), y0]
          have ws : Z2 (iv_s Z) = ob_u (Z (iv_s Z)) 1 r 1 := by rw [hz2 _ (by omega) (by omega), ys]
          simp only [w0, show (Z 0 3 0).toNat = iv_s Z from rfl]
          have fin : ∀ q15 : Int, q15 = (if so_far (Z (iv_p Z)) (ob_u (Z (iv_s Z)) 1 r 1) a1 12 = 0 then dz_sl 1 r else 0) → dz_p (if hz_isS (iv_s Z) then dz_a (dz_u Z2 (iv_s Z) 1 r 0) fun Z17 => some (Sum.inl (dz_or (so_bl (Z (iv_p Z)) (Z (iv_s Z)) a1 r) q15, (r : Int) + 1, Z17)) else none) (Sum.elim (fun s' => ∃ k', k' < k ∧ ∃ (r : Nat) (Z' : dz_Z), r + k' = (Z (iv_p Z) 3 0).toNat ∧ s' = (so_bl (Z (iv_p Z)) (Z (iv_s Z)) a1 r, (r : Int), Z') ∧ (∀ b : Nat, b ≠ 54 → b ≠ 55 → Z' b = Z b)) (fun q : Int × dz_Z => dz_p (jf_M_blocked a1 q.2) (fun q' => iv_Z (n + 1) q'.2 ∧ dz_c q.1 = dz_c q'.1))) := by
            intro q15 hq
            refine dp_ck hs (dp_le (dp_sm ⟨k - 1, by omega, r + 1, _, by omega, by rw [key, if_neg c, ← hq]; rfl, fun b x y => ?_⟩))
            rw [oz_u]
            by_cases e : b = iv_s Z
            · rw [e, oz_s, ws]
              have := ou_bk (o := Z (iv_s Z)) (f := 1) (i := (r : Int)) (v := 1)
              rw [show Z (iv_s Z) 1 r = 0 by omega] at this
              exact this
            · rw [oz_n e, hz2 b x y, oz_u, oz_n e, hz b x y]
          refine dp_bi (dp_br (fun d => dp_sm (fin _ (by rw [if_neg d]))) (fun d => dp_sm (fin _ (by rw [if_pos (by omega)]))))
      have hk : r = (Z (iv_p Z) 3 0).toNat := by omega
      refine dp_ck (by omega) (dp_sm ?_)
      show dz_p (jf_M_blocked a1 Z') (fun q' => iv_Z (n + 1) q'.2 ∧ dz_c (so_bl (Z (iv_p Z)) (Z (iv_s Z)) a1 r) = dz_c q'.1)
      have y114 : Z' 114 = Z 114 := hz 114 (by decide) (by decide)
      have ey : Z' = ob_z Z' 114 (Z 114) := by rw [← y114]; exact oz_i.symm
      rw [ey]
      unfold jf_M_blocked
      refine dp_bi (dp_eq (oi_wM (m := Z 114) h.2.1 rP oz_s c1) ?_)
      simp only [decide_eq_true_eq]
      refine dp_ck ha (dp_bi (fr_ref hP hS rP (mv_S rS) ha (fun m1 j1 f1 => dp_bi ?_)))
      dsimp only
      rw [fc]
      have mloop : ∀ q5 : Int, q5 = so_bl (Z (iv_p Z)) (Z (iv_s Z)) a1 0 → dz_p (dz_lp (fun (s6 : Int × Int × dz_Z) => if dz_c (s6.2.2 114 2 0) ≤ dz_c s6.2.1 then (some (Sum.inr (s6.1, s6.2.2))) else (if 0 ≤ dz_c (5 + s6.2.1) ∧ dz_c (5 + s6.2.1) < 700 then if dz_c (s6.2.2 114 0 (dz_c (5 + s6.2.1))) ≠ 0 then (some (Sum.inl (s6.1, s6.2.1 + 1, s6.2.2))) else (dz_a (dz_u s6.2.2 114 0 (dz_c (5 + s6.2.1)) 1) fun Z10 => Option.bind (jf_M_farOf a1 Z10) fun q11 => Option.bind (α := Int) (if dz_c q11.1 ≠ 0 then (some 0) else (some (dz_sl 1 s6.2.1))) (fun (q13 : Int) => dz_a (dz_u q11.2 114 0 (dz_c (5 + s6.2.1)) 0) fun Z14 => some (Sum.inl (dz_or s6.1 q13, s6.2.1 + 1, Z14)))) else none)) 5000 (q5, 0, ob_z Z' 114 m1)) (fun q' => iv_Z (n + 1) q'.2 ∧ dz_c (so_bl (Z (iv_p Z)) (Z (iv_s Z)) a1 r) = dz_c q'.1) := by
        intro q5 hq5
        subst hq5
        refine dp_lp (fun k q => ∃ (t : Nat) (m : ob_O), t + k = (Z (iv_p Z) 3 0).toNat ∧ q = (so_bl (Z (iv_p Z)) (Z (iv_s Z)) a1 t, (t : Int), ob_z Z' 114 m) ∧ (∀ j : Int, j < 420 → m 0 j = Z 114 0 j) ∧ (∀ f : Nat, f ≠ 0 → (f < 32 ∨ 37 < f) → m f = Z 114 f)) ?_ 5000 (Z (iv_p Z) 3 0).toNat (so_bl (Z (iv_p Z)) (Z (iv_s Z)) a1 0, 0, ob_z Z' 114 m1) (by omega) ⟨0, m1, by omega, rfl, j1, f1⟩
        rintro k2 _ ⟨t, m, ht, rfl, hj, hf⟩
        have et : dz_c (t : Int) = t := dc_ir (by omega) (by omega)
        have et5 : dz_c (5 + (t : Int)) = 5 + t := dc_ir (by omega) (by omega)
        have m2 : m 2 0 = Z (iv_p Z) 3 0 := by rw [hf 2 (by decide) (by decide)]; exact rP.2.2.1
        simp only [oz_s, et, et5, m2, e3]
        by_cases hk2 : ¬ t = (Z (iv_p Z) 3 0).toNat
        · have hb := hS.2.1 t (by omega) (by omega)
          have eb : dz_c (Z (iv_s Z) 1 t) = Z (iv_s Z) 1 t := dz_ci (by omega) (by omega)
          have mb : m 0 (5 + t) = Z (iv_s Z) 1 t := by
            have := rS.1.2.1 t (by omega) (by omega)
            rw [Int.zero_add] at this
            rw [hj _ (by omega), this]
          have key : so_bl (Z (iv_p Z)) (Z (iv_s Z)) a1 (t + 1) = if Z (iv_s Z) 1 t ≠ 0 then so_bl (Z (iv_p Z)) (Z (iv_s Z)) a1 t else dz_or (so_bl (Z (iv_p Z)) (Z (iv_s Z)) a1 t) (if so_far (Z (iv_p Z)) (ob_u (Z (iv_s Z)) 1 t 1) a1 12 = 0 then dz_sl 1 t else 0) := rfl
          rw [mb, eb]
          refine dp_no (by omega) (dp_ck (by omega) (dp_br (fun c => dp_sm ⟨k2 - 1, by omega, t + 1, m, by omega, by rw [key, if_pos c]; rfl, hj, hf⟩) (fun c => dp_le ?_)))
          have hS1 := so_S_blk (g := (t : Int)) hS (Or.inr rfl : (1 : Int) = 0 ∨ (1 : Int) = 1)
          have fc1 := far_c (S := ob_u (Z (iv_s Z)) 1 t 1) hP hS1 ha
          have rS' : mr_S 0 (Z (iv_p Z)) (Z (iv_s Z)) m := mrS_m rS hP hS (fun j a b => hj j (by omega))
          rw [oz_uz]
          refine dp_bi (fr_ref hP hS1 (mrP_m rP (fun f a b => by rw [ou_ff (by omega), hf f (by omega) (by omega)])) (mv_S (mr_S_blk hP hS rS' (by omega))) ha (fun m3 j3 f3 => dp_bi ?_))
          dsimp only
          rw [fc1]
          have fin : ∀ q13 : Int, q13 = (if so_far (Z (iv_p Z)) (ob_u (Z (iv_s Z)) 1 t 1) a1 12 = 0 then dz_sl 1 t else 0) → dz_p (dz_a (dz_u (ob_z Z' 114 m3) 114 0 (5 + t) 0) fun Z14 => some (Sum.inl (dz_or (so_bl (Z (iv_p Z)) (Z (iv_s Z)) a1 t) q13, (t : Int) + 1, Z14))) (Sum.elim (fun s' => ∃ k', k' < k2 ∧ ∃ (t : Nat) (m : ob_O), t + k' = (Z (iv_p Z) 3 0).toNat ∧ s' = (so_bl (Z (iv_p Z)) (Z (iv_s Z)) a1 t, (t : Int), ob_z Z' 114 m) ∧ (∀ j : Int, j < 420 → m 0 j = Z 114 0 j) ∧ (∀ f : Nat, f ≠ 0 → (f < 32 ∨ 37 < f) → m f = Z 114 f)) (fun q' : Int × dz_Z => iv_Z (n + 1) q'.2 ∧ dz_c (so_bl (Z (iv_p Z)) (Z (iv_s Z)) a1 r) = dz_c q'.1)) := by
            intro q13 hq
            refine dp_le (dp_sm ⟨k2 - 1, by omega, t + 1, ob_u m3 0 (5 + t) 0, by omega, by rw [key, if_neg c, ← hq, oz_uz]; rfl, fun j a => ?_, fun f a b => ?_⟩)
            · rw [ou_a]
              by_cases e : j = 5 + t
              · rw [if_pos e, e, ← hj _ (by omega), mb]; omega
              · rw [if_neg e, j3 j a, ou_i e, hj j a]
            · rw [ou_ff a, f3 f a b, ou_ff a, hf f a b]
          exact dp_br (fun d => dp_sm (fin _ (by rw [if_neg d]))) (fun d => dp_sm (fin _ (by rw [if_pos (by omega)])))
        have hk2 : t = (Z (iv_p Z) 3 0).toNat := by omega
        refine dp_ck (by omega) (dp_sm ⟨?_, by rw [hk, hk2]⟩)
        dsimp only
        refine iv_fin h (fun b _ h54 h55 _ h114 _ => by rw [oz_n h114, hz b h54 h55]) ?_ (fun f a b => by rw [oz_s]; exact hf f a (by omega)) (fun j a b => by rw [oz_s]; exact hj j b)
        rw [oz_s, oz_n (show iv_s Z ≠ 114 by omega), hz _ (by omega) (by omega), oz_n (show (46 : Nat) ≠ 114 by decide), hz _ (by decide) (by decide)]
        exact iv_In (iv_Im h.2.2.2.1 h.2.1 (fun j a b => hj j (by omega))) (by omega)
      refine dp_br (fun d => dp_sm (mloop _ ?_)) (fun d => dp_sm (mloop _ ?_))
      · show _ = if so_far (Z (iv_p Z)) (Z (iv_s Z)) a1 12 = 0 then 32 else 0
        rw [if_neg d]
      · show _ = if so_far (Z (iv_p Z)) (Z (iv_s Z)) a1 12 = 0 then 32 else 0
        rw [if_pos (by omega)]
    refine dp_br (fun d => dp_sm (main _ ?_)) (fun d => dp_sm (main _ ?_))
    · show _ = if so_far (Z (iv_p Z)) (Z (iv_s Z)) a1 12 = 0 then 32 else 0
      rw [if_neg d]
    · show _ = if so_far (Z (iv_p Z)) (Z (iv_s Z)) a1 12 = 0 then 32 else 0
      rw [if_pos (by omega)]
  · dsimp only
    unfold jf_M_blocked
    refine dp_bi (dp_eq (oi_wM h.2.1 rP rfl c1) ?_)
    simp only [decide_eq_true_eq]
    exact dp_no ha (dp_sm ⟨iv_nx h, rfl⟩)
theorem mv_fz {k : Int} (hP : so_P P) (hS : so_S P S) (h : mr_V P S m) (hk : 0 ≤ k ∧ k < P 6 0) : mr_V P (ob_u S 2 k 5) (ob_u m 0 (10 + k) 5) := by
  have h3 := hP.2.2.1
  have h6 := hP.2.2.2.2.1
  have h10 := hP.2.2.2.2.2.2.1
  have hs6 := hS.2.2.2.2.1
  refine ⟨⟨fun i a b => ?_, fun i a b => ?_, fun i a b => ?_⟩, trivial, fun w a b => ?_, ?_, fun i a b => ?_⟩
  · rw [ou_i (by omega), ou_f (by decide)]; exact h.1.1 i a b
  · rw [ou_i (by omega), ou_f (by decide)]; exact h.1.2.1 i a b
  · have r := h.1.2.2 i a b
    simp only [Int.zero_add] at r ⊢
    by_cases c : i = k
    · subst c
      rw [ou_s, ou_s]
      exact ⟨rfl, fun q => by omega, fun q => by omega⟩
    · rw [ou_i (i' := 10 + i) (by omega), ou_i (i' := 18 + i) (by omega), ou_i (i' := 26 + i) (by omega), ou_i (f := 2) c]
      exact r
  · have hl := (hS.2.2.2.1 w a b).1
    rw [ou_i (by omega), ou_f (f' := 3) (by decide)]
    refine ⟨(h.2.2.1 w a b).1, fun i c d => ?_⟩
    rw [ou_i (by omega), ou_f (by omega)]; exact (h.2.2.1 w a b).2 i c d
  · rw [ou_i (by omega), ou_f (by decide)]; exact h.2.2.2.1
  · rw [ou_f (by decide)] at b
    rw [ou_i (by omega), ou_f (by decide)]; exact h.2.2.2.2 i a b
theorem op_frozen (h : iv_Z n Z) (c1 : dz_c a1 = a1) : dz_p (jf_O_frozen a1 Z) (fun q => dz_p (jf_M_frozen a1 q.2) (fun q' => iv_Z (n + 1) q'.2 ∧ dz_c q.1 = dz_c q'.1)) := by
  have hp := iv_isP h.1
  have hs := iv_isS h.1
  have hs2 := iv_s2 h.1
  have hp2 := iv_p2 h.1
  have hP := h.2.1
  have h6 := hP.2.2.2.2.1
  have rP := h.2.2.1
  obtain ⟨hS, rS, hB, rF⟩ := h.2.2.2.1
  have e6 : dz_c (Z (iv_p Z) 6 0) = Z (iv_p Z) 6 0 := dc_ir h6.1 (by omega)
  unfold jf_O_frozen
  refine dp_bi (dp_eq (oi_wO h c1) ?_)
  simp only [decide_eq_true_eq]
  refine dp_br (fun ha => ?_) (fun ha => dp_sm ?_)
  · refine dp_lp (fun k q => ∃ (r : Nat) (Z' : dz_Z), r + k = (Z (iv_p Z) 6 0).toNat ∧ q = (so_fz (Z (iv_p Z)) (Z (iv_s Z)) a1 r, (r : Int), Z') ∧ (∀ b : Nat, b ≠ 54 → b ≠ 55 → Z' b = Z b)) ?_ 5000 (Z (iv_p Z) 6 0).toNat (0, 0, Z) (by omega) ⟨0, Z, by omega, rfl, fun b _ _ => rfl⟩
    rintro k _ ⟨r, Z', hr, rfl, hz⟩
    have er : dz_c (r : Int) = r := dc_ir (by omega) (by omega)
    have z0 : Z' 0 = Z 0 := hz 0 (by decide) (by decide)
    have zp : Z' (iv_p Z) = Z (iv_p Z) := hz _ (by omega) (by omega)
    have zs : Z' (iv_s Z) = Z (iv_s Z) := hz _ (by omega) (by omega)
    simp only [z0, show (Z 0 2 0).toNat = iv_p Z from rfl, show (Z 0 3 0).toNat = iv_s Z from rfl, zp, zs, er, e6]
    refine dp_ck hp ?_
    by_cases hk : ¬ r = (Z (iv_p Z) 6 0).toNat
    · have hb := hS.2.2.1 r (by omega) (by omega)
      have eb : dz_c (Z (iv_s Z) 2 r) = Z (iv_s Z) 2 r := dz_ci (by omega) (by omega)
      have key : so_fz (Z (iv_p Z)) (Z (iv_s Z)) a1 (r + 1) = if Z (iv_s Z) 2 r = 5 then so_fz (Z (iv_p Z)) (Z (iv_s Z)) a1 r else dz_or (so_fz (Z (iv_p Z)) (Z (iv_s Z)) a1 r) (if so_far (Z (iv_p Z)) (ob_u (Z (iv_s Z)) 2 r 5) a1 12 = 0 then dz_sl 1 r else 0) := rfl
      rw [eb]
      refine dp_no (by omega) (dp_ck hs (dp_ck (by omega) (dp_br (fun c => dp_sm ⟨k - 1, by omega, r + 1, Z', by omega, by rw [key, if_pos c]; rfl, hz⟩) (fun c => dp_le ?_))))
      have hS1 := so_S_cup (s := (r : Int)) hS (Or.inr rfl : (5 : Int) = 0 ∨ (5 : Int) = 5)
      have fc1 := far_c (S := ob_u (Z (iv_s Z)) 2 r 5) hP hS1 ha
      have y0 : dz_u Z' (iv_s Z) 2 r 5 0 = Z 0 := by rw [oz_u, oz_n (by omega), z0]
      have y1 : dz_u Z' (iv_s Z) 2 r 5 1 = Z 1 := by rw [oz_u, oz_n (by omega), hz 1 (by decide) (by decide)]
      have ep : iv_p (dz_u Z' (iv_s Z) 2 r 5) = iv_p Z := by unfold iv_p; rw [y0]
      have es : iv_s (dz_u Z' (iv_s Z) 2 r 5) = iv_s Z := by show (dz_u Z' (iv_s Z) 2 r 5 0 3 0).toNat = (Z 0 3 0).toNat; rw [y0]
      have yp : dz_u Z' (iv_s Z) 2 r 5 (iv_p Z) = Z (iv_p Z) := by rw [oz_u, oz_n (by omega), zp]
      have ys : dz_u Z' (iv_s Z) 2 r 5 (iv_s Z) = ob_u (Z (iv_s Z)) 2 r 5 := by rw [oz_u, oz_s, zs]
      refine dp_bi (ds_w (by rw [y0, y1]; exact h.1) (by rw [ep, yp]; exact hP) (by rw [ep, es, yp, ys]; exact hS1) (by rw [ep, yp]; exact ha) c1 (fun Z2 hz2 => ?_))
      rw [ep, es, yp, ys]
      dsimp only
      rw [fc1]
      have w0 : Z2 0 = Z 0 := by rw [hz2 0 (by decide) (by decide), y0]
      have ws : Z2 (iv_s Z) = ob_u (Z (iv_s Z)) 2 r 5 := by rw [hz2 _ (by omega) (by omega), ys]
      simp only [w0, show (Z 0 3 0).toNat = iv_s Z from rfl]
      have back : ∀ b : Nat, b ≠ 54 → b ≠ 55 → dz_u Z2 (iv_s Z) 2 r (Z (iv_s Z) 2 r) b = Z b := fun b x y => by
        rw [oz_u]
        by_cases e : b = iv_s Z
        · rw [e, oz_s, ws]
          exact ou_bk
        · rw [oz_n e, hz2 b x y, oz_u, oz_n e, hz b x y]
      refine dp_bi (dp_br (fun d => dp_sm (dp_ck hs (dp_le (dp_sm ⟨k - 1, by omega, r + 1, _, by omega, by rw [key, if_neg c, if_neg d]; rfl, back⟩)))) (fun d => dp_sm (dp_ck hs (dp_le (dp_sm ⟨k - 1, by omega, r + 1, _, by omega, by rw [key, if_neg c, if_pos (by omega)]; rfl, back⟩)))))
    have hk : r = (Z (iv_p Z) 6 0).toNat := by omega
    refine dp_ck (by omega) (dp_sm ?_)
    show dz_p (jf_M_frozen a1 Z') (fun q' => iv_Z (n + 1) q'.2 ∧ dz_c (so_fz (Z (iv_p Z)) (Z (iv_s Z)) a1 r) = dz_c q'.1)
    have y114 : Z' 114 = Z 114 := hz 114 (by decide) (by decide)
    have ey : Z' = ob_z Z' 114 (Z 114) := by rw [← y114]; exact oz_i.symm
    rw [ey]
    unfold jf_M_frozen
    refine dp_bi (dp_eq (oi_wM (m := Z 114) h.2.1 rP oz_s c1) ?_)
    simp only [decide_eq_true_eq]
    refine dp_ck ha ?_
    refine dp_lp (fun k q => ∃ (t : Nat) (m : ob_O), t + k = (Z (iv_p Z) 6 0).toNat ∧ q = (so_fz (Z (iv_p Z)) (Z (iv_s Z)) a1 t, (t : Int), ob_z Z' 114 m) ∧ (∀ j : Int, j < 420 → m 0 j = Z 114 0 j) ∧ (∀ f : Nat, f ≠ 0 → (f < 32 ∨ 37 < f) → m f = Z 114 f)) ?_ 5000 (Z (iv_p Z) 6 0).toNat (0, 0, ob_z Z' 114 (Z 114)) (by omega) ⟨0, Z 114, by omega, rfl, fun j _ => rfl, fun f _ _ => rfl⟩
    rintro k2 _ ⟨t, m, ht, rfl, hj, hf⟩
    have et : dz_c (t : Int) = t := dc_ir (by omega) (by omega)
    have et5 : dz_c (10 + (t : Int)) = 10 + t := dc_ir (by omega) (by omega)
    have m3 : m 3 0 = Z (iv_p Z) 6 0 := by rw [hf 3 (by decide) (by decide)]; exact rP.2.2.2.2.1
    simp only [oz_s, et, et5, m3, e6]
    by_cases hk2 : ¬ t = (Z (iv_p Z) 6 0).toNat
    · have hb := hS.2.2.1 t (by omega) (by omega)
      have eb : dz_c (Z (iv_s Z) 2 t) = Z (iv_s Z) 2 t := dz_ci (by omega) (by omega)
      have mb : m 0 (10 + t) = Z (iv_s Z) 2 t := by
        have := (rS.1.2.2 t (by omega) (by omega)).1
        rw [Int.zero_add] at this
        rw [hj _ (by omega), this]
      have key : so_fz (Z (iv_p Z)) (Z (iv_s Z)) a1 (t + 1) = if Z (iv_s Z) 2 t = 5 then so_fz (Z (iv_p Z)) (Z (iv_s Z)) a1 t else dz_or (so_fz (Z (iv_p Z)) (Z (iv_s Z)) a1 t) (if so_far (Z (iv_p Z)) (ob_u (Z (iv_s Z)) 2 t 5) a1 12 = 0 then dz_sl 1 t else 0) := rfl
      rw [mb, eb]
      refine dp_no (by omega) (dp_ck (by omega) (dp_br (fun c => dp_sm ⟨k2 - 1, by omega, t + 1, m, by omega, by rw [key, if_pos c]; rfl, hj, hf⟩) (fun c => dp_le ?_)))
      have hS1 := so_S_cup (s := (t : Int)) hS (Or.inr rfl : (5 : Int) = 0 ∨ (5 : Int) = 5)
      have fc1 := far_c (S := ob_u (Z (iv_s Z)) 2 t 5) hP hS1 ha
      have rV : mr_V (Z (iv_p Z)) (Z (iv_s Z)) m := mv_m (mv_S rS) hP hS (fun j a b => hj j (by omega))
      rw [oz_uz]
      refine dp_bi (fr_ref hP hS1 (mrP_m rP (fun f a b => by rw [ou_ff (by omega), hf f (by omega) (by omega)])) (mv_fz hP hS rV (by omega)) ha (fun m4 j3 f3 => dp_bi ?_))
      dsimp only
      rw [fc1]
      have bj : ∀ j : Int, j < 420 → ob_u m4 0 (10 + t) (Z (iv_s Z) 2 t) 0 j = Z 114 0 j := fun j a => by
        rw [ou_a]
        by_cases e : j = 10 + t
        · rw [if_pos e, e, ← hj _ (by omega), mb]
        · rw [if_neg e, j3 j a, ou_i e, hj j a]
      have bf : ∀ f : Nat, f ≠ 0 → (f < 32 ∨ 37 < f) → ob_u m4 0 (10 + t) (Z (iv_s Z) 2 t) f = Z 114 f := fun f a b => by rw [ou_ff a, f3 f a b, ou_ff a, hf f a b]
      refine dp_br (fun d => dp_sm (dp_le (dp_sm ⟨k2 - 1, by omega, t + 1, _, by omega, by rw [key, if_neg c, if_neg d, oz_uz]; rfl, bj, bf⟩))) (fun d => dp_sm (dp_le (dp_sm ⟨k2 - 1, by omega, t + 1, _, by omega, by rw [key, if_neg c, if_pos (by omega), oz_uz]; rfl, bj, bf⟩)))
    have hk2 : t = (Z (iv_p Z) 6 0).toNat := by omega
    refine dp_ck (by omega) (dp_sm ⟨?_, by rw [hk, hk2]⟩)
    dsimp only
    refine iv_fin h (fun b _ h54 h55 _ h114 _ => by rw [oz_n h114, hz b h54 h55]) ?_ (fun f a b => by rw [oz_s]; exact hf f a (by omega)) (fun j a b => by rw [oz_s]; exact hj j b)
    rw [oz_s, oz_n (show iv_s Z ≠ 114 by omega), hz _ (by omega) (by omega), oz_n (show (46 : Nat) ≠ 114 by decide), hz _ (by decide) (by decide)]
    exact iv_In (iv_Im h.2.2.2.1 h.2.1 (fun j a b => hj j (by omega))) (by omega)
  · dsimp only
    unfold jf_M_frozen
    refine dp_bi (dp_eq (oi_wM h.2.1 rP rfl c1) ?_)
    simp only [decide_eq_true_eq]
    exact dp_no ha (dp_sm ⟨iv_nx h, rfl⟩)
end ps
