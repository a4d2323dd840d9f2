/-! plays, far, woken, falls -/
def so_far (P S : ob_O) (w : Int) : Nat → Int
  | 0 => 0
  | k + 1 => so_far P S w k + so_bits (dz_xo (if (k : Int) < S 3 w then pf_t P S (S (20 + w.toNat)) ob_0 k else 0) (if (k : Int) < S 6 0 then S 5 k else 0))
def so_wi (lo : Int → Int) (th kk fr : Int) : Nat → Int → Int
  | 0, b => b
  | j + 1, b => dz_or (so_wi lo th kk fr j b) (if dz_c (lo (fr + j)) < th then 0 else dz_sl 1 kk)
def so_wc (P : ob_O) (len : Int) (k : Int) : Nat := ((if P 13 k + 1 < len then P 13 k + 1 else len) - P 12 k).toNat
def so_wk (P : ob_O) (lo : Int → Int) (len : Int) : Nat → Int
  | 0 => 0
  | k + 1 => so_wi lo (P 14 k) k (P 12 k) (so_wc P len k) (so_wk P lo len k)
def so_ls (lo : Int → Int) : Nat → Int × Int
  | 0 => (0, -4)
  | k + 1 => if dz_c (lo k) ≤ dz_c (so_ls lo k).1 then so_ls lo k else (lo k, k)
section pq
variable {n : Nat} {P S o m m0 : ob_O} {w a1 a2 : Int} {Z Y : dz_Z} {lo lo' : Int → Int}
theorem fr_b {k : Nat} (hP : so_P P) (hS : so_S P S) (hw : 0 ≤ w ∧ w < P 10 0) (hk : k < 12) : b8 (dz_xo (if (k : Int) < S 3 w then pf_t P S (S (20 + w.toNat)) ob_0 k else 0) (if (k : Int) < S 6 0 then S 5 k else 0)) := by
  have hl := hS.2.2.2.1 w hw.1 hw.2
  refine b8_xo ?_ ?_
  · split
    · exact pf_b8 (t := 0) hP hS (dr_B D_0 (by decide) (by decide)) (by decide) (fun i _ _ => rfl) k (by omega) (fun i hi => hl.2 i (by omega) (by omega))
    · exact b8_i (by decide)
  · split
    · have := hS.2.2.2.2.2 k (by omega) (by assumption)
      exact b8_i (by omega)
    · exact b8_i (by decide)
theorem fr_cls {C F : ob_O} (hs : hz_isS (iv_s Z)) (hP : so_P P) (hS : so_S P (Z (iv_s Z))) (hw : 0 ≤ w ∧ w < P 10 0) (h3 : C 3 0 = Z (iv_s Z) 3 w) (ht : ∀ i : Nat, (i : Int) < Z (iv_s Z) 3 w → C 1 i = pf_t P (Z (iv_s Z)) (Z (iv_s Z) (20 + w.toNat)) ob_0 i) : jf_C_farFromTune (iv_s Z) (ob_z (ob_z Z 55 F) 54 C) = some (so_far P (Z (iv_s Z)) w 12) := by
  have hl := (hS.2.2.2.1 w hw.1 hw.2).1
  have h6 := hS.2.2.2.2.1
  have s55 : iv_s Z ≠ 55 ∧ iv_s Z ≠ 54 := by unfold hz_isS at hs; omega
  have zs : ob_z (ob_z Z 55 F) 54 C (iv_s Z) = Z (iv_s Z) := by rw [oz_n s55.2, oz_n s55.1]
  have e3 : dz_c (Z (iv_s Z) 3 w) = Z (iv_s Z) 3 w := dc_ir (by omega) (by omega)
  have e6 : dz_c (Z (iv_s Z) 6 0) = Z (iv_s Z) 6 0 := dc_ir (by omega) (by omega)
  apply dp_is
  unfold jf_C_farFromTune
  refine dp_lp (fun k q => ∃ r : Nat, r + k = 12 ∧ q = (so_far P (Z (iv_s Z)) w r, (r : Int))) ?_ 5000 12 (0, 0) (by omega) ⟨0, by omega, rfl⟩
  rintro k _ ⟨r, hr, rfl⟩
  have er : dz_c (r : Int) = r := dc_ir (by omega) (by omega)
  simp only [er, oz_s, zs, h3, e3, e6]
  by_cases hk : r = 12
  · subst hk
    exact dp_ck (by omega) (dp_sm rfl)
  · refine dp_no (by omega) (dp_bi ?_)
    have hb := fr_b (k := r) hP hS hw (by omega)
    have key : ∀ x y : Int, x = (if (r : Int) < Z (iv_s Z) 3 w then pf_t P (Z (iv_s Z)) (Z (iv_s Z) (20 + w.toNat)) ob_0 r else 0) → y = (if (r : Int) < Z (iv_s Z) 6 0 then Z (iv_s Z) 5 r else 0) → dz_p (Option.bind (jf_J_bitCount (dz_xo x y)) fun q11 => some (Sum.inl (so_far P (Z (iv_s Z)) w r + q11, (r : Int) + 1))) (Sum.elim (fun s' => ∃ k', k' < k ∧ ∃ r : Nat, r + k' = 12 ∧ s' = (so_far P (Z (iv_s Z)) w r, (r : Int))) (fun q => q = so_far P (Z (iv_s Z)) w 12)) := by
      intro x y hx hy
      subst hx hy
      exact dp_bi (dp_eq (bc_8 hb).1 (dp_sm ⟨k - 1, by omega, r + 1, by omega, rfl⟩))
    refine dp_br (fun c => dp_sm (dp_bi (dp_br (fun d => dp_sm (key _ _ (by rw [if_neg (by omega)]) (by rw [if_neg (by omega)]))) (fun d => dp_ck (by omega) (dp_sm (key _ _ (by rw [if_neg (by omega)]) (by rw [if_pos (by omega)]))))))) (fun c => dp_ck (by omega) (dp_sm (dp_bi (dp_br (fun d => dp_sm (key _ _ (by rw [if_pos (by omega)]; exact ht r (by omega)) (by rw [if_neg (by omega)]))) (fun d => dp_ck (by omega) (dp_sm (key _ _ (by rw [if_pos (by omega)]; exact ht r (by omega)) (by rw [if_pos (by omega)]))))))))
theorem fr_ref (hP : so_P P) (hS : so_S P S) (rP : mr_P P m0) (rS : mr_V P S m0) (hw : 0 ≤ w ∧ w < P 10 0) {K : Int × dz_Z → Prop} (k : ∀ m' : ob_O, (∀ j : Int, j < 420 → m' 0 j = m0 0 j) → (∀ f : Nat, f ≠ 0 → (f < 32 ∨ 37 < f) → m' f = m0 f) → K (so_far P S w 12, ob_z Y 114 m')) : dz_p (jf_M_farOf w (ob_z Y 114 m0)) K := by
  have h10 := hP.2.2.2.2.2.2.1
  have hl := (hS.2.2.2.1 w hw.1 hw.2).1
  have h6 := hS.2.2.2.2.1
  have rl := rS.2.2.1 w hw.1 hw.2
  have r73 := rS.2.2.2.1
  simp only [Int.zero_add] at rl r73
  have e34 : dz_c (34 + 13 * w) = 34 + 13 * w := dc_ir (by omega) (by omega)
  have e3 : dz_c (S 3 w) = S 3 w := dc_ir (by omega) (by omega)
  have e6 : dz_c (S 6 0) = S 6 0 := dc_ir (by omega) (by omega)
  unfold jf_M_farOf
  refine dp_bi (mp_pl hP hS rP rS hw (fun m' k1 k2 k3 k4 k5 => ?_))
  have elen : jf_M_lengthOf w (ob_z Y 114 m') = some (S 3 w) := by
    unfold jf_M_lengthOf
    rw [e34, if_pos (by omega), oz_s, k4 _ (by omega), rl.1]
  have m73 : m' 0 73 = S 6 0 := by rw [k4 _ (by omega), r73]
  refine dp_lp (fun k q => ∃ r : Nat, r + k = 12 ∧ q = (so_far P S w r, (r : Int))) ?_ 5000 12 (0, 0) (by omega) ⟨0, by omega, rfl⟩
  rintro k' _ ⟨r, hr, rfl⟩
  have er : dz_c (r : Int) = r := dc_ir (by omega) (by omega)
  have er2 : dz_c (74 + (r : Int)) = 74 + r := dc_ir (by omega) (by omega)
  simp only [er, er2, oz_s, elen, Option.bind_some, e3, m73, e6]
  by_cases hk : r = 12
  · subst hk
    exact dp_ck (by omega) (dp_sm (k m' k4 k5))
  · refine dp_no (by omega) (dp_bi ?_)
    have hb := fr_b (k := r) hP hS hw (by omega)
    have key : ∀ x y : Int, x = (if (r : Int) < S 3 w then pf_t P S (S (20 + w.toNat)) ob_0 r else 0) → y = (if (r : Int) < S 6 0 then S 5 r else 0) → dz_p (Option.bind (jf_M_bitsOf (dz_xo x y)) fun q11 => some (Sum.inl (so_far P S w r + q11, (r : Int) + 1))) (Sum.elim (fun s' => ∃ k'', k'' < k' ∧ ∃ r : Nat, r + k'' = 12 ∧ s' = (so_far P S w r, (r : Int))) K) := by
      intro x y hx hy
      subst hx hy
      exact dp_bi (dp_eq (bc_8 hb).2 (dp_sm ⟨k' - 1, by omega, r + 1, by omega, rfl⟩))
    have t5 : (r : Int) < S 6 0 → m' 0 (74 + r) = S 5 r := fun c => by
      have := rS.2.2.2.2 r (by omega) c
      rw [Int.zero_add] at this
      rw [k4 _ (by omega), this]
    refine dp_br (fun c => dp_sm (dp_bi (dp_br (fun d => dp_sm (key _ _ (by rw [if_neg (by omega)]) (by rw [if_neg (by omega)]))) (fun d => dp_ck (by omega) (dp_sm (key _ _ (by rw [if_neg (by omega)]) (by rw [if_pos (by omega)]; exact t5 (by omega)))))))) (fun c => dp_ck (by omega) (dp_sm (dp_bi (dp_br (fun d => dp_sm (key _ _ (by rw [if_pos (by omega)]; exact (k1 r (by omega)).1) (by rw [if_neg (by omega)]))) (fun d => dp_ck (by omega) (dp_sm (key _ _ (by rw [if_pos (by omega)]; exact (k1 r (by omega)).1) (by rw [if_pos (by omega)]; exact t5 (by omega)))))))))
/-- how far a shower is from the tune -/
theorem ds_cls (hr : iv_R (Z 0) (Z 1)) (hP : so_P (Z (iv_p Z))) (hS : so_S (Z (iv_p Z)) (Z (iv_s Z))) (hw : 0 ≤ w ∧ w < Z (iv_p Z) 10 0) (cw : dz_c w = w) {K : Int × dz_Z → Prop} (k : ∀ C F : ob_O, K (so_far (Z (iv_p Z)) (Z (iv_s Z)) w 12, ob_z (ob_z Z 55 F) 54 C)) : dz_p (jf_O_distance w Z) K := by
  unfold jf_O_distance
  have z0 : ∀ C F : ob_O, ob_z (ob_z Z 55 F) 54 C 0 = Z 0 := fun C F => by rw [oz_n (by decide), oz_n (by decide)]
  simp only [show (Z 0 2 0).toNat = iv_p Z from rfl, show (Z 0 3 0).toNat = iv_s Z from rfl]
  refine dp_ck (iv_isP hr) (dp_ck (iv_isS hr) (dp_bi (cp_pl (iv_isP hr) (iv_isS hr) hP hS hw cw (fun C F c3 ct cf => ?_))))
  simp only [z0, show (Z 0 3 0).toNat = iv_s Z from rfl]
  exact dp_ck (iv_isS hr) (dp_bi (dp_eq (fr_cls (iv_isS hr) hP hS hw c3 (fun i hi => (ct i hi).1)) (dp_sm (k C F))))
/-- behind a trial -/
theorem iv_tr (h : iv_Z n Z) {C F m' : ob_O} (hj : ∀ j : Int, j < 420 → m' 0 j = Z 114 0 j) (hf : ∀ f : Nat, f ≠ 0 → (f < 32 ∨ 40 < f) → m' f = Z 114 f) : iv_Z (n + 1) (ob_z (ob_z (ob_z Z 55 F) 54 C) 114 m') := by
  have hs2 := iv_s2 h.1
  refine iv_fin h (fun b _ h54 h55 _ h114 _ => by rw [oz_n h114, oz_n h54, oz_n h55]) ?_ (fun f a b => by rw [oz_s]; exact hf f a b) (fun j a b => by rw [oz_s]; exact hj j b)
  rw [oz_s, oz_n (show iv_s Z ≠ 114 by omega), oz_n (show iv_s Z ≠ 54 by omega), oz_n (show iv_s Z ≠ 55 by omega), oz_n (show (46 : Nat) ≠ 114 by decide), oz_n (show (46 : Nat) ≠ 54 by decide), oz_n (show (46 : Nat) ≠ 55 by decide)]
  exact iv_In (iv_Im h.2.2.2.1 h.2.1 (fun j a b => hj j (by omega))) (by omega)
theorem ey_tr {C F : ob_O} : ob_z (ob_z Z 55 F) 54 C = ob_z (ob_z (ob_z Z 55 F) 54 C) 114 (Z 114) := by
  have y114 : ob_z (ob_z Z 55 F) 54 C 114 = Z 114 := by rw [oz_n (by decide), oz_n (by decide)]
  rw [← y114]
  exact oz_i.symm
theorem op_far (h : iv_Z n Z) (c1 : dz_c a1 = a1) : dz_p (jf_O_far a1 Z) (fun q => dz_p (jf_M_far a1 q.2) (fun q' => iv_Z (n + 1) q'.2 ∧ dz_c q.1 = dz_c q'.1)) := by
  have rP := h.2.2.1
  obtain ⟨hS, rS, hB, rF⟩ := h.2.2.2.1
  unfold jf_O_far
  refine dp_bi (dp_eq (oi_wO h c1) ?_)
  simp only [decide_eq_false_iff_not]
  refine dp_br (fun a => dp_sm ?_) (fun a => ?_)
  · dsimp only
    unfold jf_M_far
    refine dp_bi (dp_eq (oi_wM h.2.1 rP rfl c1) ?_)
    simp only [decide_eq_false_iff_not]
    exact dp_ck a (dp_sm ⟨iv_nx h, rfl⟩)
  have ha : 0 ≤ a1 ∧ a1 < Z (iv_p Z) 10 0 := by omega
  refine dp_bi (ds_cls h.1 h.2.1 hS ha c1 (fun C F => dp_sm ?_))
  dsimp only
  rw [ey_tr]
  unfold jf_M_far
  refine dp_bi (dp_eq (oi_wM (m := Z 114) h.2.1 rP oz_s c1) ?_)
  simp only [decide_eq_false_iff_not]
  refine dp_no a (dp_bi (fr_ref h.2.1 hS rP (mv_S rS) ha (fun m' j f => dp_sm ⟨iv_tr h j (fun q x y => f q x (by omega)), rfl⟩)))
theorem op_plays (h : iv_Z n Z) (c1 : dz_c a1 = a1) (c2 : dz_c a2 = a2) : dz_p (jf_O_plays a1 a2 Z) (fun q => dz_p (jf_M_plays a1 a2 q.2) (fun q' => iv_Z (n + 1) q'.2 ∧ dz_c q.1 = dz_c q'.1)) := by
  have hp := iv_isP h.1
  have hs := iv_isS h.1
  have h10 := h.2.1.2.2.2.2.2.2.1
  have rP := h.2.2.1
  obtain ⟨hS, rS, hB, rF⟩ := h.2.2.2.1
  unfold jf_O_plays
  refine dp_bi (dp_eq (oi_wO h c1) ?_)
  simp only [decide_eq_false_iff_not, c1, c2, show (Z 0 2 0).toNat = iv_p Z from rfl, show (Z 0 3 0).toNat = iv_s Z from rfl]
  refine dp_br (fun a => dp_sm ?_) (fun a => ?_)
  · dsimp only
    unfold jf_M_plays
    refine dp_bi (dp_eq (oi_wM h.2.1 rP rfl c1) ?_)
    simp only [decide_eq_false_iff_not]
    exact dp_ck a (dp_sm ⟨iv_nx h, rfl⟩)
  have ha : 0 ≤ a1 ∧ a1 < Z (iv_p Z) 10 0 := by omega
  have hl := (hS.2.2.2.1 a1 ha.1 ha.2).1
  have rl := rS.2.2.1 a1 ha.1 ha.2
  simp only [Int.zero_add] at rl
  have e34 : dz_c (34 + 13 * a1) = 34 + 13 * a1 := dc_ir (by omega) (by omega)
  have e1 : dz_c (Z (iv_s Z) 3 a1) = Z (iv_s Z) 3 a1 := dc_ir (by omega) (by omega)
  have e2 : dz_c (Z (iv_s Z) 3 a1 - 1) = Z (iv_s Z) 3 a1 - 1 := dz_ci (by omega) (by omega)
  have elen : ∀ Y : dz_Z, Y 114 = Z 114 → jf_M_lengthOf a1 Y = some (Z (iv_s Z) 3 a1) := fun Y hY => by
    unfold jf_M_lengthOf
    rw [e34, if_pos (by omega), hY, rl.1]
  have bad : ¬(0 ≤ a2 ∧ a2 < Z (iv_s Z) 3 a1) → dz_p (jf_M_plays a1 a2 Z) (fun q' => iv_Z (n + 1) q'.2 ∧ dz_c (-1) = dz_c q'.1) := by
    intro hv
    unfold jf_M_plays
    refine dp_bi (dp_eq (oi_wM h.2.1 rP rfl c1) ?_)
    simp only [decide_eq_false_iff_not]
    refine dp_no a (dp_bi (dp_eq (elen Z rfl) ?_))
    rw [c2, e2]
    exact dp_no (by omega) (dp_sm ⟨iv_nx h, rfl⟩)
  refine dp_br (fun b => dp_sm (bad (by omega))) (fun b => dp_ck hs (dp_ck (by omega) ?_))
  rw [e1]
  refine dp_br (fun c => dp_ck hp ?_) (fun c => dp_sm (bad (by omega)))
  refine dp_bi (cp_pl hp hs h.2.1 hS ha c1 (fun C F c3 ct cf => dp_ck (by omega) (dp_sm ?_)))
  dsimp only
  rw [oz_s, ey_tr]
  unfold jf_M_plays
  refine dp_bi (dp_eq (oi_wM (m := Z 114) h.2.1 rP oz_s c1) ?_)
  simp only [decide_eq_false_iff_not]
  refine dp_no a (dp_bi (dp_eq (elen _ oz_s) ?_))
  rw [c2, e2]
  refine dp_ck (by omega) (dp_bi (mp_pl h.2.1 hS rP (mv_S rS) ha (fun m' k1 k2 k3 k4 k5 => dp_ck (by omega) (dp_sm ⟨iv_tr h k4 (fun q x y => k5 q x (by omega)), ?_⟩))))
  dsimp only
  have x1 := (ct a2.toNat (by omega)).1
  have x2 := (k1 a2.toNat (by omega)).1
  rw [Int.toNat_of_nonneg (by omega)] at x1 x2
  rw [oz_s, x1, x2]
end pq
