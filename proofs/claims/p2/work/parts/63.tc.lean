/-! names, numbers -/
def so_wd (T : ob_O) (s e : Int) : List Int := (List.range (e - s).toNat).map (fun i : Nat => T 0 (s + i))
def so_cn (c : Nat) : List Int := (List.range (jf_len c).toNat).map (fun i : Nat => jf_chr c i)
def so_mn (j : Nat) : List Int := (List.range (dz_0 114 30 (j + 1) - dz_0 114 30 j).toNat).map (fun i : Nat => dz_0 114 31 (dz_0 114 30 j + i))
def so_ni (w : List Int) : Nat → Int
  | 0 => -4
  | k + 1 => if w = so_mn (14 - k) then ((14 - k : Nat) : Int) else so_ni w k
def so_sg (c : Nat) : Nat := [0, 1, 7, 2, 8, 9, 10, 11, 12, 13, 14, 3, 5, 4, 6].getD c 0
section tc
variable {Z Y : dz_Z} {R P S T m m' : ob_O} {a b e k i v st x : Int} {w : List Int} {c : Nat}
theorem cn_b : ∀ c : Fin 15, 0 ≤ jf_len c.val ∧ jf_len c.val ≤ 10 ∧ so_cn c.val = so_mn (so_sg c.val) ∧ so_sg c.val < 15 := by decide +kernel
theorem cn_ch : ∀ (c : Fin 15) (i : Fin 10), 0 ≤ jf_chr c.val (i.val : Int) ∧ jf_chr c.val (i.val : Int) ≤ 127 := by decide +kernel
theorem mn_b : ∀ j : Fin 15, 0 ≤ dz_0 114 30 (j.val : Int) ∧ dz_0 114 30 (j.val : Int) ≤ dz_0 114 30 ((j.val : Int) + 1) ∧ dz_0 114 30 ((j.val : Int) + 1) ≤ 67 := by decide +kernel
theorem mn_l : ∀ i : Fin 67, 0 ≤ dz_0 114 31 (i.val : Int) ∧ dz_0 114 31 (i.val : Int) ≤ 127 := by decide +kernel
theorem ni_mn : ∀ j : Fin 15, so_ni (so_mn j.val) 15 = (j.val : Int) := by decide +kernel
theorem ni_x : ∀ k : Nat, k ≤ 15 → so_ni w k = -4 ∨ ∃ j : Nat, j < 15 ∧ so_ni w k = (j : Int) ∧ w = so_mn j
  | 0, _ => Or.inl rfl
  | k + 1, hk => by
    show (if w = so_mn (14 - k) then ((14 - k : Nat) : Int) else so_ni w k) = -4 ∨ ∃ j : Nat, j < 15 ∧ (if w = so_mn (14 - k) then ((14 - k : Nat) : Int) else so_ni w k) = (j : Int) ∧ w = so_mn j
    by_cases c : w = so_mn (14 - k)
    · rw [if_pos c]
      exact Or.inr ⟨14 - k, by omega, rfl, c⟩
    · rw [if_neg c]
      exact ni_x k (by omega)
theorem ni_iff {j : Nat} (hj : j < 15) : so_ni w 15 = (j : Int) ↔ w = so_mn j := by
  constructor
  · intro h
    rcases ni_x (w := w) 15 (by omega) with q | ⟨i, i1, i2, i3⟩
    · omega
    · have : i = j := by omega
      rw [← this]; exact i3
  · intro h
    rw [h]
    exact ni_mn ⟨j, hj⟩
theorem ni_b : -4 ≤ so_ni w 15 ∧ so_ni w 15 ≤ 14 ∧ (so_ni w 15 = -4 ∨ 0 ≤ so_ni w 15) := by
  rcases ni_x (w := w) 15 (by omega) with q | ⟨i, i1, i2, i3⟩ <;> omega
theorem in_cls (hT : so_tp T) (hZ : Z 2 = T) (h6 : Z 1 6 0 = e) (h7 : Z 1 7 0 = st) (hs : 0 ≤ st ∧ st ≤ e ∧ e ≤ T 1 0) (hc : c < 15) : jf_R_isNamed c Z = some (decide (so_ni (so_wd T st e) 15 = (so_sg c : Int))) := by
  have hL := hT.1
  obtain ⟨b1, b2, b3, b4⟩ := cn_b ⟨c, hc⟩
  dsimp only at b1 b2 b3 b4
  have e1 : dz_c (jf_len c) = jf_len c := dc_ir b1 (by omega)
  have e2 : dz_c (e - st) = e - st := dc_ir (by omega) (by omega)
  have hd : decide (so_ni (so_wd T st e) 15 = (so_sg c : Int)) = decide (so_wd T st e = so_cn c) := by
    rw [b3]
    exact decide_eq_decide.mpr (ni_iff b4)
  rw [hd]
  apply dp_is
  unfold jf_R_isNamed
  rw [h6, h7, hZ, e1, e2]
  by_cases hl : e - st = jf_len c
  · refine dp_ck hl ?_
    have hw : so_wd T st e = so_cn c ↔ ∀ i : Nat, i < (jf_len c).toNat → T 0 (st + i) = jf_chr c i := by
      unfold so_wd so_cn
      rw [hl, List.map_inj_left]
      constructor
      · intro q i hi; exact q i (List.mem_range.mpr hi)
      · intro q i hi; exact q i (List.mem_range.mp hi)
    refine dp_lp (fun n q => ∃ r : Nat, r + n = (jf_len c).toNat ∧ q = (r : Int) ∧ ∀ i : Nat, i < r → T 0 (st + i) = jf_chr c i) ?_ 5000 (jf_len c).toNat 0 (by omega) ⟨0, by omega, rfl, fun i hi => absurd hi (by omega)⟩
    rintro n _ ⟨r, hr, rfl, hi⟩
    have er : dz_c (r : Int) = r := dc_ir (by omega) (by omega)
    have es : dz_c (st + (r : Int)) = st + r := dc_ir (by omega) (by omega)
    rw [er, es]
    by_cases hk : r = (jf_len c).toNat
    · refine dp_ck (by omega) (dp_sm ?_)
      show true = decide _
      rw [decide_eq_true (hw.mpr (fun i q => hi i (by omega)))]
    · have hb := hT.2 (st + r) (by omega) (by omega)
      have hch := cn_ch ⟨c, hc⟩ ⟨r, by omega⟩
      dsimp only at hch
      rw [dz_ci (x := T 0 (st + r)) (by omega) (by omega), dc_ir (x := jf_chr c r) (by omega) (by omega)]
      refine dp_no (by omega) (dp_ck (by omega) (dp_ck (by omega) (dp_br (fun q => dp_sm ⟨n - 1, by omega, r + 1, by omega, by omega, fun i hi' => ?_⟩) (fun q => dp_sm ?_))))
      · by_cases e : i = r
        · rw [e]; exact q
        · exact hi i (by omega)
      · show false = decide _
        rw [decide_eq_false (fun h => q (hw.mp h r (by omega)))]
  · refine dp_no hl (dp_sm ?_)
    rw [decide_eq_false]
    intro h
    have := congrArg List.length h
    unfold so_wd so_cn at this
    rw [List.length_map, List.length_map, List.length_range, List.length_range] at this
    omega
theorem nh_eq (hT : so_tp T) (hm : so_tm T m) (h27 : m 27 0 = st) (h26 : m 26 0 = x) (hs : 0 ≤ st ∧ st ≤ x ∧ x ≤ T 1 0) (h30 : m 30 = dz_0 114 30) (h31 : m 31 = dz_0 114 31) : jf_M_nameHere (ob_z Y 114 m) = some (if dz_c (m 28 0) = 1 then so_ni (so_wd T st x) 15 else -4) := by
  have hL := hT.1
  apply dp_is
  unfold jf_M_nameHere
  by_cases h28 : dz_c (m 28 0) = 1
  · rw [if_pos h28]
    refine dp_lp (fun n q => ∃ j : Nat, j + n = 15 ∧ q = (j : Int) ∧ so_ni (so_wd T st x) 15 = so_ni (so_wd T st x) n) ?_ 5000 15 0 (by omega) ⟨0, by omega, rfl, rfl⟩
    rintro n _ ⟨j, hj, rfl, hn⟩
    have ej : dz_c (j : Int) = j := dc_ir (by omega) (by omega)
    have ej1 : dz_c ((j : Int) + 1) = j + 1 := dc_ir (by omega) (by omega)
    have exs : dz_c (x - st) = x - st := dc_ir (by omega) (by omega)
    simp only [oz_s, h27, h26, h28, h30, h31, ej, ej1, exs]
    by_cases hk : j = 15
    · refine dp_ck (by omega) (dp_sm ?_)
      show (-4 : Int) = _
      rw [hn, show n = 0 by omega]
      rfl
    · obtain ⟨b1, b2, b3⟩ := mn_b ⟨j, by omega⟩
      dsimp only at b1 b2 b3
      obtain ⟨n', rfl⟩ : ∃ n', n = n' + 1 := ⟨n - 1, by omega⟩
      have hj14 : 14 - n' = j := by omega
      have key : so_ni (so_wd T st x) (n' + 1) = if so_wd T st x = so_mn j then (j : Int) else so_ni (so_wd T st x) n' := by
        show (if so_wd T st x = so_mn (14 - n') then ((14 - n' : Nat) : Int) else so_ni (so_wd T st x) n') = _
        rw [hj14]
      have el : dz_c (dz_0 114 30 ((j : Int) + 1) - dz_0 114 30 j) = dz_0 114 30 ((j : Int) + 1) - dz_0 114 30 j := dc_ir (by omega) (by omega)
      rw [el]
      refine dp_no (by omega) (dp_no (by decide) (dp_ck (by omega) (dp_ck (by omega) (dp_bi ?_))))
      have no : ∀ (r : Int), ¬ so_wd T st x = so_mn j → dz_p (dz_lp (fun (s10 : Int × Int) => if dz_c s10.1 = 0 then (if dz_c s10.1 = 0 then (some (Sum.inr (Sum.inl ((j : Int) + 1)))) else (some (Sum.inr (Sum.inr (j : Int))))) else (if x - st ≤ dz_c s10.2 then (if dz_c s10.1 = 0 then (some (Sum.inr (Sum.inl ((j : Int) + 1)))) else (some (Sum.inr (Sum.inr (j : Int))))) else (Option.bind (jf_M_byteAt (st + s10.2) (ob_z Y 114 m)) fun q15 => if 0 ≤ dz_c ((dz_0 114 30 (j : Int)) + s10.2) ∧ dz_c ((dz_0 114 30 (j : Int)) + s10.2) < 67 then if dz_c q15 ≠ dz_c (dz_0 114 31 (dz_c ((dz_0 114 30 (j : Int)) + s10.2))) then (some (Sum.inl (0, s10.2 + 1))) else (some (Sum.inl (1, s10.2 + 1))) else none))) 5000 (0, r)) (Sum.elim (fun s' => ∃ k', k' < n' + 1 ∧ ∃ j : Nat, j + k' = 15 ∧ s' = (j : Int) ∧ so_ni (so_wd T st x) 15 = so_ni (so_wd T st x) k') (fun q => q = so_ni (so_wd T st x) 15)) := by
        intro r hne
        refine dp_lp (fun _ q => q = (0, r)) ?_ 5000 0 _ (by omega) rfl
        rintro _ _ rfl
        refine dp_ck (by dsimp only; decide) (dp_ck (by dsimp only; decide) (dp_sm ⟨n', by omega, j + 1, by omega, by omega, ?_⟩))
        rw [hn, key, if_neg hne]
      by_cases hl : x - st = dz_0 114 30 ((j : Int) + 1) - dz_0 114 30 j
      · refine dp_no (by omega) (dp_sm ?_)
        have hw : so_wd T st x = so_mn j ↔ ∀ i : Nat, i < (x - st).toNat → T 0 (st + i) = dz_0 114 31 (dz_0 114 30 j + i) := by
          unfold so_wd so_mn
          rw [← hl, List.map_inj_left]
          constructor
          · intro q i hi; exact q i (List.mem_range.mpr hi)
          · intro q i hi; exact q i (List.mem_range.mp hi)
        refine dp_lp (fun n q => (∃ r : Nat, r + n = (x - st).toNat + 1 ∧ q = (1, (r : Int)) ∧ r ≤ (x - st).toNat ∧ ∀ i : Nat, i < r → T 0 (st + i) = dz_0 114 31 (dz_0 114 30 j + i)) ∨ (∃ r : Int, q = (0, r)) ∧ ¬ so_wd T st x = so_mn j) ?_ 5000 ((x - st).toNat + 1) (1, 0) (by omega) (Or.inl ⟨0, by omega, rfl, by omega, fun i hi => absurd hi (by omega)⟩)
        rintro k2 _ (⟨r, hr, rfl, hrx, hi⟩ | ⟨⟨r, rfl⟩, hne⟩)
        · have er : dz_c (r : Int) = r := dc_ir (by omega) (by omega)
          refine dp_no (by dsimp only; decide) ?_
          dsimp only
          rw [er]
          by_cases hk2 : r = (x - st).toNat
          · refine dp_ck (by omega) (dp_no (by decide) (dp_sm ?_))
            show (j : Int) = _
            rw [hn, key, if_pos (hw.mpr (fun i q => hi i (by omega)))]
          · have hb := hT.2 (st + r) (by omega) (by omega)
            have ec : dz_c (dz_0 114 30 (j : Int) + r) = dz_0 114 30 j + r := dc_ir (by omega) (by omega)
            have hch := mn_l ⟨(dz_0 114 30 (j : Int) + r).toNat, by omega⟩
            dsimp only at hch
            rw [show (((dz_0 114 30 (j : Int) + r).toNat : Nat) : Int) = dz_0 114 30 j + r by omega] at hch
            rw [ec]
            refine dp_no (by omega) (dp_bi (dp_eq (bt_eq hT hm (by omega)) (dp_ck (by omega) ?_)))
            rw [if_pos (show st + (r : Int) < T 1 0 by omega), dc_ir (x := T 0 (st + r) % 256) (by omega) (by omega), dc_ir (x := dz_0 114 31 (dz_0 114 30 j + r)) (by omega) (by omega)]
            refine dp_br (fun q => dp_sm ⟨0, by omega, Or.inr ⟨⟨(r : Int) + 1, rfl⟩, fun h => ?_⟩⟩) (fun q => dp_sm ⟨k2 - 1, by omega, Or.inl ⟨r + 1, by omega, rfl, by omega, fun i hi' => ?_⟩⟩)
            · have := hw.mp h r (by omega)
              omega
            · by_cases e : i = r
              · rw [e]; omega
              · exact hi i (by omega)
        · refine dp_ck (by dsimp only; decide) (dp_ck (by dsimp only; decide) (dp_sm ⟨n', by omega, j + 1, by omega, by omega, ?_⟩))
          rw [hn, key, if_neg hne]
      · refine dp_ck hl (dp_sm (no 0 (fun h => hl ?_)))
        have := congrArg List.length h
        unfold so_wd so_mn at this
        rw [List.length_map, List.length_map, List.length_range, List.length_range] at this
        omega
  · rw [if_neg h28]
    refine dp_lp (fun _ q => q = 0) ?_ 5000 0 0 (by omega) rfl
    rintro _ _ rfl
    rw [oz_s]
    exact dp_no (by decide) (dp_ck h28 (dp_sm rfl))
theorem nr_cls (hT : so_tp T) (hZ : Z 2 = T) (h6 : Z 1 6 0 = e) (h7 : Z 1 7 0 = st) (hs : 0 ≤ st ∧ st ≤ e ∧ e ≤ T 1 0) : jf_R_numberRead Z = some (so_nm T st (e - st).toNat) := by
  have hL := hT.1
  have e1 : dz_c e = e := dc_ir (by omega) (by omega)
  apply dp_is
  unfold jf_R_numberRead
  rw [h6, h7, hZ, e1]
  refine dp_lp (fun n q => ∃ r : Nat, (r : Int) + n = e - st ∧ q = (so_nm T st r, st + (r : Int))) ?_ 5000 (e - st).toNat (0, st) (by omega) ⟨0, by omega, by rw [show st + ((0 : Nat) : Int) = st by omega]; rfl⟩
  rintro n _ ⟨r, hr, rfl⟩
  have er : dz_c (st + (r : Int)) = st + r := dc_ir (by omega) (by omega)
  dsimp only
  rw [er]
  by_cases hk : (r : Int) = e - st
  · refine dp_ck (by omega) (dp_sm ?_)
    rw [show (e - st).toNat = r by omega]
    rfl
  · refine dp_no (by omega) (dp_ck (by omega) (dp_sm ⟨n - 1, by omega, r + 1, by omega, ?_⟩))
    show (_, _) = (so_nm T st r * 10 + T 0 (st + r) - 48, st + ((r + 1 : Nat) : Int))
    rw [show st + ((r + 1 : Nat) : Int) = st + (r : Int) + 1 by omega]
end tc
