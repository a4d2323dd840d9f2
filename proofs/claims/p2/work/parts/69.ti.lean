/-! lines of the reference -/
section ti
variable {Z Y : dz_Z} {p s : Nat} {R R' P S T m m' m1 m2 m3 m4 m5 : ob_O} {a b e k i v st x y z lo hi w g N n : Int}
theorem th_0 (hn : m 16 0 = n) (hb : 0 ≤ n ∧ n < 4) (h1 : ∀ Y, jf_M_step (ob_z Y 114 m) = some (ob_z Y 114 m1)) (h2 : ∀ Y, jf_M_number 1 9 (ob_z Y 114 m1) = some (v, ob_z Y 114 m2)) (h3 : ∀ Y, jf_M_number 0 4 (ob_z Y 114 (ob_u m2 12 (2 * n) v)) = some (w, ob_z Y 114 m3)) (hx : x = if dz_c w ≤ dz_c (m3 18 0) then m3 18 0 else w) (h16 : m3 16 0 = n) : ∀ Y, jf_M_readThing 0 (ob_z Y 114 m) = some (ob_z Y 114 (ob_u (ob_u (ob_u m3 12 (2 * n + 1) w) 18 0 x) 16 0 (n + 1))) := by
  intro Y
  unfold jf_M_readThing
  rw [show dz_c (0 : Int) = 0 by decide, oz_s, hn, dz_ci (x := n) (by omega) (by omega), dz_ci (x := 2 * n) (by omega) (by omega), dz_ci (x := 2 * n + 1) (by omega) (by omega), if_pos (by decide), if_neg (by decide), Option.bind_some, if_pos (by rw [show dz_c (4 : Int) = 4 by decide]; omega), h1, Option.bind_some, if_neg (by decide), h2, Option.bind_some, if_pos (by omega)]
  simp only [dz_a, oz_uz]
  rw [h3, Option.bind_some, if_pos (by omega)]
  simp only [oz_uz, oz_s, ou_s, ou_f (show (18 : Nat) ≠ 12 by decide)]
  by_cases c : dz_c w ≤ dz_c (m3 18 0)
  · rw [if_pos c] at hx
    rw [if_pos c, Option.bind_some, hx]
    simp only [oz_s, oz_uz, ou_f (show (16 : Nat) ≠ 18 by decide), ou_f (show (16 : Nat) ≠ 12 by decide), h16]
  · rw [if_neg c] at hx
    rw [if_neg c, Option.bind_some, hx]
    simp only [oz_s, oz_uz, ou_f (show (16 : Nat) ≠ 18 by decide), ou_f (show (16 : Nat) ≠ 12 by decide), h16]
theorem th_1 (hn : m 16 1 = n) (hb : 0 ≤ n ∧ n < 5) (h1 : ∀ Y, jf_M_step (ob_z Y 114 m) = some (ob_z Y 114 m1)) (h2 : ∀ Y, jf_M_readWay n (ob_z Y 114 m1) = some (v, ob_z Y 114 m2)) (h3 : ∀ Y, jf_M_readWay n (ob_z Y 114 (ob_u m2 13 (2 * n) v)) = some (w, ob_z Y 114 m3)) (h16 : m3 16 1 = n) : ∀ Y, jf_M_readThing 1 (ob_z Y 114 m) = some (ob_z Y 114 (ob_u (ob_u (ob_u m3 13 (2 * n + 1) w) 11 n 2) 16 1 (n + 1))) := by
  intro Y
  unfold jf_M_readThing
  rw [show dz_c (1 : Int) = 1 by decide, oz_s, hn, show (0 : Int) + n = n by omega, dz_ci (x := n) (by omega) (by omega), dz_ci (x := 2 * n) (by omega) (by omega), dz_ci (x := 2 * n + 1) (by omega) (by omega), if_pos (by decide), if_pos (by decide), if_neg (by decide), Option.bind_some, if_pos (by rw [show dz_c (5 : Int) = 5 by decide]; omega), h1, Option.bind_some, if_pos (by decide), if_neg (by decide), h2, Option.bind_some, if_pos (by omega)]
  simp only [dz_a, oz_uz]
  rw [h3, Option.bind_some, if_pos (by omega)]
  simp only [oz_uz, oz_s]
  rw [if_pos (by omega), Option.bind_some]
  simp only [oz_s, oz_uz, ou_f (show (16 : Nat) ≠ 11 by decide), ou_f (show (16 : Nat) ≠ 13 by decide), h16]
theorem th_2 (hn : m 16 2 = n) (hb : 0 ≤ n ∧ n < 8) (h1 : ∀ Y, jf_M_step (ob_z Y 114 m) = some (ob_z Y 114 m1)) (h2 : ∀ Y, jf_M_number 0 7 (ob_z Y 114 m1) = some (v, ob_z Y 114 m2)) (h3 : ∀ Y, jf_M_readCup n (ob_z Y 114 (ob_u m2 14 n v)) = some (ob_z Y 114 m3)) (h16 : m3 16 2 + 1 = x) : ∀ Y, jf_M_readThing 2 (ob_z Y 114 m) = some (ob_z Y 114 (ob_u m3 16 2 x)) := by
  intro Y
  unfold jf_M_readThing
  rw [show dz_c (2 : Int) = 2 by decide, oz_s, hn, dz_ci (x := n) (by omega) (by omega), if_pos (by decide), if_pos (by decide), if_pos (by decide), if_neg (by decide), Option.bind_some, if_pos (by rw [show dz_c (8 : Int) = 8 by decide]; omega), h1, Option.bind_some, if_pos (by decide), if_pos (by decide), if_neg (by decide), h2, Option.bind_some, if_pos (by omega)]
  simp only [dz_a, oz_uz]
  rw [h3, Option.bind_some, Option.bind_some]
  simp only [oz_s, oz_uz, h16]
theorem th_3 (hn : m 16 3 = n) (hb : 0 ≤ n ∧ n < 3) (h1 : ∀ Y, jf_M_step (ob_z Y 114 m) = some (ob_z Y 114 m1)) (h2 : ∀ Y, jf_M_readSeconds (34 + 13 * n) 9 (ob_z Y 114 m1) = some (ob_z Y 114 m2)) (h16 : m2 16 3 = n) : ∀ Y, jf_M_readThing 3 (ob_z Y 114 m) = some (ob_z Y 114 (ob_u m2 16 3 (n + 1))) := by
  intro Y
  unfold jf_M_readThing
  rw [show dz_c (3 : Int) = 3 by decide, oz_s, hn, dz_ci (x := n) (by omega) (by omega), if_pos (by decide), if_pos (by decide), if_pos (by decide), if_pos (by decide), if_neg (by decide), Option.bind_some, if_pos (by rw [show dz_c (3 : Int) = 3 by decide]; omega), h1, Option.bind_some, if_pos (by decide), if_pos (by decide), if_pos (by decide), if_neg (by decide), h2, Option.bind_some, Option.bind_some]
  simp only [dz_a, oz_s, oz_uz, h16]
theorem th_4 (hn : m 16 4 = n) (hb : 0 ≤ n ∧ n < 4) (h1 : ∀ Y, jf_M_step (ob_z Y 114 m) = some (ob_z Y 114 m1)) (h2 : ∀ Y, jf_M_number 0 11 (ob_z Y 114 m1) = some (x, ob_z Y 114 m2)) (h3 : ∀ Y, jf_M_number x 11 (ob_z Y 114 (ob_u m2 15 (3 * n) x)) = some (y, ob_z Y 114 m3)) (h4 : ∀ Y, jf_M_number 1 99 (ob_z Y 114 (ob_u m3 15 (3 * n + 1) y)) = some (z, ob_z Y 114 m4)) (h16 : m4 16 4 = n) : ∀ Y, jf_M_readThing 4 (ob_z Y 114 m) = some (ob_z Y 114 (ob_u (ob_u m4 15 (3 * n + 2) z) 16 4 (n + 1))) := by
  intro Y
  unfold jf_M_readThing
  rw [show dz_c (4 : Int) = 4 by decide, oz_s, hn, dz_ci (x := n) (by omega) (by omega), dz_ci (x := 3 * n) (by omega) (by omega), dz_ci (x := 3 * n + 1) (by omega) (by omega), dz_ci (x := 3 * n + 2) (by omega) (by omega), if_pos (by decide), if_pos (by decide), if_pos (by decide), if_pos (by decide), if_pos (by decide), Option.bind_some, if_pos (by rw [show dz_c (4 : Int) = 4 by decide]; omega), h1, Option.bind_some, if_pos (by decide), if_pos (by decide), if_pos (by decide), if_pos (by decide), h2, Option.bind_some, if_pos (by omega)]
  simp only [dz_a, oz_uz, oz_s, ou_s]
  rw [h3, Option.bind_some, if_pos (by omega)]
  simp only [oz_uz]
  rw [h4, Option.bind_some, if_pos (by omega), Option.bind_some]
  simp only [oz_s, oz_uz, ou_f (show (16 : Nat) ≠ 15 by decide), h16]
theorem th_m (hN : (N = 0 ∧ m 16 0 = 4) ∨ (N = 1 ∧ m 16 1 = 5) ∨ (N = 2 ∧ m 16 2 = 8) ∨ (N = 3 ∧ m 16 3 = 3) ∨ (N = 4 ∧ m 16 4 = 4)) (hf : ∀ Y, jf_M_fails 5 (ob_z Y 114 m) = some (ob_z Y 114 m1)) : ∀ Y, jf_M_readThing N (ob_z Y 114 m) = some (ob_z Y 114 m1) := by
  intro Y
  unfold jf_M_readThing
  rcases hN with ⟨rfl, h⟩ | ⟨rfl, h⟩ | ⟨rfl, h⟩ | ⟨rfl, h⟩ | ⟨rfl, h⟩
  · rw [show dz_c (0 : Int) = 0 by decide, oz_s, h, if_pos (by decide), if_neg (by decide), Option.bind_some, if_neg (by decide), hf, Option.bind_some]
  · rw [show dz_c (1 : Int) = 1 by decide, oz_s, h, if_pos (by decide), if_pos (by decide), if_neg (by decide), Option.bind_some, if_neg (by decide), hf, Option.bind_some]
  · rw [show dz_c (2 : Int) = 2 by decide, oz_s, h, if_pos (by decide), if_pos (by decide), if_pos (by decide), if_neg (by decide), Option.bind_some, if_neg (by decide), hf, Option.bind_some]
  · rw [show dz_c (3 : Int) = 3 by decide, oz_s, h, if_pos (by decide), if_pos (by decide), if_pos (by decide), if_pos (by decide), if_neg (by decide), Option.bind_some, if_neg (by decide), hf, Option.bind_some]
  · rw [show dz_c (4 : Int) = 4 by decide, oz_s, h, if_pos (by decide), if_pos (by decide), if_pos (by decide), if_pos (by decide), if_pos (by decide), Option.bind_some, if_neg (by decide), hf, Option.bind_some]
theorem ln_th (hn : ∀ Y, jf_M_nameHere (ob_z Y 114 m) = some N) (hN : 0 ≤ N ∧ N ≤ 4) (h1 : ∀ Y, jf_M_readThing N (ob_z Y 114 m) = some (ob_z Y 114 m1)) (h2 : ∀ Y, so_le (ob_z Y 114 m1) = some (ob_z Y 114 m2)) : ∀ Y, jf_M_readLine (ob_z Y 114 m) = some (ob_z Y 114 m2) := by
  intro Y
  unfold jf_M_readLine
  rw [hn, Option.bind_some, dz_ci (x := N) (by omega) (by omega), if_pos (by omega), if_neg (by omega), h1, Option.bind_some, Option.bind_some]
  exact h2 Y
theorem ln_f (hn : ∀ Y, jf_M_nameHere (ob_z Y 114 m) = some N) (hN : -4 ≤ N ∧ N ≤ 14 ∧ ¬(0 ≤ N ∧ N ≤ 6)) (hf : ∀ Y, jf_M_fails 2 (ob_z Y 114 m) = some (ob_z Y 114 m1)) : ∀ Y, jf_M_readLine (ob_z Y 114 m) = some (ob_z Y 114 m1) := by
  intro Y
  unfold jf_M_readLine
  rw [hn, Option.bind_some, dz_ci (x := N) (by omega) (by omega), if_neg hN.2.2, hf, Option.bind_some]
theorem ln_5 (hn : ∀ Y, jf_M_nameHere (ob_z Y 114 m) = some 5) (hq : ∀ Y, (if dz_c (dz_an (dz_sr (m 20 0) 5) 1) ≠ 1 then (some (ob_z Y 114 m)) else (Option.bind (jf_M_fails 4 (ob_z Y 114 m)) fun q36 => some q36)) = some (ob_z Y 114 m1)) (hx : x = dz_or (m1 20 0) (dz_sl 1 5)) (h1 : ∀ Y, jf_M_step (ob_z Y 114 (ob_u m1 20 0 x)) = some (ob_z Y 114 m2)) (h2 : ∀ Y, jf_M_readSeconds 73 255 (ob_z Y 114 m2) = some (ob_z Y 114 m3)) (h3 : ∀ Y, so_le (ob_z Y 114 m3) = some (ob_z Y 114 m4)) : ∀ Y, jf_M_readLine (ob_z Y 114 m) = some (ob_z Y 114 m4) := by
  intro Y
  unfold jf_M_readLine
  rw [hn, Option.bind_some, show dz_c (5 : Int) = 5 by decide, if_pos (by decide), if_pos (by decide), oz_s, hq, Option.bind_some, oz_s, ← hx]
  simp only [dz_a, oz_uz]
  rw [h1, Option.bind_some, if_neg (by decide), h2, Option.bind_some, Option.bind_some]
  exact h3 Y
theorem ln_6 (hn : ∀ Y, jf_M_nameHere (ob_z Y 114 m) = some 6) (hq : ∀ Y, (if dz_c (dz_an (dz_sr (m 20 0) 6) 1) ≠ 1 then (some (ob_z Y 114 m)) else (Option.bind (jf_M_fails 4 (ob_z Y 114 m)) fun q36 => some q36)) = some (ob_z Y 114 m1)) (hx : x = dz_or (m1 20 0) (dz_sl 1 6)) (h1 : ∀ Y, jf_M_step (ob_z Y 114 (ob_u m1 20 0 x)) = some (ob_z Y 114 m2)) (h2 : ∀ Y, jf_M_number 0 999 (ob_z Y 114 m2) = some (v, ob_z Y 114 m3)) (h3 : ∀ Y, so_le (ob_z Y 114 (ob_u m3 17 0 v)) = some (ob_z Y 114 m4)) : ∀ Y, jf_M_readLine (ob_z Y 114 m) = some (ob_z Y 114 m4) := by
  intro Y
  unfold jf_M_readLine
  rw [hn, Option.bind_some, show dz_c (6 : Int) = 6 by decide, if_pos (by decide), if_pos (by decide), oz_s, hq, Option.bind_some, oz_s, ← hx]
  simp only [dz_a, oz_uz]
  rw [h1, Option.bind_some, if_pos (by decide), h2, Option.bind_some]
  simp only [oz_uz]
  rw [Option.bind_some]
  exact h3 Y
/-- behind a fault -/
theorem nh_b (hT : so_tp T) (hF : tkF T R m) : ∃ N : Int, (-4 ≤ N ∧ N ≤ 14) ∧ ∀ Y, jf_M_nameHere (ob_z Y 114 m) = some N := by
  obtain ⟨h1, h2, h3, hsf⟩ := hF
  refine ⟨if dz_c (m 28 0) = 1 then so_ni (so_wd T (m 27 0) (m 26 0)) 15 else -4, ?_, fun Y => nh_eq hT hsf.1 rfl rfl (by have := hsf.2.2.2; omega) hsf.2.1 hsf.2.2.1⟩
  have := ni_b (w := so_wd T (m 27 0) (m 26 0))
  split <;> omega
theorem wy_b (hT : so_tp T) (hF : tkF T R m) : ∃ (w : Int) (m' : ob_O), (∀ Y, jf_M_readWay g (ob_z Y 114 m) = some (w, ob_z Y 114 m')) ∧ tkF T R m' ∧ kw m m' := by
  obtain ⟨N, hN, hn⟩ := nh_b hT hF
  have hq := hF.2.1
  have e24 : dz_c (m 24 0) ≠ 0 := by rw [dc_ir (x := m 24 0) (by omega) (by omega)]; omega
  by_cases c7 : N = 7
  · subst c7
    have hF' := tF_m hF (kq_u (m := m) (f := 18) (j := 0) (v := if dz_c 0 ≤ dz_c (m 18 0) then m 18 0 else 0) (by decide))
    refine ⟨0, _, wy_7 hn (sp_b hq) (lo_b hq) (m3 := m) (fun Y => ?_) ?_ (x := if dz_c 0 ≤ dz_c (m 18 0) then m 18 0 else 0) rfl (sp_b hF'.2.1), hF', fun f q => by rw [ou_ff (by omega)]⟩
    · rw [if_pos e24]
    · rw [if_pos e24]
  · by_cases c2 : N = 2
    · subst c2
      exact ⟨_, _, wy_2 hn (sp_b hq) (nu_b hq) rfl, tF_m hF (kq_u (by decide)), fun f q => by rw [ou_ff (by omega)]⟩
    · by_cases c8 : N = 8
      · subst c8
        exact ⟨20, m, wy_8 hn (sp_b hq), hF, fun f q => rfl⟩
      · exact ⟨20, m, wy_f hn ⟨hN.1, hN.2, c7, c2, c8⟩ (fl_b hq) hq, hF, fun f q => rfl⟩
theorem cu_b (hT : so_tp T) (hF : tkF T R m) (hi : 0 ≤ i ∧ i < 8) : ∃ m' : ob_O, (∀ Y, jf_M_readCup i (ob_z Y 114 m) = some (ob_z Y 114 m')) ∧ tkF T R m' ∧ ke m m' ∧ m' 16 = m 16 := by
  obtain ⟨N, hN, hn⟩ := nh_b hT hF
  have hq := hF.2.1
  by_cases c9 : 9 ≤ N
  · obtain ⟨kd, rfl⟩ : ∃ kd, N = kd + 9 := ⟨N - 9, by omega⟩
    have hF1 := tF_m hF (m' := ob_u (ob_u m 11 (10 + i) kd) 11 (26 + i) (-4)) (fun f q => by rw [ou_ff (by omega), ou_ff (by omega)])
    have k1 : ke m (ob_u (ob_u m 11 (10 + i) kd) 11 (26 + i) (-4)) := ke_t (ke_u (by decide)) (ke_u (by decide))
    by_cases c5 : kd = 0 ∨ kd = 5
    · exact ⟨_, cu_0 hn c5 hi (sp_b hq), hF1, k1, by rw [ou_ff (by decide), ou_ff (by decide)]⟩
    · have hF2 := tF_m hF1 (m' := ob_u (ob_u (ob_u m 11 (10 + i) kd) 11 (26 + i) (-4)) 11 (18 + i) 1) (kq_u (by decide))
      have k2 : ke m (ob_u (ob_u (ob_u m 11 (10 + i) kd) 11 (26 + i) (-4)) 11 (18 + i) 1) := ke_t k1 (ke_u (by decide))
      by_cases c4 : kd = 4
      · subst c4
        generalize hM : ob_u (ob_u (ob_u m 11 (10 + i) 4) 11 (26 + i) (-4)) 11 (18 + i) 1 = M at hF2 k2
        have hq2 := hF2.2.1
        have e24 : dz_c (M 24 0) ≠ 0 := by rw [dc_ir (x := M 24 0) (by omega) (by omega)]; omega
        have hF' := tF_m hF2 (m' := ob_u (ob_u M 11 (26 + i) 0) 19 0 (if dz_c (M 29 0) ≤ dz_c (M 19 0) then M 19 0 else (if dz_c (M 24 0) ≠ 0 then M 19 0 else M 29 0))) (fun f q => by rw [ou_ff (by omega), ou_ff (by omega)])
        refine ⟨_, cu_4 hn hi (sp_b hq) (nu_b hF1.2.1) (by rw [hM]; exact lo_b hq2) (m4 := M) (fun Y => ?_) (q20 := 0) ?_ rfl (sp_b hF'.2.1), hF', ke_t k2 (ke_t (ke_u (by decide)) (ke_u (by decide))), ?_⟩
        · rw [if_pos e24]
        · rw [if_pos e24]
        · rw [ou_ff (by decide), ou_ff (by decide), ← hM, ou_ff (by decide), ou_ff (by decide), ou_ff (by decide)]
      · exact ⟨_, cu_1 hn (by omega) hi (sp_b hq) (nu_b hF1.2.1), hF2, k2, by rw [ou_ff (by decide), ou_ff (by decide), ou_ff (by decide)]⟩
  · exact ⟨m, cu_f hn (by omega) (fl_b hq), hF, fun f q => rfl, rfl⟩
end ti
