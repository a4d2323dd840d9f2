/-! the reference's cups -/
section mc
variable {Y : dz_Z} {P S o m m0 : ob_O} {e v w d s k n ot : Int}
theorem mc_snd (he : mr_pg e) (hs : 0 ≤ s ∧ s < 8) (hk : 0 ≤ k ∧ k ≤ 5) (hn : (k ≠ 0 ∧ k ≠ 5) → (m 0 (18 + s) = n ∧ 1 ≤ n ∧ n ≤ 30)) (hmk : m 0 (10 + s) = k) (h0 : m 0 (e + 86 + s) = o 0 s) (h1 : m 0 (e + 94 + s) = o 1 s) (h7 : m 0 (e + 136) = o 7 0) (hc : 0 ≤ o 1 s + w ∧ o 1 s + w ≤ 2147483647) {K : Int × dz_Z → Prop} (kk : ∀ m' : ob_O, m' 0 (e + 86 + s) = (so_cup o k n ot s w).2 0 s → m' 0 (e + 94 + s) = (so_cup o k n ot s w).2 1 s → m' 0 (e + 136) = (so_cup o k n ot s w).2 7 0 → m' 34 0 = (if k = 4 then so_tip o s n w * n else 0) → (∀ f : Nat, f ≠ 0 → f ≠ 34 → m' f = m f) → (∀ j : Int, j ≠ e + 86 + s → j ≠ e + 94 + s → j ≠ e + 136 → m' 0 j = m 0 j) → K ((so_cup o k n ot s w).1, ob_z Y 114 m')) : dz_p (jf_M_sounds e s w (ob_z Y 114 m)) K := by
  have e10 : dz_c (10 + s) = 10 + s := dc_ir (by omega) (by omega)
  have e18 : dz_c (18 + s) = 18 + s := dc_ir (by omega) (by omega)
  have e136 : dz_c (e + 136) = e + 136 := dc_ir (by unfold mr_pg at he; omega) (by unfold mr_pg at he; omega)
  have e86 : dz_c (e + 86 + s) = e + 86 + s := dc_ir (by unfold mr_pg at he; omega) (by unfold mr_pg at he; omega)
  have e94 : dz_c (e + 94 + s) = e + 94 + s := dc_ir (by unfold mr_pg at he; omega) (by unfold mr_pg at he; omega)
  have hpg : 0 ≤ e ∧ e + 137 < 700 := by unfold mr_pg at he; omega
  have ek : dz_c k = k := dc_ir hk.1 (by omega)
  unfold jf_M_sounds
  simp only [e10, e18, e136, e86, e94, oz_s, oz_uz, hmk, ek, ou_f (show (0 : Nat) ≠ 34 by decide), h0, h1, h7]
  refine dp_ck (by omega) (dp_ck (by omega) (dp_le ?_))
  simp only [oz_s, oz_uz, ou_f (show (0 : Nat) ≠ 34 by decide), h0, h1, h7]
  by_cases c0 : k = 0
  · have ec : so_cup o k n ot s w = (if dz_c w ≤ 0 then 0 else 1, ob_u o 7 0 (o 7 0 + w)) := by unfold so_cup; rw [if_pos c0]
    have ec2 : (so_cup o k n ot s w).2 = ob_u o 7 0 (o 7 0 + w) := by rw [ec]
    refine dp_ck c0 (dp_ck (by omega) (dp_le (dp_no (by omega) ?_)))
    have fin : K ((so_cup o k n ot s w).1, ob_z Y 114 (ob_u (ob_u m 34 0 0) 0 (e + 136) (o 7 0 + w))) := by
      apply kk
      · rw [ou_i (by omega), ou_f (by decide), h0, ec2, ou_f (by decide)]
      · rw [ou_i (by omega), ou_f (by decide), h1, ec2, ou_f (by decide)]
      · rw [ou_s, ec2, ou_s]
      · rw [ou_f (by decide), ou_s, if_neg (by omega)]
      · intro f a b; rw [ou_ff a, ou_ff b]
      · intro j a b c; rw [ou_i c, ou_f (by decide)]
    rw [ec] at fin
    refine dp_br (fun c => dp_sm ?_) (fun c => dp_sm ?_)
    · rw [if_pos c] at fin; exact fin
    · rw [if_neg c] at fin; exact fin
  refine dp_no c0 ?_
  by_cases c5 : k = 5
  · have ec : so_cup o k n ot s w = (0, ob_u o 7 0 (o 7 0 + w)) := by unfold so_cup; rw [if_neg c0, if_neg (by omega), if_neg (by omega), if_neg (by omega), if_neg (by omega)]
    have ec2 : (so_cup o k n ot s w).2 = ob_u o 7 0 (o 7 0 + w) := by rw [ec]
    refine dp_no (by omega) (dp_ck (by omega) (dp_le (dp_ck c0 (dp_sm ?_))))
    have fin : K ((so_cup o k n ot s w).1, ob_z Y 114 (ob_u (ob_u m 34 0 0) 0 (e + 136) (o 7 0 + w))) := by
      apply kk
      · rw [ou_i (by omega), ou_f (by decide), h0, ec2, ou_f (by decide)]
      · rw [ou_i (by omega), ou_f (by decide), h1, ec2, ou_f (by decide)]
      · rw [ou_s, ec2, ou_s]
      · rw [ou_f (by decide), ou_s, if_neg (by omega)]
      · intro f a b; rw [ou_ff a, ou_ff b]
      · intro j a b c; rw [ou_i c, ou_f (by decide)]
    rw [ec] at fin
    exact fin
  refine dp_ck c5 ?_
  obtain ⟨hmn, hn1, hn2⟩ := hn ⟨c0, c5⟩
  have en : dz_c n = n := dc_ir (by omega) (by omega)
  simp only [hmn, en]
  by_cases c3 : k = 3
  · have ec : so_cup o k n ot s w = (Int.tdiv (dz_c (o 1 s + w)) n, ob_u (ob_u o 7 0 (o 7 0 + w)) 1 s (o 1 s + w - Int.tdiv (dz_c (o 1 s + w)) n * n)) := by rw [c3]; exact so_cup_3
    have ec2 : (so_cup o k n ot s w).2 = ob_u (ob_u o 7 0 (o 7 0 + w)) 1 s (o 1 s + w - Int.tdiv (dz_c (o 1 s + w)) n * n) := by rw [ec]
    refine dp_no (by omega) (dp_ck (by omega) (dp_ck (by omega) (dp_le (dp_ck (by omega) (dp_le (dp_sm ?_))))))
    have fin : K ((so_cup o k n ot s w).1, ob_z Y 114 (ob_u (ob_u (ob_u m 34 0 0) 0 (e + 136) (o 7 0 + w)) 0 (e + 94 + s) (Int.tmod (dz_c (o 1 s + w)) n))) := by
      have etm : Int.tmod (dz_c (o 1 s + w)) n = o 1 s + w - Int.tdiv (dz_c (o 1 s + w)) n * n := by
        have h := Int.tmod_add_mul_tdiv (dz_c (o 1 s + w)) n
        rw [Int.mul_comm] at h
        have h2 : dz_c (o 1 s + w) = o 1 s + w := dc_ir hc.1 hc.2
        rw [h2] at h ⊢
        omega
      apply kk
      · rw [ou_i (by omega), ou_i (by omega), ou_f (by decide), h0, ec2, ou_f (by decide), ou_f (by decide)]
      · rw [ou_s, ec2, ou_s, etm]
      · rw [ou_i (by omega), ou_s, ec2, ou_f (by decide), ou_s]
      · rw [ou_f (by decide), ou_f (by decide), ou_s, if_neg (by omega)]
      · intro f a b; rw [ou_ff a, ou_ff a, ou_ff b]
      · intro j a b c; rw [ou_i b, ou_i c, ou_f (by decide)]
    rw [ec] at fin
    simp only [oz_uz]
    exact fin
  refine dp_ck c3 (dp_ck (by omega) ?_)
  by_cases c2 : k = 2
  · have ec : so_cup o k n ot s w = (if dz_c (o 0 s + w) < n then (if dz_c (o 0 s + w) ≤ 0 then (0, ob_u o 0 s (o 0 s + w)) else (0, ob_u (ob_u o 0 s (o 0 s + w - 1)) 7 0 (o 7 0 + 1))) else (1, ob_u (ob_u o 0 s 0) 7 0 (o 7 0 + (o 0 s + w)))) := by rw [c2]; exact so_cup_2
    refine dp_no (by omega) (dp_bi ?_)
    have fin : ∀ q : Int, q = (if dz_c (o 0 s + w) < n then (if dz_c (o 0 s + w) ≤ 0 then 0 else 1) else o 0 s + w) → K ((so_cup o k n ot s w).1, ob_z Y 114 (ob_u (ob_u (ob_u m 34 0 0) 0 (e + 136) (o 7 0 + q)) 0 (e + 86 + s) (o 0 s + w - q))) := by
      intro q hq
      apply kk
      · rw [ou_s, ec, hq]
        split
        · split
          · simp only [ou_s]; omega
          · simp only [ou_f (show (0 : Nat) ≠ 7 by decide), ou_s]
        · simp only [ou_f (show (0 : Nat) ≠ 7 by decide), ou_s]; omega
      · rw [ou_i (by omega), ou_i (by omega), ou_f (by decide), h1, ec]
        split
        · split
          · simp only [ou_f (show (1 : Nat) ≠ 0 by decide)]
          · simp only [ou_f (show (1 : Nat) ≠ 0 by decide), ou_f (show (1 : Nat) ≠ 7 by decide)]
        · simp only [ou_f (show (1 : Nat) ≠ 0 by decide), ou_f (show (1 : Nat) ≠ 7 by decide)]
      · rw [ou_i (by omega), ou_s, ec, hq]
        split
        · split
          · simp only [ou_f (show (7 : Nat) ≠ 0 by decide)]; omega
          · simp only [ou_s]
        · simp only [ou_s]
      · rw [ou_f (by decide), ou_f (by decide), ou_s, if_neg (by omega)]
      · intro f a b; rw [ou_ff a, ou_ff a, ou_ff b]
      · intro j a b c; rw [ou_i a, ou_i c, ou_f (by decide)]
    rw [ec] at fin
    refine dp_br (fun d1 => dp_br (fun d2 => dp_sm ?_) (fun d2 => dp_sm ?_)) (fun d1 => dp_sm ?_)
    · have := fin 0 (by rw [if_pos d1, if_pos d2])
      rw [if_pos d1, if_pos d2] at this
      exact dp_ck (by omega) (dp_le (dp_le (dp_ck d1 (dp_sm (by simp only [oz_uz]; exact this)))))
    · have := fin 1 (by rw [if_pos d1, if_neg d2])
      rw [if_pos d1, if_neg d2] at this
      exact dp_ck (by omega) (dp_le (dp_le (dp_ck d1 (dp_sm (by simp only [oz_uz]; exact this)))))
    · have := fin (o 0 s + w) (by rw [if_neg d1])
      rw [if_neg d1] at this
      exact dp_ck (by omega) (dp_le (dp_le (dp_no d1 (dp_sm (by simp only [oz_uz]; exact this)))))
  refine dp_ck c2 (dp_ck (by omega) (dp_le (dp_le (dp_ck (by omega) (dp_bi ?_)))))
  simp only [oz_uz, oz_s]
  by_cases c1 : k = 1
  · have ec : so_cup o k n ot s w = (so_tip o s n w, ob_u (ob_u o 0 s (o 0 s + w - so_tip o s n w * n)) 7 0 (o 7 0 + so_tip o s n w * n)) := by unfold so_cup; rw [if_neg c0, if_pos c1]
    have ec2 : (so_cup o k n ot s w).2 = ob_u (ob_u o 0 s (o 0 s + w - so_tip o s n w * n)) 7 0 (o 7 0 + so_tip o s n w * n) := by rw [ec]
    refine dp_no (by omega) (dp_sm (dp_le (dp_bi (dp_ck (by omega) (dp_sm (dp_le (dp_sm ?_)))))))
    have fin : K ((so_cup o k n ot s w).1, ob_z Y 114 (ob_u (ob_u (ob_u (ob_u m 34 0 0) 0 (e + 86 + s) (o 0 s + w - so_tip o s n w * n)) 0 (e + 136) (o 7 0 + so_tip o s n w * n)) 34 0 0)) := by
      apply kk
      · rw [ou_f (by decide), ou_i (by omega), ou_s, ec2, ou_f (by decide), ou_s]
      · rw [ou_f (by decide), ou_i (by omega), ou_i (by omega), ou_f (by decide), h1, ec2, ou_f (by decide), ou_f (by decide)]
      · rw [ou_f (by decide), ou_s, ec2, ou_s]
      · rw [ou_s, if_neg (by omega)]
      · intro f a b; rw [ou_ff b, ou_ff a, ou_ff a, ou_ff b]
      · intro j a b c; rw [ou_f (by decide), ou_i c, ou_i a, ou_f (by decide)]
    rw [ec] at fin
    simp only [oz_uz, ou_i (show e + 136 ≠ e + 86 + s by omega), ou_f (show (0 : Nat) ≠ 34 by decide), h7]
    exact fin
  · have c4 : k = 4 := by omega
    have ec : so_cup o k n ot s w = (so_tip o s n w, ob_u (ob_u o 0 s (o 0 s + w - so_tip o s n w * n)) 3 ot (o 3 ot + so_tip o s n w * n)) := by unfold so_cup; rw [if_neg c0, if_neg c1, if_neg c2, if_neg c3, if_pos c4]
    have ec2 : (so_cup o k n ot s w).2 = ob_u (ob_u o 0 s (o 0 s + w - so_tip o s n w * n)) 3 ot (o 3 ot + so_tip o s n w * n) := by rw [ec]
    refine dp_ck c1 (dp_sm (dp_le (dp_bi (dp_no (by omega) (dp_sm (dp_le (dp_sm ?_)))))))
    have fin : K ((so_cup o k n ot s w).1, ob_z Y 114 (ob_u (ob_u (ob_u (ob_u m 34 0 0) 0 (e + 86 + s) (o 0 s + w - so_tip o s n w * n)) 0 (e + 136) (o 7 0 + 0)) 34 0 (so_tip o s n w * n))) := by
      apply kk
      · rw [ou_f (by decide), ou_i (by omega), ou_s, ec2, ou_f (by decide), ou_s]
      · rw [ou_f (by decide), ou_i (by omega), ou_i (by omega), ou_f (by decide), h1, ec2, ou_f (by decide), ou_f (by decide)]
      · rw [ou_f (by decide), ou_s, ec2, ou_f (by decide), ou_f (by decide)]; omega
      · rw [ou_s, if_pos c4]
      · intro f a b; rw [ou_ff b, ou_ff a, ou_ff a, ou_ff b]
      · intro j a b c; rw [ou_f (by decide), ou_i c, ou_i a, ou_f (by decide)]
    rw [ec] at fin
    simp only [oz_uz, ou_i (show e + 136 ≠ e + 86 + s by omega), ou_f (show (0 : Nat) ≠ 34 by decide), h7]
    exact fin
end mc
