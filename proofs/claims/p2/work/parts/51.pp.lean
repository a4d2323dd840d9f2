/-! a shower by itself, of the class and of the reference -/
/-- as a trial needs it -/
def mr_V (P S m : ob_O) : Prop := mr_W 0 P S m ∧ True ∧ (∀ w : Int, 0 ≤ w → w < P 10 0 → m 0 (0 + (34 + 13 * w)) = S 3 w ∧ ∀ i : Int, 0 ≤ i → i < S 3 w → m 0 (0 + (34 + 13 * w + 1 + i)) = S (20 + w.toNat) i) ∧ m 0 (0 + 73) = S 6 0 ∧ (∀ i : Int, 0 ≤ i → i < S 6 0 → m 0 (0 + (74 + i)) = S 5 i)
theorem mv_S {P S m : ob_O} (h : mr_S 0 P S m) : mr_V P S m := ⟨h.1, trivial, h.2.2⟩
theorem mv_m {P S m m' : ob_O} (h : mr_V P S m) (hP : so_P P) (hS : so_S P S) (hj : ∀ j : Int, 0 ≤ j → j < 86 → m' 0 j = m 0 j) : mr_V P S m' := by
  have h6 := hP.2.2.2.2.1
  have h10 := hP.2.2.2.2.2.2.1
  refine ⟨mrW_m h.1 hP (fun j a b => hj j (by omega) (by omega)), trivial, fun w a b => ?_, ?_, fun i a b => ?_⟩
  · have := (hS.2.2.2.1 w a b).1
    refine ⟨?_, fun i c d => ?_⟩
    · rw [hj _ (by omega) (by omega)]; exact (h.2.2.1 w a b).1
    · rw [hj _ (by omega) (by omega)]; exact (h.2.2.1 w a b).2 i c d
  · rw [hj _ (by omega) (by omega)]; exact h.2.2.2.1
  · have := hS.2.2.2.2.1
    rw [hj _ (by omega) (by omega)]; exact h.2.2.2.2 i a b
section pp
variable {P S o m m0 : ob_O} {v w B H : Int} {R : Int → Int} {Z Y : dz_Z} {p s : Nat} {t : Nat}
theorem sec_8 (hP : so_P P) (hS : so_S P S) (hv : 0 ≤ v ∧ v ≤ 9) (hb : so_B B H o) (hB : B ≤ 400000000) (h9 : dz_c (o 9 0) = o 9 0) (h4 : ∀ i : Int, P 6 0 ≤ i → i < 8 → o 4 i = 0) : (so_sec P S v o).2 8 0 - o 8 0 = so_sm ((so_sec P S v o).2 4) 8 ∧ (so_sec P S v o).2 9 0 = so_hb ((so_sec P S v o).2 4) (P 6 0).toNat (o 9 0) ∧ b8 (so_sec P S v o).1 ∧ dz_c ((so_sec P S v o).2 9 0) = (so_sec P S v o).2 9 0 ∧ (∀ i : Int, P 6 0 ≤ i → i < 8 → (so_sec P S v o).2 4 i = 0) ∧ (∀ i : Int, 0 ≤ i → i < 8 → 0 ≤ (so_sec P S v o).2 4 i) := by
  have h6 := hP.2.2.2.2.1
  have hsp := sb_spt (S := S) hP hv hb (by omega)
  have hm3 := sm_0 (g := o 3) 8 (fun i h0 h1 => (hb.1 i h0 h1).2.1)
  have hm0 := sm_0 (g := o 0) 8 (fun i h0 h1 => (hb.1 i h0 h1).1)
  have hb2 := hb.2
  have gf : ∀ f : Nat, f ≠ 3 → f ≠ 6 → f ≠ 7 → f ≠ 10 → f ≠ 11 → so_gs P S v o f = o f := by
    intro f h3 h6 h7 h10 h11
    show so_gut P S _ (so_roof P v _ (so_in o)) f = o f
    rw [so_gut_f h7 h10 h11, so_roof_f h6 h7 h10 h11]
    unfold so_in
    rw [of_n h10, of_n h3, of_n h11]
  have g3 : so_gs P S v o 3 = fun _ => 0 := by
    show so_gut P S _ (so_roof P v _ (so_in o)) 3 = _
    rw [so_gut_f (by decide) (by decide) (by decide), so_roof_f (by decide) (by decide) (by decide) (by decide)]
    unfold so_in
    rw [of_n (by decide), of_s]
  have hbg : so_B (so_sm (o 0) 8) H (so_gs P S v o) := by
    refine ⟨fun i h0 h1 => ?_, ?_⟩
    · rw [gf 0 (by decide) (by decide) (by decide) (by decide) (by decide), gf 1 (by decide) (by decide) (by decide) (by decide) (by decide), gf 2 (by decide) (by decide) (by decide) (by decide) (by decide), g3]
      have := hb.1 i h0 h1
      exact ⟨this.1, Int.le_refl _, this.2.2⟩
    · rw [gf 0 (by decide) (by decide) (by decide) (by decide) (by decide), g3, sm_z]
      omega
  have g9 := gf 9 (by decide) (by decide) (by decide) (by decide) (by decide)
  have g8 := gf 8 (by decide) (by decide) (by decide) (by decide) (by decide)
  have g4 := gf 4 (by decide) (by decide) (by decide) (by decide) (by decide)
  obtain ⟨c8, c9, cb, cl⟩ := cups_8 (S := S) hP hS hsp.1 hbg (by omega) (by rw [g9]; exact h9) (P 6 0).toNat (by omega)
  have e : so_sec P S v o = so_end (so_cups P S (P 6 0).toNat (0, so_gs P S v o)) := rfl
  have e2 : (so_sec P S v o).2 = ob_u (so_cups P S (P 6 0).toNat (0, so_gs P S v o)).2 5 0 ((so_cups P S (P 6 0).toNat (0, so_gs P S v o)).2 5 0 + 1) := rfl
  have e1 : (so_sec P S v o).1 = (so_cups P S (P 6 0).toNat (0, so_gs P S v o)).1 := rfl
  have hz : ∀ i : Int, P 6 0 ≤ i → i < 8 → (so_cups P S (P 6 0).toNat (0, so_gs P S v o)).2 4 i = 0 := fun i a b => by rw [so_cups_4 _ (by omega), g4]; exact h4 i a b
  rw [e1, e2, ou_f (f' := 8) (by decide), ou_f (f' := 9) (by decide), ou_ff (f' := 4) (by decide), c8, c9, g8, g9]
  have hsm : so_sm ((so_cups P S (P 6 0).toNat (0, so_gs P S v o)).2 4) 8 = so_sm ((so_cups P S (P 6 0).toNat (0, so_gs P S v o)).2 4) (P 6 0).toNat := by
    generalize (so_cups P S (P 6 0).toNat (0, so_gs P S v o)).2 4 = lo at hz
    have : ∀ j : Nat, (P 6 0).toNat + j ≤ 8 → so_sm lo ((P 6 0).toNat + j) = so_sm lo (P 6 0).toNat := by
      intro j
      induction j with
      | zero => intro _; rfl
      | succ j ih =>
        intro hj
        show so_sm lo ((P 6 0).toNat + j) + lo (((P 6 0).toNat + j : Nat) : Int) = _
        rw [ih (by omega), hz _ (by omega) (by omega)]
        omega
    have := this (8 - (P 6 0).toNat) (by omega)
    rw [show (P 6 0).toNat + (8 - (P 6 0).toNat) = 8 by omega] at this
    exact this
  refine ⟨by rw [hsm]; omega, rfl, cb, hb_c h9 _, hz, fun i a b => ?_⟩
  by_cases c : i < P 6 0
  · exact cl i a (by omega)
  · rw [hz i (by omega) b]; exact Int.le_refl _
/-- what stays true within a shower -/
theorem pf_9 (hP : so_P P) (hS : so_S P S) (hB : so_B (324 * t) (400000 * t) o) (h9 : dz_c (o 9 0) = o 9 0) (h4 : ∀ i : Int, P 6 0 ≤ i → i < 8 → o 4 i = 0) : ∀ k : Nat, t + k ≤ 1200 → (∀ i : Nat, i < k → 0 ≤ R i ∧ R i ≤ 9) → dz_c (pf_o P S R o k 9 0) = pf_o P S R o k 9 0 ∧ (∀ i : Int, P 6 0 ≤ i → i < 8 → pf_o P S R o k 4 i = 0)
  | 0, _, _ => ⟨h9, h4⟩
  | k + 1, hk, hR => by
    have ih := pf_9 hP hS hB h9 h4 k (by omega) (fun i hi => hR i (by omega))
    have hb := pf_B (R := R) hP hS hB k (by omega) (fun i hi => hR i (by omega))
    have := sec_8 (v := R k) hP hS (hR k (by omega)) hb (by omega) ih.1 ih.2
    exact ⟨this.2.2.2.1, this.2.2.2.2.1⟩
theorem pf_b8 (hP : so_P P) (hS : so_S P S) (hB : so_B (324 * t) (400000 * t) o) (h9 : dz_c (o 9 0) = o 9 0) (h4 : ∀ i : Int, P 6 0 ≤ i → i < 8 → o 4 i = 0) (k : Nat) (hk : t + k + 1 ≤ 1200) (hR : ∀ i : Nat, i < k + 1 → 0 ≤ R i ∧ R i ≤ 9) : b8 (pf_t P S R o k) := by
  have ih := pf_9 (R := R) hP hS hB h9 h4 k (by omega) (fun i hi => hR i (by omega))
  have hb := pf_B (R := R) hP hS hB k (by omega) (fun i hi => hR i (by omega))
  exact (sec_8 (v := R k) hP hS (hR k (by omega)) hb (by omega) ih.1 ih.2).2.2.1
/-- the reference: a shower goes on on the trial's page -/
theorem mp_sh (hP : so_P P) (hS : so_S P S) (rP : mr_P P m0) (rS : mr_V P S m0) (hw : 0 ≤ w ∧ w < P 10 0) (ht : t + 12 ≤ 1200) (hB : so_B (324 * t) (400000 * t) o) (rF : mr_F 420 P o m0) (h37 : m0 37 0 = o 9 0) (h9 : dz_c (o 9 0) = o 9 0) {K : dz_Z → Prop} (k : ∀ m' : ob_O, (∀ i : Nat, (i : Int) < S 3 w → m' 35 i = pf_t P S (S (20 + w.toNat)) o i ∧ m' 36 i = pf_l P S (S (20 + w.toNat)) o i) → m' 37 0 = pf_o P S (S (20 + w.toNat)) o (S 3 w).toNat 9 0 → mr_F 420 P (pf_o P S (S (20 + w.toNat)) o (S 3 w).toNat) m' → (∀ j : Int, j < 420 → m' 0 j = m0 0 j) → (∀ f : Nat, f ≠ 0 → (f < 32 ∨ 37 < f) → m' f = m0 f) → K (ob_z Y 114 m')) : dz_p (jf_M_showers w (ob_z Y 114 m0)) K := by
  have h10 := hP.2.2.2.2.2.2.1
  have h6 := hP.2.2.2.2.1
  have hl := hS.2.2.2.1 w hw.1 hw.2
  have rl := rS.2.2.1 w hw.1 hw.2
  simp only [Int.zero_add] at rl
  have h4 : ∀ i : Int, P 6 0 ≤ i → i < 8 → o 4 i = 0 := fun i a b => ((rF.1 i (by omega) b).2.2.2.2.2.2 a).2
  have hR : ∀ i : Nat, (i : Int) < S 3 w → 0 ≤ S (20 + w.toNat) i ∧ S (20 + w.toNat) i ≤ 9 := fun i hi => hl.2 i (by omega) hi
  generalize hRg : S (20 + w.toNat) = R at *
  have e34 : dz_c (34 + 13 * w) = 34 + 13 * w := dc_ir (by omega) (by omega)
  have e1 : dz_c (S 3 w) = S 3 w := dc_ir (by omega) (by omega)
  unfold jf_M_showers
  refine dp_lp (fun k s => ∃ (r : Nat) (m : ob_O), (r : Int) + k = S 3 w ∧ s = ((r : Int), ob_z Y 114 m) ∧ (∀ i : Nat, i < r → m 35 i = pf_t P S R o i ∧ m 36 i = pf_l P S R o i) ∧ m 37 0 = pf_o P S R o r 9 0 ∧ mr_F 420 P (pf_o P S R o r) m ∧ (∀ j : Int, j < 420 → m 0 j = m0 0 j) ∧ (∀ f : Nat, f ≠ 0 → (f < 32 ∨ 37 < f) → m f = m0 f)) ?_ 5000 (S 3 w).toNat (0, ob_z Y 114 m0) (by omega) ⟨0, m0, by omega, rfl, fun i hi => absurd hi (by omega), h37, rF, fun j _ => rfl, fun f _ _ => rfl⟩
  rintro k1 _ ⟨r, m, hr, rfl, i1, i2, i3, i4, i5⟩
  have er : dz_c (r : Int) = r := dc_ir (by omega) (by omega)
  have elen : jf_M_lengthOf w (ob_z Y 114 m) = some (S 3 w) := by
    unfold jf_M_lengthOf
    rw [e34, if_pos (by omega), oz_s, i4 _ (by omega), rl.1]
  refine dp_bi (dp_eq elen ?_)
  rw [e1, er]
  by_cases hk : (r : Int) = S 3 w
  · refine dp_ck (by omega) (dp_sm ?_)
    have e : (S 3 w).toNat = r := by omega
    refine k m ?_ ?_ ?_ i4 i5
    · intro i hi; exact i1 i (by omega)
    · rw [e]; exact i2
    · rw [e]; exact i3
  · have e35 : dz_c (34 + 13 * w + 1 + (r : Int)) = 34 + 13 * w + 1 + r := dc_ir (by omega) (by omega)
    have hv := hR r (by omega)
    have hrain : m 0 (34 + 13 * w + 1 + r) = R r := by rw [i4 _ (by omega)]; exact rl.2 r (by omega) (by omega)
    have hb := pf_B (R := R) hP hS hB r (by omega) (fun i hi => hR i (by omega))
    have h94 := pf_9 (R := R) hP hS hB h9 h4 r (by omega) (fun i hi => hR i (by omega))
    have hs8 := sec_8 (v := R r) hP hS hv hb (by omega) h94.1 h94.2
    simp only [e35, oz_s, hrain]
    refine dp_no (by omega) (dp_ck (by omega) ?_)
    refine dp_bi (mf_sec (e := 420) (Or.inr rfl) hP hS hv hb (by omega) (by omega) (mrP_m rP (fun f a b => i5 f (by omega) (by omega))) (mrW_m rS.1 hP (fun j a b => i4 j (by omega))) i3 (fun m1 f1 f2 f3 => dp_ck (by omega) (dp_le ?_)))
    dsimp only
    rw [oz_uz]
    refine dp_bi (dp_eq (sm_ms (e := 420) (q := 126) (by decide) (by decide)) (dp_le ?_))
    rw [oz_uz, oz_s]
    have hlsum : so_sm (fun i => ob_u m1 35 r (so_sec P S (R r) (pf_o P S R o r)).1 0 (420 + 126 + i)) 8 = pf_l P S R o r := by
      show _ = (so_sec P S (R r) (pf_o P S R o r)).2 8 0 - pf_o P S R o r 8 0
      rw [hs8.1]
      refine sm_c 8 (fun i a b => ?_)
      rw [ou_f (by decide)]
      exact (f1.1 i a b).2.2.2.2.1
    rw [hlsum]
    -- who was loud
    have m3 : m1 3 0 = P 6 0 := by rw [f2 3 (by decide) (by decide) (by decide) (by decide), i5 3 (by decide) (by decide)]; exact rP.2.2.2.2.1
    have e6 : dz_c (P 6 0) = P 6 0 := dc_ir h6.1 (by omega)
    refine dp_lp (fun k s => ∃ (q : Nat), (q : Int) + k = P 6 0 ∧ s = ((q : Int), ob_z Y 114 (ob_u (ob_u (ob_u m1 35 r (so_sec P S (R r) (pf_o P S R o r)).1) 36 r (pf_l P S R o r)) 37 0 (so_hb ((so_sec P S (R r) (pf_o P S R o r)).2 4) q (pf_o P S R o r 9 0))))) ?_ 5000 (P 6 0).toNat (0, ob_z Y 114 (ob_u (ob_u m1 35 r (so_sec P S (R r) (pf_o P S R o r)).1) 36 r (pf_l P S R o r))) (by omega) ⟨0, by omega, ?_⟩
    · rintro k2 _ ⟨q, hq, rfl⟩
      have eq : dz_c (q : Int) = q := dc_ir (by omega) (by omega)
      have eq2 : dz_c (546 + (q : Int)) = 546 + q := dc_ir (by omega) (by omega)
      simp only [oz_s, eq, eq2, ou_f (show (3 : Nat) ≠ 37 by decide), ou_f (show (3 : Nat) ≠ 36 by decide), ou_f (show (3 : Nat) ≠ 35 by decide), ou_f (show (0 : Nat) ≠ 37 by decide), ou_f (show (0 : Nat) ≠ 36 by decide), ou_f (show (0 : Nat) ≠ 35 by decide), m3, e6, ou_s]
      by_cases hk2 : (q : Int) = P 6 0
      · refine dp_ck (by omega) (dp_sm ⟨k1 - 1, by omega, r + 1, _, by omega, rfl, fun i hi => ?_, ?_, ?_, fun j hj => ?_, fun f a b => ?_⟩)
        · rw [ou_f (show (35 : Nat) ≠ 37 by decide), ou_f (show (35 : Nat) ≠ 36 by decide), ou_a, ou_f (show (36 : Nat) ≠ 37 by decide), ou_a, ou_f (show (36 : Nat) ≠ 35 by decide)]
          by_cases c : (i : Int) = r
          · rw [if_pos c, if_pos c, show i = r by omega]; exact ⟨rfl, rfl⟩
          · rw [if_neg c, if_neg c, f2 35 (by decide) (by decide) (by decide) (by decide), f2 36 (by decide) (by decide) (by decide) (by decide)]; exact i1 i (by omega)
        · rw [ou_s]
          show _ = (so_sec P S (R r) (pf_o P S R o r)).2 9 0
          rw [hs8.2.1, show q = (P 6 0).toNat by omega]
        · show mr_F 420 P (so_sec P S (R r) (pf_o P S R o r)).2 _
          exact mrF_m f1 (fun j a b => by rw [ou_f (by decide), ou_f (by decide), ou_f (by decide)])
        · rw [ou_f (by decide), ou_f (by decide), ou_f (by decide), f3 j (by omega)]; exact i4 j hj
        · rw [ou_ff (by omega), ou_ff (by omega), ou_ff (by omega), f2 f a (by omega) (by omega) (by omega)]; exact i5 f a b
      · have hlq : m1 0 (546 + q) = (so_sec P S (R r) (pf_o P S R o r)).2 4 q := by
          have := (f1.1 q (by omega) (by omega)).2.2.2.2.1
          rw [show (420 : Int) + 126 + q = 546 + q by omega] at this
          exact this
        rw [hlq]
        refine dp_no (by omega) (dp_ck (by omega) (dp_bi ?_))
        have key : so_hb ((so_sec P S (R r) (pf_o P S R o r)).2 4) (q + 1) (pf_o P S R o r 9 0) = dz_or (so_hb ((so_sec P S (R r) (pf_o P S R o r)).2 4) q (pf_o P S R o r 9 0)) (if dz_c ((so_sec P S (R r) (pf_o P S R o r)).2 4 q) ≤ 0 then 0 else dz_sl 1 q) := rfl
        refine dp_br (fun c => dp_sm (dp_le (dp_sm ⟨k2 - 1, by omega, q + 1, by omega, ?_⟩))) (fun c => dp_sm (dp_le (dp_sm ⟨k2 - 1, by omega, q + 1, by omega, ?_⟩)))
        · rw [key, if_pos c, oz_uz, ou_u]; rfl
        · rw [key, if_neg c, oz_uz, ou_u]; rfl
    · have e : so_hb ((so_sec P S (R r) (pf_o P S R o r)).2 4) 0 (pf_o P S R o r 9 0) = ob_u (ob_u m1 35 r (so_sec P S (R r) (pf_o P S R o r)).1) 36 r (pf_l P S R o r) 37 0 := by
        rw [ou_f (by decide), ou_f (by decide), f2 37 (by decide) (by decide) (by decide) (by decide), i2]
        rfl
      rw [e, ou_m]
      rfl
/-- the reference plays a shower -/
theorem mp_pl (hP : so_P P) (hS : so_S P S) (rP : mr_P P m0) (rS : mr_V P S m0) (hw : 0 ≤ w ∧ w < P 10 0) {K : dz_Z → Prop} (k : ∀ m' : ob_O, (∀ i : Nat, (i : Int) < S 3 w → m' 35 i = pf_t P S (S (20 + w.toNat)) ob_0 i ∧ m' 36 i = pf_l P S (S (20 + w.toNat)) ob_0 i) → m' 37 0 = pf_o P S (S (20 + w.toNat)) ob_0 (S 3 w).toNat 9 0 → mr_F 420 P (pf_o P S (S (20 + w.toNat)) ob_0 (S 3 w).toNat) m' → (∀ j : Int, j < 420 → m' 0 j = m0 0 j) → (∀ f : Nat, f ≠ 0 → (f < 32 ∨ 37 < f) → m' f = m0 f) → K (ob_z Y 114 m')) : dz_p (jf_M_plays2 w (ob_z Y 114 m0)) K := by
  unfold jf_M_plays2
  refine dp_bi (dr_ref (Or.inr rfl) (fun m1 g1 g2 g3 => dp_le ?_))
  rw [oz_uz]
  have f0 : ∀ f : Nat, f ≠ 0 → f ≠ 37 → ob_u m1 37 0 0 f = m0 f := fun f a b => by rw [ou_ff b, g3 f a]
  have j0 : ∀ j : Int, j < 420 → ob_u m1 37 0 0 0 j = m0 0 j := fun j a => by rw [ou_f (by decide), g2 j (by omega)]
  refine dp_bi (mp_sh (t := 0) (o := ob_0) hP hS (mrP_m rP (fun f a b => f0 f (by omega) (by omega))) (mv_m rS hP hS (fun j a b => j0 j (by omega))) hw (by decide) (dr_B D_0 (by decide) (by decide)) (dr_F D_0 (fun j a b => by rw [ou_f (by decide)]; exact g1 j a (by omega))) ou_s (by decide) (fun m' k1 k2 k3 k4 k5 => dp_sm (k m' k1 k2 k3 ?_ ?_)))
  · intro j hj; rw [k4 j hj, j0 j hj]
  · intro f a b; rw [k5 f a b, f0 f a (by omega)]
/-- the class plays a shower -/
theorem cp_pl (hp : hz_isP p) (hs : hz_isS s) (hP : so_P (Z p)) (hS : so_S (Z p) (Z s)) (hw : 0 ≤ w ∧ w < Z p 10 0) (cw : dz_c w = w) {K : dz_Z → Prop} (k : ∀ C F : ob_O, C 3 0 = Z s 3 w → (∀ i : Nat, (i : Int) < Z s 3 w → C 1 i = pf_t (Z p) (Z s) (Z s (20 + w.toNat)) ob_0 i ∧ C 2 i = pf_l (Z p) (Z s) (Z s (20 + w.toNat)) ob_0 i) → so_qF (pf_o (Z p) (Z s) (Z s (20 + w.toNat)) ob_0 (Z s 3 w).toNat) F → K (ob_z (ob_z Z 55 F) 54 C)) : dz_p (jf_C_perform p s w Z) K := by
  have h10 := hP.2.2.2.2.2.2.1
  have hl := hS.2.2.2.1 w hw.1 hw.2
  have p55 : p ≠ 55 ∧ p ≠ 54 := by unfold hz_isP at hp; omega
  have s55 : s ≠ 55 ∧ s ≠ 54 := by unfold hz_isS at hs; omega
  have e1 : dz_c (Z s 3 w) = Z s 3 w := dc_ir (by omega) (by omega)
  unfold jf_C_perform
  refine dp_bi (dp_eq dr_cls ?_)
  rw [cw]
  refine dp_ck (by omega) (dp_le ?_)
  rw [oz_u, oz_n (show (54 : Nat) ≠ 55 by decide), oz_n s55.1]
  refine dp_lp (fun k q => ∃ (r : Nat) (C F : ob_O), (r : Int) + k = Z s 3 w ∧ q = ((r : Int), ob_z (ob_z Z 55 F) 54 C) ∧ C 3 0 = Z s 3 w ∧ (∀ i : Nat, i < r → C 1 i = pf_t (Z p) (Z s) (Z s (20 + w.toNat)) ob_0 i ∧ C 2 i = pf_l (Z p) (Z s) (Z s (20 + w.toNat)) ob_0 i) ∧ so_qF (pf_o (Z p) (Z s) (Z s (20 + w.toNat)) ob_0 r) F) ?_ 5000 (Z s 3 w).toNat (0, ob_z (ob_z Z 55 (so_dry (Z 55))) 54 (ob_u (Z 54) 3 0 (Z s 3 w))) (by omega) ⟨0, _, _, by omega, rfl, ou_s, fun i hi => absurd hi (by omega), D_qF dr_f⟩
  rintro k1 _ ⟨r, C, F, hr, rfl, i1, i2, i3⟩
  have er : dz_c (r : Int) = r := dc_ir (by omega) (by omega)
  simp only [oz_s, i1, e1, er]
  by_cases hk : (r : Int) = Z s 3 w
  · refine dp_ck (by omega) (dp_sm (k C F i1 ?_ ?_))
    · intro i hi; exact i2 i (by omega)
    · rw [show (Z s 3 w).toNat = r by omega]; exact i3
  · have zz : ∀ b : Nat, b ≠ 55 → b ≠ 54 → ob_z (ob_z Z 55 F) 54 C b = Z b := fun b x y => by rw [oz_n y, oz_n x]
    have z55 : ob_z (ob_z Z 55 F) 54 C 55 = F := by rw [oz_n (by decide), oz_s]
    refine dp_no (by omega) (dp_ck (by omega) ?_)
    have hc := cf_sec (F := 55) (p := p) (q := s) (Z := ob_z (ob_z Z 55 F) 54 C) (v := Z s (20 + w.toNat) r) (Or.inr (Or.inl rfl)) hp hs (by rw [zz p p55.1 p55.2]; exact hP) (by rw [zz p p55.1 p55.2, zz s s55.1 s55.2]; exact hS)
    rw [zz p p55.1 p55.2, zz s s55.1 s55.2, z55] at hc
    rw [zz s s55.1 s55.2]
    refine dp_bi (dp_eq hc (dp_le (dp_le (dp_sm ⟨k1 - 1, by omega, r + 1, ob_u (ob_u C 1 r (so_sec (Z p) (Z s) (Z s (20 + w.toNat) r) F).1) 2 r ((so_sec (Z p) (Z s) (Z s (20 + w.toNat) r) F).2 8 0 - F 8 0), (so_sec (Z p) (Z s) (Z s (20 + w.toNat) r) F).2, by omega, ?_, ?_, fun i hi => ?_, ?_⟩))))
    · have sw : ∀ (A B : ob_O), ob_z (ob_z (ob_z Z 55 F) 54 A) 55 B = ob_z (ob_z Z 55 B) 54 A := fun A B => by
        funext b
        unfold ob_z
        by_cases x : b = 55
        · subst x; simp
        · by_cases y : b = 54
          · subst y; simp
          · rw [if_neg x, if_neg y, if_neg x, if_neg y, if_neg x]
      dsimp only
      rw [sw]
      simp only [oz_uz, z55]
      rw [oz_n (show (55 : Nat) ≠ 54 by decide), oz_s]
      rfl
    · rw [ou_f (by decide), ou_f (by decide)]; exact i1
    · have hq := qF_sec (P := Z p) (S := Z s) (v := Z s (20 + w.toNat) r) i3
      rw [ou_f (show (1 : Nat) ≠ 2 by decide), ou_a, ou_a, ou_f (show (2 : Nat) ≠ 1 by decide)]
      by_cases c : (i : Int) = r
      · rw [if_pos c, if_pos c, show i = r by omega]
        refine ⟨hq.1, ?_⟩
        rw [hq.2.2.2.2.2.2.2.2.2.1, i3.2.2.2.2.2.2.2.2.1]
        rfl
      · rw [if_neg c, if_neg c]; exact i2 i (by omega)
    · exact (qF_sec i3).2
end pp
