/-! the next line; the end -/
section tk1
variable {Z Y : dz_Z} {p s : Nat} {R R' P S T m m' m1 m2 m3 m4 m5 : ob_O} {a b e k i v st x y z lo hi w g N n : Int}
theorem it_cls (hp : p = 25 ∨ p = 4) (hR1 : (R 1 0).toNat = p) (hw : so_way w) (h3 : 0 ≤ P 3 0 ∧ P 3 0 ≤ 5) (h6 : 0 ≤ P 6 0 ∧ P 6 0 ≤ 8) : jf_R_isThere w (rk Z p s R P S) = some (decide ((w < 5 → w < P 3 0) ∧ (10 ≤ w → w < 18 → w - 10 < P 6 0))) := by
  have hisP : hz_isP p := by unfold hz_isP; omega
  unfold so_way at hw
  apply dp_is
  unfold jf_R_isThere
  simp only [rk_1, hR1, rk_p hp]
  rw [dz_ci (x := w) (by omega) (by omega), dz_ci (x := P 6 0) (by omega) (by omega), dz_ci (x := P 3 0) (by omega) (by omega), dz_ci (x := w - 10) (by omega) (by omega)]
  by_cases c : 5 ≤ w
  · refine dp_ck c ?_
    by_cases d : w = 20
    · refine dp_ck d (dp_sm ?_)
      rw [decide_eq_true]
      exact ⟨fun q => by omega, fun q r => by omega⟩
    · refine dp_no d (dp_ck hisP (dp_br (fun q => dp_sm ?_) (fun q => dp_sm ?_)))
      · rw [decide_eq_false]
        intro h
        have := h.2 (by omega) (by omega)
        omega
      · rw [decide_eq_true]
        exact ⟨fun q => by omega, fun _ _ => by omega⟩
  · refine dp_no c (dp_ck hisP (dp_br (fun q => dp_sm ?_) (fun q => dp_sm ?_)))
    · rw [decide_eq_false]
      intro h
      have := h.1 (by omega)
      omega
    · rw [decide_eq_true]
      exact ⟨fun _ => by omega, fun _ _ => by omega⟩
theorem ap_cls (hp : p = 25 ∨ p = 4) (hs : s = 36 ∨ s = 15) (hR1 : (R 1 0).toNat = p) (hR2 : (R 2 0).toNat = s) (hr : rg_A R' P S m) : jf_R_allPartsAreThere (rk Z p s R P S) = some (decide (m 18 0 < P 3 0 ∧ m 19 0 < P 6 0)) := by
  have hisP : hz_isP p := by unfold hz_isP; omega
  have hisS : hz_isS s := by unfold hz_isS; omega
  obtain ⟨hc, hr', hg, hsp, hw', ht, hz, ho, hpg, hh, hi⟩ := hr
  obtain ⟨c0, c3, c6, c10, c11⟩ := hc
  have h18 := hh.2 (P 3 0) c3.2.1
  have h19 := hi.2 (P 6 0) c6.2.1
  apply dp_is
  unfold jf_R_allPartsAreThere
  simp only [rk_1, hR1, hR2, rk_p hp, rk_s hp hs]
  rw [dz_ci (x := P 0 0) (by omega) (by omega), dz_ci (x := P 3 0) (by omega) (by omega), dz_ci (x := P 6 0) (by omega) (by omega)]
  refine dp_lp (fun n q => ∃ r : Nat, (r : Int) + n = P 0 0 ∧ q = (r : Int) ∧ ∀ r' : Int, 0 ≤ r' → r' < r → P 2 r' < P 3 0) ?_ 5000 (P 0 0).toNat 0 (by omega) ⟨0, by omega, rfl, fun r' x y => by omega⟩
  rintro n _ ⟨r, hrn, rfl, hA⟩
  rw [dz_ci (x := (r : Int)) (by omega) (by omega)]
  refine dp_ck hisP ?_
  by_cases cr : P 0 0 ≤ r
  · refine dp_ck cr ?_
    have hA' : ∀ r' : Int, 0 ≤ r' → r' < P 0 0 → P 2 r' < P 3 0 := fun r' x y => hA r' x (by omega)
    refine dp_lp (fun n q => ∃ g : Nat, (g : Int) + n = P 3 0 ∧ q = (g : Int) ∧ ∀ g' : Int, 0 ≤ g' → g' < g → ((P 4 g' < 5 → P 4 g' < P 3 0) ∧ (10 ≤ P 4 g' → P 4 g' < 18 → P 4 g' - 10 < P 6 0)) ∧ ((P 5 g' < 5 → P 5 g' < P 3 0) ∧ (10 ≤ P 5 g' → P 5 g' < 18 → P 5 g' - 10 < P 6 0))) ?_ 5000 (P 3 0).toNat 0 (by omega) ⟨0, by omega, rfl, fun g' x y => by omega⟩
    rintro n2 _ ⟨g, hgn, rfl, hB⟩
    rw [dz_ci (x := (g : Int)) (by omega) (by omega)]
    by_cases cg : P 3 0 ≤ g
    · refine dp_ck cg ?_
      have hB' : ∀ g' : Int, 0 ≤ g' → g' < P 3 0 → ((P 4 g' < 5 → P 4 g' < P 3 0) ∧ (10 ≤ P 4 g' → P 4 g' < 18 → P 4 g' - 10 < P 6 0)) ∧ ((P 5 g' < 5 → P 5 g' < P 3 0) ∧ (10 ≤ P 5 g' → P 5 g' < 18 → P 5 g' - 10 < P 6 0)) := fun g' x y => hB g' x (by omega)
      refine dp_lp (fun n q => ∃ s' : Nat, (s' : Int) + n = P 6 0 ∧ q = (s' : Int) ∧ ∀ s2 : Int, 0 ≤ s2 → s2 < s' → S 2 s2 = 4 → P 9 s2 < P 6 0) ?_ 5000 (P 6 0).toNat 0 (by omega) ⟨0, by omega, rfl, fun s2 x y => by omega⟩
      rintro n3 _ ⟨s', hsn, rfl, hC⟩
      rw [dz_ci (x := (s' : Int)) (by omega) (by omega)]
      by_cases cs : P 6 0 ≤ s'
      · refine dp_ck cs (dp_sm ?_)
        show true = decide _
        rw [decide_eq_true]
        exact ⟨h18.mpr ⟨hA', fun g x y => ⟨(hB' g x y).1.1, (hB' g x y).2.1⟩⟩, h19.mpr ⟨fun g x y => ⟨(hB' g x y).1.2, (hB' g x y).2.2⟩, fun s2 x y => hC s2 x (by omega)⟩⟩
      · have hq := hsp s' (by omega) (by omega)
        refine dp_no cs (dp_ck hisS (dp_ck (by omega) ?_))
        rw [dz_ci (x := S 2 (s' : Int)) (by omega) (by omega)]
        by_cases c4 : S 2 (s' : Int) = 4
        · have h9 := hq.2.2.2.2.2.2.1 c4
          rw [dz_ci (x := P 9 (s' : Int)) (by omega) (by omega)]
          refine dp_no (by omega) (dp_br (fun q => dp_sm ⟨n3 - 1, by omega, s' + 1, by omega, by omega, fun s2 x y z => ?_⟩) (fun q => dp_sm ?_))
          · by_cases e : s2 = s'
            · rw [e]; exact q
            · exact hC s2 x (by omega) z
          · show false = decide _
            rw [decide_eq_false]
            intro h
            exact q ((h19.mp h.2).2 s' (by omega) (by omega) c4)
        · refine dp_ck c4 (dp_sm ⟨n3 - 1, by omega, s' + 1, by omega, by omega, fun s2 x y z => ?_⟩)
          by_cases e : s2 = s'
          · rw [e] at z; exact absurd z c4
          · exact hC s2 x (by omega) z
    · have hq := hg g (by omega) (by omega)
      refine dp_no cg (dp_ck (by omega) (dp_bi (dp_eq (it_cls hp hR1 hq.2.2.1 c3.2 c6.2) (dp_br (fun q => dp_sm ?_) (fun q => dp_bi (dp_eq (it_cls hp hR1 hq.2.2.2 c3.2 c6.2) (dp_br (fun q2 => dp_sm ⟨n2 - 1, by omega, g + 1, by omega, by omega, fun g' x y => ?_⟩) (fun q2 => dp_sm ?_)))))))) 
      · show false = decide _
        rw [decide_eq_false]
        intro h
        exact (decide_eq_false_iff_not.mp q) ⟨((h18.mp h.1).2 g (by omega) (by omega)).1, ((h19.mp h.2).1 g (by omega) (by omega)).1⟩
      · by_cases e : g' = g
        · rw [e]
          exact ⟨of_decide_eq_true (eq_true_of_ne_false q), of_decide_eq_true q2⟩
        · exact hB g' x (by omega)
      · show false = decide _
        rw [decide_eq_false]
        intro h
        exact q2 (decide_eq_true ⟨((h18.mp h.1).2 g (by omega) (by omega)).2, ((h19.mp h.2).1 g (by omega) (by omega)).2⟩)
  · have hq := hr' r (by omega) (by omega)
    refine dp_no cr (dp_ck (by omega) ?_)
    rw [dz_ci (x := P 2 (r : Int)) (by omega) (by omega)]
    refine dp_br (fun q => dp_sm ⟨n - 1, by omega, r + 1, by omega, by omega, fun r' x y => ?_⟩) (fun q => dp_sm ?_)
    · by_cases e : r' = r
      · rw [e]; exact q
      · exact hA r' x (by omega)
    · show false = decide _
      rw [decide_eq_false]
      intro h
      exact q ((h18.mp h.1).1 r (by omega) (by omega))
theorem fl_z (hI : R 7 0 = st) {K : Bool × dz_Z → Prop} (k : K (false, rk Z p s (ob_u (ob_u R 3 0 w) 4 0 st) P S)) : dz_p (Option.bind (jf_R_fail w (rk Z p s R P S)) fun q30 => some (false, q30.2)) K := dp_bi (fl_cls hI (dp_sm k))
/-- a line -/
theorem lk_line (hp : p = 25 ∨ p = 4) (hs : s = 36 ∨ s = 15) (hT : so_tp T) (hZ : Z 2 = T) (hR1 : (R 1 0).toNat = p) (hR2 : (R 2 0).toNat = s) (hL : tkL T R m a) (hr : rg_A R P S m) {K : Bool × dz_Z → Prop} (kT : ∀ (R' P' S' m' : ob_O) (b : Int), (m 24 0 = 0 ∧ dz_c (m 28 0) ≠ 0) → (∀ Y, jf_M_readLine (ob_z Y 114 m) = some (ob_z Y 114 m')) → tkL T R' m' b → a + 1 < b → kp3 R R' → rg_A R' P' S' m' → ke m m' → K (true, rk Z p s R' P' S')) (kF : ∀ (R' P' S' m' : ob_O), (m 24 0 = 0 ∧ dz_c (m 28 0) ≠ 0) → (∀ Y, jf_M_readLine (ob_z Y 114 m) = some (ob_z Y 114 m')) → tkF T R' m' → kp3 R R' → ke m m' → K (false, rk Z p s R' P' S')) (kB : ∀ R' : ob_O, tkF T R' m → kp3 R R' → K (false, rk Z p s R' P S)) (kE : ∀ R' : ob_O, m 24 0 = 0 → m 28 0 = 0 → m 18 0 < P 3 0 → m 19 0 < P 6 0 → R' 3 0 = 0 → kpR R R' → K (false, rk Z p s R' P S)) (kM : ∀ (R' m' : ob_O), m 24 0 = 0 → m 28 0 = 0 → ¬(m 18 0 < P 3 0 ∧ m 19 0 < P 6 0) → (∀ Y, jf_M_fails 6 (ob_z Y 114 m) = some (ob_z Y 114 m')) → tkF T R' m' → kp3 R R' → kpm m m' → K (false, rk Z p s R' P S)) : dz_p (jf_R_readLine (rk Z p s R P S)) K := by
  unfold jf_R_readLine
  refine dp_bi (lk_nt hp hs hT hZ hL (fun R1 st e k hI kR => ?_) (fun R1 hF _ kR => ?_))
  · have hk := I_k hI
    have hmk := mk_b hk
    have r8 := hI.2.2.2.2.1
    have r7 := hI.2.2.2.1
    have m24 := hI.2.2.2.2.2.2.1
    have e28 := tm_24 hT hI.2.2.2.2.2.2.2.2.2.2.2 hI
    have m28 := hI.2.2.2.2.2.2.2.2.2.1
    have hst := hI.1.1
    have hr1 : rg_A R1 P S m := by
      obtain ⟨a1, a2, a3, a4, a5, a6, a7, a8, a9⟩ := hr
      exact ⟨a1, a2, a3, a4, a5, a6, a7, fr_o a8 rfl rfl rfl (kR 5 (Or.inr rfl)) rfl, a9⟩
    have R11 : (R1 1 0).toNat = p := by rw [kR 1 (by decide)]; exact hR1
    have R12 : (R1 2 0).toNat = s := by rw [kR 2 (by decide)]; exact hR2
    refine dp_ck rfl ?_
    simp only [rk_1, r8, dc_ir hk.1 (show k ≤ 2147483647 by omega)]
    by_cases c1 : k = 1
    · subst c1
      refine dp_no (by omega) (dp_bi (dp_eq (ap_cls hp hs R11 R12 hr1) (dp_br (fun q => dp_sm ?_) (fun q => fl_z r7 ?_))))
      · have := of_decide_eq_true q
        exact kE R1 m24 (by rw [m28]; rfl) this.1 this.2 hI.2.2.2.2.2.1 kR
      · obtain ⟨f1, f2, f3⟩ := lk_fl hI (w := 6) (w' := 6) (by omega) (by omega)
        exact kM _ _ m24 (by rw [m28]; rfl) (fun h => q (decide_eq_true h)) (fl_eq m24) f1 (k3_k (kR_t kR f3)) f2
    · refine dp_ck c1 ?_
      have h28 : m 24 0 = 0 ∧ dz_c (m 28 0) ≠ 0 := ⟨m24, by rw [e28]; omega⟩
      by_cases c2 : k = 2
      · subst c2
        refine dp_ck rfl ?_
        have h8 := hI.1.2.2.2.2.1 (Or.inl rfl)
        have i0 := I_in (P := P) (S := S) (c := 0) hp hs hT hZ hI (by decide)
        have i1 := I_in (P := P) (S := S) (c := 1) hp hs hT hZ hI (by decide)
        have i3 := I_in (P := P) (S := S) (c := 3) hp hs hT hZ hI (by decide)
        have i11 := I_in (P := P) (S := S) (c := 11) hp hs hT hZ hI (by decide)
        have i12 := I_in (P := P) (S := S) (c := 12) hp hs hT hZ hI (by decide)
        have i13 := I_in (P := P) (S := S) (c := 13) hp hs hT hZ hI (by decide)
        have i14 := I_in (P := P) (S := S) (c := 14) hp hs hT hZ hI (by decide)
        rw [show ((so_sg 0 : Nat) : Int) = 0 by decide] at i0
        rw [show ((so_sg 1 : Nat) : Int) = 1 by decide] at i1
        rw [show ((so_sg 3 : Nat) : Int) = 2 by decide] at i3
        rw [show ((so_sg 11 : Nat) : Int) = 3 by decide] at i11
        rw [show ((so_sg 12 : Nat) : Int) = 5 by decide] at i12
        rw [show ((so_sg 13 : Nat) : Int) = 4 by decide] at i13
        rw [show ((so_sg 14 : Nat) : Int) = 6 by decide] at i14
        have hnh := I_nh hT hI
        have hb := ni_b (w := so_wd T st e)
        have lT : so_kT Z p s T R1 m e K := fun R' P' S' m' b x1 x2 x3 x4 x5 x6 => kT R' P' S' m' b h28 x1 x2 (by omega) (fun f q => by rw [x4 f q, kR f (Or.inl q)]) x5 x6
        have lF : so_kF Z p s T R1 m K := fun R' P' S' m' x1 x2 x4 x6 => kF R' P' S' m' h28 x1 x2 (fun f q => by rw [x4 f q, kR f (Or.inl q)]) x6
        have tl : ∀ {o : Option (Bool × dz_Z)}, dz_p o K → dz_p (Option.bind o fun q26 => some (q26.1, q26.2)) K := fun h => dp_bi (dz_pm h (fun q x => dp_sm x))
        refine dp_bi (dp_eq i0 (dp_br (fun n0 => ?_) (fun n0 => tl (lk_roof hp hs hT hZ R11 hI (by simpa using n0) hr1 lT lF))))
        refine dp_bi (dp_eq i1 (dp_br (fun n1 => ?_) (fun n1 => tl (lk_peg hp hs hT hZ R11 hI (by simpa using n1) hr1 lT lF))))
        refine dp_bi (dp_eq i3 (dp_br (fun n3 => ?_) (fun n3 => tl (lk_spt hp hs hT hZ R11 R12 hI (by simpa using n3) hr1 lT lF))))
        refine dp_bi (dp_eq i11 (dp_br (fun n11 => ?_) (fun n11 => tl (lk_rain hp hs hT hZ R11 R12 hI (by simpa using n11) hr1 lT lF))))
        refine dp_bi (dp_eq i12 (dp_br (fun n12 => ?_) (fun n12 => tl (lk_tune hp hs hT hZ R12 hI (by simpa using n12) hr1 lT lF))))
        refine dp_bi (dp_eq i13 (dp_br (fun n13 => ?_) (fun n13 => tl (lk_slp hp hs hT hZ R11 hI (by simpa using n13) hr1 lT lF))))
        refine dp_bi (dp_eq i14 (dp_br (fun n14 => ?_) (fun n14 => tl (lk_wear hp hs hT hZ R11 hI (by simpa using n14) hr1 lT lF))))
        obtain ⟨f1, f2, f3⟩ := lk_fl hI (w := 2) (w' := 2) (by omega) (by omega)
        refine tl (fl_cls r7 (lF _ _ _ _ (ln_f hnh ⟨hb.1, hb.2.1, ?_⟩ (fl_eq m24)) f1 (k3_k f3) (ke_k f2)))
        simp only [decide_eq_false_iff_not] at n0 n1 n3 n11 n12 n13 n14
        omega
      · obtain ⟨f1, f2, f3⟩ := lk_fl hI (w := 2) (w' := 2) (by omega) (by omega)
        refine dp_no c2 (dp_bi (fl_cls r7 (dp_sm (kF _ _ _ _ h28 (ln_f (n_nh hT hL.2.2.2 ?_) (by decide) (fl_eq m24)) f1 (k3_k (kR_t kR f3)) (ke_k f2)))))
        rw [e28]
        have := hmk.2.2.1
        omega
  · exact dp_no (by intro q; cases q) (dp_sm (kB R1 hF (k3_k kR)))
end tk1
