section mg_56pu
/-! the choice of a setting: what both sides fold over the settings -/
def so_un (v w : Int) : Nat → Int
  | 0 => 0
  | g + 1 => so_un v w g + (if so_dig v g = so_dig w g then 0 else 1)
def so_st (x : Nat → Int) (v d u : Int) : Nat → Int := fun f => if f = 3 then x 3 + 1 else if x 3 = 0 ∨ d < x 1 then (if f = 0 then v else if f = 1 then d else if f = 2 then 1 else if f = 4 then v else u) else if d = x 1 then (if f = 2 then x 2 + 1 else if u < x 5 then (if f = 4 then v else if f = 5 then u else x f) else x f) else x f
def so_ch (ok : Nat → Bool) (d u : Nat → Int) : Nat → Nat → Int
  | 0 => fun _ => 0
  | v + 1 => if ok v = false then so_ch ok d u v else so_st (so_ch ok d u v) v (d v) (u v)
def so_ro (x : Nat → Int) (K : ob_O) : Prop := K 3 0 = x 3 ∧ (x 3 ≠ 0 → K 0 0 = x 0 ∧ K 1 0 = x 1 ∧ K 2 0 = x 2 ∧ K 4 0 = x 4 ∧ K 5 0 = x 5)
section pu
variable {n G : Nat} {P S o m m0 : ob_O} {w v d u a1 a2 now : Int} {Z Y Z' W : dz_Z} {x : Nat → Int} {ok : Nat → Bool} {dd uu : Nat → Int}
theorem un_b : ∀ g : Nat, 0 ≤ so_un v w g ∧ so_un v w g ≤ g
  | 0 => ⟨Int.le_refl _, Int.le_refl _⟩
  | g + 1 => by
    have := un_b g
    show 0 ≤ so_un v w g + _ ∧ so_un v w g + _ ≤ _
    split <;> omega
theorem st_b (hx : ∀ f : Nat, 0 ≤ x f ∧ x f ≤ 300 + n) (hv : 0 ≤ v ∧ v ≤ n) (hd : 0 ≤ d ∧ d ≤ 300) (hu : 0 ≤ u ∧ u ≤ 5) (f : Nat) : 0 ≤ so_st x v d u f ∧ so_st x v d u f ≤ 300 + (n + 1 : Nat) := by
  have h3 := hx 3
  have h2 := hx 2
  have hf := hx f
  unfold so_st
  repeat' split
  all_goals omega
theorem ch_b : ∀ v : Nat, (∀ i : Nat, i < v → 0 ≤ dd i ∧ dd i ≤ 300) → (∀ i : Nat, i < v → 0 ≤ uu i ∧ uu i ≤ 5) → ∀ f : Nat, 0 ≤ so_ch ok dd uu v f ∧ so_ch ok dd uu v f ≤ 300 + v
  | 0, _, _, f => by show (0 : Int) ≤ 0 ∧ (0 : Int) ≤ 300 + (0 : Nat); omega
  | v + 1, hd, hu, f => by
    have ih := ch_b v (fun i hi => hd i (by omega)) (fun i hi => hu i (by omega))
    show 0 ≤ (if ok v = false then so_ch ok dd uu v else so_st (so_ch ok dd uu v) v (dd v) (uu v)) f ∧ (if ok v = false then so_ch ok dd uu v else so_st (so_ch ok dd uu v) v (dd v) (uu v)) f ≤ _
    split
    · have := ih f; omega
    · exact st_b ih (by omega) (hd v (by omega)) (hu v (by omega)) f
theorem un_cls (h6 : Z 65 6 0 = w) (h7 : Z 65 7 0 = (G : Int)) (hG : G ≤ 5) (hv : 0 ≤ v ∧ v ≤ 2147483647) (hw : 0 ≤ w ∧ w ≤ 2147483647) : jf_K_changedPegs v Z = some (so_un v w G) := by
  apply dp_is
  unfold jf_K_changedPegs
  rw [h6, h7]
  refine dp_lp (fun k q => ∃ r : Nat, r + k = G ∧ q = (so_rest w r, so_rest v r, so_un v w r, (r : Int))) ?_ 5000 G (w, v, 0, 0) (by omega) ⟨0, by omega, rfl⟩
  rintro k _ ⟨r, hr, rfl⟩
  have er : dz_c (r : Int) = r := dc_ir (by omega) (by omega)
  have eG : dz_c (G : Int) = G := dc_ir (by omega) (by omega)
  have d1 := st_d hv r
  have d2 := st_d hw r
  have e1 : dz_c (so_dig v r) = so_dig v r := dc_ir (by omega) (by omega)
  have e2 : dz_c (so_dig w r) = so_dig w r := dc_ir (by omega) (by omega)
  dsimp only
  rw [er, eG]
  by_cases hk : r = G
  · subst hk
    exact dp_ck (by omega) (dp_sm rfl)
  · refine dp_no (by omega) (dp_bi ?_)
    show dz_p (if dz_c (so_dig w r) = dz_c (so_dig v r) then some 0 else some 1) _
    rw [e1, e2]
    have key : so_un v w (r + 1) = so_un v w r + (if so_dig v r = so_dig w r then 0 else 1) := rfl
    refine dp_br (fun c => dp_sm (dp_sm ⟨k - 1, by omega, r + 1, by omega, ?_⟩)) (fun c => dp_sm (dp_sm ⟨k - 1, by omega, r + 1, by omega, ?_⟩))
    · rw [key, if_pos c.symm]; rfl
    · rw [key, if_neg (fun q => c q.symm)]; rfl
theorem un_ref (h2 : m 2 0 = (G : Int)) (hG : G ≤ 5) (hv : 0 ≤ v ∧ v ≤ 2147483647) (hw : 0 ≤ w ∧ w ≤ 2147483647) : jf_M_unlikePegs v w (ob_z Y 114 m) = some (so_un v w G) := by
  apply dp_is
  unfold jf_M_unlikePegs
  rw [oz_s, h2]
  refine dp_lp (fun k q => ∃ r : Nat, r + k = G ∧ q = (so_un v w r, so_rest v r, so_rest w r, (r : Int))) ?_ 5000 G (0, v, w, 0) (by omega) ⟨0, by omega, rfl⟩
  rintro k _ ⟨r, hr, rfl⟩
  have er : dz_c (r : Int) = r := dc_ir (by omega) (by omega)
  have eG : dz_c (G : Int) = G := dc_ir (by omega) (by omega)
  have d1 := st_d hv r
  have d2 := st_d hw r
  have e1 : dz_c (so_dig v r) = so_dig v r := dc_ir (by omega) (by omega)
  have e2 : dz_c (so_dig w r) = so_dig w r := dc_ir (by omega) (by omega)
  dsimp only
  rw [er, eG]
  by_cases hk : r = G
  · subst hk
    exact dp_ck (by omega) (dp_sm rfl)
  · refine dp_no (by omega) (dp_bi ?_)
    show dz_p (if dz_c (so_dig v r) ≠ dz_c (so_dig w r) then some 1 else some 0) _
    rw [e1, e2]
    have key : so_un v w (r + 1) = so_un v w r + (if so_dig v r = so_dig w r then 0 else 1) := rfl
    refine dp_br (fun c => dp_sm (dp_sm ⟨k - 1, by omega, r + 1, by omega, ?_⟩)) (fun c => dp_sm (dp_sm ⟨k - 1, by omega, r + 1, by omega, ?_⟩))
    · rw [key, if_neg c]; rfl
    · rw [key, if_pos (by omega)]; rfl
theorem of_cls (hx : so_ro x (Z 65)) (h6 : Z 65 6 0 = w) (h7 : Z 65 7 0 = (G : Int)) (hG : G ≤ 5) (hv : 0 ≤ v ∧ v ≤ 2147483647) (hw : 0 ≤ w ∧ w ≤ 2147483647) (hd : 0 ≤ d ∧ d ≤ 300) (hb : ∀ f : Nat, 0 ≤ x f ∧ x f ≤ 1000) {K : dz_Z → Prop} (k : ∀ K' : ob_O, so_ro (so_st x v d (so_un v w G)) K' → K' 6 0 = w → K' 7 0 = (G : Int) → K (ob_z Z 65 K')) : dz_p (jf_K_offer v d Z) K := by
  obtain ⟨h3, hr⟩ := hx
  have hun := un_b (v := v) (w := w) G
  have b3 := hb 3
  have e3 : dz_c (x 3) = x 3 := dc_ir (by omega) (by omega)
  have ed : dz_c d = d := dc_ir (by omega) (by omega)
  have eu : dz_c (so_un v w G) = so_un v w G := dc_ir (by omega) (by omega)
  unfold jf_K_offer
  refine dp_bi (dp_eq (un_cls h6 h7 hG hv hw) (dp_bi ?_))
  rw [h3, e3, ed]
  by_cases c : x 3 = 0 ∨ d < x 1
  · have t : ∀ K : Int → Prop, K 1 → dz_p (if x 3 = 0 then some 1 else if dz_c (Z 65 1 0) ≤ d then some 0 else some 1) K := by
      intro K hK
      by_cases c0 : x 3 = 0
      · exact dp_ck c0 (dp_sm hK)
      · have b1 := hb 1
        refine dp_no c0 (dp_no ?_ (dp_sm hK))
        rw [(hr c0).2.1, dc_ir (by omega) (by omega)]
        omega
    refine t _ (dp_le (dp_bi (dp_no (by decide) (dp_le (dp_le (dp_le (dp_sm ?_)))))))
    simp only [oz_u, oz_s, oz_z]
    have e1 : ob_u (ob_u (ob_u (ob_u (Z 65) 3 0 (x 3 + 1)) 0 0 v) 1 0 d) 2 0 0 1 0 = d := by
      rw [ou_f (by decide), ou_s]
    rw [e1]
    refine dp_no (by omega) (dp_le (dp_ck (by decide) (dp_le (dp_le (dp_sm ?_)))))
    simp only [oz_u, oz_s, oz_z]
    refine k _ ?_ ?_ ?_
    · have s : ∀ f : Nat, so_st x v d (so_un v w G) f = if f = 3 then x 3 + 1 else (if f = 0 then v else if f = 1 then d else if f = 2 then 1 else if f = 4 then v else so_un v w G) := fun f => by
        unfold so_st
        rw [if_pos c]
      unfold so_ro
      simp [s, ob_u]
    · simp [ob_u, h6]
    · simp [ob_u, h7]
  · have c0 : x 3 ≠ 0 := fun q => c (Or.inl q)
    obtain ⟨r0, r1, r2, r4, r5⟩ := hr c0
    have b1 := hb 1
    have b5 := hb 5
    have e1 : dz_c (x 1) = x 1 := dc_ir (by omega) (by omega)
    have e5 : dz_c (x 5) = x 5 := dc_ir (by omega) (by omega)
    refine dp_no c0 (dp_ck (by rw [r1, e1]; omega) (dp_sm (dp_le (dp_bi (dp_ck (by decide) (dp_sm ?_))))))
    simp only [oz_u, oz_s, oz_z, ou_f (show (1 : Nat) ≠ 3 by decide), ou_f (show (1 : Nat) ≠ 2 by decide), ou_f (show (2 : Nat) ≠ 3 by decide), ou_f (show (5 : Nat) ≠ 3 by decide), ou_f (show (5 : Nat) ≠ 2 by decide), r1, e1, r2, r5, e5, eu]
    have s : ∀ f : Nat, so_st x v d (so_un v w G) f = if f = 3 then x 3 + 1 else if d = x 1 then (if f = 2 then x 2 + 1 else if so_un v w G < x 5 then (if f = 4 then v else if f = 5 then so_un v w G else x f) else x f) else x f := fun f => by
      unfold so_st
      rw [if_neg c]
    by_cases cd : d = x 1
    · refine dp_no (by omega) (dp_le (dp_no (by decide) ?_))
      simp only [oz_u, oz_s, oz_z, ou_f (show (5 : Nat) ≠ 3 by decide), ou_f (show (5 : Nat) ≠ 2 by decide), r5, e5]
      refine dp_br (fun cu => dp_sm (k _ ?_ ?_ ?_)) (fun cu => dp_le (dp_le (dp_sm ?_)))
      · unfold so_ro
        simp only [if_pos cd, if_neg (show ¬ so_un v w G < x 5 by omega)] at s
        simp [s, ob_u, r0, r1, r4, r5]
      · simp [ob_u, h6]
      · simp [ob_u, h7]
      simp only [oz_u, oz_s, oz_z]
      refine k _ ?_ ?_ ?_
      · unfold so_ro
        simp only [if_pos cd, if_pos (show so_un v w G < x 5 by omega)] at s
        simp [s, ob_u, r0, r1, r4, r5]
      · simp [ob_u, h6]
      · simp [ob_u, h7]
    · refine dp_ck (by omega) (dp_sm (k _ ?_ ?_ ?_))
      · unfold so_ro
        simp [s, ob_u, cd, r0, r1, r2, r4, r5]
      · simp [ob_u, h6]
      · simp [ob_u, h7]
theorem st_st (h : (∀ f : Nat, f ≠ 0 → o f = S f) ∧ ∀ i : Int, (i < 0 ∨ (G : Int) ≤ i) → o 0 i = S 0 i) : so_sets v G o = so_sets v G S := by
  funext f i
  by_cases hf : f = 0
  · subst hf
    rw [st_i, st_i]
    split
    · rfl
    · exact h.2 i (by omega)
  · rw [st_f hf, st_f hf, h.1 f hf]
theorem st_sh : (∀ f : Nat, f ≠ 0 → so_sets v G S f = S f) ∧ ∀ i : Int, (i < 0 ∨ (G : Int) ≤ i) → so_sets v G S 0 i = S 0 i := ⟨fun f hf => st_f hf G, fun i hi => by rw [st_i, if_neg (by omega)]⟩
/-- a trial of the class -/
theorem tr_cls {p s : Nat} (hr : iv_R (W 0) (W 1)) (ep : iv_p W = p) (es : iv_s W = s) (wp : W p = P) (ws : W s = S) (hP : so_P P) (hS : so_S P S) (hw : 0 ≤ w ∧ w < P 10 0) (cw : dz_c w = w) {K : dz_Z → Prop} (k : ∀ W' : dz_Z, (∀ b : Nat, b ≠ 54 → b ≠ 55 → W' b = W b) → jf_C_farFromTune s W' = some (so_far P S w 12) → jf_C_wokenSleepers p W' = some (so_wk P (fun i => pf_l P S (S (20 + w.toNat)) ob_0 i.toNat) (S 3 w) (P 11 0).toNat) → K W') : dz_p (jf_C_perform p s w W) K := by
  subst ep es wp ws
  exact cp_pl (iv_isP hr) (iv_isS hr) hP hS hw cw (fun C F c3 ct cf => k _ (fun b x y => by rw [oz_n x, oz_n y]) (fr_cls (iv_isS hr) hP hS hw c3 (fun i hi => (ct i hi).1)) (wk_c2 hr hP hS hw c3 (fun i hi => (ct i hi).2)))
/-- while the class goes through the settings -/
def so_cI (Z : dz_Z) (x : Nat → Int) (Z' : dz_Z) : Prop := (∀ b : Nat, b ≠ iv_s Z → b ≠ 54 → b ≠ 55 → b ≠ 65 → Z' b = Z b) ∧ ((∀ f : Nat, f ≠ 0 → Z' (iv_s Z) f = Z (iv_s Z) f) ∧ ∀ i : Int, (i < 0 ∨ ((Z (iv_p Z) 3 0).toNat : Int) ≤ i) → Z' (iv_s Z) 0 i = Z (iv_s Z) 0 i) ∧ so_ro x (Z' 65) ∧ Z' 65 6 0 = so_num (Z (iv_s Z)) (Z (iv_p Z) 3 0).toNat 0 ∧ Z' 65 7 0 = ((Z (iv_p Z) 3 0).toNat : Int)
theorem cI_b (hr : iv_R (Z 0) (Z 1)) (h3 : 0 ≤ Z (iv_p Z) 3 0) {K : dz_Z → Prop} (k : ∀ Z' : dz_Z, so_cI Z (fun _ => 0) Z' → K Z') : dz_p (jf_K_begin (so_num (Z (iv_s Z)) (Z (iv_p Z) 3 0).toNat 0) (Z (iv_p Z) 3 0) Z) K := by
  have hs2 := iv_s2 hr
  unfold jf_K_begin
  refine dp_le (dp_le (dp_le (dp_sm (k _ ?_))))
  simp only [oz_u, oz_s, oz_z]
  refine ⟨fun b _ _ _ h65 => oz_n h65, ⟨fun f _ => by rw [oz_n (by omega)], fun i _ => by rw [oz_n (by omega)]⟩, ?_, ?_, ?_⟩
  · rw [oz_s]
    unfold so_ro
    simp [ob_u]
  · rw [oz_s]
    simp [ob_u]
  · rw [oz_s]
    simp [ob_u]
    omega
theorem cI_s (hr : iv_R (Z 0) (Z 1)) (h : so_cI Z x Z') : ob_z Z' (iv_s Z) (so_sets v (Z (iv_p Z) 3 0).toNat (Z' (iv_s Z))) = ob_z Z' (iv_s Z) (so_sets v (Z (iv_p Z) 3 0).toNat (Z (iv_s Z))) ∧ so_cI Z x (ob_z Z' (iv_s Z) (so_sets v (Z (iv_p Z) 3 0).toNat (Z (iv_s Z)))) := by
  have hs2 := iv_s2 hr
  obtain ⟨h1, h2, h3, h4, h5⟩ := h
  refine ⟨by rw [st_st h2], fun b a b' c d => by rw [oz_n a, h1 b a b' c d], ?_, ?_, ?_, ?_⟩
  · rw [oz_s]
    exact st_sh
  · rw [oz_n (by omega)]; exact h3
  · rw [oz_n (by omega)]; exact h4
  · rw [oz_n (by omega)]; exact h5
theorem cI_t (hr : iv_R (Z 0) (Z 1)) (h : so_cI Z x Z') (hb : ∀ b : Nat, b ≠ 54 → b ≠ 55 → W b = Z' b) : so_cI Z x W := by
  have hs2 := iv_s2 hr
  obtain ⟨h1, h2, h3, h4, h5⟩ := h
  refine ⟨fun b a b' c d => by rw [hb b b' c, h1 b a b' c d], ?_, ?_, ?_, ?_⟩
  · rw [hb _ (by omega) (by omega)]; exact h2
  · rw [hb _ (by omega) (by omega)]; exact h3
  · rw [hb _ (by omega) (by omega)]; exact h4
  · rw [hb _ (by omega) (by omega)]; exact h5
theorem cI_0 (hr : iv_R (Z 0) (Z 1)) (h : so_cI Z x Z') : Z' 0 = Z 0 ∧ Z' 1 = Z 1 ∧ Z' (iv_p Z) = Z (iv_p Z) := by
  have hs2 := iv_s2 hr
  have hp2 := iv_p2 hr
  exact ⟨h.1 0 (by omega) (by decide) (by decide) (by decide), h.1 1 (by omega) (by decide) (by decide) (by decide), h.1 _ (by omega) (by omega) (by omega) (by omega)⟩
theorem cI_o (hr : iv_R (Z 0) (Z 1)) (hP : so_P (Z (iv_p Z))) (hS : so_S (Z (iv_p Z)) (Z (iv_s Z))) (h : so_cI Z x Z') (hv : 0 ≤ v ∧ v ≤ 2147483647) (hd : 0 ≤ d ∧ d ≤ 300) (hb : ∀ f : Nat, 0 ≤ x f ∧ x f ≤ 1000) {K : dz_Z → Prop} (k : ∀ Z2 : dz_Z, so_cI Z (so_st x v d (so_un v (so_num (Z (iv_s Z)) (Z (iv_p Z) 3 0).toNat 0) (Z (iv_p Z) 3 0).toNat)) Z2 → K Z2) : dz_p (jf_K_offer v d Z') K := by
  have hs2 := iv_s2 hr
  have h3 := hP.2.2.1
  have hi := st_inv (S := Z (iv_s Z)) (G := (Z (iv_p Z) 3 0).toNat) (by omega) (fun g a b => hS.1 g a (by omega))
  obtain ⟨h1, h2, h3', h4, h5⟩ := h
  refine of_cls h3' h4 h5 (by omega) hv (by omega) hd hb (fun K' r1 r2 r3 => k _ ⟨fun b a b' c d => by rw [oz_n d, h1 b a b' c d], ?_, ?_, ?_, ?_⟩)
  · rw [oz_n (by omega)]; exact h2
  · rw [oz_s]; exact r1
  · rw [oz_s]; exact r2
  · rw [oz_s]; exact r3
theorem cI_e (hr : iv_R (Z 0) (Z 1)) (hP : so_P (Z (iv_p Z))) (hS : so_S (Z (iv_p Z)) (Z (iv_s Z))) (h : so_cI Z x Z') (b : Nat) (b1 : b ≠ 54) (b2 : b ≠ 55) (b3 : b ≠ 65) : ob_z Z' (iv_s Z) (so_sets (so_num (Z (iv_s Z)) (Z (iv_p Z) 3 0).toNat 0) (Z (iv_p Z) 3 0).toNat (Z' (iv_s Z))) b = Z b := by
  have h3 := hP.2.2.1
  by_cases hb : b = iv_s Z
  · rw [hb, oz_s]
    exact st_bk (by omega) (fun g a b => hS.1 g a (by omega)) (fun g a b => rfl) h.2.1.1 h.2.1.2
  · rw [oz_n hb, h.1 b hb b1 b2 b3]
def so_dw (P S : ob_O) (w : Int) (v : Nat) : Int := so_far P (so_sets v (P 3 0).toNat S) w 12
def so_uv (P S : ob_O) (v : Nat) : Int := so_un v (so_num S (P 3 0).toNat 0) (P 3 0).toNat
def so_wv (P S : ob_O) (w : Int) (v : Nat) : Int := so_wk P (fun i => pf_l P (so_sets v (P 3 0).toNat S) (so_sets v (P 3 0).toNat S (20 + w.toNat)) ob_0 i.toNat) (so_sets v (P 3 0).toNat S 3 w) (P 11 0).toNat
def so_ov (P S : ob_O) (w a2 : Int) (v : Nat) : Bool := decide (a2 = 0 ∨ dz_c (so_wv P S w v) = 0)
theorem dw_b (hP : so_P P) (hS : so_S P S) (hw : 0 ≤ w ∧ w < P 10 0) (v : Nat) (hv : v ≤ 1000) : 0 ≤ so_dw P S w v ∧ so_dw P S w v ≤ 96 := far_b hP (st_S hP hS (by omega)) hw 12 (by omega)
end pu
end mg_56pu
section mg_57pv
/-! best, fewest, all, quiet -/
def so_fs (P S : ob_O) : Nat → Int
  | 0 => 0
  | w + 1 => so_fs P S w + so_far P S w 12
def so_da (P S : ob_O) (v : Nat) : Int := so_fs P (so_sets v (P 3 0).toNat S) (P 10 0).toNat
def so_fe (far : Int) (d u : Nat → Int) : Nat → Int × Int
  | 0 => (-4, 0)
  | v + 1 => if (so_fe far d u v).1 = -4 then (if d v ≠ far then so_fe far d u v else ((v : Int), u v)) else if (so_fe far d u v).2 ≤ u v then so_fe far d u v else if d v ≠ far then so_fe far d u v else ((v : Int), u v)
section pv
variable {n G N : Nat} {P S o m m0 m' : ob_O} {w d u a1 a2 now far : Int} {v : Nat} {Z Y Z' W : dz_Z} {x : Nat → Int} {ok : Nat → Bool} {dd uu : Nat → Int}
theorem fs_b (hP : so_P P) (hS : so_S P S) : ∀ w : Nat, (w : Int) ≤ P 10 0 → 0 ≤ so_fs P S w ∧ so_fs P S w ≤ 96 * w
  | 0, _ => ⟨Int.le_refl _, Int.le_refl _⟩
  | w + 1, hw => by
    have h1 := fs_b hP hS w (by omega)
    have h2 := far_b hP hS (w := w) (by omega) 12 (by omega)
    show 0 ≤ so_fs P S w + _ ∧ so_fs P S w + _ ≤ _
    omega
theorem da_b (hP : so_P P) (hS : so_S P S) (v : Nat) (hv : v ≤ 1000) : 0 ≤ so_da P S v ∧ so_da P S v ≤ 288 := by
  have h10 := hP.2.2.2.2.2.2.1
  have := fs_b hP (st_S (v := v) hP hS (by omega)) (P 10 0).toNat (by omega)
  unfold so_da
  omega
theorem uv_b (hP : so_P P) (v : Nat) : 0 ≤ so_uv P S v ∧ so_uv P S v ≤ 5 := by
  have h3 := hP.2.2.1
  have := un_b (v := v) (w := so_num S (P 3 0).toNat 0) (P 3 0).toNat
  unfold so_uv
  omega
theorem ch_3 : ∀ v : Nat, so_ch (fun _ => true) dd uu v 3 = v
  | 0 => rfl
  | v + 1 => by
    show (if true = false then _ else so_st (so_ch (fun _ => true) dd uu v) v (dd v) (uu v)) 3 = _
    rw [if_neg (by decide)]
    unfold so_st
    rw [if_pos rfl, ch_3 v]
    omega
/-- the least distance -/
theorem ch_m : ∀ (N : Nat), 1 ≤ N → ∀ v : Nat, v < N → so_ch (fun _ => true) dd uu N 1 ≤ dd v ∧ (1 ≤ v → so_ch (fun _ => true) dd uu N 1 ≤ so_ch (fun _ => true) dd uu v 1)
  | 0, h, _, _ => absurd h (by omega)
  | N + 1, _, v, hv => by
    have key : so_ch (fun _ => true) dd uu (N + 1) 1 = so_st (so_ch (fun _ => true) dd uu N) N (dd N) (uu N) 1 := by
      show (if true = false then _ else so_st (so_ch (fun _ => true) dd uu N) N (dd N) (uu N)) 1 = _
      rw [if_neg (by decide)]
    have e3 := ch_3 (dd := dd) (uu := uu) N
    rw [key]
    unfold so_st
    rw [if_neg (by decide), e3]
    by_cases h0 : N = 0
    · subst h0
      rw [if_pos (show ((0 : Nat) : Int) = 0 ∨ dd 0 < so_ch (fun _ => true) dd uu 0 1 from Or.inl rfl)]
      have : v = 0 := by omega
      subst this
      exact ⟨Int.le_refl _, fun q => absurd q (by omega)⟩
    · by_cases c : dd N < so_ch (fun _ => true) dd uu N 1
      · rw [if_pos (Or.inr c)]
        show dd N ≤ dd v ∧ (1 ≤ v → dd N ≤ _)
        by_cases e : v = N
        · subst e
          exact ⟨Int.le_refl _, fun _ => by omega⟩
        · have := ch_m N (by omega) v (by omega)
          exact ⟨by omega, fun q => by have := this.2 q; omega⟩
      · rw [if_neg (by omega)]
        have e : (if dd N = so_ch (fun _ => true) dd uu N 1 then (if (1 : Nat) = 2 then so_ch (fun _ => true) dd uu N 2 + 1 else if uu N < so_ch (fun _ => true) dd uu N 5 then (if (1 : Nat) = 4 then (N : Int) else if (1 : Nat) = 5 then uu N else so_ch (fun _ => true) dd uu N 1) else so_ch (fun _ => true) dd uu N 1) else so_ch (fun _ => true) dd uu N 1) = so_ch (fun _ => true) dd uu N 1 := by
          rw [if_neg (show ¬(1 : Nat) = 2 by decide), if_neg (show ¬(1 : Nat) = 4 by decide), if_neg (show ¬(1 : Nat) = 5 by decide)]
          split
          · split <;> rfl
          · rfl
        rw [e]
        by_cases e : v = N
        · subst e
          exact ⟨by omega, fun _ => Int.le_refl _⟩
        · exact ch_m N (by omega) v (by omega)
/-- the fewest changes: found on the way, or afterwards -/
theorem fe_ch (hN : 1 ≤ N) (hu : ∀ i, 0 ≤ uu i) : ∀ v : Nat, v ≤ N → so_fe (so_ch (fun _ => true) dd uu N 1) dd uu v = if 1 ≤ v ∧ so_ch (fun _ => true) dd uu v 1 = so_ch (fun _ => true) dd uu N 1 then (so_ch (fun _ => true) dd uu v 4, so_ch (fun _ => true) dd uu v 5) else (-4, 0)
  | 0, _ => by rw [if_neg (by omega)]; rfl
  | v + 1, hv => by
    have ih := fe_ch hN hu v (by omega)
    have hm := ch_m (dd := dd) (uu := uu) N hN v (by omega)
    have e3 := ch_3 (dd := dd) (uu := uu) v
    have key : so_ch (fun _ => true) dd uu (v + 1) = so_st (so_ch (fun _ => true) dd uu v) v (dd v) (uu v) := by
      show (if true = false then _ else so_st (so_ch (fun _ => true) dd uu v) v (dd v) (uu v)) = _
      rw [if_neg (by decide)]
    have kf : so_fe (so_ch (fun _ => true) dd uu N 1) dd uu (v + 1) = if (so_fe (so_ch (fun _ => true) dd uu N 1) dd uu v).1 = -4 then (if dd v ≠ so_ch (fun _ => true) dd uu N 1 then so_fe (so_ch (fun _ => true) dd uu N 1) dd uu v else ((v : Int), uu v)) else if (so_fe (so_ch (fun _ => true) dd uu N 1) dd uu v).2 ≤ uu v then so_fe (so_ch (fun _ => true) dd uu N 1) dd uu v else if dd v ≠ so_ch (fun _ => true) dd uu N 1 then so_fe (so_ch (fun _ => true) dd uu N 1) dd uu v else ((v : Int), uu v) := rfl
    have h4 : 1 ≤ v → 0 ≤ so_ch (fun _ => true) dd uu v 4 := fun _ => by
      have : ∀ v : Nat, 0 ≤ so_ch (fun _ => true) dd uu v 4 := by
        intro v
        induction v with
        | zero => exact Int.le_refl _
        | succ v ih =>
          have key : so_ch (fun _ => true) dd uu (v + 1) = so_st (so_ch (fun _ => true) dd uu v) v (dd v) (uu v) := by
            show (if true = false then _ else so_st (so_ch (fun _ => true) dd uu v) v (dd v) (uu v)) = _
            rw [if_neg (by decide)]
          rw [key]
          unfold so_st
          repeat' split
          all_goals omega
      exact this v
    rw [kf, ih, key]
    generalize so_ch (fun _ => true) dd uu N 1 = F at *
    generalize so_ch (fun _ => true) dd uu v = x at *
    have s1 : so_st x v (dd v) (uu v) 1 = if x 3 = 0 ∨ dd v < x 1 then dd v else x 1 := by
      unfold so_st
      simp
    have s4 : so_st x v (dd v) (uu v) 4 = if x 3 = 0 ∨ dd v < x 1 then (v : Int) else if dd v = x 1 ∧ uu v < x 5 then (v : Int) else x 4 := by
      unfold so_st
      by_cases c : x 3 = 0 ∨ dd v < x 1
      · simp [c]
      · by_cases c1 : dd v = x 1
        · by_cases c2 : uu v < x 5 <;> simp [c, c1, c2]
        · simp [c, c1]
    have s5 : so_st x v (dd v) (uu v) 5 = if x 3 = 0 ∨ dd v < x 1 then uu v else if dd v = x 1 ∧ uu v < x 5 then uu v else x 5 := by
      unfold so_st
      by_cases c : x 3 = 0 ∨ dd v < x 1
      · simp [c]
      · by_cases c1 : dd v = x 1
        · by_cases c2 : uu v < x 5 <;> simp [c, c1, c2]
        · simp [c, c1]
    rw [s1, s4, s5, e3]
    by_cases c0 : (v : Int) = 0 ∨ dd v < x 1
    · rw [if_pos c0, if_pos c0, if_pos c0]
      rw [if_neg (show ¬(1 ≤ v ∧ x 1 = F) from fun q => by have := hm.2 q.1; omega)]
      rw [if_pos rfl]
      by_cases c1 : dd v = F
      · rw [if_neg (by omega), if_pos (by omega)]
      · rw [if_pos (by omega), if_neg (by omega)]
    · rw [if_neg c0, if_neg c0, if_neg c0]
      by_cases cF : x 1 = F
      · rw [if_pos (show 1 ≤ v ∧ x 1 = F by omega), if_pos (show 1 ≤ v + 1 ∧ x 1 = F by omega)]
        have := h4 (by omega)
        rw [if_neg (show ¬(x 4, x 5).1 = -4 by show ¬ x 4 = -4; omega)]
        by_cases c5 : x 5 ≤ uu v
        · rw [if_pos (show (x 4, x 5).2 ≤ uu v from c5), if_neg (by omega), if_neg (by omega)]
        · rw [if_neg (show ¬(x 4, x 5).2 ≤ uu v from c5)]
          by_cases c1 : dd v = F
          · rw [if_neg (by omega), if_pos (by omega), if_pos (by omega)]
          · rw [if_pos (by omega), if_neg (by omega), if_neg (by omega)]
      · rw [if_neg (show ¬(1 ≤ v ∧ x 1 = F) from fun q => cF q.2), if_neg (show ¬(1 ≤ v + 1 ∧ x 1 = F) from fun q => cF q.2), if_pos rfl, if_pos (by have := hm.2 (by omega); omega)]
theorem ov_t : so_ov P S w 0 = fun _ => true := by
  funext v
  unfold so_ov
  simp
/-- the class goes through the settings for a shower -/
theorem ch_cls (h : iv_Z n Z) (hw : 0 ≤ w ∧ w < Z (iv_p Z) 10 0) (cw : dz_c w = w) (ca : dz_c a2 = a2) {K : dz_Z → Prop} (k : ∀ Z' : dz_Z, (∀ b : Nat, b ≠ 54 → b ≠ 55 → b ≠ 65 → Z' b = Z b) → so_ro (so_ch (so_ov (Z (iv_p Z)) (Z (iv_s Z)) w a2) (so_dw (Z (iv_p Z)) (Z (iv_s Z)) w) (so_uv (Z (iv_p Z)) (Z (iv_s Z))) (so_pw (Z (iv_p Z) 3 0).toNat).toNat) (Z' 65) → K Z') : dz_p (jf_O_chooseForShower w a2 Z) K := by
  have hr := h.1
  have hp := iv_isP h.1
  have hs := iv_isS h.1
  have hs2 := iv_s2 h.1
  have hP := h.2.1
  have h3 := hP.2.2.1
  have hS := h.2.2.2.1.1
  have hpw := so_pw_b (G := (Z (iv_p Z) 3 0).toNat) (by omega)
  have e3 : dz_c (Z (iv_p Z) 3 0) = Z (iv_p Z) 3 0 := dc_ir h3.1 (by omega)
  have epw : dz_c (so_pw (Z (iv_p Z) 3 0).toNat) = so_pw (Z (iv_p Z) 3 0).toNat := dc_ir (by omega) (by omega)
  unfold jf_O_chooseForShower
  simp only [show (Z 0 3 0).toNat = iv_s Z from rfl, show (Z 0 2 0).toNat = iv_p Z from rfl]
  refine dp_ck hs (dp_ck hp (dp_bi (dp_eq (st_ncls h3) (dp_bi (dp_eq (st_mcls h) (dp_bi (cI_b hr h3.1 (fun Z1 i1 => ?_))))))))
  rw [epw, ca]
  generalize hN : so_pw (Z (iv_p Z) 3 0).toNat = pw at *
  refine dp_lp (fun k q => ∃ (v : Nat) (Z' : dz_Z), v + k = pw.toNat ∧ q = ((v : Int), Z') ∧ so_cI Z (so_ch (so_ov (Z (iv_p Z)) (Z (iv_s Z)) w a2) (so_dw (Z (iv_p Z)) (Z (iv_s Z)) w) (so_uv (Z (iv_p Z)) (Z (iv_s Z))) v) Z') ?_ 5000 pw.toNat (0, Z1) (by omega) ⟨0, Z1, by omega, rfl, i1⟩
  rintro k1 _ ⟨v, Z', hv, rfl, hc⟩
  obtain ⟨z0, z1, zp⟩ := cI_0 hr hc
  have ev : dz_c (v : Int) = v := dc_ir (by omega) (by omega)
  simp only [z0, show (Z 0 3 0).toNat = iv_s Z from rfl, show (Z 0 2 0).toNat = iv_p Z from rfl, zp, ev]
  by_cases hk : v = pw.toNat
  · refine dp_ck (by omega) (dp_ck hs (dp_ck hp (dp_bi (dp_eq (st_cls e3 h3) (dp_sm (k _ (cI_e hr hP hS hc) ?_))))))
    rw [oz_n (by omega), ← hk]
    exact hc.2.2.1
  · refine dp_no (by omega) (dp_ck hs (dp_ck hp (dp_bi (dp_eq (st_cls e3 h3) ?_))))
    obtain ⟨es, hc2⟩ := cI_s (v := v) hr hc
    rw [es]
    have ws : ob_z Z' (iv_s Z) (so_sets v (Z (iv_p Z) 3 0).toNat (Z (iv_s Z))) (iv_s Z) = so_sets v (Z (iv_p Z) 3 0).toNat (Z (iv_s Z)) := oz_s
    generalize hW : ob_z Z' (iv_s Z) (so_sets v (Z (iv_p Z) 3 0).toNat (Z (iv_s Z))) = W at *
    obtain ⟨w0, w1, wp⟩ := cI_0 hr hc2
    simp only [w0, show (Z 0 3 0).toNat = iv_s Z from rfl, show (Z 0 2 0).toNat = iv_p Z from rfl]
    have hSv := st_S (v := v) hP hS (by omega)
    refine dp_ck hp (dp_ck hs (dp_bi (tr_cls (by rw [w0, w1]; exact hr) (by unfold iv_p; rw [w0]) (by unfold iv_s; rw [w0]) wp ws hP hSv hw cw (fun W' hb hf hwk => ?_))))
    have hc3 := cI_t hr hc2 hb
    obtain ⟨v0, v1, vp⟩ := cI_0 hr hc3
    simp only [v0, show (Z 0 3 0).toNat = iv_s Z from rfl, show (Z 0 2 0).toNat = iv_p Z from rfl]
    have hdw := dw_b hP hS hw v (by omega)
    have hcb := ch_b (ok := so_ov (Z (iv_p Z)) (Z (iv_s Z)) w a2) (dd := so_dw (Z (iv_p Z)) (Z (iv_s Z)) w) (uu := so_uv (Z (iv_p Z)) (Z (iv_s Z))) v (fun i hi => by have := dw_b hP hS hw i (by omega); omega) (fun i hi => uv_b hP i)
    have key : so_ch (so_ov (Z (iv_p Z)) (Z (iv_s Z)) w a2) (so_dw (Z (iv_p Z)) (Z (iv_s Z)) w) (so_uv (Z (iv_p Z)) (Z (iv_s Z))) (v + 1) = if so_ov (Z (iv_p Z)) (Z (iv_s Z)) w a2 v = false then so_ch (so_ov (Z (iv_p Z)) (Z (iv_s Z)) w a2) (so_dw (Z (iv_p Z)) (Z (iv_s Z)) w) (so_uv (Z (iv_p Z)) (Z (iv_s Z))) v else so_st (so_ch (so_ov (Z (iv_p Z)) (Z (iv_s Z)) w a2) (so_dw (Z (iv_p Z)) (Z (iv_s Z)) w) (so_uv (Z (iv_p Z)) (Z (iv_s Z))) v) v (so_dw (Z (iv_p Z)) (Z (iv_s Z)) w v) (so_uv (Z (iv_p Z)) (Z (iv_s Z)) v) := rfl
    have okd : so_ov (Z (iv_p Z)) (Z (iv_s Z)) w a2 v = decide (a2 = 0 ∨ dz_c (so_wv (Z (iv_p Z)) (Z (iv_s Z)) w v) = 0) := rfl
    have go : so_ov (Z (iv_p Z)) (Z (iv_s Z)) w a2 v = true → ∀ Z2 : dz_Z, so_cI Z (so_st (so_ch (so_ov (Z (iv_p Z)) (Z (iv_s Z)) w a2) (so_dw (Z (iv_p Z)) (Z (iv_s Z)) w) (so_uv (Z (iv_p Z)) (Z (iv_s Z))) v) v (so_dw (Z (iv_p Z)) (Z (iv_s Z)) w v) (so_un v (so_num (Z (iv_s Z)) (Z (iv_p Z) 3 0).toNat 0) (Z (iv_p Z) 3 0).toNat)) Z2 → so_cI Z (so_ch (so_ov (Z (iv_p Z)) (Z (iv_s Z)) w a2) (so_dw (Z (iv_p Z)) (Z (iv_s Z)) w) (so_uv (Z (iv_p Z)) (Z (iv_s Z))) (v + 1)) Z2 := by
      intro ho Z2 h2
      rw [key, if_neg (by rw [ho]; decide)]
      exact h2
    refine dp_br (fun a => dp_ck hs (dp_bi (dp_eq hf (dp_bi (cI_o hr hP hS hc3 (by omega) (show 0 ≤ so_dw (Z (iv_p Z)) (Z (iv_s Z)) w v ∧ so_dw (Z (iv_p Z)) (Z (iv_s Z)) w v ≤ 300 by omega) (fun f => by have := hcb f; omega) (fun Z2 hc4 => dp_sm ⟨k1 - 1, by omega, v + 1, Z2, by omega, rfl, go ?_ Z2 hc4⟩)))))) (fun a => dp_ck hp (dp_bi (dp_eq hwk (dp_br (fun b => dp_sm ⟨k1 - 1, by omega, v + 1, W', by omega, rfl, ?_⟩) (fun b => dp_ck hs (dp_bi (dp_eq hf (dp_bi (cI_o hr hP hS hc3 (by omega) (show 0 ≤ so_dw (Z (iv_p Z)) (Z (iv_s Z)) w v ∧ so_dw (Z (iv_p Z)) (Z (iv_s Z)) w v ≤ 300 by omega) (fun f => by have := hcb f; omega) (fun Z2 hc4 => dp_sm ⟨k1 - 1, by omega, v + 1, Z2, by omega, rfl, go ?_ Z2 hc4⟩))))))))))
    · rw [okd, decide_eq_true (Or.inl a)]
    · have b' : ¬ dz_c (so_wv (Z (iv_p Z)) (Z (iv_s Z)) w v) = 0 := b
      rw [key, okd, decide_eq_false (fun q => by rcases q with q | q; exact a q; exact b' q), if_pos rfl]
      exact hc3
    · have b' : ¬ ¬ dz_c (so_wv (Z (iv_p Z)) (Z (iv_s Z)) w v) = 0 := b
      rw [okd, decide_eq_true (Or.inr (by omega))]
end pv
end mg_57pv
section mg_58pw
/-! all, and the reference's side of the choices -/
def so_mI (P m0 m : ob_O) : Prop := (∀ j : Int, j < 420 → (j < 0 ∨ ((P 3 0).toNat : Int) ≤ j) → m 0 j = m0 0 j) ∧ (∀ f : Nat, f ≠ 0 → (f < 32 ∨ 40 < f) → m f = m0 f)
def so_mV (P m0 : ob_O) (v : Int) (m : ob_O) : Prop := (∀ j : Int, j < 420 → m 0 j = so_sets v (P 3 0).toNat m0 0 j) ∧ (∀ f : Nat, f ≠ 0 → (f < 32 ∨ 40 < f) → m f = m0 f)
section pw
variable {n G N : Nat} {P S o m m0 m' : ob_O} {w d u a1 a2 now far : Int} {v : Nat} {Z Y Z' W : dz_Z} {x : Nat → Int} {ok : Nat → Bool} {dd uu : Nat → Int}
theorem ca_cls (h : iv_Z n Z) {K : dz_Z → Prop} (k : ∀ Z' : dz_Z, (∀ b : Nat, b ≠ 54 → b ≠ 55 → b ≠ 65 → Z' b = Z b) → so_ro (so_ch (fun _ => true) (so_da (Z (iv_p Z)) (Z (iv_s Z))) (so_uv (Z (iv_p Z)) (Z (iv_s Z))) (so_pw (Z (iv_p Z) 3 0).toNat).toNat) (Z' 65) → K Z') : dz_p (jf_O_chooseForAllShowers Z) K := by
  have hr := h.1
  have hp := iv_isP h.1
  have hs := iv_isS h.1
  have hs2 := iv_s2 h.1
  have hP := h.2.1
  have h3 := hP.2.2.1
  have h10 := hP.2.2.2.2.2.2.1
  have hS := h.2.2.2.1.1
  have hpw := so_pw_b (G := (Z (iv_p Z) 3 0).toNat) (by omega)
  have e3 : dz_c (Z (iv_p Z) 3 0) = Z (iv_p Z) 3 0 := dc_ir h3.1 (by omega)
  have e10 : dz_c (Z (iv_p Z) 10 0) = Z (iv_p Z) 10 0 := dc_ir h10.1 (by omega)
  have epw : dz_c (so_pw (Z (iv_p Z) 3 0).toNat) = so_pw (Z (iv_p Z) 3 0).toNat := dc_ir (by omega) (by omega)
  unfold jf_O_chooseForAllShowers
  simp only [show (Z 0 3 0).toNat = iv_s Z from rfl, show (Z 0 2 0).toNat = iv_p Z from rfl]
  refine dp_ck hs (dp_ck hp (dp_bi (dp_eq (st_ncls h3) (dp_bi (dp_eq (st_mcls h) (dp_bi (cI_b hr h3.1 (fun Z1 i1 => ?_))))))))
  rw [epw]
  generalize hN : so_pw (Z (iv_p Z) 3 0).toNat = pw at *
  refine dp_lp (fun k q => ∃ (v : Nat) (Z' : dz_Z), v + k = pw.toNat ∧ q = ((v : Int), Z') ∧ so_cI Z (so_ch (fun _ => true) (so_da (Z (iv_p Z)) (Z (iv_s Z))) (so_uv (Z (iv_p Z)) (Z (iv_s Z))) v) Z') ?_ 5000 pw.toNat (0, Z1) (by omega) ⟨0, Z1, by omega, rfl, i1⟩
  rintro k1 _ ⟨v, Z', hv, rfl, hc⟩
  obtain ⟨z0, z1, zp⟩ := cI_0 hr hc
  have ev : dz_c (v : Int) = v := dc_ir (by omega) (by omega)
  simp only [z0, show (Z 0 3 0).toNat = iv_s Z from rfl, show (Z 0 2 0).toNat = iv_p Z from rfl, zp, ev]
  by_cases hk : v = pw.toNat
  · refine dp_ck (by omega) (dp_ck hs (dp_ck hp (dp_bi (dp_eq (st_cls e3 h3) (dp_sm (k _ (cI_e hr hP hS hc) ?_))))))
    rw [oz_n (by omega), ← hk]
    exact hc.2.2.1
  · refine dp_no (by omega) (dp_ck hs (dp_ck hp (dp_bi (dp_eq (st_cls e3 h3) ?_))))
    obtain ⟨es, hc2⟩ := cI_s (v := v) hr hc
    rw [es]
    have ws : ob_z Z' (iv_s Z) (so_sets v (Z (iv_p Z) 3 0).toNat (Z (iv_s Z))) (iv_s Z) = so_sets v (Z (iv_p Z) 3 0).toNat (Z (iv_s Z)) := oz_s
    generalize hW : ob_z Z' (iv_s Z) (so_sets v (Z (iv_p Z) 3 0).toNat (Z (iv_s Z))) = W at *
    have hSv := st_S (v := v) hP hS (by omega)
    have hdw := da_b hP hS v (by omega)
    have hcb := ch_b (ok := fun _ => true) (dd := so_da (Z (iv_p Z)) (Z (iv_s Z))) (uu := so_uv (Z (iv_p Z)) (Z (iv_s Z))) v (fun i hi => by have := da_b hP hS i (by omega); omega) (fun i hi => uv_b hP i)
    have key : so_ch (fun _ => true) (so_da (Z (iv_p Z)) (Z (iv_s Z))) (so_uv (Z (iv_p Z)) (Z (iv_s Z))) (v + 1) = so_st (so_ch (fun _ => true) (so_da (Z (iv_p Z)) (Z (iv_s Z))) (so_uv (Z (iv_p Z)) (Z (iv_s Z))) v) v (so_da (Z (iv_p Z)) (Z (iv_s Z)) v) (so_uv (Z (iv_p Z)) (Z (iv_s Z)) v) := by
      show (if true = false then _ else so_st (so_ch (fun _ => true) (so_da (Z (iv_p Z)) (Z (iv_s Z))) (so_uv (Z (iv_p Z)) (Z (iv_s Z))) v) v (so_da (Z (iv_p Z)) (Z (iv_s Z)) v) (so_uv (Z (iv_p Z)) (Z (iv_s Z)) v)) = _
      rw [if_neg (by decide)]
    refine dp_lp (fun k q => ∃ (t : Nat) (W' : dz_Z), (t : Int) + k = Z (iv_p Z) 10 0 ∧ q = (so_fs (Z (iv_p Z)) (so_sets v (Z (iv_p Z) 3 0).toNat (Z (iv_s Z))) t, (t : Int), W') ∧ so_cI Z (so_ch (fun _ => true) (so_da (Z (iv_p Z)) (Z (iv_s Z))) (so_uv (Z (iv_p Z)) (Z (iv_s Z))) v) W' ∧ W' (iv_s Z) = so_sets v (Z (iv_p Z) 3 0).toNat (Z (iv_s Z))) ?_ 5000 (Z (iv_p Z) 10 0).toNat (0, 0, W) (by omega) ⟨0, W, by omega, rfl, hc2, ws⟩
    rintro k2 _ ⟨t, W', ht, rfl, hc3, ws'⟩
    obtain ⟨w0, w1, wp⟩ := cI_0 hr hc3
    have et : dz_c (t : Int) = t := dc_ir (by omega) (by omega)
    simp only [w0, show (Z 0 3 0).toNat = iv_s Z from rfl, show (Z 0 2 0).toNat = iv_p Z from rfl, wp, e10, et]
    refine dp_ck hp ?_
    by_cases hk2 : (t : Int) = Z (iv_p Z) 10 0
    · have ef : so_fs (Z (iv_p Z)) (so_sets v (Z (iv_p Z) 3 0).toNat (Z (iv_s Z))) t = so_da (Z (iv_p Z)) (Z (iv_s Z)) v := by
        unfold so_da
        rw [show (Z (iv_p Z) 10 0).toNat = t by omega]
      rw [ef]
      refine dp_ck (by omega) (dp_bi (cI_o hr hP hS hc3 (by omega) (by omega) (fun f => by have := hcb f; omega) (fun Z2 hc4 => dp_sm ⟨k1 - 1, by omega, v + 1, Z2, by omega, rfl, ?_⟩)))
      rw [key]
      exact hc4
    · refine dp_no (by omega) (dp_ck hs (dp_bi (tr_cls (by rw [w0, w1]; exact hr) (by unfold iv_p; rw [w0]) (by unfold iv_s; rw [w0]) wp ws' hP hSv (by omega) et (fun W2 hb hf _ => ?_))))
      have hc4 := cI_t hr hc3 hb
      obtain ⟨v0, v1, vp⟩ := cI_0 hr hc4
      simp only [v0, show (Z 0 3 0).toNat = iv_s Z from rfl, show (Z 0 2 0).toNat = iv_p Z from rfl]
      refine dp_ck hs (dp_bi (dp_eq hf (dp_sm ⟨k2 - 1, by omega, t + 1, W2, by omega, rfl, hc4, ?_⟩)))
      rw [hb _ (by omega) (by omega), ws']
theorem mV_s (h : so_mI P m0 m) (v : Int) : so_mV P m0 v (so_sets v (P 3 0).toNat m) := by
  refine ⟨fun j hj => ?_, fun f a b => by rw [st_f a, h.2 f a b]⟩
  rw [st_i, st_i]
  split
  · rfl
  · exact h.1 j hj (by omega)
theorem mV_I {v : Int} (h : so_mV P m0 v m) : so_mI P m0 m := ⟨fun j hj hi => by rw [h.1 j hj, st_i, if_neg (by omega)], h.2⟩
theorem mI_m (h : so_mI P m0 m) (h0 : m' 0 = m 0) (hf : ∀ f : Nat, f ≠ 0 → (f < 32 ∨ 40 < f) → m' f = m f) : so_mI P m0 m' := ⟨fun j a b => by rw [h0]; exact h.1 j a b, fun f a b => by rw [hf f a b, h.2 f a b]⟩
theorem mI_i : so_mI P m0 m0 := ⟨fun _ _ _ => rfl, fun _ _ _ => rfl⟩
theorem mV_t {v : Int} (h : so_mV P m0 v m) (hj : ∀ j : Int, j < 420 → m' 0 j = m 0 j) (hf : ∀ f : Nat, f ≠ 0 → (f < 32 ∨ 37 < f) → m' f = m f) : so_mV P m0 v m' := ⟨fun j a => by rw [hj j a, h.1 j a], fun f a b => by rw [hf f a (by omega), h.2 f a b]⟩
theorem mV_P {v : Int} (h : so_mV P m0 v m) (rP : mr_P P m0) : mr_P P m := mrP_m rP (fun f a b => h.2 f (by omega) (by omega))
theorem mV_V {v : Int} (hv : 0 ≤ v ∧ v ≤ 2147483647) (hP : so_P P) (hS : so_S P S) (rS : mr_S 0 P S m0) (h : so_mV P m0 v m) : mr_V P (so_sets v (P 3 0).toNat S) m := mv_m (mv_S (st_R (v := v) hP hS rS)) hP (st_S hP hS hv) (fun j a b => h.1 j (by omega))
theorem mV_e (hP : so_P P) (hS : so_S P S) (rS : mr_S 0 P S m0) (h : so_mV P m0 (so_num S (P 3 0).toNat 0) m) : ∀ j : Int, j < 420 → m 0 j = m0 0 j := by
  intro j hj
  have h3 := hP.2.2.1
  rw [h.1 j hj, st_bk (S := S) (o := m0) (by omega) (fun g a b => hS.1 g a (by omega)) (fun g a b => by have := rS.1.1 g a (by omega); rw [Int.zero_add] at this; exact this) (fun f _ => rfl) (fun i _ => rfl)]
/-- what the reference has laid down of the best -/
def so_mb (x : Nat → Int) (a b : Int) : Prop := (x 3 = 0 ∧ a = -4) ∨ (x 3 ≠ 0 ∧ a = x 0 ∧ b = x 1)
theorem lb_ref (hP : so_P P) (hS : so_S P S) (rP : mr_P P m0) (rS : mr_S 0 P S m0) (hw : 0 ≤ w ∧ w < P 10 0) {K : dz_Z → Prop} (k : ∀ m' : ob_O, (∀ j : Int, j < 420 → m' 0 j = m0 0 j) → (∀ f : Nat, f ≠ 0 → (f < 32 ∨ 40 < f) → m' f = m0 f) → m' 38 0 = so_ch (fun _ => true) (so_dw P S w) (so_uv P S) (so_pw (P 3 0).toNat).toNat 0 → m' 39 0 = so_ch (fun _ => true) (so_dw P S w) (so_uv P S) (so_pw (P 3 0).toNat).toNat 1 → m' 40 0 = so_ch (fun _ => true) (so_dw P S w) (so_uv P S) (so_pw (P 3 0).toNat).toNat 2 → K (ob_z Y 114 m')) : dz_p (jf_M_layBest w (ob_z Y 114 m0)) K := by
  have h3 := hP.2.2.1
  have hpw := so_pw_b (G := (P 3 0).toNat) (by omega)
  have epw : dz_c (so_pw (P 3 0).toNat) = so_pw (P 3 0).toNat := dc_ir (by omega) (by omega)
  have hin := st_inv (S := S) (G := (P 3 0).toNat) (by omega) (fun g a b => hS.1 g a (by omega))
  unfold jf_M_layBest
  refine dp_bi (dp_eq (st_nref (S := S) rP.2.2.1 h3 (fun g c d => by have := rS.1.1 g c d; rw [Int.zero_add] at this; exact this)) (dp_le (dp_le ?_)))
  simp only [oz_uz]
  refine dp_lp (fun k q => ∃ (v : Nat) (m : ob_O), v + k = (so_pw (P 3 0).toNat).toNat ∧ q = ((v : Int), ob_z Y 114 m) ∧ so_mI P m0 m ∧ so_mb (so_ch (fun _ => true) (so_dw P S w) (so_uv P S) v) (m 38 0) (m 39 0) ∧ (so_ch (fun _ => true) (so_dw P S w) (so_uv P S) v 3 ≠ 0 → m 40 0 = so_ch (fun _ => true) (so_dw P S w) (so_uv P S) v 2)) ?_ 5000 (so_pw (P 3 0).toNat).toNat (0, ob_z Y 114 (ob_u (ob_u m0 38 0 (-4)) 39 0 0)) (by omega) ⟨0, _, by omega, rfl, mI_m mI_i (by rw [ou_ff (by decide), ou_ff (by decide)]) (fun f a b => by rw [ou_ff (by omega), ou_ff (by omega)]), Or.inl ⟨rfl, by rw [ou_f (by decide), ou_s]⟩, fun q => absurd rfl q⟩
  rintro k1 _ ⟨v, m, hv, rfl, hI, hb, h40⟩
  have ev : dz_c (v : Int) = v := dc_ir (by omega) (by omega)
  have e3 := ch_3 (dd := so_dw P S w) (uu := so_uv P S) v
  dsimp only
  refine dp_bi (dp_eq (st_mref (m := m) (P := P) (by rw [hI.2 2 (by decide) (by decide)]; exact rP.2.2.1) h3 oz_s) ?_)
  rw [epw, ev]
  have m2 : m 2 0 = P 3 0 := by rw [hI.2 2 (by decide) (by decide)]; exact rP.2.2.1
  by_cases hk : v = (so_pw (P 3 0).toNat).toNat
  · have hV := mV_s hI (so_num S (P 3 0).toNat 0)
    refine dp_ck (by omega) (dp_bi (dp_eq (st_ref m2 h3) (dp_sm (k _ (mV_e hP hS rS hV) hV.2 ?_ ?_ ?_))))
    · rw [st_f (by decide), ← hk]
      rcases hb with b | b
      · exact absurd b.1 (by omega)
      · exact b.2.1
    · rw [st_f (by decide), ← hk]
      rcases hb with b | b
      · exact absurd b.1 (by omega)
      · exact b.2.2
    · rw [st_f (by decide), ← hk]
      exact h40 (by omega)
  · have hV := mV_s hI v
    refine dp_no (by omega) (dp_bi (dp_eq (st_ref m2 h3) (dp_bi (fr_ref hP (st_S (v := v) hP hS (by omega)) (mV_P hV rP) (mV_V (by omega) hP hS rS hV) hw (fun m' g1 g2 => ?_)))))
    have hV2 := mV_t hV g1 g2
    have hI2 := mV_I hV2
    have hdw := dw_b hP hS hw v (by omega)
    have hcb := ch_b (ok := fun _ => true) (dd := so_dw P S w) (uu := so_uv P S) v (fun i hi => by have := dw_b hP hS hw i (by omega); omega) (fun i hi => uv_b hP i)
    have key : so_ch (fun _ => true) (so_dw P S w) (so_uv P S) (v + 1) = so_st (so_ch (fun _ => true) (so_dw P S w) (so_uv P S) v) v (so_dw P S w v) (so_uv P S v) := by
      show (if true = false then _ else so_st (so_ch (fun _ => true) (so_dw P S w) (so_uv P S) v) v (so_dw P S w v) (so_uv P S v)) = _
      rw [if_neg (by decide)]
    have q38 : m' 38 0 = m 38 0 := by rw [g2 38 (by decide) (by decide), st_f (by decide)]
    have q39 : m' 39 0 = m 39 0 := by rw [g2 39 (by decide) (by decide), st_f (by decide)]
    have q40 : m' 40 0 = m 40 0 := by rw [g2 40 (by decide) (by decide), st_f (by decide)]
    show dz_p (Option.bind (α := Int) (if dz_c (ob_z Y 114 m' 114 38 0) = (-4) then (some 1) else (if dz_c (ob_z Y 114 m' 114 39 0) ≤ dz_c (so_dw P S w v) then (if dz_c (so_dw P S w v) ≠ dz_c (ob_z Y 114 m' 114 39 0) then (some (ob_z Y 114 m' 114 40 0)) else (some ((ob_z Y 114 m' 114 40 0) + 1))) else (some 1))) (fun (q14 : Int) => dz_a (dz_u (ob_z Y 114 m') 114 40 0 q14) fun Z15 => if dz_c (Z15 114 38 0) = (-4) then (dz_a (dz_u Z15 114 38 0 (v : Int)) fun Z17 => dz_a (dz_u Z17 114 39 0 (so_dw P S w v)) fun Z18 => some (Sum.inl ((v : Int) + 1, Z18))) else (if dz_c (Z15 114 39 0) ≤ dz_c (so_dw P S w v) then (some (Sum.inl ((v : Int) + 1, Z15))) else (dz_a (dz_u Z15 114 38 0 (v : Int)) fun Z20 => dz_a (dz_u Z20 114 39 0 (so_dw P S w v)) fun Z21 => some (Sum.inl ((v : Int) + 1, Z21)))))) _
    simp only [dz_a, oz_uz, oz_s, ou_f (show (38 : Nat) ≠ 40 by decide), ou_f (show (39 : Nat) ≠ 40 by decide), q38, q39, q40]
    generalize so_dw P S w v = d at *
    generalize so_uv P S v = u at *
    generalize so_ch (fun _ => true) (so_dw P S w) (so_uv P S) v = x at *
    have ed : dz_c d = d := dc_ir (by omega) (by omega)
    rw [ed]
    have b0 := hcb 0
    have b1 := hcb 1
    have fi : ∀ q : Int, so_mI P m0 (ob_u (ob_u (ob_u m' 40 0 q) 38 0 v) 39 0 d) := fun q => mI_m hI2 (by rw [ou_ff (by decide), ou_ff (by decide), ou_ff (by decide)]) (fun f a b => by rw [ou_ff (by omega), ou_ff (by omega), ou_ff (by omega)])
    have fi2 : ∀ q : Int, so_mI P m0 (ob_u m' 40 0 q) := fun q => mI_m hI2 (by rw [ou_ff (by decide)]) (fun f a b => by rw [ou_ff (by omega)])
    have u38 : ∀ q : Int, ob_u (ob_u (ob_u m' 40 0 q) 38 0 v) 39 0 d 38 0 = v := fun q => by rw [ou_f (by decide), ou_s]
    have u39 : ∀ q : Int, ob_u (ob_u (ob_u m' 40 0 q) 38 0 v) 39 0 d 39 0 = d := fun q => ou_s
    have u40 : ∀ q : Int, ob_u (ob_u (ob_u m' 40 0 q) 38 0 v) 39 0 d 40 0 = q := fun q => by rw [ou_f (by decide), ou_f (by decide), ou_s]
    have y38 : ∀ q : Int, ob_u m' 40 0 q 38 0 = m 38 0 := fun q => by rw [ou_f (by decide), q38]
    have y39 : ∀ q : Int, ob_u m' 40 0 q 39 0 = m 39 0 := fun q => by rw [ou_f (by decide), q39]
    rcases hb with b | b
    · rw [b.2]
      have s : ∀ f : Nat, so_st x v d u f = if f = 3 then x 3 + 1 else (if f = 0 then (v : Int) else if f = 1 then d else if f = 2 then 1 else if f = 4 then (v : Int) else u) := fun f => by
        unfold so_st
        rw [if_pos (Or.inl b.1)]
      refine dp_bi (dp_ck (by decide) (dp_sm (dp_ck (by decide) (dp_sm ⟨k1 - 1, by omega, v + 1, _, by omega, rfl, fi 1, Or.inr ⟨?_, ?_, ?_⟩, fun _ => ?_⟩))))
      · rw [key, s, if_pos rfl]; omega
      · rw [u38, key, s]; rfl
      · rw [u39, key, s]; rfl
      · rw [u40, key, s]; rfl
    · have h40' := h40 b.1
      have e0 : dz_c (x 0) = x 0 := dc_ir (by omega) (by omega)
      have e1 : dz_c (x 1) = x 1 := dc_ir (by omega) (by omega)
      rw [b.2.1, b.2.2, e0, e1, h40']
      by_cases c : d < x 1
      · have s : ∀ f : Nat, so_st x v d u f = if f = 3 then x 3 + 1 else (if f = 0 then (v : Int) else if f = 1 then d else if f = 2 then 1 else if f = 4 then (v : Int) else u) := fun f => by
          unfold so_st
          rw [if_pos (Or.inr c)]
        refine dp_bi (dp_no (by omega) (dp_no (by omega) (dp_sm (dp_no (by omega) (dp_no (by omega) (dp_sm ⟨k1 - 1, by omega, v + 1, _, by omega, rfl, fi 1, Or.inr ⟨?_, ?_, ?_⟩, fun _ => ?_⟩))))))
        · rw [key, s, if_pos rfl]; omega
        · rw [u38, key, s]; rfl
        · rw [u39, key, s]; rfl
        · rw [u40, key, s]; rfl
      · have s : ∀ f : Nat, so_st x v d u f = if f = 3 then x 3 + 1 else if d = x 1 then (if f = 2 then x 2 + 1 else if u < x 5 then (if f = 4 then (v : Int) else if f = 5 then u else x f) else x f) else x f := fun f => by
          unfold so_st
          rw [if_neg (show ¬(x 3 = 0 ∨ d < x 1) by omega)]
        have s0 : so_st x v d u 0 = x 0 := by rw [s]; simp
        have s1 : so_st x v d u 1 = x 1 := by rw [s]; simp
        refine dp_bi (dp_no (by omega) (dp_ck (by omega) (dp_br (fun c2 => dp_sm (dp_no (by omega) (dp_ck (by omega) (dp_sm ⟨k1 - 1, by omega, v + 1, _, by omega, rfl, fi2 _, Or.inr ⟨?_, ?_, ?_⟩, fun _ => ?_⟩)))) (fun c2 => dp_sm (dp_no (by omega) (dp_ck (by omega) (dp_sm ⟨k1 - 1, by omega, v + 1, _, by omega, rfl, fi2 _, Or.inr ⟨?_, ?_, ?_⟩, fun _ => ?_⟩)))))))
        · rw [key, s, if_pos rfl]; omega
        · rw [y38, key, s0, b.2.1]
        · rw [y39, key, s1, b.2.2]
        · rw [ou_s, key, s, if_neg (by decide), if_neg c2]
        · rw [key, s, if_pos rfl]; omega
        · rw [y38, key, s0, b.2.1]
        · rw [y39, key, s1, b.2.2]
        · rw [ou_s, key, s, if_neg (by decide), if_pos (by omega), if_pos rfl]
end pw
end mg_58pw
section mg_59px
/-! best, fewest, all, quiet: both sides -/
section px
variable {n G N : Nat} {P S o m m0 m' : ob_O} {w d u a1 a2 now far : Int} {v : Nat} {Z Y Z' W : dz_Z} {x : Nat → Int} {ok : Nat → Bool} {dd uu : Nat → Int}
theorem iv_t2 (h : iv_Z n Z) (hb : ∀ b : Nat, b ≠ 54 → b ≠ 55 → b ≠ 65 → W b = Z b) (hj : ∀ j : Int, j < 420 → m' 0 j = Z 114 0 j) (hf : ∀ f : Nat, f ≠ 0 → (f < 32 ∨ 40 < f) → m' f = Z 114 f) : iv_Z (n + 1) (ob_z W 114 m') := by
  have hs2 := iv_s2 h.1
  refine iv_fin h (fun b _ h54 h55 h65 h114 _ => by rw [oz_n h114, hb b h54 h55 h65]) ?_ (fun f a b => by rw [oz_s]; exact hf f a b) (fun j a b => by rw [oz_s]; exact hj j b)
  rw [oz_s, oz_n (show iv_s Z ≠ 114 by omega), oz_n (show (46 : Nat) ≠ 114 by decide), hb _ (by omega) (by omega) (by omega), hb 46 (by decide) (by decide) (by decide)]
  exact iv_In (iv_Im h.2.2.2.1 h.2.1 (fun j a b => hj j (by omega))) (by omega)
theorem ey_t2 (hb : ∀ b : Nat, b ≠ 54 → b ≠ 55 → b ≠ 65 → W b = Z b) : W = ob_z W 114 (Z 114) := by
  rw [← hb 114 (by decide) (by decide) (by decide)]
  exact oz_i.symm
theorem op_best (h : iv_Z n Z) (c1 : dz_c a1 = a1) (c2 : dz_c a2 = a2) : dz_p (jf_O_best a1 a2 Z) (fun q => dz_p (jf_M_best a1 a2 q.2) (fun q' => iv_Z (n + 1) q'.2 ∧ dz_c q.1 = dz_c q'.1)) := by
  have hP := h.2.1
  have h3 := hP.2.2.1
  have rP := h.2.2.1
  obtain ⟨hS, rS, hB, rF⟩ := h.2.2.2.1
  have hpw := so_pw_b (G := (Z (iv_p Z) 3 0).toNat) (by omega)
  unfold jf_O_best
  refine dp_bi (dp_eq (oi_wO h c1) ?_)
  simp only [decide_eq_false_iff_not, c2]
  refine dp_br (fun a => dp_sm ?_) (fun a => ?_)
  · dsimp only
    unfold jf_M_best
    refine dp_bi (dp_eq (oi_wM h.2.1 rP rfl c1) ?_)
    simp only [decide_eq_false_iff_not]
    exact dp_ck a (dp_sm ⟨iv_nx h, rfl⟩)
  have ha : 0 ≤ a1 ∧ a1 < Z (iv_p Z) 10 0 := by omega
  have bad : ¬(0 ≤ a2 ∧ a2 ≤ 2) → dz_p (jf_M_best a1 a2 Z) (fun q' => iv_Z (n + 1) q'.2 ∧ dz_c (-1) = dz_c q'.1) := by
    intro hv
    unfold jf_M_best
    refine dp_bi (dp_eq (oi_wM h.2.1 rP rfl c1) ?_)
    simp only [decide_eq_false_iff_not, c2]
    exact dp_no a (dp_no hv (dp_sm ⟨iv_nx h, rfl⟩))
  refine dp_br (fun b => dp_sm (bad (by omega))) (fun b => dp_br (fun c => ?_) (fun c => dp_sm (bad (by omega))))
  refine dp_bi (ch_cls h ha c1 (by decide) (fun W hb hro => ?_))
  rw [ov_t] at hro
  obtain ⟨r0, r1, r2, r4, r5⟩ := hro.2 (by rw [ch_3]; omega)
  have mod : ∀ y : Int, y = (if a2 = 0 then W 65 0 0 else if a2 = 1 then W 65 1 0 else W 65 2 0) → dz_p (jf_M_best a1 a2 W) (fun q' => iv_Z (n + 1) q'.2 ∧ dz_c y = dz_c q'.1) := by
    intro y hy
    rw [r0, r1, r2] at hy
    rw [ey_t2 hb]
    unfold jf_M_best
    refine dp_bi (dp_eq (oi_wM (m := Z 114) h.2.1 rP oz_s c1) ?_)
    simp only [decide_eq_false_iff_not, c2]
    refine dp_no a (dp_ck (by omega) (dp_bi (lb_ref hP hS rP rS ha (fun m' hj hf h38 h39 h40 => ?_))))
    have fin := iv_t2 h hb hj hf
    rw [oz_s, h38, h39, h40]
    refine dp_br (fun e => dp_br (fun f => dp_sm ⟨fin, ?_⟩) (fun f => dp_sm ⟨fin, ?_⟩)) (fun e => dp_sm ⟨fin, ?_⟩)
    · rw [hy, if_neg e, if_neg f]
    · rw [hy, if_neg e, if_pos (by omega)]
    · rw [hy, if_pos (by omega)]
  refine dp_br (fun e => dp_sm (mod _ (by rw [if_pos e]))) (fun e => dp_br (fun f => dp_sm (mod _ (by rw [if_neg e, if_pos f]))) (fun f => dp_sm (mod _ (by rw [if_neg e, if_neg f]))))
theorem fe_b (hu : ∀ i, 0 ≤ uu i ∧ uu i ≤ 5) : ∀ v : Nat, (-4 ≤ (so_fe far dd uu v).1 ∧ (so_fe far dd uu v).1 ≤ v) ∧ 0 ≤ (so_fe far dd uu v).2 ∧ (so_fe far dd uu v).2 ≤ 5
  | 0 => by show (-4 ≤ (-4 : Int) ∧ (-4 : Int) ≤ (0 : Nat)) ∧ (0 : Int) ≤ 0 ∧ (0 : Int) ≤ 5; omega
  | v + 1 => by
    have ih := fe_b hu v
    have := hu v
    have kf : so_fe far dd uu (v + 1) = if (so_fe far dd uu v).1 = -4 then (if dd v ≠ far then so_fe far dd uu v else ((v : Int), uu v)) else if (so_fe far dd uu v).2 ≤ uu v then so_fe far dd uu v else if dd v ≠ far then so_fe far dd uu v else ((v : Int), uu v) := rfl
    rw [kf]
    have t : (-4 ≤ ((v : Int), uu v).1 ∧ ((v : Int), uu v).1 ≤ (v + 1 : Nat)) ∧ 0 ≤ ((v : Int), uu v).2 ∧ ((v : Int), uu v).2 ≤ 5 := by dsimp only; omega
    repeat' split
    all_goals first | exact t | omega
theorem op_fewest (h : iv_Z n Z) (c1 : dz_c a1 = a1) (c2 : dz_c a2 = a2) : dz_p (jf_O_fewest a1 a2 Z) (fun q => dz_p (jf_M_fewest a1 a2 q.2) (fun q' => iv_Z (n + 1) q'.2 ∧ dz_c q.1 = dz_c q'.1)) := by
  have hP := h.2.1
  have h3 := hP.2.2.1
  have rP := h.2.2.1
  obtain ⟨hS, rS, hB, rF⟩ := h.2.2.2.1
  have hpw := so_pw_b (G := (Z (iv_p Z) 3 0).toNat) (by omega)
  have epw : dz_c (so_pw (Z (iv_p Z) 3 0).toNat) = so_pw (Z (iv_p Z) 3 0).toNat := dc_ir (by omega) (by omega)
  have hin := st_inv (S := Z (iv_s Z)) (G := (Z (iv_p Z) 3 0).toNat) (by omega) (fun g a b => hS.1 g a (by omega))
  unfold jf_O_fewest
  refine dp_bi (dp_eq (oi_wO h c1) ?_)
  simp only [decide_eq_false_iff_not, c2]
  refine dp_br (fun a => dp_sm ?_) (fun a => ?_)
  · dsimp only
    unfold jf_M_fewest
    refine dp_bi (dp_eq (oi_wM h.2.1 rP rfl c1) ?_)
    simp only [decide_eq_false_iff_not]
    exact dp_ck a (dp_sm ⟨iv_nx h, rfl⟩)
  have ha : 0 ≤ a1 ∧ a1 < Z (iv_p Z) 10 0 := by omega
  have bad : ¬(0 ≤ a2 ∧ a2 ≤ 1) → dz_p (jf_M_fewest a1 a2 Z) (fun q' => iv_Z (n + 1) q'.2 ∧ dz_c (-1) = dz_c q'.1) := by
    intro hv
    unfold jf_M_fewest
    refine dp_bi (dp_eq (oi_wM h.2.1 rP rfl c1) ?_)
    simp only [decide_eq_false_iff_not, c2]
    exact dp_no a (dp_no hv (dp_sm ⟨iv_nx h, rfl⟩))
  refine dp_br (fun b => dp_sm (bad (by omega))) (fun b => dp_br (fun c => ?_) (fun c => dp_sm (bad (by omega))))
  refine dp_bi (ch_cls h ha c1 (by decide) (fun W hb hro => ?_))
  rw [ov_t] at hro
  obtain ⟨r0, r1, r2, r4, r5⟩ := hro.2 (by rw [ch_3]; omega)
  have mod : ∀ y : Int, y = (if a2 ≠ 0 then W 65 5 0 else W 65 4 0) → dz_p (jf_M_fewest a1 a2 W) (fun q' => iv_Z (n + 1) q'.2 ∧ dz_c y = dz_c q'.1) := by
    intro y hy
    rw [r4, r5] at hy
    rw [ey_t2 hb]
    unfold jf_M_fewest
    refine dp_bi (dp_eq (oi_wM (m := Z 114) h.2.1 rP oz_s c1) ?_)
    simp only [decide_eq_false_iff_not, c2]
    refine dp_no a (dp_ck (by omega) (dp_bi (lb_ref hP hS rP rS ha (fun m1 hj hf h38 h39 h40 => ?_))))
    refine dp_bi (dp_eq (st_nref (S := Z (iv_s Z)) (P := Z (iv_p Z)) (by rw [hf 2 (by decide) (by decide)]; exact rP.2.2.1) h3 (fun g c d => by rw [hj g (by omega)]; have := rS.1.1 g c d; rw [Int.zero_add] at this; exact this)) ?_)
    have hI1 : so_mI (Z (iv_p Z)) (Z 114) m1 := ⟨fun j a _ => hj j a, hf⟩
    have hfe := fe_ch (N := (so_pw (Z (iv_p Z) 3 0).toNat).toNat) (dd := so_dw (Z (iv_p Z)) (Z (iv_s Z)) a1) (uu := so_uv (Z (iv_p Z)) (Z (iv_s Z))) (by omega) (fun i => (uv_b hP i).1) (so_pw (Z (iv_p Z) 3 0).toNat).toNat (Nat.le_refl _)
    rw [if_pos ⟨by omega, rfl⟩] at hfe
    have fb0 := fun far v => fe_b (far := far) (dd := so_dw (Z (iv_p Z)) (Z (iv_s Z)) a1) (uu := so_uv (Z (iv_p Z)) (Z (iv_s Z))) (fun i => uv_b hP i) v
    have hcb := ch_b (ok := fun _ => true) (dd := so_dw (Z (iv_p Z)) (Z (iv_s Z)) a1) (uu := so_uv (Z (iv_p Z)) (Z (iv_s Z))) (so_pw (Z (iv_p Z) 3 0).toNat).toNat (fun i hi => by have := dw_b hP hS ha i (by omega); omega) (fun i hi => uv_b hP i) 1
    generalize so_ch (fun _ => true) (so_dw (Z (iv_p Z)) (Z (iv_s Z)) a1) (so_uv (Z (iv_p Z)) (Z (iv_s Z))) (so_pw (Z (iv_p Z) 3 0).toNat).toNat = X at *
    refine dp_lp (fun k q => ∃ (v : Nat) (m : ob_O), v + k = (so_pw (Z (iv_p Z) 3 0).toNat).toNat ∧ q = ((so_fe (X 1) (so_dw (Z (iv_p Z)) (Z (iv_s Z)) a1) (so_uv (Z (iv_p Z)) (Z (iv_s Z))) v).1, (so_fe (X 1) (so_dw (Z (iv_p Z)) (Z (iv_s Z)) a1) (so_uv (Z (iv_p Z)) (Z (iv_s Z))) v).2, (v : Int), ob_z W 114 m) ∧ so_mI (Z (iv_p Z)) (Z 114) m ∧ m 39 0 = X 1) ?_ 5000 (so_pw (Z (iv_p Z) 3 0).toNat).toNat (-4, 0, 0, ob_z W 114 m1) (by omega) ⟨0, m1, by omega, rfl, hI1, h39⟩
    rintro k1 _ ⟨v, m, hv, rfl, hI, m39⟩
    have ev : dz_c (v : Int) = v := dc_ir (by omega) (by omega)
    have m2 : m 2 0 = Z (iv_p Z) 3 0 := by rw [hI.2 2 (by decide) (by decide)]; exact rP.2.2.1
    dsimp only
    refine dp_bi (dp_eq (st_mref (m := m) (P := Z (iv_p Z)) m2 h3 oz_s) ?_)
    rw [epw, ev]
    by_cases hk : v = (so_pw (Z (iv_p Z) 3 0).toNat).toNat
    · have hV := mV_s hI (so_num (Z (iv_s Z)) (Z (iv_p Z) 3 0).toNat 0)
      have fin := iv_t2 h hb (mV_e hP hS rS hV) hV.2
      refine dp_ck (by omega) (dp_bi (dp_eq (st_ref m2 h3) (dp_br (fun e => dp_sm ⟨fin, ?_⟩) (fun e => dp_sm ⟨fin, ?_⟩))))
      · rw [hy, if_pos e]
        show _ = dz_c (so_fe (X 1) (so_dw (Z (iv_p Z)) (Z (iv_s Z)) a1) (so_uv (Z (iv_p Z)) (Z (iv_s Z))) v).2
        rw [hk, hfe]
      · rw [hy, if_neg e]
        show _ = dz_c (so_fe (X 1) (so_dw (Z (iv_p Z)) (Z (iv_s Z)) a1) (so_uv (Z (iv_p Z)) (Z (iv_s Z))) v).1
        rw [hk, hfe]
    · have hV := mV_s hI v
      have fb := fb0 (X 1) v
      have hub := uv_b (S := Z (iv_s Z)) hP v
      have hdw := dw_b hP hS ha v (by omega)
      have e1 : dz_c (so_fe (X 1) (so_dw (Z (iv_p Z)) (Z (iv_s Z)) a1) (so_uv (Z (iv_p Z)) (Z (iv_s Z))) v).1 = (so_fe (X 1) (so_dw (Z (iv_p Z)) (Z (iv_s Z)) a1) (so_uv (Z (iv_p Z)) (Z (iv_s Z))) v).1 := dz_ci (by omega) (by omega)
      have e2 : dz_c (so_fe (X 1) (so_dw (Z (iv_p Z)) (Z (iv_s Z)) a1) (so_uv (Z (iv_p Z)) (Z (iv_s Z))) v).2 = (so_fe (X 1) (so_dw (Z (iv_p Z)) (Z (iv_s Z)) a1) (so_uv (Z (iv_p Z)) (Z (iv_s Z))) v).2 := dz_ci (by omega) (by omega)
      have eu : dz_c (so_uv (Z (iv_p Z)) (Z (iv_s Z)) v) = so_uv (Z (iv_p Z)) (Z (iv_s Z)) v := dz_ci (by omega) (by omega)
      have ed : dz_c (so_dw (Z (iv_p Z)) (Z (iv_s Z)) a1 v) = so_dw (Z (iv_p Z)) (Z (iv_s Z)) a1 v := dz_ci (by omega) (by omega)
      have eX : dz_c (X 1) = X 1 := dz_ci (by omega) (by omega)
      have kf : so_fe (X 1) (so_dw (Z (iv_p Z)) (Z (iv_s Z)) a1) (so_uv (Z (iv_p Z)) (Z (iv_s Z))) (v + 1) = if (so_fe (X 1) (so_dw (Z (iv_p Z)) (Z (iv_s Z)) a1) (so_uv (Z (iv_p Z)) (Z (iv_s Z))) v).1 = -4 then (if so_dw (Z (iv_p Z)) (Z (iv_s Z)) a1 v ≠ X 1 then so_fe (X 1) (so_dw (Z (iv_p Z)) (Z (iv_s Z)) a1) (so_uv (Z (iv_p Z)) (Z (iv_s Z))) v else ((v : Int), so_uv (Z (iv_p Z)) (Z (iv_s Z)) v)) else if (so_fe (X 1) (so_dw (Z (iv_p Z)) (Z (iv_s Z)) a1) (so_uv (Z (iv_p Z)) (Z (iv_s Z))) v).2 ≤ so_uv (Z (iv_p Z)) (Z (iv_s Z)) v then so_fe (X 1) (so_dw (Z (iv_p Z)) (Z (iv_s Z)) a1) (so_uv (Z (iv_p Z)) (Z (iv_s Z))) v else if so_dw (Z (iv_p Z)) (Z (iv_s Z)) a1 v ≠ X 1 then so_fe (X 1) (so_dw (Z (iv_p Z)) (Z (iv_s Z)) a1) (so_uv (Z (iv_p Z)) (Z (iv_s Z))) v else ((v : Int), so_uv (Z (iv_p Z)) (Z (iv_s Z)) v) := rfl
      refine dp_no (by omega) (dp_bi (dp_eq (st_ref m2 h3) (dp_bi (dp_eq (un_ref (G := (Z (iv_p Z) 3 0).toNat) (by rw [st_f (by decide), m2]; omega) (by omega) (by omega) (by omega)) ?_))))
      have try1 : ∀ Q : Int × dz_Z → Prop, (∀ m' : ob_O, so_mI (Z (iv_p Z)) (Z 114) m' → m' 39 0 = X 1 → Q (so_dw (Z (iv_p Z)) (Z (iv_s Z)) a1 v, ob_z W 114 m')) → dz_p (jf_M_farOf a1 (ob_z W 114 (so_sets v (Z (iv_p Z) 3 0).toNat m))) Q := fun Q hQ => fr_ref hP (st_S (v := v) hP hS (by omega)) (mV_P hV rP) (mV_V (by omega) hP hS rS hV) ha (fun m' g1 g2 => hQ m' (mV_I (mV_t hV g1 g2)) (by rw [g2 39 (by decide) (by decide), st_f (by decide), m39]))
      show dz_p (if dz_c (so_fe (X 1) (so_dw (Z (iv_p Z)) (Z (iv_s Z)) a1) (so_uv (Z (iv_p Z)) (Z (iv_s Z))) v).1 = -4 then _ else if dz_c (so_fe (X 1) (so_dw (Z (iv_p Z)) (Z (iv_s Z)) a1) (so_uv (Z (iv_p Z)) (Z (iv_s Z))) v).2 ≤ dz_c (so_uv (Z (iv_p Z)) (Z (iv_s Z)) v) then _ else _) _
      rw [e1, e2, eu]
      refine dp_br (fun e => dp_bi (try1 _ (fun m' i1 i2 => ?_))) (fun e => dp_br (fun f => dp_sm ⟨k1 - 1, by omega, v + 1, _, by omega, by rw [kf, if_neg e, if_pos f]; rfl, mV_I hV, by rw [st_f (by decide), m39]⟩) (fun f => dp_bi (try1 _ (fun m' i1 i2 => ?_))))
      · dsimp only
        simp only [oz_s, i2, ed, eX]
        refine dp_br (fun g => dp_sm ⟨k1 - 1, by omega, v + 1, m', by omega, by rw [kf, if_pos e, if_pos g]; rfl, i1, i2⟩) (fun g => dp_sm ⟨k1 - 1, by omega, v + 1, m', by omega, by rw [kf, if_pos e, if_neg g]; rfl, i1, i2⟩)
      · dsimp only
        simp only [oz_s, i2, ed, eX]
        refine dp_br (fun g => dp_sm ⟨k1 - 1, by omega, v + 1, m', by omega, by rw [kf, if_neg e, if_neg f, if_pos g]; rfl, i1, i2⟩) (fun g => dp_sm ⟨k1 - 1, by omega, v + 1, m', by omega, by rw [kf, if_neg e, if_neg f, if_neg g]; rfl, i1, i2⟩)
  refine dp_br (fun e => dp_sm (mod _ (by rw [if_pos e]))) (fun e => dp_sm (mod _ (by rw [if_neg e])))
theorem op_all (h : iv_Z n Z) (c1 : dz_c a1 = a1) : dz_p (jf_O_all a1 Z) (fun q => dz_p (jf_M_all a1 q.2) (fun q' => iv_Z (n + 1) q'.2 ∧ dz_c q.1 = dz_c q'.1)) := by
  have hp := iv_isP h.1
  have hP := h.2.1
  have h3 := hP.2.2.1
  have h10 := hP.2.2.2.2.2.2.1
  have rP := h.2.2.1
  obtain ⟨hS, rS, hB, rF⟩ := h.2.2.2.1
  have hpw := so_pw_b (G := (Z (iv_p Z) 3 0).toNat) (by omega)
  have epw : dz_c (so_pw (Z (iv_p Z) 3 0).toNat) = so_pw (Z (iv_p Z) 3 0).toNat := dc_ir (by omega) (by omega)
  have e10 : dz_c (Z (iv_p Z) 10 0) = Z (iv_p Z) 10 0 := dc_ir h10.1 (by omega)
  have m4 : Z 114 4 0 = Z (iv_p Z) 10 0 := rP.2.2.2.2.2.2.1
  have hin := st_inv (S := Z (iv_s Z)) (G := (Z (iv_p Z) 3 0).toNat) (by omega) (fun g a b => hS.1 g a (by omega))
  unfold jf_O_all
  simp only [c1, show (Z 0 2 0).toNat = iv_p Z from rfl, e10]
  have bad : ¬(0 ≤ a1 ∧ a1 ≤ 1) → dz_p (jf_M_all a1 Z) (fun q' => iv_Z (n + 1) q'.2 ∧ dz_c (-1) = dz_c q'.1) := by
    intro hv
    unfold jf_M_all
    rw [c1]
    exact dp_no hv (dp_sm ⟨iv_nx h, rfl⟩)
  refine dp_br (fun b => dp_sm (bad (by omega))) (fun b => dp_br (fun c => dp_ck hp (dp_br (fun e => ?_) (fun e => dp_sm ?_))) (fun c => dp_sm (bad (by omega))))
  rotate_left
  · dsimp only
    unfold jf_M_all
    rw [c1, m4, e10]
    exact dp_ck (by omega) (dp_no e (dp_sm ⟨iv_nx h, rfl⟩))
  refine dp_bi (ca_cls h (fun W hb hro => ?_))
  obtain ⟨r0, r1, r2, r4, r5⟩ := hro.2 (by rw [ch_3]; omega)
  have mod : ∀ y : Int, y = (if a1 ≠ 0 then W 65 1 0 else W 65 0 0) → dz_p (jf_M_all a1 W) (fun q' => iv_Z (n + 1) q'.2 ∧ dz_c y = dz_c q'.1) := by
    intro y hy
    rw [r0, r1] at hy
    rw [ey_t2 hb]
    unfold jf_M_all
    simp only [c1, oz_s, m4, e10]
    refine dp_ck (by omega) (dp_ck e (dp_bi (dp_eq (st_nref (S := Z (iv_s Z)) (P := Z (iv_p Z)) rP.2.2.1 h3 (fun g c d => by have := rS.1.1 g c d; rw [Int.zero_add] at this; exact this)) ?_)))
    refine dp_lp (fun k q => ∃ (v : Nat) (m : ob_O) (a b : Int), v + k = (so_pw (Z (iv_p Z) 3 0).toNat).toNat ∧ q = (a, b, (v : Int), ob_z W 114 m) ∧ so_mI (Z (iv_p Z)) (Z 114) m ∧ so_mb (so_ch (fun _ => true) (so_da (Z (iv_p Z)) (Z (iv_s Z))) (so_uv (Z (iv_p Z)) (Z (iv_s Z))) v) a b) ?_ 5000 (so_pw (Z (iv_p Z) 3 0).toNat).toNat (-4, 0, 0, ob_z W 114 (Z 114)) (by omega) ⟨0, Z 114, -4, 0, by omega, rfl, mI_i, Or.inl ⟨rfl, rfl⟩⟩
    rintro k1 _ ⟨v, m, a, b, hv, rfl, hI, hmb⟩
    have ev : dz_c (v : Int) = v := dc_ir (by omega) (by omega)
    have m2 : m 2 0 = Z (iv_p Z) 3 0 := by rw [hI.2 2 (by decide) (by decide)]; exact rP.2.2.1
    have e3 := ch_3 (dd := so_da (Z (iv_p Z)) (Z (iv_s Z))) (uu := so_uv (Z (iv_p Z)) (Z (iv_s Z))) v
    dsimp only
    refine dp_bi (dp_eq (st_mref (m := m) (P := Z (iv_p Z)) m2 h3 oz_s) ?_)
    rw [epw, ev]
    by_cases hk : v = (so_pw (Z (iv_p Z) 3 0).toNat).toNat
    · have hV := mV_s hI (so_num (Z (iv_s Z)) (Z (iv_p Z) 3 0).toNat 0)
      have fin := iv_t2 h hb (mV_e hP hS rS hV) hV.2
      rcases hmb with q | q
      · exact absurd q.1 (by omega)
      refine dp_ck (by omega) (dp_bi (dp_eq (st_ref m2 h3) (dp_br (fun e => dp_sm ⟨fin, ?_⟩) (fun e => dp_sm ⟨fin, ?_⟩))))
      · rw [hy, if_pos e, ← hk, ← q.2.2]
      · rw [hy, if_neg e, ← hk, ← q.2.1]
    · have hV := mV_s hI v
      have hdw := da_b hP hS v (by omega)
      have hSv := st_S (v := v) hP hS (by omega)
      have hcb := ch_b (ok := fun _ => true) (dd := so_da (Z (iv_p Z)) (Z (iv_s Z))) (uu := so_uv (Z (iv_p Z)) (Z (iv_s Z))) v (fun i hi => by have := da_b hP hS i (by omega); omega) (fun i hi => uv_b hP i)
      have key : so_ch (fun _ => true) (so_da (Z (iv_p Z)) (Z (iv_s Z))) (so_uv (Z (iv_p Z)) (Z (iv_s Z))) (v + 1) = so_st (so_ch (fun _ => true) (so_da (Z (iv_p Z)) (Z (iv_s Z))) (so_uv (Z (iv_p Z)) (Z (iv_s Z))) v) v (so_da (Z (iv_p Z)) (Z (iv_s Z)) v) (so_uv (Z (iv_p Z)) (Z (iv_s Z)) v) := by
        show (if true = false then _ else so_st (so_ch (fun _ => true) (so_da (Z (iv_p Z)) (Z (iv_s Z))) (so_uv (Z (iv_p Z)) (Z (iv_s Z))) v) v (so_da (Z (iv_p Z)) (Z (iv_s Z)) v) (so_uv (Z (iv_p Z)) (Z (iv_s Z)) v)) = _
        rw [if_neg (by decide)]
      refine dp_no (by omega) (dp_bi (dp_eq (st_ref m2 h3) ?_))
      refine dp_lp (fun k q => ∃ (t : Nat) (m' : ob_O), (t : Int) + k = Z (iv_p Z) 10 0 ∧ q = (so_fs (Z (iv_p Z)) (so_sets v (Z (iv_p Z) 3 0).toNat (Z (iv_s Z))) t, (t : Int), ob_z W 114 m') ∧ so_mV (Z (iv_p Z)) (Z 114) v m') ?_ 5000 (Z (iv_p Z) 10 0).toNat (0, 0, ob_z W 114 (so_sets v (Z (iv_p Z) 3 0).toNat m)) (by omega) ⟨0, _, by omega, rfl, hV⟩
      rintro k2 _ ⟨t, m', ht, rfl, hV2⟩
      have et : dz_c (t : Int) = t := dc_ir (by omega) (by omega)
      have m4' : m' 4 0 = Z (iv_p Z) 10 0 := by rw [hV2.2 4 (by decide) (by decide)]; exact m4
      simp only [oz_s, m4', e10, et]
      by_cases hk2 : (t : Int) = Z (iv_p Z) 10 0
      · have ef : so_fs (Z (iv_p Z)) (so_sets v (Z (iv_p Z) 3 0).toNat (Z (iv_s Z))) t = so_da (Z (iv_p Z)) (Z (iv_s Z)) v := by
          unfold so_da
          rw [show (Z (iv_p Z) 10 0).toNat = t by omega]
        rw [ef]
        have ed : dz_c (so_da (Z (iv_p Z)) (Z (iv_s Z)) v) = so_da (Z (iv_p Z)) (Z (iv_s Z)) v := dz_ci (by omega) (by omega)
        rw [ed]
        generalize so_da (Z (iv_p Z)) (Z (iv_s Z)) v = d at *
        generalize so_uv (Z (iv_p Z)) (Z (iv_s Z)) v = u at *
        generalize so_ch (fun _ => true) (so_da (Z (iv_p Z)) (Z (iv_s Z))) (so_uv (Z (iv_p Z)) (Z (iv_s Z))) v = x at *
        have b0 := hcb 0
        have b1 := hcb 1
        have s3 : so_st x v d u 3 = x 3 + 1 := by unfold so_st; rw [if_pos rfl]
        refine dp_ck (by omega) (dp_bi ?_)
        by_cases cc : x 3 = 0 ∨ d < x 1
        · have s0 : so_st x v d u 0 = v := by
            unfold so_st
            rw [if_neg (by decide), if_pos cc, if_pos rfl]
          have s1 : so_st x v d u 1 = d := by
            unfold so_st
            rw [if_neg (by decide), if_pos cc, if_neg (by decide), if_pos rfl]
          have tt : ∀ Q : Int → Prop, Q 1 → dz_p (if dz_c a = -4 then some 1 else if dz_c b ≤ d then some 0 else some 1) Q := by
            intro Q hQ
            rcases hmb with q | q
            · exact dp_ck (by rw [q.2]; decide) (dp_sm hQ)
            · refine dp_no ?_ (dp_no ?_ (dp_sm hQ))
              · rw [q.2.1, dz_ci (by omega) (by omega)]; omega
              · rw [q.2.2, dz_ci (by omega) (by omega)]; omega
          refine tt _ (dp_bi (dp_no (by decide) (dp_sm (dp_no (by decide) (dp_sm ⟨k1 - 1, by omega, v + 1, m', (v : Int), d, by omega, rfl, mV_I hV2, ?_⟩)))))
          rw [key]
          exact Or.inr ⟨by rw [s3]; omega, s0.symm, s1.symm⟩
        · have s0 : so_st x v d u 0 = x 0 := by
            unfold so_st
            rw [if_neg (by decide), if_neg cc]
            simp
          have s1 : so_st x v d u 1 = x 1 := by
            unfold so_st
            rw [if_neg (by decide), if_neg cc]
            simp
          rcases hmb with q | q
          · exact absurd (Or.inl q.1) cc
          refine dp_no (by rw [q.2.1, dz_ci (by omega) (by omega)]; omega) (dp_ck (by rw [q.2.2, dz_ci (by omega) (by omega)]; omega) (dp_sm (dp_bi (dp_ck (by decide) (dp_sm (dp_ck (by decide) (dp_sm ⟨k1 - 1, by omega, v + 1, m', a, b, by omega, rfl, mV_I hV2, ?_⟩)))))))
          rw [key]
          exact Or.inr ⟨by rw [s3]; omega, by rw [s0, q.2.1], by rw [s1, q.2.2]⟩
      · refine dp_no (by omega) (dp_bi (fr_ref hP hSv (mV_P hV2 rP) (mV_V (by omega) hP hS rS hV2) (by omega) (fun m2 g1 g2 => dp_sm ⟨k2 - 1, by omega, t + 1, m2, by omega, rfl, mV_t hV2 g1 g2⟩)))
  refine dp_br (fun e => dp_sm (mod _ (by rw [if_pos e]))) (fun e => dp_sm (mod _ (by rw [if_neg e])))
theorem op_quiet (h : iv_Z n Z) (c1 : dz_c a1 = a1) (c2 : dz_c a2 = a2) : dz_p (jf_O_quiet a1 a2 Z) (fun q => dz_p (jf_M_quiet a1 a2 q.2) (fun q' => iv_Z (n + 1) q'.2 ∧ dz_c q.1 = dz_c q'.1)) := by
  have hP := h.2.1
  have h3 := hP.2.2.1
  have rP := h.2.2.1
  obtain ⟨hS, rS, hB, rF⟩ := h.2.2.2.1
  have hpw := so_pw_b (G := (Z (iv_p Z) 3 0).toNat) (by omega)
  have epw : dz_c (so_pw (Z (iv_p Z) 3 0).toNat) = so_pw (Z (iv_p Z) 3 0).toNat := dc_ir (by omega) (by omega)
  have hin := st_inv (S := Z (iv_s Z)) (G := (Z (iv_p Z) 3 0).toNat) (by omega) (fun g a b => hS.1 g a (by omega))
  unfold jf_O_quiet
  refine dp_bi (dp_eq (oi_wO h c1) ?_)
  simp only [decide_eq_false_iff_not, c2]
  refine dp_br (fun a => dp_sm ?_) (fun a => ?_)
  · dsimp only
    unfold jf_M_quiet
    refine dp_bi (dp_eq (oi_wM h.2.1 rP rfl c1) ?_)
    simp only [decide_eq_false_iff_not]
    exact dp_ck a (dp_sm ⟨iv_nx h, rfl⟩)
  have ha : 0 ≤ a1 ∧ a1 < Z (iv_p Z) 10 0 := by omega
  have bad : ¬(0 ≤ a2 ∧ a2 ≤ 2) → dz_p (jf_M_quiet a1 a2 Z) (fun q' => iv_Z (n + 1) q'.2 ∧ dz_c (-1) = dz_c q'.1) := by
    intro hv
    unfold jf_M_quiet
    refine dp_bi (dp_eq (oi_wM h.2.1 rP rfl c1) ?_)
    simp only [decide_eq_false_iff_not, c2]
    exact dp_no a (dp_no hv (dp_sm ⟨iv_nx h, rfl⟩))
  refine dp_br (fun b => dp_sm (bad (by omega))) (fun b => dp_br (fun c => ?_) (fun c => dp_sm (bad (by omega))))
  refine dp_bi (ch_cls h ha c1 (by decide) (fun W hb hro => ?_))
  have hcN := ch_b (ok := so_ov (Z (iv_p Z)) (Z (iv_s Z)) a1 1) (dd := so_dw (Z (iv_p Z)) (Z (iv_s Z)) a1) (uu := so_uv (Z (iv_p Z)) (Z (iv_s Z))) (so_pw (Z (iv_p Z) 3 0).toNat).toNat (fun i hi => by have := dw_b hP hS ha i (by omega); omega) (fun i hi => uv_b hP i)
  generalize hX : so_ch (so_ov (Z (iv_p Z)) (Z (iv_s Z)) a1 1) (so_dw (Z (iv_p Z)) (Z (iv_s Z)) a1) (so_uv (Z (iv_p Z)) (Z (iv_s Z))) (so_pw (Z (iv_p Z) 3 0).toNat).toNat = X at *
  have n3 := hcN 3
  have eX3 : dz_c (X 3) = X 3 := dz_ci (by omega) (by omega)
  rw [hro.1, eX3]
  have mod : ∀ y : Int, y = (if a2 ≠ 2 then (if X 3 ≠ 0 then (if a2 ≠ 0 then X 1 else X 0) else -4) else X 3) → dz_p (jf_M_quiet a1 a2 W) (fun q' => iv_Z (n + 1) q'.2 ∧ dz_c y = dz_c q'.1) := by
    intro y hy
    rw [ey_t2 hb]
    unfold jf_M_quiet
    refine dp_bi (dp_eq (oi_wM (m := Z 114) h.2.1 rP oz_s c1) ?_)
    simp only [decide_eq_false_iff_not, c2]
    refine dp_no a (dp_ck (by omega) (dp_bi (dp_eq (st_nref (S := Z (iv_s Z)) (P := Z (iv_p Z)) rP.2.2.1 h3 (fun g c d => by have := rS.1.1 g c d; rw [Int.zero_add] at this; exact this)) ?_)))
    refine dp_lp (fun k q => ∃ (v : Nat) (m : ob_O) (a b : Int), v + k = (so_pw (Z (iv_p Z) 3 0).toNat).toNat ∧ q = (a, b, so_ch (so_ov (Z (iv_p Z)) (Z (iv_s Z)) a1 1) (so_dw (Z (iv_p Z)) (Z (iv_s Z)) a1) (so_uv (Z (iv_p Z)) (Z (iv_s Z))) v 3, (v : Int), ob_z W 114 m) ∧ so_mI (Z (iv_p Z)) (Z 114) m ∧ so_mb (so_ch (so_ov (Z (iv_p Z)) (Z (iv_s Z)) a1 1) (so_dw (Z (iv_p Z)) (Z (iv_s Z)) a1) (so_uv (Z (iv_p Z)) (Z (iv_s Z))) v) a b) ?_ 5000 (so_pw (Z (iv_p Z) 3 0).toNat).toNat (-4, 0, 0, 0, ob_z W 114 (Z 114)) (by omega) ⟨0, Z 114, -4, 0, by omega, rfl, mI_i, Or.inl ⟨rfl, rfl⟩⟩
    rintro k1 _ ⟨v, m, a, b, hv, rfl, hI, hmb⟩
    have ev : dz_c (v : Int) = v := dc_ir (by omega) (by omega)
    have m2 : m 2 0 = Z (iv_p Z) 3 0 := by rw [hI.2 2 (by decide) (by decide)]; exact rP.2.2.1
    dsimp only
    refine dp_bi (dp_eq (st_mref (m := m) (P := Z (iv_p Z)) m2 h3 oz_s) ?_)
    rw [epw, ev]
    by_cases hk : v = (so_pw (Z (iv_p Z) 3 0).toNat).toNat
    · have hV := mV_s hI (so_num (Z (iv_s Z)) (Z (iv_p Z) 3 0).toNat 0)
      have fin := iv_t2 h hb (mV_e hP hS rS hV) hV.2
      rw [hk, hX] at hmb
      rw [hk, hX]
      have n0 := hcN 0
      refine dp_ck (by omega) (dp_bi (dp_eq (st_ref m2 h3) (dp_br (fun e => ?_) (fun e => dp_sm ⟨fin, ?_⟩))))
      · rw [if_pos e] at hy
        rcases hmb with q | q
        · refine dp_ck (by rw [q.2]; decide) (dp_sm ⟨fin, ?_⟩)
          rw [hy, if_neg (by omega), q.2]
        · rw [if_pos q.1] at hy
          refine dp_no (by rw [q.2.1, dz_ci (by omega) (by omega)]; omega) (dp_br (fun f => dp_sm ⟨fin, ?_⟩) (fun f => dp_sm ⟨fin, ?_⟩))
          · rw [hy, if_pos f, q.2.2]
          · rw [hy, if_neg f, q.2.1]
      · rw [hy, if_neg e]
    · have hV := mV_s hI v
      have hdw := dw_b hP hS ha v (by omega)
      have hSv := st_S (v := v) hP hS (by omega)
      have hcb := ch_b (ok := so_ov (Z (iv_p Z)) (Z (iv_s Z)) a1 1) (dd := so_dw (Z (iv_p Z)) (Z (iv_s Z)) a1) (uu := so_uv (Z (iv_p Z)) (Z (iv_s Z))) v (fun i hi => by have := dw_b hP hS ha i (by omega); omega) (fun i hi => uv_b hP i)
      have key : so_ch (so_ov (Z (iv_p Z)) (Z (iv_s Z)) a1 1) (so_dw (Z (iv_p Z)) (Z (iv_s Z)) a1) (so_uv (Z (iv_p Z)) (Z (iv_s Z))) (v + 1) = if so_ov (Z (iv_p Z)) (Z (iv_s Z)) a1 1 v = false then so_ch (so_ov (Z (iv_p Z)) (Z (iv_s Z)) a1 1) (so_dw (Z (iv_p Z)) (Z (iv_s Z)) a1) (so_uv (Z (iv_p Z)) (Z (iv_s Z))) v else so_st (so_ch (so_ov (Z (iv_p Z)) (Z (iv_s Z)) a1 1) (so_dw (Z (iv_p Z)) (Z (iv_s Z)) a1) (so_uv (Z (iv_p Z)) (Z (iv_s Z))) v) v (so_dw (Z (iv_p Z)) (Z (iv_s Z)) a1 v) (so_uv (Z (iv_p Z)) (Z (iv_s Z)) v) := rfl
      have okd : so_ov (Z (iv_p Z)) (Z (iv_s Z)) a1 1 v = decide ((1 : Int) = 0 ∨ dz_c (so_wv (Z (iv_p Z)) (Z (iv_s Z)) a1 v) = 0) := rfl
      have ed : dz_c (so_dw (Z (iv_p Z)) (Z (iv_s Z)) a1 v) = so_dw (Z (iv_p Z)) (Z (iv_s Z)) a1 v := dz_ci (by omega) (by omega)
      refine dp_no (by omega) (dp_bi (dp_eq (st_ref m2 h3) (dp_bi (wk_ref hP hSv (mV_P hV rP) (mV_V (by omega) hP hS rS hV) ha (fun m' g1 g2 => dp_bi ?_)))))
      have hV2 := mV_t hV g1 g2
      show dz_p (if dz_c (so_wv (Z (iv_p Z)) (Z (iv_s Z)) a1 v) ≠ 0 then some 0 else some 1) _
      dsimp only
      by_cases cw : dz_c (so_wv (Z (iv_p Z)) (Z (iv_s Z)) a1 v) = 0
      · rw [okd, decide_eq_true (Or.inr cw), if_neg (by decide)] at key
        refine dp_no (by omega) (dp_sm (dp_bi (fr_ref hP hSv (mV_P hV2 rP) (mV_V (by omega) hP hS rS hV2) ha (fun m3 g3 g4 => dp_bi ?_))))
        have hV3 := mV_t hV2 g3 g4
        show dz_p (if dz_c 1 = 0 then some 0 else if dz_c a = -4 then some 1 else if dz_c b ≤ dz_c (so_dw (Z (iv_p Z)) (Z (iv_s Z)) a1 v) then some 0 else some 1) (fun q23 => dz_p (Option.bind (α := Int) (if dz_c q23 = 0 then (some a) else (some (v : Int))) (fun (q25 : Int) => Option.bind (α := Int) (if dz_c q23 = 0 then (some b) else (some (so_dw (Z (iv_p Z)) (Z (iv_s Z)) a1 v))) (fun (q27 : Int) => Option.bind (α := Int) (if dz_c 1 = 0 then (some 0) else (some 1)) (fun (q29 : Int) => some (Sum.inl (q25, q27, so_ch (so_ov (Z (iv_p Z)) (Z (iv_s Z)) a1 1) (so_dw (Z (iv_p Z)) (Z (iv_s Z)) a1) (so_uv (Z (iv_p Z)) (Z (iv_s Z))) v 3 + q29, (v : Int) + 1, ob_z W 114 m3)))))) _)
        rw [ed]
        generalize so_dw (Z (iv_p Z)) (Z (iv_s Z)) a1 v = d at *
        generalize so_uv (Z (iv_p Z)) (Z (iv_s Z)) v = u at *
        generalize so_ch (so_ov (Z (iv_p Z)) (Z (iv_s Z)) a1 1) (so_dw (Z (iv_p Z)) (Z (iv_s Z)) a1) (so_uv (Z (iv_p Z)) (Z (iv_s Z))) v = x at *
        have b0 := hcb 0
        have b1 := hcb 1
        have b3 := hcb 3
        have s3 : so_st x v d u 3 = x 3 + 1 := by unfold so_st; rw [if_pos rfl]
        refine dp_no (by decide) ?_
        by_cases cc : x 3 = 0 ∨ d < x 1
        · have s0 : so_st x v d u 0 = v := by
            unfold so_st
            rw [if_neg (by decide), if_pos cc, if_pos rfl]
          have s1 : so_st x v d u 1 = d := by
            unfold so_st
            rw [if_neg (by decide), if_pos cc, if_neg (by decide), if_pos rfl]
          have tt : ∀ Q : Int → Prop, Q 1 → dz_p (if dz_c a = -4 then some 1 else if dz_c b ≤ d then some 0 else some 1) Q := by
            intro Q hQ
            rcases hmb with q | q
            · exact dp_ck (by rw [q.2]; decide) (dp_sm hQ)
            · refine dp_no ?_ (dp_no ?_ (dp_sm hQ))
              · rw [q.2.1, dz_ci (by omega) (by omega)]; omega
              · rw [q.2.2, dz_ci (by omega) (by omega)]; omega
          refine tt _ (dp_bi (dp_no (by decide) (dp_sm (dp_bi (dp_no (by decide) (dp_sm (dp_bi (dp_no (by decide) (dp_sm (dp_sm ⟨k1 - 1, by omega, v + 1, m3, (v : Int), d, by omega, ?_, mV_I hV3, ?_⟩))))))))))
          · rw [key, s3]; rfl
          · rw [key]
            exact Or.inr ⟨by rw [s3]; omega, s0.symm, s1.symm⟩
        · have s0 : so_st x v d u 0 = x 0 := by
            unfold so_st
            rw [if_neg (by decide), if_neg cc]
            simp
          have s1 : so_st x v d u 1 = x 1 := by
            unfold so_st
            rw [if_neg (by decide), if_neg cc]
            simp
          rcases hmb with q | q
          · exact absurd (Or.inl q.1) cc
          refine dp_no (by rw [q.2.1, dz_ci (by omega) (by omega)]; omega) (dp_ck (by rw [q.2.2, dz_ci (by omega) (by omega)]; omega) (dp_sm (dp_bi (dp_ck (by decide) (dp_sm (dp_bi (dp_ck (by decide) (dp_sm (dp_bi (dp_no (by decide) (dp_sm (dp_sm ⟨k1 - 1, by omega, v + 1, m3, a, b, by omega, ?_, mV_I hV3, ?_⟩))))))))))))
          · rw [key, s3]; rfl
          · rw [key]
            exact Or.inr ⟨by rw [s3]; omega, by rw [s0, q.2.1], by rw [s1, q.2.2]⟩
      · rw [okd, decide_eq_false (fun q => by rcases q with q | q; exact absurd q (by decide); exact cw q), if_pos rfl] at key
        refine dp_ck cw (dp_sm (dp_bi (fr_ref hP hSv (mV_P hV2 rP) (mV_V (by omega) hP hS rS hV2) ha (fun m3 g3 g4 => dp_bi (dp_ck (by decide) (dp_sm (dp_bi (dp_ck (by decide) (dp_sm (dp_bi (dp_ck (by decide) (dp_sm (dp_bi (dp_ck (by decide) (dp_sm (dp_sm ⟨k1 - 1, by omega, v + 1, m3, a, b, by omega, ?_, mV_I (mV_t hV2 g3 g4), ?_⟩))))))))))))))))
        · rw [key, Int.add_zero]; rfl
        · rw [key]; exact hmb
  have n0 := hcN 0
  refine dp_br (fun e => dp_br (fun f => dp_br (fun g => dp_sm (mod _ ?_)) (fun g => dp_sm (mod _ ?_))) (fun f => dp_sm (mod _ ?_))) (fun e => dp_sm (mod _ ?_))
  · rw [if_pos e, if_pos f, if_pos g, (hro.2 f).2.1]
  · rw [if_pos e, if_pos f, if_neg g, (hro.2 f).1]
  · rw [if_pos e, if_neg f]
  · rw [if_neg e]
end px
end mg_59px
section mg_60py
/-! read -/
def so_ft (H : ob_O) (la a3 : Int) (t : Nat) : Int := if H 2 0 = -1 then 1 else if la ≠ H 1 0 then 3 else if a3 + t < 0 ∨ H 2 0 ≤ a3 + t then 2 else 0
section py
variable {n : Nat} {P S o m m' H : ob_O} {w a1 a2 a3 a4 f la : Int} {Z Y Z' W : dz_Z} {R : Int → Int}
theorem dz_cw {x : Int} (h : 2147483647 < x) (h' : x ≤ 4294967295) : dz_c x = x - 4294967296 := by
  have e : dz_c x = dz_c (x - 4294967296) := by
    unfold dz_c
    rw [Int32.toInt_ofInt, Int32.toInt_ofInt]
    unfold Int.bmod
    have : (x - 4294967296) % ((Int32.size : Nat) : Int) = x % ((Int32.size : Nat) : Int) := by
      show (x - 4294967296) % 4294967296 = x % 4294967296
      omega
    rw [this]
  rw [e]
  exact dz_ci (by omega) (by omega)
theorem iv_to (h : iv n Z m) (hb : ∀ b : Nat, b ≠ 0 → b ≠ 114 → W b = Z b) (hw : W 0 = ob_u (Z 0) 10 0 f) (hm : m' = ob_u m 45 0 f) : iv n W m' := by
  obtain ⟨h1, h2, h3, h4, ⟨h5, h6⟩, h7, ⟨h8, h9, h10, h11⟩, h12, h13, h14⟩ := h
  have hs := iv_s2 h1
  have hp := iv_p2 h1
  have w2 : W 0 2 = Z 0 2 := by rw [hw, ou_ff (by decide)]
  have w3 : W 0 3 = Z 0 3 := by rw [hw, ou_ff (by decide)]
  have ep : iv_p W = iv_p Z := by unfold iv_p; rw [w2]
  have es : iv_s W = iv_s Z := by unfold iv_s; rw [w3]
  have z : ∀ b : Nat, 0 < b → b < 114 → W b = Z b := fun b a a' => hb b (by omega) (by omega)
  have mf : ∀ g : Nat, g ≠ 45 → m' g = m g := fun g a => by rw [hm, ou_ff a]
  have mj : ∀ j : Int, m' 0 j = m 0 j := fun j => by rw [mf 0 (by decide)]
  unfold iv
  rw [ep, es, z 1 (by decide) (by decide), z (iv_p Z) (by omega) (by omega), z (iv_s Z) (by omega) (by omega), z 46 (by decide) (by decide), z 68 (by decide) (by decide), z 69 (by decide) (by decide), z 79 (by decide) (by decide), z 87 (by decide) (by decide), z 88 (by decide) (by decide), z 98 (by decide) (by decide), z 2 (by decide) (by decide), z 106 (by decide) (by decide), z 108 (by decide) (by decide), z 110 (by decide) (by decide), z 112 (by decide) (by decide), mf 30 (by decide), mf 31 (by decide)]
  have r : iv_R (W 0) (Z 1) := by unfold iv_R; rw [w2, w3]; exact h1
  exact ⟨r, h2, mrP_m h3 (fun g a b => mf g (by omega)), iv_Im h4 h2 (fun j _ _ => mj j), ⟨iv_Gm h5 h2 (by decide) (mf 41 (by decide)) (fun j _ _ => mj j), iv_Gm h6 h2 (by decide) (mf 41 (by decide)) (fun j _ _ => mj j)⟩, iv_Tm h7 (mf 21 (by decide)) (mf 22 (by decide)), ⟨iv_hm h8 (mf 42 (by decide)) (mf 43 (by decide)) (mf 44 (by decide)), iv_hm h9 (mf 42 (by decide)) (mf 43 (by decide)) (mf 44 (by decide)), iv_hm h10 (mf 42 (by decide)) (mf 43 (by decide)) (mf 44 (by decide)), iv_hm h11 (mf 42 (by decide)) (mf 43 (by decide)) (mf 44 (by decide))⟩, by rw [hw, hm, ou_s, ou_s], h13, h14⟩
theorem ft_e (hH : iv_h H m a1) {t : Nat} (c3 : dz_c a3 = a3) (ht : t ≤ 12) : (if H 2 0 = -1 then (1 : Int) else if la ≠ H 1 0 then 3 else if dz_c (a3 + t) < 0 ∨ H 2 0 ≤ dz_c (a3 + t) then 2 else 0) = so_ft H la a3 t := by
  unfold so_ft
  by_cases a : H 2 0 = -1
  · rw [if_pos a, if_pos a]
  · rw [if_neg a, if_neg a]
    by_cases b : la ≠ H 1 0
    · rw [if_pos b, if_pos b]
    · rw [if_neg b, if_neg b]
      have hb := dz_cb a3
      rw [c3] at hb
      have h40 : H 2 0 ≤ 40 := by
        rcases hH with x | x
        · exact absurd x.1 a
        · omega
      by_cases c : a3 + (t : Int) ≤ 2147483647
      · rw [dz_ci (by omega) c]
      · rw [dz_cw (by omega) (by omega), if_pos (by omega), if_pos (by omega)]
theorem ft_m (hH : iv_h H m a1) {t : Nat} {K : Int → Prop} (k : K (so_ft H la a3 t)) (c3 : dz_c a3 = a3) (ct : dz_c (t : Int) = t) : dz_p (if dz_c (m 42 a1) ≠ (-4) then (if dz_c (m 42 a1) = la then (if 0 ≤ (dz_c a3) + (dz_c (t : Int)) ∧ (dz_c a3) + (dz_c (t : Int)) ≤ dz_c ((m 43 a1) - 1) then (some 0) else (some 2)) else (some 3)) else (some 1)) K := by
  unfold so_ft at k
  rcases hH with x | x
  · rw [if_pos x.1] at k
    rw [x.2]
    exact dp_no (by decide) (dp_sm k)
  · rw [if_neg (by omega)] at k
    rw [x.2.1, x.2.2.2.1, dc_ir (x := H 1 0) (by omega) (by omega), dz_ci (x := H 2 0 - 1) (by omega) (by omega), c3, ct]
    refine dp_ck (by omega) (dp_br (fun a => dp_br (fun b => dp_sm ?_) (fun b => dp_sm ?_)) (fun a => dp_sm ?_))
    · rw [if_neg (by omega), if_neg (by omega)] at k; exact k
    · rw [if_neg (by omega), if_pos (by omega)] at k; exact k
    · rw [if_pos (by omega)] at k; exact k
/-- how far the reading goes -/
theorem rd_t (g : Nat → Prop) [DecidablePred g] : ∀ N : Nat, ∃ t : Nat, t ≤ N ∧ (∀ i : Nat, i < t → g i) ∧ (t = N ∨ ¬ g t)
  | 0 => ⟨0, Nat.le_refl _, fun i hi => absurd hi (by omega), Or.inl rfl⟩
  | N + 1 => by
    obtain ⟨t, h1, h2, h3⟩ := rd_t g N
    by_cases e : t = N ∧ g N
    · refine ⟨N + 1, Nat.le_refl _, fun i hi => ?_, Or.inl rfl⟩
      by_cases q : i = N
      · rw [q]; exact e.2
      · exact h2 i (by omega)
    · refine ⟨t, by omega, h2, Or.inr ?_⟩
      rcases h3 with q | q
      · intro hg
        exact e ⟨q, q ▸ hg⟩
      · exact q
theorem rd_B (hP : so_P P) (hS : so_S P S) (hn : n < 512) (hB : so_B (3888 * n) (24000000 * n) o) : ∀ k : Nat, k ≤ 12 → (∀ i : Nat, i < k → 0 ≤ R i ∧ R i ≤ 9) → so_B (3888 * n + 324 * k) (24000000 * n + 2000000 * k) (pf_o P S R o k)
  | 0, _, _ => sB_m hB (by omega) (by omega)
  | k + 1, hk, hR => by
    have ih := rd_B hP hS hn hB k (by omega) (fun i hi => hR i (by omega))
    have := sc_sec (v := R k) hP hS (hR k (by omega)) ih (by omega)
    exact sB_m this.1 (by omega) (by omega)
theorem ft_0 {t : Nat} (hH : iv_h H m a1) (h : so_ft H la a3 t = 0) : (0 ≤ a3 + t ∧ a3 + t < 40) ∧ (∀ i : Int, 0 ≤ i → i < 40 → (-2147483648 ≤ H 0 i ∧ H 0 i ≤ 2147483647) ∧ m 44 (40 * a1 + i) = H 0 i) := by
  unfold so_ft at h
  by_cases a : H 2 0 = -1
  · rw [if_pos a] at h; omega
  · rw [if_neg a] at h
    by_cases b : la ≠ H 1 0
    · rw [if_pos b] at h; omega
    · rw [if_neg b] at h
      by_cases c : a3 + (t : Int) < 0 ∨ H 2 0 ≤ a3 + t
      · rw [if_pos c] at h; omega
      · rcases hH with x | x
        · exact absurd x.1 a
        · exact ⟨by omega, x.2.2.2.2⟩
theorem rp_cls {t : Nat} {Q : (Int × Int) ⊕ (Int × dz_Z) → Prop} (h : iv_Z n Z) (ht : t ≤ 12) (ha : 0 ≤ a1 ∧ a1 < 4) (hg : ∀ i : Nat, i < t → 0 ≤ a3 + i ∧ a3 + i < 40) (k : Q (Sum.inr ((t : Int), ob_z (ob_z Z 46 (pf_o (Z (iv_p Z)) (Z (iv_s Z)) (fun i => Z (106 + 2 * a1.toNat) 0 (a3 + i)) (Z 46) t)) 0 (ob_u (Z 0) 10 0 f)))) : dz_p (dz_lp (fun (s10 : Int × dz_Z) => (if dz_c (t : Int) ≤ dz_c s10.1 then (dz_a (dz_u s10.2 0 10 0 f) fun Z12 => some (Sum.inr (Sum.inr ((t : Int), Z12)))) else (if hz_isP (s10.2 0 2 0).toNat then if hz_isS (s10.2 0 3 0).toNat then if 0 ≤ dz_c (a3 + s10.1) ∧ dz_c (a3 + s10.1) < 40 then Option.bind (jf_F_passSecond 46 ((s10.2 0 2 0).toNat) ((s10.2 0 3 0).toNat) (s10.2 (106 + 2 * Int.toNat a1) 0 (dz_c (a3 + s10.1))) s10.2) fun q16 => some (Sum.inl (s10.1 + 1, q16.2)) else none else none else none) : Option ((Int × dz_Z) ⊕ ((Int × Int) ⊕ (Int × dz_Z))))) 5000 (0, Z)) Q := by
  have hp := iv_isP h.1
  have hs := iv_isS h.1
  have hs2 := iv_s2 h.1
  have hp2 := iv_p2 h.1
  have hS := h.2.2.2.1.1
  have et : dz_c (t : Int) = t := dc_ir (by omega) (by omega)
  refine dp_lp (fun k q => ∃ r : Nat, r + k = t ∧ q = ((r : Int), ob_z Z 46 (pf_o (Z (iv_p Z)) (Z (iv_s Z)) (fun i => Z (106 + 2 * a1.toNat) 0 (a3 + i)) (Z 46) r))) ?_ 5000 t (0, Z) (by omega) ⟨0, by omega, by show _ = (_, ob_z Z 46 (Z 46)); rw [oz_i]; rfl⟩
  rintro k1 _ ⟨r, hr, rfl⟩
  have er : dz_c (r : Int) = r := dc_ir (by omega) (by omega)
  generalize hF : pf_o (Z (iv_p Z)) (Z (iv_s Z)) (fun i => Z (106 + 2 * a1.toNat) 0 (a3 + i)) (Z 46) r = F
  have z0 : ob_z Z 46 F 0 = Z 0 := oz_n (by decide)
  have zh : ob_z Z 46 F (106 + 2 * a1.toNat) = Z (106 + 2 * a1.toNat) := oz_n (by omega)
  have zp : ob_z Z 46 F (iv_p Z) = Z (iv_p Z) := oz_n (by omega)
  have zs : ob_z Z 46 F (iv_s Z) = Z (iv_s Z) := oz_n (by omega)
  simp only [et, er, z0, zh, show (Z 0 3 0).toNat = iv_s Z from rfl, show (Z 0 2 0).toNat = iv_p Z from rfl]
  by_cases hk : r = t
  · refine dp_ck (by omega) (dp_le (dp_sm ?_))
    rw [oz_u, z0, ← hF, hk]
    exact k
  · have := hg r (by omega)
    have e3 : dz_c (a3 + (r : Int)) = a3 + r := dc_ir (by omega) (by omega)
    rw [e3]
    refine dp_no (by omega) (dp_ck hp (dp_ck hs (dp_ck (by omega) ?_)))
    have hc := cf_sec (F := 46) (p := iv_p Z) (q := iv_s Z) (Z := ob_z Z 46 F) (v := Z (106 + 2 * a1.toNat) 0 (a3 + r)) (Or.inl rfl) hp hs (by rw [zp]; exact h.2.1) (by rw [zp, zs]; exact hS)
    rw [zp, zs, oz_s, oz_z] at hc
    refine dp_bi (dp_eq hc (dp_sm ⟨k1 - 1, by omega, r + 1, by omega, ?_⟩))
    rw [← hF]
    rfl
theorem rp_ref {t : Nat} {Q : (Int × Int) ⊕ (Int × dz_Z) → Prop} (hP : so_P P) (hS : so_S P S) (rP : mr_P P m) (rW : mr_W 0 P S m) (rF : mr_F 0 P o m) (hn : n < 512) (hB : so_B (3888 * n) (24000000 * n) o) (ht : t ≤ 12) (ha : 0 ≤ a1 ∧ a1 < 4) (hg : ∀ i : Nat, i < t → (0 ≤ a3 + i ∧ a3 + i < 40) ∧ m 44 (40 * a1 + (a3 + i)) = R i ∧ 0 ≤ R i ∧ R i ≤ 9) (k : ∀ m' : ob_O, mr_F 0 P (pf_o P S R o t) m' → (∀ f : Nat, f ≠ 0 → f ≠ 32 → f ≠ 33 → f ≠ 34 → m' f = m f) → (∀ j : Int, (j < 86 ∨ 138 ≤ j) → m' 0 j = m 0 j) → Q (Sum.inr ((t : Int), ob_z Y 114 (ob_u m' 45 0 f)))) : dz_p (dz_lp (fun (s6 : Int × dz_Z) => (if dz_c (t : Int) ≤ dz_c s6.1 then (dz_a (dz_u s6.2 114 45 0 f) fun Z8 => some (Sum.inr (Sum.inr ((t : Int), Z8)))) else (if 0 ≤ dz_c (((40 * a1) + a3) + s6.1) ∧ dz_c (((40 * a1) + a3) + s6.1) < 160 then Option.bind (jf_M_second 0 (s6.2 114 44 (dz_c (((40 * a1) + a3) + s6.1))) s6.2) fun q10 => some (Sum.inl (s6.1 + 1, q10.2)) else none) : Option ((Int × dz_Z) ⊕ ((Int × Int) ⊕ (Int × dz_Z))))) 5000 (0, ob_z Y 114 m)) Q := by
  have et : dz_c (t : Int) = t := dc_ir (by omega) (by omega)
  refine dp_lp (fun k q => ∃ (r : Nat) (m' : ob_O), r + k = t ∧ q = ((r : Int), ob_z Y 114 m') ∧ mr_F 0 P (pf_o P S R o r) m' ∧ (∀ f : Nat, f ≠ 0 → f ≠ 32 → f ≠ 33 → f ≠ 34 → m' f = m f) ∧ (∀ j : Int, (j < 86 ∨ 138 ≤ j) → m' 0 j = m 0 j)) ?_ 5000 t (0, ob_z Y 114 m) (by omega) ⟨0, m, by omega, rfl, rF, fun _ _ _ _ _ => rfl, fun _ _ => rfl⟩
  rintro k1 _ ⟨r, m', hr, rfl, i1, i2, i3⟩
  have er : dz_c (r : Int) = r := dc_ir (by omega) (by omega)
  simp only [et, er, oz_s]
  by_cases hk : r = t
  · refine dp_ck (by omega) (dp_le (dp_sm ?_))
    rw [oz_uz]
    rw [hk] at i1
    exact k m' i1 i2 i3
  · obtain ⟨g1, g2, g3⟩ := hg r (by omega)
    have e3 : dz_c (40 * a1 + a3 + (r : Int)) = 40 * a1 + (a3 + r) := by rw [dc_ir (by omega) (by omega)]; omega
    rw [e3, i2 44 (by decide) (by decide) (by decide) (by decide), g2]
    have hb := rd_B hP hS hn hB r (by omega) (fun i hi => (hg i (by omega)).2.2)
    refine dp_no (by omega) (dp_ck (by omega) (dp_bi (mf_sec (e := 0) (Or.inl rfl) hP hS g3 hb (by omega) (by omega) (mrP_m rP (fun f a b => i2 f (by omega) (by omega) (by omega) (by omega))) (mrW_m rW hP (fun j a b => i3 j (by omega))) i1 (fun m2 f1 f2 f3 => dp_sm ⟨k1 - 1, by omega, r + 1, m2, by omega, rfl, f1, fun f a b c d => by rw [f2 f a b c d, i2 f a b c d], fun j a => by rw [f3 j (by omega), i3 j a]⟩))))
theorem rm_ref {t : Nat} (hH : iv_h H m a1) (c1 : dz_c a1 = a1) (c2 : dz_c a2 = a2) (c3 : dz_c a3 = a3) (c4 : dz_c a4 = a4) (hP : so_P P) (hS : so_S P S) (rP : mr_P P m) (rW : mr_W 0 P S m) (rF : mr_F 0 P o m) (hn : n < 512) (hB : so_B (3888 * n) (24000000 * n) o) (ha : 0 ≤ a1 ∧ a1 < 4) (hl : 0 ≤ a2 ∧ a2 < 3) (h4 : 0 ≤ a4 ∧ a4 ≤ 12) (ht : (t : Int) ≤ a4) (hg : ∀ i : Nat, i < t → so_ft H a2 a3 i = 0 ∧ 0 ≤ H 0 (a3 + i) ∧ H 0 (a3 + i) ≤ 9) (he : (t : Int) = a4 ∨ ¬ (so_ft H a2 a3 t = 0 ∧ 0 ≤ H 0 (a3 + t) ∧ H 0 (a3 + t) ≤ 9)) {K : Int × dz_Z → Prop} (kA : ∀ f : Int, (((t : Int) = a4 ∧ f = 0) ∨ ((t : Int) < a4 ∧ f = so_ft H a2 a3 t ∧ f ≠ 0)) → ∀ m' : ob_O, mr_F 0 P (pf_o P S (fun i => H 0 (a3 + i)) o t) m' → (∀ f : Nat, f ≠ 0 → f ≠ 32 → f ≠ 33 → f ≠ 34 → m' f = m f) → (∀ j : Int, (j < 86 ∨ 138 ≤ j) → m' 0 j = m 0 j) → K ((t : Int), ob_z Y 114 (ob_u m' 45 0 f))) (kB : (t : Int) < a4 → so_ft H a2 a3 t = 0 → K (-20 - (t : Int), ob_z Y 114 m)) : dz_p (jf_M_read a1 a2 a3 a4 (ob_z Y 114 m)) K := by
  unfold jf_M_read
  rw [c1, c2, c4]
  have hgo : ∀ i : Nat, i < t → (0 ≤ a3 + i ∧ a3 + i < 40) ∧ m 44 (40 * a1 + (a3 + i)) = H 0 (a3 + i) ∧ 0 ≤ H 0 (a3 + i) ∧ H 0 (a3 + i) ≤ 9 := fun i hi => by
    have q := hg i hi
    have q2 := ft_0 hH q.1
    exact ⟨q2.1, (q2.2 _ q2.1.1 q2.1.2).2, q.2⟩
  refine dp_no (by omega) (dp_no (by omega) (dp_ck (by omega) ?_))
  refine dp_lp (fun k q => (∃ r : Nat, r ≤ t ∧ r + k = t + 1 ∧ q = (0, (r : Int))) ∨ (q = (so_ft H a2 a3 t, (t : Int)) ∧ (t : Int) < a4 ∧ so_ft H a2 a3 t ≠ 0)) ?_ 5000 (t + 1) (0, 0) (by omega) (Or.inl ⟨0, by omega, by omega, rfl⟩)
  have eft : dz_c (so_ft H a2 a3 t) = so_ft H a2 a3 t := by
    unfold so_ft
    repeat' split
    all_goals decide
  rintro k1 _ (⟨r, hr, hk, rfl⟩ | ⟨rfl, hlt, hf⟩)
  · have er : dz_c (r : Int) = r := dc_ir (by omega) (by omega)
    by_cases hrt : r = t
    · subst hrt
      by_cases h4' : (r : Int) = a4
      · refine dp_ck (by dsimp only; omega) ?_
        exact rp_ref (f := 0) hP hS rP rW rF hn hB (by omega) ha hgo (fun m' x1 x2 x3 => kA 0 (Or.inl ⟨h4', rfl⟩) m' x1 x2 x3)
      · refine dp_no (by dsimp only; omega) (dp_no (by show ¬ dz_c 0 ≠ 0; decide) (dp_ck (by omega) (dp_bi ?_)))
        dsimp only
        rw [oz_s]
        refine ft_m hH ?_ c3 er
        rw [eft]
        refine dp_br (fun hf => dp_ck hf (dp_sm ?_)) (fun hf => ?_)
        · exact ⟨0, by omega, Or.inr ⟨by rw [Int.add_zero], by omega, hf⟩⟩
        · have hf0 : so_ft H a2 a3 r = 0 := by omega
          have q2 := ft_0 hH hf0
          have e3 : dz_c (40 * a1 + a3 + (r : Int)) = 40 * a1 + (a3 + r) := by rw [dc_ir (by omega) (by omega)]; omega
          have q3 := q2.2 _ q2.1.1 q2.1.2
          rw [e3, q3.2, dz_ci q3.1.1 q3.1.2]
          rcases he with he | he
          · exact absurd he h4'
          · exact dp_ck (by omega) (dp_no (fun q => he ⟨hf0, q⟩) (dp_sm (kB (by omega) hf0)))
    · obtain ⟨g1, g2, g3⟩ := hg r (by omega)
      refine dp_no (by dsimp only; omega) (dp_no (by show ¬ dz_c 0 ≠ 0; decide) (dp_ck (by omega) (dp_bi ?_)))
      dsimp only
      rw [oz_s]
      refine ft_m hH ?_ c3 er
      have q2 := ft_0 hH g1
      have e3 : dz_c (40 * a1 + a3 + (r : Int)) = 40 * a1 + (a3 + r) := by rw [dc_ir (by omega) (by omega)]; omega
      have q3 := q2.2 _ q2.1.1 q2.1.2
      rw [g1, e3, q3.2, dz_ci q3.1.1 q3.1.2]
      exact dp_no (by decide) (dp_ck (by omega) (dp_ck ⟨g2, g3⟩ (dp_no (by decide) (dp_sm ⟨k1 - 1, by omega, Or.inl ⟨r + 1, by omega, by omega, rfl⟩⟩))))
  · have er : dz_c (t : Int) = t := dc_ir (by omega) (by omega)
    refine dp_no (by dsimp only; omega) (dp_ck (by dsimp only; rw [eft]; exact hf) ?_)
    exact rp_ref (f := so_ft H a2 a3 t) hP hS rP rW rF hn hB (by omega) ha hgo (fun m' x1 x2 x3 => kA _ (Or.inr ⟨hlt, rfl, hf⟩) m' x1 x2 x3)
theorem rd_r (c1 : dz_c a1 = a1) : jf_O_isRain a1 = some (decide (0 ≤ a1 ∧ a1 ≤ 9)) := by
  unfold jf_O_isRain
  rw [c1]
  by_cases a : a1 < 0
  · rw [if_pos a, decide_eq_false (by omega)]
  · rw [if_neg a]
    by_cases b : 9 < a1
    · rw [if_pos b, decide_eq_false (by omega)]
    · rw [if_neg b, decide_eq_true (by omega)]
theorem op_read (h : iv_Z n Z) (hn : n < 512) (c1 : dz_c a1 = a1) (c2 : dz_c a2 = a2) (c3 : dz_c a3 = a3) (c4 : dz_c a4 = a4) : dz_p (jf_O_read a1 a2 a3 a4 Z) (fun q => dz_p (jf_M_read a1 a2 a3 a4 q.2) (fun q' => iv_Z (n + 1) q'.2 ∧ dz_c q.1 = dz_c q'.1)) := by
  have hs2 := iv_s2 h.1
  have rP := h.2.2.1
  obtain ⟨hS, rS, hB, rF⟩ := h.2.2.2.1
  have bad : ¬((0 ≤ a1 ∧ a1 < 4) ∧ (0 ≤ a2 ∧ a2 < 3) ∧ (0 ≤ a4 ∧ a4 ≤ 12)) → dz_p (jf_M_read a1 a2 a3 a4 Z) (fun q' => iv_Z (n + 1) q'.2 ∧ dz_c (-1) = dz_c q'.1) := by
    intro hv
    unfold jf_M_read
    rw [c1, c2, c4]
    exact dp_br (fun _ => dp_sm ⟨iv_nx h, rfl⟩) (fun x => dp_br (fun _ => dp_sm ⟨iv_nx h, rfl⟩) (fun y => dp_no (by omega) (dp_sm ⟨iv_nx h, rfl⟩)))
  unfold jf_O_read
  refine dp_bi (dp_eq (sh_is c1) ?_)
  simp only [decide_eq_false_iff_not, c1]
  refine dp_br (fun a => dp_sm (bad (by omega))) (fun a => dp_bi (dp_eq (ln_is c2) ?_))
  simp only [decide_eq_false_iff_not, c4]
  refine dp_br (fun b => dp_sm (bad (by omega))) (fun b => dp_br (fun c => dp_sm (bad (by omega))) (fun c => dp_br (fun d => dp_ck (by omega) ?_) (fun d => dp_sm (bad (by omega)))))
  have ha : 0 ≤ a1 ∧ a1 < 4 := by omega
  have hH := iv_sh h ha
  obtain ⟨t, ht, hg, he⟩ := rd_t (fun i : Nat => so_ft (Z (106 + 2 * a1.toNat)) a2 a3 i = 0 ∧ 0 ≤ Z (106 + 2 * a1.toNat) 0 (a3 + i) ∧ Z (106 + 2 * a1.toNat) 0 (a3 + i) ≤ 9) a4.toNat
  have hgo : ∀ i : Nat, i < t → 0 ≤ a3 + i ∧ a3 + i < 40 := fun i hi => (ft_0 hH (hg i hi).1).1
  have he' : (t : Int) = a4 ∨ ¬ (so_ft (Z (106 + 2 * a1.toNat)) a2 a3 t = 0 ∧ 0 ≤ Z (106 + 2 * a1.toNat) 0 (a3 + t) ∧ Z (106 + 2 * a1.toNat) 0 (a3 + t) ≤ 9) := by
    rcases he with q | q
    · exact Or.inl (by omega)
    · exact Or.inr q
  have eft : ∀ t : Nat, dz_c (so_ft (Z (106 + 2 * a1.toNat)) a2 a3 t) = so_ft (Z (106 + 2 * a1.toNat)) a2 a3 t := by
    intro t
    unfold so_ft
    repeat' split
    all_goals decide
  have hfa : ∀ r : Nat, r ≤ 12 → jf_H_faultAt (106 + 2 * a1.toNat) a2 (a3 + (r : Int)) Z = some (so_ft (Z (106 + 2 * a1.toNat)) a2 a3 r) := fun r hr => by
    rw [hf_at hH rfl c2, ft_e hH c3 hr]
  -- the reference, behind a reading
  have modA : ∀ f : Int, (((t : Int) = a4 ∧ f = 0) ∨ ((t : Int) < a4 ∧ f = so_ft (Z (106 + 2 * a1.toNat)) a2 a3 t ∧ f ≠ 0)) → dz_p (jf_M_read a1 a2 a3 a4 (ob_z (ob_z Z 46 (pf_o (Z (iv_p Z)) (Z (iv_s Z)) (fun i => Z (106 + 2 * a1.toNat) 0 (a3 + i)) (Z 46) t)) 0 (ob_u (Z 0) 10 0 f))) (fun q' => iv_Z (n + 1) q'.2 ∧ dz_c (t : Int) = dz_c q'.1) := by
    intro f hf
    generalize hF : pf_o (Z (iv_p Z)) (Z (iv_s Z)) (fun i => Z (106 + 2 * a1.toNat) 0 (a3 + i)) (Z 46) t = F
    have y114 : ob_z (ob_z Z 46 F) 0 (ob_u (Z 0) 10 0 f) 114 = Z 114 := by rw [oz_n (by decide), oz_n (by decide)]
    have ey : ob_z (ob_z Z 46 F) 0 (ob_u (Z 0) 10 0 f) = ob_z (ob_z (ob_z Z 46 F) 0 (ob_u (Z 0) 10 0 f)) 114 (Z 114) := by rw [← y114]; exact oz_i.symm
    rw [ey]
    refine rm_ref hH c1 c2 c3 c4 h.2.1 hS rP rS.1 rF hn hB ha (by omega) (by omega) (by omega) hg he' (fun f' hf' m' x1 x2 x3 => ⟨?_, rfl⟩) (fun q1 q2 => by rcases hf with q | q; exact absurd q.1 (by omega); exact absurd (q.2.1.trans q2) q.2.2)
    have ef : f' = f := by
      rcases hf with q | q
      · rcases hf' with q' | q'
        · rw [q.2, q'.2]
        · omega
      · rcases hf' with q' | q'
        · omega
        · rw [q.2.1, q'.2.1]
    rw [ef]
    have hb := rd_B (R := fun i => Z (106 + 2 * a1.toNat) 0 (a3 + i)) h.2.1 hS hn hB t (by omega) (fun i hi => (hg i hi).2)
    rw [hF] at hb x1
    have i1 : iv_Z (n + 1) (ob_z (ob_z Z 46 F) 114 m') := by
      refine iv_fin h (fun b h46 _ _ _ h114 _ => by rw [oz_n h114, oz_n h46]) ?_ ?_ ?_
      · rw [oz_s, oz_n (show iv_s Z ≠ 114 by omega), oz_n (show iv_s Z ≠ 46 by omega), oz_n (show (46 : Nat) ≠ 114 by decide), oz_s]
        exact ⟨hS, mrS_m rS h.2.1 hS (fun j _ _ => x3 j (by omega)), sB_m hb (by omega) (by omega), x1⟩
      · intro f a b; rw [oz_s, x2 f a (by omega) (by omega) (by omega)]
      · intro j a b; rw [oz_s, x3 j (by omega)]
    unfold iv_Z at i1 ⊢
    dsimp only
    rw [oz_s] at i1 ⊢
    refine iv_to i1 (fun b b0 b114 => ?_) ?_ rfl
    · rw [oz_n b114, oz_n b114, oz_n b0]
    · rw [oz_n (show (0 : Nat) ≠ 114 by decide), oz_s, oz_n (show (0 : Nat) ≠ 114 by decide), oz_n (show (0 : Nat) ≠ 46 by decide)]
  have modB : (t : Int) < a4 → so_ft (Z (106 + 2 * a1.toNat)) a2 a3 t = 0 → dz_p (jf_M_read a1 a2 a3 a4 Z) (fun q' => iv_Z (n + 1) q'.2 ∧ dz_c (-20 - (t : Int)) = dz_c q'.1) := by
    intro q1 q2
    have ey : Z = ob_z Z 114 (Z 114) := oz_i.symm
    rw [ey]
    refine rm_ref hH c1 c2 c3 c4 h.2.1 hS rP rS.1 rF hn hB ha (by omega) (by omega) (by omega) hg he' (fun f' hf' m' x1 x2 x3 => by rcases hf' with q | q; exact absurd q.1 (by omega); exact absurd (q.2.1.trans q2) q.2.2) (fun _ _ => ⟨?_, rfl⟩)
    dsimp only
    rw [← ey]
    exact iv_nx h
  refine dp_lp (fun k q => (∃ r : Nat, r ≤ t ∧ r + k = t + 1 ∧ q = ((r : Int), 0)) ∨ (q = ((t : Int), so_ft (Z (106 + 2 * a1.toNat)) a2 a3 t) ∧ (t : Int) < a4 ∧ so_ft (Z (106 + 2 * a1.toNat)) a2 a3 t ≠ 0)) ?_ 5000 (t + 1) (0, 0) (by omega) (Or.inl ⟨0, by omega, by omega, rfl⟩)
  rintro k1 _ (⟨r, hr, hk, rfl⟩ | ⟨rfl, hlt, hf⟩)
  · have er : dz_c (r : Int) = r := dc_ir (by omega) (by omega)
    by_cases hrt : r = t
    · subst hrt
      by_cases h4' : (r : Int) = a4
      · refine dp_ck (by dsimp only; omega) ?_
        exact rp_cls (f := 0) h (by omega) ha hgo (modA 0 (Or.inl ⟨h4', rfl⟩))
      · refine dp_no (by dsimp only; omega) (dp_no (by show ¬ dz_c 0 ≠ 0; decide) (dp_bi (dp_eq (hfa r (by omega)) ?_)))
        rw [eft]
        refine dp_br (fun hf => dp_sm ⟨0, by omega, Or.inr ⟨rfl, by omega, hf⟩⟩) (fun hf => ?_)
        have hf0 : so_ft (Z (106 + 2 * a1.toNat)) a2 a3 r = 0 := by omega
        have q2 := ft_0 hH hf0
        have e3 : dz_c (a3 + (r : Int)) = a3 + r := dc_ir (by omega) (by omega)
        have q3 := q2.2 _ q2.1.1 q2.1.2
        dsimp only
        rw [e3]
        refine dp_ck (by omega) (dp_bi (dp_eq (rd_r (dz_ci q3.1.1 q3.1.2)) ?_))
        simp only [decide_eq_true_eq]
        rcases he' with he | he
        · exact absurd he h4'
        · exact dp_no (fun q => he ⟨hf0, q⟩) (dp_sm (modB (by omega) hf0))
    · obtain ⟨g1, g2, g3⟩ := hg r (by omega)
      refine dp_no (by dsimp only; omega) (dp_no (by show ¬ dz_c 0 ≠ 0; decide) (dp_bi (dp_eq (hfa r (by omega)) ?_)))
      have q2 := ft_0 hH g1
      have e3 : dz_c (a3 + (r : Int)) = a3 + r := dc_ir (by omega) (by omega)
      have q3 := q2.2 _ q2.1.1 q2.1.2
      dsimp only
      rw [g1, e3]
      refine dp_no (by decide) (dp_ck (by omega) (dp_bi (dp_eq (rd_r (dz_ci q3.1.1 q3.1.2)) ?_)))
      simp only [decide_eq_true_eq]
      exact dp_ck ⟨g2, g3⟩ (dp_sm ⟨k1 - 1, by omega, Or.inl ⟨r + 1, by omega, by omega, rfl⟩⟩)
  · have er : dz_c (t : Int) = t := dc_ir (by omega) (by omega)
    refine dp_no (by dsimp only; omega) (dp_ck (by dsimp only; rw [eft]; exact hf) ?_)
    exact rp_cls (f := so_ft (Z (106 + 2 * a1.toNat)) a2 a3 t) h (by omega) ha hgo (modA _ (Or.inr ⟨hlt, rfl, hf⟩))
end py
end mg_60py
