/-! the choice of a setting: what both sides fold over the settings -/
def so_un (v w : Int) : Nat → Int
  | 0 => 0
  | g + 1 => so_un v w g + (if so_dig v g = so_dig w g then 0 else 1)
def so_st (x : Nat → Int) (v d u : Int) : Nat → Int := fun f => if f = 3 then x 3 + 1 else if x 3 = 0 ∨ d < x 1 then (if f = 0 then v else if f = 1 then d else if f = 2 then 1 else if f = 4 then v else u) else if d = x 1 then (if f = 2 then x 2 + 1 else if u < x 5 then (if f = 4 then v else if f = 5 then u else x f) else x f) else x f
def so_ch (ok : Nat → Bool) (d u : Nat → Int) : Nat → Nat → Int
  | 0 => fun _ => 0
  | v + 1 => if ok v = false then so_ch ok d u v else so_st (so_ch ok d u v) v (d v) (u v)
def so_ro (x : Nat → Int) (K : ob_O) : Prop := K 3 0 = x 3 ∧ (x 3 ≠ 0 → K 0 0 = x 0 ∧ K 1 0 = x 1 ∧ K 2 0 = x 2 ∧ K 4 0 = x 4 ∧ K 5 0 = x 5)
section pu
variable {n G : Nat} {P S o m m0 : ob_O} {w v d u a1 a2 now : Int} {Z Y Z' W : dz_Z} {x : Nat → Int} {ok : Nat → Bool} {dd uu : Nat → Int}
theorem un_b : ∀ g : Nat, 0 ≤ so_un v w g ∧ so_un v w g ≤ g
  | 0 => ⟨Int.le_refl _, Int.le_refl _⟩
  | g + 1 => by
    have := un_b g
    show 0 ≤ so_un v w g + _ ∧ so_un v w g + _ ≤ _
    split <;> omega
theorem st_b (hx : ∀ f : Nat, 0 ≤ x f ∧ x f ≤ 300 + n) (hv : 0 ≤ v ∧ v ≤ n) (hd : 0 ≤ d ∧ d ≤ 300) (hu : 0 ≤ u ∧ u ≤ 5) (f : Nat) : 0 ≤ so_st x v d u f ∧ so_st x v d u f ≤ 300 + (n + 1 : Nat) := by
  have h3 := hx 3
  have h2 := hx 2
  have hf := hx f
  unfold so_st
  repeat' split
  all_goals omega
theorem ch_b : ∀ v : Nat, (∀ i : Nat, i < v → 0 ≤ dd i ∧ dd i ≤ 300) → (∀ i : Nat, i < v → 0 ≤ uu i ∧ uu i ≤ 5) → ∀ f : Nat, 0 ≤ so_ch ok dd uu v f ∧ so_ch ok dd uu v f ≤ 300 + v
  | 0, _, _, f => by show (0 : Int) ≤ 0 ∧ (0 : Int) ≤ 300 + (0 : Nat); omega
  | v + 1, hd, hu, f => by
    have ih := ch_b v (fun i hi => hd i (by omega)) (fun i hi => hu i (by omega))
    show 0 ≤ (if ok v = false then so_ch ok dd uu v else so_st (so_ch ok dd uu v) v (dd v) (uu v)) f ∧ (if ok v = false then so_ch ok dd uu v else so_st (so_ch ok dd uu v) v (dd v) (uu v)) f ≤ _
    split
    · have := ih f; omega
    · exact st_b ih (by omega) (hd v (by omega)) (hu v (by omega)) f
theorem un_cls (h6 : Z 65 6 0 = w) (h7 : Z 65 7 0 = (G : Int)) (hG : G ≤ 5) (hv : 0 ≤ v ∧ v ≤ 2147483647) (hw : 0 ≤ w ∧ w ≤ 2147483647) : jf_K_changedPegs v Z = some (so_un v w G) := by
  apply dp_is
  unfold jf_K_changedPegs
  rw [h6, h7]
  refine dp_lp (fun k q => ∃ r : Nat, r + k = G ∧ q = (so_rest w r, so_rest v r, so_un v w r, (r : Int))) ?_ 5000 G (w, v, 0, 0) (by omega) ⟨0, by omega, rfl⟩
  rintro k _ ⟨r, hr, rfl⟩
  have er : dz_c (r : Int) = r := dc_ir (by omega) (by omega)
  have eG : dz_c (G : Int) = G := dc_ir (by omega) (by omega)
  have d1 := st_d hv r
  have d2 := st_d hw r
  have e1 : dz_c (so_dig v r) = so_dig v r := dc_ir (by omega) (by omega)
  have e2 : dz_c (so_dig w r) = so_dig w r := dc_ir (by omega) (by omega)
  dsimp only
  rw [er, eG]
  by_cases hk : r = G
  · subst hk
    exact dp_ck (by omega) (dp_sm rfl)
  · refine dp_no (by omega) (dp_bi ?_)
    show dz_p (if dz_c (so_dig w r) = dz_c (so_dig v r) then some 0 else some 1) _
    rw [e1, e2]
    have key : so_un v w (r + 1) = so_un v w r + (if so_dig v r = so_dig w r then 0 else 1) := rfl
    refine dp_br (fun c => dp_sm (dp_sm ⟨k - 1, by omega, r + 1, by omega, ?_⟩)) (fun c => dp_sm (dp_sm ⟨k - 1, by omega, r + 1, by omega, ?_⟩))
    · rw [key, if_pos c.symm]; rfl
    · rw [key, if_neg (fun q => c q.symm)]; rfl
theorem un_ref (h2 : m 2 0 = (G : Int)) (hG : G ≤ 5) (hv : 0 ≤ v ∧ v ≤ 2147483647) (hw : 0 ≤ w ∧ w ≤ 2147483647) : jf_M_unlikePegs v w (ob_z Y 114 m) = some (so_un v w G) := by
  apply dp_is
  unfold jf_M_unlikePegs
  rw [oz_s, h2]
  refine dp_lp (fun k q => ∃ r : Nat, r + k = G ∧ q = (so_un v w r, so_rest v r, so_rest w r, (r : Int))) ?_ 5000 G (0, v, w, 0) (by omega) ⟨0, by omega, rfl⟩
  rintro k _ ⟨r, hr, rfl⟩
  have er : dz_c (r : Int) = r := dc_ir (by omega) (by omega)
  have eG : dz_c (G : Int) = G := dc_ir (by omega) (by omega)
  have d1 := st_d hv r
  have d2 := st_d hw r
  have e1 : dz_c (so_dig v r) = so_dig v r := dc_ir (by omega) (by omega)
  have e2 : dz_c (so_dig w r) = so_dig w r := dc_ir (by omega) (by omega)
  dsimp only
  rw [er, eG]
  by_cases hk : r = G
  · subst hk
    exact dp_ck (by omega) (dp_sm rfl)
  · refine dp_no (by omega) (dp_bi ?_)
    show dz_p (if dz_c (so_dig v r) ≠ dz_c (so_dig w r) then some 1 else some 0) _
    rw [e1, e2]
    have key : so_un v w (r + 1) = so_un v w r + (if so_dig v r = so_dig w r then 0 else 1) := rfl
    refine dp_br (fun c => dp_sm (dp_sm ⟨k - 1, by omega, r + 1, by omega, ?_⟩)) (fun c => dp_sm (dp_sm ⟨k - 1, by omega, r + 1, by omega, ?_⟩))
    · rw [key, if_neg c]; rfl
    · rw [key, if_pos (by omega)]; rfl
theorem of_cls (hx : so_ro x (Z 65)) (h6 : Z 65 6 0 = w) (h7 : Z 65 7 0 = (G : Int)) (hG : G ≤ 5) (hv : 0 ≤ v ∧ v ≤ 2147483647) (hw : 0 ≤ w ∧ w ≤ 2147483647) (hd : 0 ≤ d ∧ d ≤ 300) (hb : ∀ f : Nat, 0 ≤ x f ∧ x f ≤ 1000) {K : dz_Z → Prop} (k : ∀ K' : ob_O, so_ro (so_st x v d (so_un v w G)) K' → K' 6 0 = w → K' 7 0 = (G : Int) → K (ob_z Z 65 K')) : dz_p (jf_K_offer v d Z) K := by
  obtain ⟨h3, hr⟩ := hx
  have hun := un_b (v := v) (w := w) G
  have b3 := hb 3
  have e3 : dz_c (x 3) = x 3 := dc_ir (by omega) (by omega)
  have ed : dz_c d = d := dc_ir (by omega) (by omega)
  have eu : dz_c (so_un v w G) = so_un v w G := dc_ir (by omega) (by omega)
  unfold jf_K_offer
  refine dp_bi (dp_eq (un_cls h6 h7 hG hv hw) (dp_bi ?_))
  rw [h3, e3, ed]
  by_cases c : x 3 = 0 ∨ d < x 1
  · have t : ∀ K : Int → Prop, K 1 → dz_p (if x 3 = 0 then some 1 else if dz_c (Z 65 1 0) ≤ d then some 0 else some 1) K := by
      intro K hK
      by_cases c0 : x 3 = 0
      · exact dp_ck c0 (dp_sm hK)
      · have b1 := hb 1
        refine dp_no c0 (dp_no ?_ (dp_sm hK))
        rw [(hr c0).2.1, dc_ir (by omega) (by omega)]
        omega
    refine t _ (dp_le (dp_bi (dp_no (by decide) (dp_le (dp_le (dp_le (dp_sm ?_)))))))
    simp only [oz_u, oz_s, oz_z]
    have e1 : ob_u (ob_u (ob_u (ob_u (Z 65) 3 0 (x 3 + 1)) 0 0 v) 1 0 d) 2 0 0 1 0 = d := by
      rw [ou_f (by decide), ou_s]
    rw [e1]
    refine dp_no (by omega) (dp_le (dp_ck (by decide) (dp_le (dp_le (dp_sm ?_)))))
    simp only [oz_u, oz_s, oz_z]
    refine k _ ?_ ?_ ?_
    · have s : ∀ f : Nat, so_st x v d (so_un v w G) f = if f = 3 then x 3 + 1 else (if f = 0 then v else if f = 1 then d else if f = 2 then 1 else if f = 4 then v else so_un v w G) := fun f => by
        unfold so_st
        rw [if_pos c]
      unfold so_ro
      simp [s, ob_u]
    · simp [ob_u, h6]
    · simp [ob_u, h7]
  · have c0 : x 3 ≠ 0 := fun q => c (Or.inl q)
    obtain ⟨r0, r1, r2, r4, r5⟩ := hr c0
    have b1 := hb 1
    have b5 := hb 5
    have e1 : dz_c (x 1) = x 1 := dc_ir (by omega) (by omega)
    have e5 : dz_c (x 5) = x 5 := dc_ir (by omega) (by omega)
    refine dp_no c0 (dp_ck (by rw [r1, e1]; omega) (dp_sm (dp_le (dp_bi (dp_ck (by decide) (dp_sm ?_))))))
    simp only [oz_u, oz_s, oz_z, ou_f (show (1 : Nat) ≠ 3 by decide), ou_f (show (1 : Nat) ≠ 2 by decide), ou_f (show (2 : Nat) ≠ 3 by decide), ou_f (show (5 : Nat) ≠ 3 by decide), ou_f (show (5 : Nat) ≠ 2 by decide), r1, e1, r2, r5, e5, eu]
    have s : ∀ f : Nat, so_st x v d (so_un v w G) f = if f = 3 then x 3 + 1 else if d = x 1 then (if f = 2 then x 2 + 1 else if so_un v w G < x 5 then (if f = 4 then v else if f = 5 then so_un v w G else x f) else x f) else x f := fun f => by
      unfold so_st
      rw [if_neg c]
    by_cases cd : d = x 1
    · refine dp_no (by omega) (dp_le (dp_no (by decide) ?_))
      simp only [oz_u, oz_s, oz_z, ou_f (show (5 : Nat) ≠ 3 by decide), ou_f (show (5 : Nat) ≠ 2 by decide), r5, e5]
      refine dp_br (fun cu => dp_sm (k _ ?_ ?_ ?_)) (fun cu => dp_le (dp_le (dp_sm ?_)))
      · unfold so_ro
        simp only [if_pos cd, if_neg (show ¬ so_un v w G < x 5 by omega)] at s
        simp [s, ob_u, r0, r1, r4, r5]
      · simp [ob_u, h6]
      · simp [ob_u, h7]
      simp only [oz_u, oz_s, oz_z]
      refine k _ ?_ ?_ ?_
      · unfold so_ro
        simp only [if_pos cd, if_pos (show so_un v w G < x 5 by omega)] at s
        simp [s, ob_u, r0, r1, r4, r5]
      · simp [ob_u, h6]
      · simp [ob_u, h7]
    · refine dp_ck (by omega) (dp_sm (k _ ?_ ?_ ?_))
      · unfold so_ro
        simp [s, ob_u, cd, r0, r1, r2, r4, r5]
      · simp [ob_u, h6]
      · simp [ob_u, h7]
theorem st_st (h : (∀ f : Nat, f ≠ 0 → o f = S f) ∧ ∀ i : Int, (i < 0 ∨ (G : Int) ≤ i) → o 0 i = S 0 i) : so_sets v G o = so_sets v G S := by
  funext f i
  by_cases hf : f = 0
  · subst hf
    rw [st_i, st_i]
    split
    · rfl
    · exact h.2 i (by omega)
  · rw [st_f hf, st_f hf, h.1 f hf]
theorem st_sh : (∀ f : Nat, f ≠ 0 → so_sets v G S f = S f) ∧ ∀ i : Int, (i < 0 ∨ (G : Int) ≤ i) → so_sets v G S 0 i = S 0 i := ⟨fun f hf => st_f hf G, fun i hi => by rw [st_i, if_neg (by omega)]⟩
/-- a trial of the class -/
theorem tr_cls {p s : Nat} (hr : iv_R (W 0) (W 1)) (ep : iv_p W = p) (es : iv_s W = s) (wp : W p = P) (ws : W s = S) (hP : so_P P) (hS : so_S P S) (hw : 0 ≤ w ∧ w < P 10 0) (cw : dz_c w = w) {K : dz_Z → Prop} (k : ∀ W' : dz_Z, (∀ b : Nat, b ≠ 54 → b ≠ 55 → W' b = W b) → jf_C_farFromTune s W' = some (so_far P S w 12) → jf_C_wokenSleepers p W' = some (so_wk P (fun i => pf_l P S (S (20 + w.toNat)) ob_0 i.toNat) (S 3 w) (P 11 0).toNat) → K W') : dz_p (jf_C_perform p s w W) K := by
  subst ep es wp ws
  exact cp_pl (iv_isP hr) (iv_isS hr) hP hS hw cw (fun C F c3 ct cf => k _ (fun b x y => by rw [oz_n x, oz_n y]) (fr_cls (iv_isS hr) hP hS hw c3 (fun i hi => (ct i hi).1)) (wk_c2 hr hP hS hw c3 (fun i hi => (ct i hi).2)))
/-- while the class goes through the settings -/
def so_cI (Z : dz_Z) (x : Nat → Int) (Z' : dz_Z) : Prop := (∀ b : Nat, b ≠ iv_s Z → b ≠ 54 → b ≠ 55 → b ≠ 65 → Z' b = Z b) ∧ ((∀ f : Nat, f ≠ 0 → Z' (iv_s Z) f = Z (iv_s Z) f) ∧ ∀ i : Int, (i < 0 ∨ ((Z (iv_p Z) 3 0).toNat : Int) ≤ i) → Z' (iv_s Z) 0 i = Z (iv_s Z) 0 i) ∧ so_ro x (Z' 65) ∧ Z' 65 6 0 = so_num (Z (iv_s Z)) (Z (iv_p Z) 3 0).toNat 0 ∧ Z' 65 7 0 = ((Z (iv_p Z) 3 0).toNat : Int)
theorem cI_b (hr : iv_R (Z 0) (Z 1)) (h3 : 0 ≤ Z (iv_p Z) 3 0) {K : dz_Z → Prop} (k : ∀ Z' : dz_Z, so_cI Z (fun _ => 0) Z' → K Z') : dz_p (jf_K_begin (so_num (Z (iv_s Z)) (Z (iv_p Z) 3 0).toNat 0) (Z (iv_p Z) 3 0) Z) K := by
  have hs2 := iv_s2 hr
  unfold jf_K_begin
  refine dp_le (dp_le (dp_le (dp_sm (k _ ?_))))
  simp only [oz_u, oz_s, oz_z]
  refine ⟨fun b _ _ _ h65 => oz_n h65, ⟨fun f _ => by rw [oz_n (by omega)], fun i _ => by rw [oz_n (by omega)]⟩, ?_, ?_, ?_⟩
  · rw [oz_s]
    unfold so_ro
    simp [ob_u]
  · rw [oz_s]
    simp [ob_u]
  · rw [oz_s]
    simp [ob_u]
    omega
theorem cI_s (hr : iv_R (Z 0) (Z 1)) (h : so_cI Z x Z') : ob_z Z' (iv_s Z) (so_sets v (Z (iv_p Z) 3 0).toNat (Z' (iv_s Z))) = ob_z Z' (iv_s Z) (so_sets v (Z (iv_p Z) 3 0).toNat (Z (iv_s Z))) ∧ so_cI Z x (ob_z Z' (iv_s Z) (so_sets v (Z (iv_p Z) 3 0).toNat (Z (iv_s Z)))) := by
  have hs2 := iv_s2 hr
  obtain ⟨h1, h2, h3, h4, h5⟩ := h
  refine ⟨by rw [st_st h2], fun b a b' c d => by rw [oz_n a, h1 b a b' c d], ?_, ?_, ?_, ?_⟩
  · rw [oz_s]
    exact st_sh
  · rw [oz_n (by omega)]; exact h3
  · rw [oz_n (by omega)]; exact h4
  · rw [oz_n (by omega)]; exact h5
theorem cI_t (hr : iv_R (Z 0) (Z 1)) (h : so_cI Z x Z') (hb : ∀ b : Nat, b ≠ 54 → b ≠ 55 → W b = Z' b) : so_cI Z x W := by
  have hs2 := iv_s2 hr
  obtain ⟨h1, h2, h3, h4, h5⟩ := h
  refine ⟨fun b a b' c d => by rw [hb b b' c, h1 b a b' c d], ?_, ?_, ?_, ?_⟩
  · rw [hb _ (by omega) (by omega)]; exact h2
  · rw [hb _ (by omega) (by omega)]; exact h3
  · rw [hb _ (by omega) (by omega)]; exact h4
  · rw [hb _ (by omega) (by omega)]; exact h5
theorem cI_0 (hr : iv_R (Z 0) (Z 1)) (h : so_cI Z x Z') : Z' 0 = Z 0 ∧ Z' 1 = Z 1 ∧ Z' (iv_p Z) = Z (iv_p Z) := by
  have hs2 := iv_s2 hr
  have hp2 := iv_p2 hr
  exact ⟨h.1 0 (by omega) (by decide) (by decide) (by decide), h.1 1 (by omega) (by decide) (by decide) (by decide), h.1 _ (by omega) (by omega) (by omega) (by omega)⟩
theorem cI_o (hr : iv_R (Z 0) (Z 1)) (hP : so_P (Z (iv_p Z))) (hS : so_S (Z (iv_p Z)) (Z (iv_s Z))) (h : so_cI Z x Z') (hv : 0 ≤ v ∧ v ≤ 2147483647) (hd : 0 ≤ d ∧ d ≤ 300) (hb : ∀ f : Nat, 0 ≤ x f ∧ x f ≤ 1000) {K : dz_Z → Prop} (k : ∀ Z2 : dz_Z, so_cI Z (so_st x v d (so_un v (so_num (Z (iv_s Z)) (Z (iv_p Z) 3 0).toNat 0) (Z (iv_p Z) 3 0).toNat)) Z2 → K Z2) : dz_p (jf_K_offer v d Z') K := by
  have hs2 := iv_s2 hr
  have h3 := hP.2.2.1
  have hi := st_inv (S := Z (iv_s Z)) (G := (Z (iv_p Z) 3 0).toNat) (by omega) (fun g a b => hS.1 g a (by omega))
  obtain ⟨h1, h2, h3', h4, h5⟩ := h
  refine of_cls h3' h4 h5 (by omega) hv (by omega) hd hb (fun K' r1 r2 r3 => k _ ⟨fun b a b' c d => by rw [oz_n d, h1 b a b' c d], ?_, ?_, ?_, ?_⟩)
  · rw [oz_n (by omega)]; exact h2
  · rw [oz_s]; exact r1
  · rw [oz_s]; exact r2
  · rw [oz_s]; exact r3
theorem cI_e (hr : iv_R (Z 0) (Z 1)) (hP : so_P (Z (iv_p Z))) (hS : so_S (Z (iv_p Z)) (Z (iv_s Z))) (h : so_cI Z x Z') (b : Nat) (b1 : b ≠ 54) (b2 : b ≠ 55) (b3 : b ≠ 65) : ob_z Z' (iv_s Z) (so_sets (so_num (Z (iv_s Z)) (Z (iv_p Z) 3 0).toNat 0) (Z (iv_p Z) 3 0).toNat (Z' (iv_s Z))) b = Z b := by
  have h3 := hP.2.2.1
  by_cases hb : b = iv_s Z
  · rw [hb, oz_s]
    exact st_bk (by omega) (fun g a b => hS.1 g a (by omega)) (fun g a b => rfl) h.2.1.1 h.2.1.2
  · rw [oz_n hb, h.1 b hb b1 b2 b3]
def so_dw (P S : ob_O) (w : Int) (v : Nat) : Int := so_far P (so_sets v (P 3 0).toNat S) w 12
def so_uv (P S : ob_O) (v : Nat) : Int := so_un v (so_num S (P 3 0).toNat 0) (P 3 0).toNat
def so_wv (P S : ob_O) (w : Int) (v : Nat) : Int := so_wk P (fun i => pf_l P (so_sets v (P 3 0).toNat S) (so_sets v (P 3 0).toNat S (20 + w.toNat)) ob_0 i.toNat) (so_sets v (P 3 0).toNat S 3 w) (P 11 0).toNat
def so_ov (P S : ob_O) (w a2 : Int) (v : Nat) : Bool := decide (a2 = 0 ∨ dz_c (so_wv P S w v) = 0)
theorem dw_b (hP : so_P P) (hS : so_S P S) (hw : 0 ≤ w ∧ w < P 10 0) (v : Nat) (hv : v ≤ 1000) : 0 ≤ so_dw P S w v ∧ so_dw P S w v ≤ 96 := far_b hP (st_S hP hS (by omega)) hw 12 (by omega)
end pu
