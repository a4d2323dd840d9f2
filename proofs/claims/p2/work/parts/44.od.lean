/-! tells, dry, water, draws, count -/
def so_dry (o : ob_O) : ob_O := ob_u (ob_u (ob_u (ob_u (ob_u (ob_f (ob_f (ob_f (ob_f (ob_f o 0 (fun _ => 0)) 1 (fun _ => 0)) 2 (fun _ => 0)) 3 (fun _ => 0)) 4 (fun _ => 0)) 5 0 0) 6 0 0) 7 0 0) 8 0 0) 9 0 0
section od
variable {n : Nat} {Z Y : dz_Z} {P S F m o : ob_O} {a1 a2 a3 a4 e v : Int} {c : Nat}
theorem dr_cls : jf_F_dryUp c Z = some (ob_z Z c (so_dry (Z c))) := by
  unfold jf_F_dryUp so_dry
  simp only [dz_a, oz_f, oz_u, oz_s, oz_z]
theorem dr_f : (so_dry o 0 = fun _ => 0) ∧ (so_dry o 1 = fun _ => 0) ∧ (so_dry o 2 = fun _ => 0) ∧ (so_dry o 3 = fun _ => 0) ∧ (so_dry o 4 = fun _ => 0) ∧ so_dry o 5 0 = 0 ∧ so_dry o 6 0 = 0 ∧ so_dry o 7 0 = 0 ∧ so_dry o 8 0 = 0 ∧ so_dry o 9 0 = 0 := by
  unfold so_dry
  refine ⟨?_, ?_, ?_, ?_, ?_, ?_, ?_, ?_, ?_, ?_⟩
  · rw [ou_ff (by decide), ou_ff (by decide), ou_ff (by decide), ou_ff (by decide), ou_ff (by decide), of_n (by decide), of_n (by decide), of_n (by decide), of_n (by decide), of_s]
  · rw [ou_ff (by decide), ou_ff (by decide), ou_ff (by decide), ou_ff (by decide), ou_ff (by decide), of_n (by decide), of_n (by decide), of_n (by decide), of_s]
  · rw [ou_ff (by decide), ou_ff (by decide), ou_ff (by decide), ou_ff (by decide), ou_ff (by decide), of_n (by decide), of_n (by decide), of_s]
  · rw [ou_ff (by decide), ou_ff (by decide), ou_ff (by decide), ou_ff (by decide), ou_ff (by decide), of_n (by decide), of_s]
  · rw [ou_ff (by decide), ou_ff (by decide), ou_ff (by decide), ou_ff (by decide), ou_ff (by decide), of_s]
  · rw [ou_f (by decide), ou_f (by decide), ou_f (by decide), ou_f (by decide), ou_s]
  · rw [ou_f (by decide), ou_f (by decide), ou_f (by decide), ou_s]
  · rw [ou_f (by decide), ou_f (by decide), ou_s]
  · rw [ou_f (by decide), ou_s]
  · rw [ou_s]
/-- a flow that is dry -/
def so_D (o : ob_O) : Prop := (o 0 = fun _ => 0) ∧ (o 1 = fun _ => 0) ∧ (o 2 = fun _ => 0) ∧ (o 3 = fun _ => 0) ∧ (o 4 = fun _ => 0) ∧ o 5 0 = 0 ∧ o 6 0 = 0 ∧ o 7 0 = 0 ∧ o 8 0 = 0 ∧ o 9 0 = 0
theorem dr_B (h : so_D o) {B H : Int} (hB : 0 ≤ B) (hH : 0 ≤ H) : so_B B H o := by
  obtain ⟨h0, h1, h2, h3, h4, -⟩ := h
  unfold so_B
  rw [h0, h1, h2, h3, sm_z]
  exact ⟨fun i _ _ => ⟨Int.le_refl _, Int.le_refl _, ⟨Int.le_refl _, by show (0 : Int) ≤ 30; decide⟩, Int.le_refl _, hH⟩, by omega⟩
theorem dr_F (h : so_D o) (hm : ∀ j : Int, e + 86 ≤ j → j < e + 138 → m 0 j = 0) : mr_F e P o m := by
  obtain ⟨h0, h1, h2, h3, h4, h5, h6, h7, h8, h9⟩ := h
  unfold mr_F
  rw [h0, h1, h2, h3, h4, h5, h6, h7, h8]
  refine ⟨fun i a b => ⟨hm _ (by omega) (by omega), hm _ (by omega) (by omega), hm _ (by omega) (by omega), hm _ (by omega) (by omega), hm _ (by omega) (by omega), ?_, fun _ => ⟨rfl, rfl⟩⟩, hm _ (by omega) (by omega), hm _ (by omega) (by omega), hm _ (by omega) (by omega), hm _ (by omega) (by omega)⟩
  rw [hm _ (by omega) (by omega)]
  exact (if_neg (by show ¬(i < P 6 0 ∧ 0 < P 15 0 ∧ P 15 0 ≤ 0); omega)).symm
theorem dr_ref (he : mr_pg e) {K : dz_Z → Prop} (k : ∀ m' : ob_O, (∀ j : Int, e + 86 ≤ j → j < e + 140 → m' 0 j = 0) → (∀ j : Int, (j < e + 86 ∨ e + 140 ≤ j) → m' 0 j = m 0 j) → (∀ f : Nat, f ≠ 0 → m' f = m f) → K (ob_z Y 114 m')) : dz_p (jf_M_dries e (ob_z Y 114 m)) K := by
  have hpg : 0 ≤ e ∧ e + 140 ≤ 700 := by unfold mr_pg at he; omega
  unfold jf_M_dries
  refine dp_lp (fun k s => ∃ (r : Nat) (m' : ob_O), r + k = 140 ∧ 86 ≤ r ∧ s = ((r : Int), ob_z Y 114 m') ∧ (∀ j : Int, e + 86 ≤ j → j < e + r → m' 0 j = 0) ∧ (∀ j : Int, (j < e + 86 ∨ e + r ≤ j) → m' 0 j = m 0 j) ∧ (∀ f : Nat, f ≠ 0 → m' f = m f)) ?_ 5000 54 (86, ob_z Y 114 m) (by omega) ⟨86, m, by omega, by omega, rfl, fun j a b => absurd b (by omega), fun j _ => rfl, fun f _ => rfl⟩
  rintro k1 _ ⟨r, m', hr, hr86, rfl, h1, h2, h3⟩
  have er : dz_c (r : Int) = r := dc_ir (by omega) (by omega)
  have er2 : dz_c (e + (r : Int)) = e + r := dc_ir (by omega) (by omega)
  simp only [er, er2]
  by_cases hk : r = 140
  · subst hk
    exact dp_ck (by omega) (dp_sm (k m' h1 h2 h3))
  · refine dp_no (by omega) (dp_ck (by omega) (dp_le (dp_sm ⟨k1 - 1, by omega, r + 1, ob_u m' 0 (e + r) 0, by omega, by omega, ?_, fun j a b => ?_, fun j a => ?_, fun f a => ?_⟩)))
    · rw [oz_uz]
      rfl
    · rw [ou_a]
      split
      · rfl
      · exact h1 j a (by omega)
    · rw [ou_i (by omega)]; exact h2 j (by omega)
    · rw [ou_ff a]; exact h3 f a
theorem op_dry (h : iv_Z n Z) : dz_p (jf_O_dry Z) (fun q => dz_p (jf_M_dry q.2) (fun q' => iv_Z (n + 1) q'.2 ∧ dz_c q.1 = dz_c q'.1)) := by
  have hs2 := iv_s2 h.1
  obtain ⟨hS, rS, hB, rF⟩ := h.2.2.2.1
  unfold jf_O_dry jf_M_dry
  refine dp_bi (dp_eq dr_cls (dp_sm ?_))
  have y114 : ob_z Z 46 (so_dry (Z 46)) 114 = Z 114 := oz_n (by decide)
  have ey : ob_z Z 46 (so_dry (Z 46)) = ob_z (ob_z Z 46 (so_dry (Z 46))) 114 (Z 114) := by rw [← y114]; exact oz_i.symm
  dsimp only
  rw [ey]
  refine dp_bi (dr_ref (Or.inl rfl) (fun m' h1 h2 h3 => dp_sm ⟨?_, ?_⟩))
  · dsimp only
    refine iv_fin h (fun b h46 _ _ _ h114 _ => by rw [oz_n h114, oz_n h46]) ?_ ?_ ?_
    · rw [oz_s, oz_n (show iv_s Z ≠ 114 by omega), oz_n (show iv_s Z ≠ 46 by omega), oz_n (show (46 : Nat) ≠ 114 by decide), oz_s]
      exact ⟨hS, mrS_m rS h.2.1 hS (fun j _ _ => h2 j (by omega)), dr_B dr_f (by omega) (by omega), dr_F dr_f (fun j a b => h1 j a (by omega))⟩
    · intro f a _; rw [oz_s, h3 f a]
    · intro j a b; rw [oz_s, h2 j (by omega)]
  · have := rF.2.1
    rw [Int.zero_add] at this
    rw [oz_s, this]
theorem sm_os {b f k : Nat} (hk : k ≤ 1000) : jf_O_sum b f k Z = some (so_sm (Z b f) k) := by
  apply dp_is
  unfold jf_O_sum
  have ek : dz_c (k : Int) = k := dc_ir (by omega) (by omega)
  refine dp_lp (fun j s => ∃ r : Nat, r + j = k ∧ s = (so_sm (Z b f) r, (r : Int))) ?_ 5000 k (0, 0) (by omega) ⟨0, by omega, rfl⟩
  rintro j _ ⟨r, hr, rfl⟩
  have er : dz_c (r : Int) = r := dc_ir (by omega) (by omega)
  simp only [ek, er]
  by_cases hj : r = k
  · subst hj
    exact dp_ck (by omega) (dp_sm rfl)
  · exact dp_no (by omega) (dp_ck (by omega) (dp_sm ⟨j - 1, by omega, r + 1, by omega, rfl⟩))
theorem sm_ms {q : Int} (h0 : 0 ≤ e + q) (h1 : e + q + 8 ≤ 700) : jf_M_sumOf e q Y = some (so_sm (fun i => Y 114 0 (e + q + i)) 8) := by
  apply dp_is
  unfold jf_M_sumOf
  refine dp_lp (fun j s => ∃ r : Nat, r + j = 8 ∧ s = (so_sm (fun i => Y 114 0 (e + q + i)) r, (r : Int))) ?_ 5000 8 (0, 0) (by omega) ⟨0, by omega, rfl⟩
  rintro j _ ⟨r, hr, rfl⟩
  have er : dz_c (r : Int) = r := dc_ir (by omega) (by omega)
  have er2 : dz_c (e + q + (r : Int)) = e + q + r := dc_ir (by omega) (by omega)
  simp only [er, er2]
  by_cases hj : r = 8
  · subst hj
    exact dp_ck (by omega) (dp_sm rfl)
  · exact dp_no (by omega) (dp_ck (by omega) (dp_sm ⟨j - 1, by omega, r + 1, by omega, rfl⟩))
theorem op_water (h : iv_Z n Z) (c1 : dz_c a1 = a1) : dz_p (jf_O_water a1 Z) (fun q => dz_p (jf_M_water a1 Z) (fun q' => dz_c q = dz_c q')) := by
  obtain ⟨-, -, -, rF⟩ := h.2.2.2.1
  obtain ⟨r1, r5, r6, r7, r8⟩ := rF
  rw [Int.zero_add] at r5 r6 r7 r8
  have s0 : so_sm (Z 46 0) 8 = so_sm (fun i => Z 114 0 (0 + 86 + i)) 8 := sm_c 8 (fun i a b => (r1 i a b).1.symm)
  have s3 : so_sm (Z 46 3) 8 = so_sm (fun i => Z 114 0 (0 + 110 + i)) 8 := sm_c 8 (fun i a b => (r1 i a b).2.2.2.1.symm)
  unfold jf_O_water jf_M_water
  simp only [c1, sm_os (show (8 : Nat) ≤ 1000 by decide), sm_ms (e := 0) (q := 86) (by decide) (by decide), sm_ms (e := 0) (q := 110) (by decide) (by decide), Option.bind_some]
  refine dp_br (fun a => dp_sm (dp_ck a (dp_sm (by rw [r5])))) (fun a => ?_)
  refine dp_br (fun b => dp_sm (dp_no a (dp_ck b (dp_sm (by rw [r6]))))) (fun b => ?_)
  refine dp_br (fun c => dp_sm (dp_no a (dp_no b (dp_ck c (dp_sm (by rw [r7])))))) (fun c => ?_)
  refine dp_br (fun d => dp_sm (dp_no a (dp_no b (dp_no c (dp_ck d (dp_sm (by rw [s0]))))))) (fun d => ?_)
  refine dp_br (fun e => dp_sm (dp_no a (dp_no b (dp_no c (dp_no d (dp_ck e (dp_sm (by rw [s3])))))))) (fun e => ?_)
  refine dp_br (fun f => dp_sm (dp_no a (dp_no b (dp_no c (dp_no d (dp_no e (dp_ck f (dp_sm (by rw [r8]))))))))) (fun f => ?_)
  exact dp_sm (dp_no a (dp_no b (dp_no c (dp_no d (dp_no e (dp_no f (dp_sm rfl)))))))
theorem so_S_tune {i : Int} (hS : so_S P S) (hi : 0 ≤ i ∧ i ≤ S 6 0 ∧ i < 12) (hv : 0 ≤ v ∧ v ≤ 255) {k : Int} (hk : k = if i = S 6 0 then 1 else 0) : so_S P (ob_u (ob_u S 5 i v) 6 0 (S 6 0 + k)) := by
  refine ⟨?_, ?_, ?_, ?_, ?_, ?_⟩
  · rw [ou_ff (by decide), ou_ff (by decide)]; exact hS.1
  · rw [ou_ff (by decide), ou_ff (by decide)]; exact hS.2.1
  · rw [ou_ff (by decide), ou_ff (by decide)]; exact hS.2.2.1
  · intro w a b
    rw [ou_ff (by decide), ou_ff (by decide), ou_ff (by omega), ou_ff (by omega)]; exact hS.2.2.2.1 w a b
  · rw [ou_s]
    have := hS.2.2.2.2.1
    split at hk <;> omega
  · intro j a b
    rw [ou_s] at b
    rw [ou_f (by decide), ou_a]
    split
    · exact hv
    · next hj => exact hS.2.2.2.2.2 j a (by split at hk <;> omega)
theorem mr_S_tune {i : Int} (hP : so_P P) (hS : so_S P S) (rS : mr_S 0 P S m) (hi : 0 ≤ i ∧ i ≤ S 6 0 ∧ i < 12) {k : Int} (hk : k = if i = S 6 0 then 1 else 0) : mr_S 0 P (ob_u (ob_u S 5 i v) 6 0 (S 6 0 + k)) (ob_u (ob_u m 0 (74 + i) v) 0 73 (S 6 0 + k)) := by
  have h3 := hP.2.2.1
  have h6 := hP.2.2.2.2.1
  have h10 := hP.2.2.2.2.2.2.1
  refine ⟨⟨fun i a b => ?_, fun i a b => ?_, fun i a b => ?_⟩, fun i a b => ?_, fun w a b => ?_, ?_, fun j a b => ?_⟩
  · rw [ou_i (by omega), ou_i (by omega), ou_f (by decide), ou_f (by decide)]; exact rS.1.1 i a b
  · rw [ou_i (by omega), ou_i (by omega), ou_f (by decide), ou_f (by decide)]; exact rS.1.2.1 i a b
  · rw [ou_i (by omega), ou_i (by omega), ou_i (by omega), ou_i (by omega), ou_i (by omega), ou_i (by omega), ou_f (by decide), ou_f (by decide)]; exact rS.1.2.2 i a b
  · rw [ou_i (by omega), ou_i (by omega), ou_i (by omega), ou_i (by omega), ou_f (by decide), ou_f (by decide)]; exact rS.2.1 i a b
  · have hl := (hS.2.2.2.1 w a b).1
    rw [ou_i (by omega), ou_i (by omega), ou_f (by decide), ou_f (by decide)]
    refine ⟨(rS.2.2.1 w a b).1, fun i c d => ?_⟩
    rw [ou_i (by omega), ou_i (by omega), ou_f (by omega), ou_f (by omega)]; exact (rS.2.2.1 w a b).2 i c d
  · rw [Int.zero_add, ou_s, ou_s]
  · rw [ou_s] at b
    rw [Int.zero_add, ou_i (f := 0) (i := 73) (by omega), ou_a (f := 0), ou_f (f := 6) (by decide), ou_a (f := 5)]
    by_cases c : j = i
    · rw [if_pos (by omega), if_pos c]
    · rw [if_neg (by omega), if_neg c]
      have := rS.2.2.2.2 j a (by split at hk <;> omega)
      rw [Int.zero_add] at this
      exact this
theorem op_tells (h : iv_Z n Z) (c1 : dz_c a1 = a1) (c2 : dz_c a2 = a2) : dz_p (jf_O_tells a1 a2 Z) (fun q => dz_p (jf_M_tells a1 a2 q.2) (fun q' => iv_Z (n + 1) q'.2 ∧ dz_c q.1 = dz_c q'.1)) := by
  have hs := iv_isS h.1
  have hs2 := iv_s2 h.1
  obtain ⟨hS, rS, hB, rF⟩ := h.2.2.2.1
  have h6 := hS.2.2.2.2.1
  have r73 := rS.2.2.2.1
  rw [Int.zero_add] at r73
  have e1 : dz_c (Z (iv_s Z) 6 0) = Z (iv_s Z) 6 0 := dc_ir h6.1 (by omega)
  have bad : ¬(0 ≤ a1 ∧ a1 ≤ Z (iv_s Z) 6 0 ∧ 0 ≤ a2 ∧ a2 ≤ 255) → dz_p (jf_M_tells a1 a2 Z) (fun q' => iv_Z (n + 1) q'.2 ∧ dz_c (-1) = dz_c q'.1) := by
    intro hv
    unfold jf_M_tells
    rw [c1, c2, r73, e1]
    refine dp_br (fun _ => dp_sm ⟨iv_nx h, rfl⟩) (fun x => dp_no (by omega) (dp_sm ⟨iv_nx h, rfl⟩))
  unfold jf_O_tells
  simp only [show (Z 0 3 0).toNat = iv_s Z from rfl, c1, c2, e1]
  refine dp_br (fun a => dp_sm (bad (by omega))) (fun a => dp_ck hs ?_)
  refine dp_br (fun b => dp_sm (bad (by omega))) (fun b => ?_)
  refine dp_br (fun c => dp_sm (bad (by omega))) (fun c => ?_)
  refine dp_br (fun d => ?_) (fun d => dp_sm (bad (by omega)))
  refine dp_br (fun f => ?_) (fun f => dp_sm ?_)
  · refine dp_ck (by omega) (dp_le ?_)
    have z0 : ∀ S' : ob_O, ob_z Z (iv_s Z) S' 0 = Z 0 := fun S' => oz_n (by omega)
    simp only [oz_u, z0, show (Z 0 3 0).toNat = iv_s Z from rfl, oz_s, ou_f (show (6 : Nat) ≠ 5 by decide), e1, oz_z]
    have fin : ∀ k : Int, k = (if a1 = Z (iv_s Z) 6 0 then 1 else 0) → dz_p (jf_M_tells a1 a2 (ob_z Z (iv_s Z) (ob_u (ob_u (Z (iv_s Z)) 5 a1 a2) 6 0 (Z (iv_s Z) 6 0 + k)))) (fun q' => iv_Z (n + 1) q'.2 ∧ dz_c (Z (iv_s Z) 6 0 + k) = dz_c q'.1) := by
      intro k hk
      have y114 : ob_z Z (iv_s Z) (ob_u (ob_u (Z (iv_s Z)) 5 a1 a2) 6 0 (Z (iv_s Z) 6 0 + k)) 114 = Z 114 := oz_n (by omega)
      unfold jf_M_tells
      rw [c1, c2, y114, r73, e1, dc_ir (x := 74 + a1) (by omega) (by omega)]
      refine dp_no (by omega) (dp_ck (by omega) (dp_ck (by omega) (dp_ck (by omega) (dp_le ?_))))
      have e73 : ob_u (Z 114) 0 (74 + a1) a2 0 73 = Z (iv_s Z) 6 0 := by rw [ou_i (by omega)]; exact r73
      simp only [oz_u, oz_s, oz_z, y114, e73, e1]
      refine dp_bi ?_
      have key : dz_p (dz_a (ob_z (ob_z Z (iv_s Z) (ob_u (ob_u (Z (iv_s Z)) 5 a1 a2) 6 0 (Z (iv_s Z) 6 0 + k))) 114 (ob_u (ob_u (Z 114) 0 (74 + a1) a2) 0 73 (Z (iv_s Z) 6 0 + k))) fun Z8 => some (Z8 114 0 73, Z8)) (fun q' => iv_Z (n + 1) q'.2 ∧ dz_c (Z (iv_s Z) 6 0 + k) = dz_c q'.1) := by
        refine dp_le (dp_sm ⟨?_, ?_⟩)
        · obtain ⟨w1, w2, w3, w4⟩ := W_s (Z := Z) (S := ob_u (ob_u (Z (iv_s Z)) 5 a1 a2) 6 0 (Z (iv_s Z) 6 0 + k)) (m := ob_u (ob_u (Z 114) 0 (74 + a1) a2) 0 73 (Z (iv_s Z) 6 0 + k)) hs2
          dsimp only
          refine iv_fin h w4 ?_ ?_ ?_
          · rw [w1, w2, w3]
            exact ⟨so_S_tune hS (by omega) (by omega) hk, mr_S_tune h.2.1 hS rS (by omega) hk, sB_m hB (by omega) (by omega), mrF_m rF (fun j _ _ => by rw [ou_i (by omega), ou_i (by omega)])⟩
          · intro f a _; rw [w3, ou_ff a, ou_ff a]
          · intro j a b; rw [w3, ou_i (by omega), ou_i (by omega)]
        · rw [oz_s, ou_s]
      by_cases ce : a1 = Z (iv_s Z) 6 0
      · rw [if_pos ce] at hk
        subst hk
        exact dp_no (by omega) (dp_sm key)
      · rw [if_neg ce] at hk
        subst hk
        exact dp_ck ce (dp_sm key)
    refine dp_ck hs ?_
    by_cases ce : a1 = Z (iv_s Z) 6 0
    · refine dp_no (by omega) (dp_le ?_)
      simp only [z0, show (Z 0 3 0).toNat = iv_s Z from rfl, oz_s, ou_s]
      exact dp_ck hs (dp_sm (fin 1 (by rw [if_pos ce])))
    · refine dp_ck ce (dp_sm ?_)
      have := fin 0 (by rw [if_neg ce])
      rw [Int.add_zero, show ob_u (ob_u (Z (iv_s Z)) 5 a1 a2) 6 0 (Z (iv_s Z) 6 0) = ob_u (Z (iv_s Z)) 5 a1 a2 from by
        have := ou_m (o := ob_u (Z (iv_s Z)) 5 a1 a2) (f := 6) (i := 0)
        rw [ou_f (by decide)] at this
        exact this] at this
      exact this
  · dsimp only
    unfold jf_M_tells
    rw [c1, c2, r73, e1]
    exact dp_no (by omega) (dp_ck (by omega) (dp_no (by omega) (dp_sm ⟨iv_nx h, rfl⟩)))
end od
