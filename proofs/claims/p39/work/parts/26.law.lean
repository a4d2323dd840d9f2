section mg_26law
/-! the law as a program, and what is wanted of the mini-machine out of it -/
def dz_sc (xs : List Int32) (j : Int) : Int := (xs.getD j.toNat 0).toInt
section sx
variable {Dp : Nat} {r : mm_R} {pc pc' : Nat} {ls : mm_L} {t : List Value} {h : mm_H} {Q : Option Value → mm_H → Prop} {j j' : Int} {xs : List Int32}
theorem wq_sx (hat : mm_at r pc = some (.iaload, 1)) (hj : dz_c j = j') (h0 : 0 ≤ j') (h1 : j' < (xs.length : Int)) (hp : pc + 1 = pc') (kk : mm_Wp (some xs) Dp r pc' ls (dz_I (dz_sc xs j') :: t) h Q) : mm_Wp (some xs) Dp r pc ls (dz_I j :: .retAddr 0 :: t) h Q := by
  subst hp
  refine wp_s hat (ls' := ls) (st' := dz_I (dz_sc xs j') :: t) (h' := h) ?_ kk
  have e : mm_g1 (some xs) .iaload (dz_I j :: .retAddr 0 :: t) h = some (dz_I (dz_sc xs j') :: t) := by
    unfold mm_g1
    simp only [dz_in hj h0 h1, cond_true]
    rw [dz_tn, hj]
    unfold dz_sc
    show some (Value.int _ :: t) = some (Value.int (Int32.ofInt (xs.getD j'.toNat 0).toInt) :: t)
    rw [dz_oc]
  show (match mm_g1 (some xs) .iaload (dz_I j :: .retAddr 0 :: t) h with | some t => (.inl (some (pc + 1, ls, t, h)) : mm_O) | none => .inl ((mm_g2 .iaload (dz_I j :: .retAddr 0 :: t) h).map (fun q : List Value × mm_H => (pc + 1, ls, q.1, q.2)))) = _
  rw [e]
theorem wq_sl (hat : mm_at r pc = some (.arraylength, 1)) (hp : pc + 1 = pc') (kk : mm_Wp (some xs) Dp r pc' ls (dz_I (xs.length : Int) :: t) h Q) : mm_Wp (some xs) Dp r pc ls (.retAddr 0 :: t) h Q := by
  subst hp
  exact wp_s hat (ls' := ls) (st' := dz_I (xs.length : Int) :: t) (h' := h) rfl kk
end sx
def jf_L (xs : List Int32) (Z : dz_Z) : Option (Bool × dz_Z) := dz_lp (fun (s1 : Int × dz_Z) => if dz_c ((xs.length : Int) - 5) < dz_c s1.1 then (some (Sum.inr (true, s1.2))) else (if 0 ≤ dz_c s1.1 ∧ dz_c s1.1 < (xs.length : Int) then if dz_c (dz_an (dz_sc xs (dz_c s1.1)) 63) = 0 then (if 0 ≤ dz_c (s1.1 + 1) ∧ dz_c (s1.1 + 1) < (xs.length : Int) then if 0 ≤ dz_c (s1.1 + 2) ∧ dz_c (s1.1 + 2) < (xs.length : Int) then Option.bind (jf_O_feed (dz_lor (dz_lsl (dz_c (dz_sc xs (dz_c (s1.1 + 1)))) 32) (dz_lan (dz_c (dz_sc xs (dz_c (s1.1 + 2)))) 4294967295)) s1.2) fun q7 => Option.bind (jf_M_feed (dz_lor (dz_lsl (dz_c (dz_sc xs (dz_c (s1.1 + 1)))) 32) (dz_lan (dz_c (dz_sc xs (dz_c (s1.1 + 2)))) 4294967295)) q7.2) fun q8 => some (Sum.inl (s1.1 + 5, q8.2)) else none else none) else (if dz_c (dz_an (dz_sc xs (dz_c s1.1)) 63) = 1 then (if 0 ≤ dz_c (s1.1 + 1) ∧ dz_c (s1.1 + 1) < (xs.length : Int) then Option.bind (jf_O_end (dz_sc xs (dz_c (s1.1 + 1))) s1.2) fun q11 => Option.bind (jf_M_end (dz_sc xs (dz_c (s1.1 + 1))) q11.2) fun q12 => some (Sum.inl (s1.1 + 5, q12.2)) else none) else (if dz_c (dz_an (dz_sc xs (dz_c s1.1)) 63) = 2 then (Option.bind (jf_O_organ s1.2) fun q14 => Option.bind (jf_M_organ q14.2) fun q15 => some (Sum.inl (s1.1 + 5, q15.2))) else (if dz_c (dz_an (dz_sc xs (dz_c s1.1)) 63) = 3 then (Option.bind (jf_O_fault s1.2) fun q17 => Option.bind (jf_M_fault s1.2) fun q18 => some (Sum.inl (s1.1 + 5, s1.2))) else (if dz_c (dz_an (dz_sc xs (dz_c s1.1)) 63) = 4 then (if 0 ≤ dz_c (s1.1 + 1) ∧ dz_c (s1.1 + 1) < (xs.length : Int) then Option.bind (jf_O_rule (dz_sc xs (dz_c (s1.1 + 1))) s1.2) fun q21 => Option.bind (jf_M_rule (dz_sc xs (dz_c (s1.1 + 1))) s1.2) fun q22 => some (Sum.inl (s1.1 + 5, s1.2)) else none) else (if dz_c (dz_an (dz_sc xs (dz_c s1.1)) 63) = 5 then (if 0 ≤ dz_c (s1.1 + 1) ∧ dz_c (s1.1 + 1) < (xs.length : Int) then if 0 ≤ dz_c (s1.1 + 2) ∧ dz_c (s1.1 + 2) < (xs.length : Int) then Option.bind (jf_O_gutter (dz_sc xs (dz_c (s1.1 + 1))) (dz_sc xs (dz_c (s1.1 + 2))) s1.2) fun q26 => Option.bind (jf_M_gutter (dz_sc xs (dz_c (s1.1 + 1))) (dz_sc xs (dz_c (s1.1 + 2))) s1.2) fun q27 => some (Sum.inl (s1.1 + 5, s1.2)) else none else none) else (if dz_c (dz_an (dz_sc xs (dz_c s1.1)) 63) = 6 then (if 0 ≤ dz_c (s1.1 + 1) ∧ dz_c (s1.1 + 1) < (xs.length : Int) then if 0 ≤ dz_c (s1.1 + 2) ∧ dz_c (s1.1 + 2) < (xs.length : Int) then Option.bind (jf_O_spout (dz_sc xs (dz_c (s1.1 + 1))) (dz_sc xs (dz_c (s1.1 + 2))) s1.2) fun q31 => Option.bind (jf_M_spout (dz_sc xs (dz_c (s1.1 + 1))) (dz_sc xs (dz_c (s1.1 + 2))) s1.2) fun q32 => some (Sum.inl (s1.1 + 5, s1.2)) else none else none) else (if dz_c (dz_an (dz_sc xs (dz_c s1.1)) 63) = 7 then (if 0 ≤ dz_c (s1.1 + 1) ∧ dz_c (s1.1 + 1) < (xs.length : Int) then if 0 ≤ dz_c (s1.1 + 2) ∧ dz_c (s1.1 + 2) < (xs.length : Int) then Option.bind (jf_O_peg (dz_sc xs (dz_c (s1.1 + 1))) (dz_sc xs (dz_c (s1.1 + 2))) s1.2) fun q36 => Option.bind (jf_M_peg (dz_sc xs (dz_c (s1.1 + 1))) (dz_sc xs (dz_c (s1.1 + 2))) q36.2) fun q37 => some (Sum.inl (s1.1 + 5, q37.2)) else none else none) else (if dz_c (dz_an (dz_sc xs (dz_c s1.1)) 63) = 8 then (if 0 ≤ dz_c (s1.1 + 1) ∧ dz_c (s1.1 + 1) < (xs.length : Int) then if 0 ≤ dz_c (s1.1 + 2) ∧ dz_c (s1.1 + 2) < (xs.length : Int) then Option.bind (α := Int) (if dz_c (dz_sc xs (dz_c (s1.1 + 2))) = 0 then (some 0) else (some 1)) (fun (q42 : Int) => Option.bind (jf_O_block (dz_sc xs (dz_c (s1.1 + 1))) q42 s1.2) fun q43 => Option.bind (α := Int) (if dz_c (dz_sc xs (dz_c (s1.1 + 2))) = 0 then (some 0) else (some 1)) (fun (q45 : Int) => Option.bind (jf_M_block (dz_sc xs (dz_c (s1.1 + 1))) q45 q43.2) fun q46 => some (Sum.inl (s1.1 + 5, q46.2)))) else none else none) else (if dz_c (dz_an (dz_sc xs (dz_c s1.1)) 63) = 9 then (if 0 ≤ dz_c (s1.1 + 1) ∧ dz_c (s1.1 + 1) < (xs.length : Int) then if 0 ≤ dz_c (s1.1 + 2) ∧ dz_c (s1.1 + 2) < (xs.length : Int) then Option.bind (jf_O_cup (dz_sc xs (dz_c (s1.1 + 1))) (dz_sc xs (dz_c (s1.1 + 2))) s1.2) fun q52 => Option.bind (jf_M_cup (dz_sc xs (dz_c (s1.1 + 1))) (dz_sc xs (dz_c (s1.1 + 2))) q52.2) fun q53 => some (Sum.inl (s1.1 + 5, q53.2)) else none else none) else (if dz_c (dz_an (dz_sc xs (dz_c s1.1)) 63) = 10 then (if 0 ≤ dz_c (s1.1 + 1) ∧ dz_c (s1.1 + 1) < (xs.length : Int) then Option.bind (jf_O_settings (dz_sc xs (dz_c (s1.1 + 1))) s1.2) fun q56 => Option.bind (jf_M_settings (dz_sc xs (dz_c (s1.1 + 1))) q56.2) fun q57 => some (Sum.inl (s1.1 + 5, q57.2)) else none) else (if dz_c (dz_an (dz_sc xs (dz_c s1.1)) 63) = 11 then (if 0 ≤ dz_c (s1.1 + 1) ∧ dz_c (s1.1 + 1) < (xs.length : Int) then Option.bind (jf_O_rain (dz_sc xs (dz_c (s1.1 + 1))) s1.2) fun q60 => Option.bind (jf_M_rain (dz_sc xs (dz_c (s1.1 + 1))) q60.2) fun q61 => some (Sum.inl (s1.1 + 5, q61.2)) else none) else (if dz_c (dz_an (dz_sc xs (dz_c s1.1)) 63) = 12 then (Option.bind (jf_O_dry s1.2) fun q63 => Option.bind (jf_M_dry q63.2) fun q64 => some (Sum.inl (s1.1 + 5, q64.2))) else (if dz_c (dz_an (dz_sc xs (dz_c s1.1)) 63) = 13 then (if 0 ≤ dz_c (s1.1 + 1) ∧ dz_c (s1.1 + 1) < (xs.length : Int) then Option.bind (jf_O_water (dz_sc xs (dz_c (s1.1 + 1))) s1.2) fun q67 => Option.bind (jf_M_water (dz_sc xs (dz_c (s1.1 + 1))) s1.2) fun q68 => some (Sum.inl (s1.1 + 5, s1.2)) else none) else (if dz_c (dz_an (dz_sc xs (dz_c s1.1)) 63) = 14 then (if 0 ≤ dz_c (s1.1 + 1) ∧ dz_c (s1.1 + 1) < (xs.length : Int) then Option.bind (jf_O_loud (dz_sc xs (dz_c (s1.1 + 1))) s1.2) fun q71 => Option.bind (jf_M_loud (dz_sc xs (dz_c (s1.1 + 1))) s1.2) fun q72 => some (Sum.inl (s1.1 + 5, s1.2)) else none) else (if dz_c (dz_an (dz_sc xs (dz_c s1.1)) 63) = 15 then (if 0 ≤ dz_c (s1.1 + 1) ∧ dz_c (s1.1 + 1) < (xs.length : Int) then if 0 ≤ dz_c (s1.1 + 2) ∧ dz_c (s1.1 + 2) < (xs.length : Int) then Option.bind (jf_O_shower (dz_sc xs (dz_c (s1.1 + 1))) (dz_sc xs (dz_c (s1.1 + 2))) s1.2) fun q76 => Option.bind (jf_M_shower (dz_sc xs (dz_c (s1.1 + 1))) (dz_sc xs (dz_c (s1.1 + 2))) s1.2) fun q77 => some (Sum.inl (s1.1 + 5, s1.2)) else none else none) else (if dz_c (dz_an (dz_sc xs (dz_c s1.1)) 63) = 16 then (if 0 ≤ dz_c (s1.1 + 1) ∧ dz_c (s1.1 + 1) < (xs.length : Int) then if 0 ≤ dz_c (s1.1 + 2) ∧ dz_c (s1.1 + 2) < (xs.length : Int) then Option.bind (jf_O_plays (dz_sc xs (dz_c (s1.1 + 1))) (dz_sc xs (dz_c (s1.1 + 2))) s1.2) fun q81 => Option.bind (jf_M_plays (dz_sc xs (dz_c (s1.1 + 1))) (dz_sc xs (dz_c (s1.1 + 2))) q81.2) fun q82 => some (Sum.inl (s1.1 + 5, q82.2)) else none else none) else (if dz_c (dz_an (dz_sc xs (dz_c s1.1)) 63) = 17 then (if 0 ≤ dz_c (s1.1 + 1) ∧ dz_c (s1.1 + 1) < (xs.length : Int) then if 0 ≤ dz_c (s1.1 + 2) ∧ dz_c (s1.1 + 2) < (xs.length : Int) then Option.bind (jf_O_falls (dz_sc xs (dz_c (s1.1 + 1))) (dz_sc xs (dz_c (s1.1 + 2))) s1.2) fun q86 => Option.bind (jf_M_falls (dz_sc xs (dz_c (s1.1 + 1))) (dz_sc xs (dz_c (s1.1 + 2))) q86.2) fun q87 => some (Sum.inl (s1.1 + 5, q87.2)) else none else none) else (if dz_c (dz_an (dz_sc xs (dz_c s1.1)) 63) = 18 then (if 0 ≤ dz_c (s1.1 + 1) ∧ dz_c (s1.1 + 1) < (xs.length : Int) then Option.bind (jf_O_tune (dz_sc xs (dz_c (s1.1 + 1))) s1.2) fun q90 => Option.bind (jf_M_tune (dz_sc xs (dz_c (s1.1 + 1))) s1.2) fun q91 => some (Sum.inl (s1.1 + 5, s1.2)) else none) else (if dz_c (dz_an (dz_sc xs (dz_c s1.1)) 63) = 19 then (if 0 ≤ dz_c (s1.1 + 1) ∧ dz_c (s1.1 + 1) < (xs.length : Int) then if 0 ≤ dz_c (s1.1 + 2) ∧ dz_c (s1.1 + 2) < (xs.length : Int) then Option.bind (jf_O_tells (dz_sc xs (dz_c (s1.1 + 1))) (dz_sc xs (dz_c (s1.1 + 2))) s1.2) fun q95 => Option.bind (jf_M_tells (dz_sc xs (dz_c (s1.1 + 1))) (dz_sc xs (dz_c (s1.1 + 2))) q95.2) fun q96 => some (Sum.inl (s1.1 + 5, q96.2)) else none else none) else (if dz_c (dz_an (dz_sc xs (dz_c s1.1)) 63) = 20 then (if 0 ≤ dz_c (s1.1 + 1) ∧ dz_c (s1.1 + 1) < (xs.length : Int) then Option.bind (jf_O_far (dz_sc xs (dz_c (s1.1 + 1))) s1.2) fun q99 => Option.bind (jf_M_far (dz_sc xs (dz_c (s1.1 + 1))) q99.2) fun q100 => some (Sum.inl (s1.1 + 5, q100.2)) else none) else (if dz_c (dz_an (dz_sc xs (dz_c s1.1)) 63) = 21 then (if 0 ≤ dz_c (s1.1 + 1) ∧ dz_c (s1.1 + 1) < (xs.length : Int) then if 0 ≤ dz_c (s1.1 + 2) ∧ dz_c (s1.1 + 2) < (xs.length : Int) then Option.bind (jf_O_best (dz_sc xs (dz_c (s1.1 + 1))) (dz_sc xs (dz_c (s1.1 + 2))) s1.2) fun q104 => Option.bind (jf_M_best (dz_sc xs (dz_c (s1.1 + 1))) (dz_sc xs (dz_c (s1.1 + 2))) q104.2) fun q105 => some (Sum.inl (s1.1 + 5, q105.2)) else none else none) else (if dz_c (dz_an (dz_sc xs (dz_c s1.1)) 63) = 22 then (if 0 ≤ dz_c (s1.1 + 1) ∧ dz_c (s1.1 + 1) < (xs.length : Int) then if 0 ≤ dz_c (s1.1 + 2) ∧ dz_c (s1.1 + 2) < (xs.length : Int) then Option.bind (jf_O_fewest (dz_sc xs (dz_c (s1.1 + 1))) (dz_sc xs (dz_c (s1.1 + 2))) s1.2) fun q109 => Option.bind (jf_M_fewest (dz_sc xs (dz_c (s1.1 + 1))) (dz_sc xs (dz_c (s1.1 + 2))) q109.2) fun q110 => some (Sum.inl (s1.1 + 5, q110.2)) else none else none) else (if dz_c (dz_an (dz_sc xs (dz_c s1.1)) 63) = 23 then (if 0 ≤ dz_c (s1.1 + 1) ∧ dz_c (s1.1 + 1) < (xs.length : Int) then Option.bind (jf_O_all (dz_sc xs (dz_c (s1.1 + 1))) s1.2) fun q113 => Option.bind (jf_M_all (dz_sc xs (dz_c (s1.1 + 1))) q113.2) fun q114 => some (Sum.inl (s1.1 + 5, q114.2)) else none) else (if dz_c (dz_an (dz_sc xs (dz_c s1.1)) 63) = 24 then (if 0 ≤ dz_c (s1.1 + 1) ∧ dz_c (s1.1 + 1) < (xs.length : Int) then if 0 ≤ dz_c (s1.1 + 2) ∧ dz_c (s1.1 + 2) < (xs.length : Int) then Option.bind (jf_O_quiet (dz_sc xs (dz_c (s1.1 + 1))) (dz_sc xs (dz_c (s1.1 + 2))) s1.2) fun q118 => Option.bind (jf_M_quiet (dz_sc xs (dz_c (s1.1 + 1))) (dz_sc xs (dz_c (s1.1 + 2))) q118.2) fun q119 => some (Sum.inl (s1.1 + 5, q119.2)) else none else none) else (if dz_c (dz_an (dz_sc xs (dz_c s1.1)) 63) = 25 then (if 0 ≤ dz_c (s1.1 + 1) ∧ dz_c (s1.1 + 1) < (xs.length : Int) then Option.bind (jf_O_woken (dz_sc xs (dz_c (s1.1 + 1))) s1.2) fun q122 => Option.bind (jf_M_woken (dz_sc xs (dz_c (s1.1 + 1))) q122.2) fun q123 => some (Sum.inl (s1.1 + 5, q123.2)) else none) else (if dz_c (dz_an (dz_sc xs (dz_c s1.1)) 63) = 26 then (if 0 ≤ dz_c (s1.1 + 1) ∧ dz_c (s1.1 + 1) < (xs.length : Int) then Option.bind (jf_O_heard (dz_sc xs (dz_c (s1.1 + 1))) s1.2) fun q126 => Option.bind (jf_M_heard (dz_sc xs (dz_c (s1.1 + 1))) q126.2) fun q127 => some (Sum.inl (s1.1 + 5, q127.2)) else none) else (if dz_c (dz_an (dz_sc xs (dz_c s1.1)) 63) = 27 then (if 0 ≤ dz_c (s1.1 + 1) ∧ dz_c (s1.1 + 1) < (xs.length : Int) then Option.bind (jf_O_blocked (dz_sc xs (dz_c (s1.1 + 1))) s1.2) fun q130 => Option.bind (jf_M_blocked (dz_sc xs (dz_c (s1.1 + 1))) q130.2) fun q131 => some (Sum.inl (s1.1 + 5, q131.2)) else none) else (if dz_c (dz_an (dz_sc xs (dz_c s1.1)) 63) = 28 then (if 0 ≤ dz_c (s1.1 + 1) ∧ dz_c (s1.1 + 1) < (xs.length : Int) then Option.bind (jf_O_frozen (dz_sc xs (dz_c (s1.1 + 1))) s1.2) fun q134 => Option.bind (jf_M_frozen (dz_sc xs (dz_c (s1.1 + 1))) q134.2) fun q135 => some (Sum.inl (s1.1 + 5, q135.2)) else none) else (if dz_c (dz_an (dz_sc xs (dz_c s1.1)) 63) = 29 then (if 0 ≤ dz_c (s1.1 + 1) ∧ dz_c (s1.1 + 1) < (xs.length : Int) then if 0 ≤ dz_c (s1.1 + 2) ∧ dz_c (s1.1 + 2) < (xs.length : Int) then Option.bind (jf_O_lasts (dz_sc xs (dz_c (s1.1 + 1))) (dz_sc xs (dz_c (s1.1 + 2))) s1.2) fun q139 => Option.bind (jf_M_lasts (dz_sc xs (dz_c (s1.1 + 1))) (dz_sc xs (dz_c (s1.1 + 2))) q139.2) fun q140 => some (Sum.inl (s1.1 + 5, q140.2)) else none else none) else (if dz_c (dz_an (dz_sc xs (dz_c s1.1)) 63) = 30 then (if 0 ≤ dz_c (s1.1 + 1) ∧ dz_c (s1.1 + 1) < (xs.length : Int) then if 0 ≤ dz_c (s1.1 + 2) ∧ dz_c (s1.1 + 2) < (xs.length : Int) then if 0 ≤ dz_c (s1.1 + 3) ∧ dz_c (s1.1 + 3) < (xs.length : Int) then if 0 ≤ dz_c (s1.1 + 4) ∧ dz_c (s1.1 + 4) < (xs.length : Int) then Option.bind (jf_O_draws (dz_sc xs (dz_c (s1.1 + 1))) (dz_sc xs (dz_c (s1.1 + 2))) (dz_sc xs (dz_c (s1.1 + 3))) (dz_sc xs (dz_c (s1.1 + 4))) s1.2) fun q146 => Option.bind (jf_M_draws (dz_sc xs (dz_c (s1.1 + 1))) (dz_sc xs (dz_c (s1.1 + 2))) (dz_sc xs (dz_c (s1.1 + 3))) (dz_sc xs (dz_c (s1.1 + 4))) q146.2) fun q147 => some (Sum.inl (s1.1 + 5, q147.2)) else none else none else none else none) else (if dz_c (dz_an (dz_sc xs (dz_c s1.1)) 63) = 31 then (if 0 ≤ dz_c (s1.1 + 1) ∧ dz_c (s1.1 + 1) < (xs.length : Int) then Option.bind (jf_O_keep (dz_sc xs (dz_c (s1.1 + 1))) s1.2) fun q150 => Option.bind (jf_M_keep (dz_sc xs (dz_c (s1.1 + 1))) q150.2) fun q151 => some (Sum.inl (s1.1 + 5, q151.2)) else none) else (if dz_c (dz_an (dz_sc xs (dz_c s1.1)) 63) = 32 then (if 0 ≤ dz_c (s1.1 + 1) ∧ dz_c (s1.1 + 1) < (xs.length : Int) then Option.bind (jf_O_back (dz_sc xs (dz_c (s1.1 + 1))) s1.2) fun q154 => Option.bind (jf_M_back (dz_sc xs (dz_c (s1.1 + 1))) q154.2) fun q155 => some (Sum.inl (s1.1 + 5, q155.2)) else none) else (if dz_c (dz_an (dz_sc xs (dz_c s1.1)) 63) = 33 then (if 0 ≤ dz_c (s1.1 + 1) ∧ dz_c (s1.1 + 1) < (xs.length : Int) then if 0 ≤ dz_c (s1.1 + 2) ∧ dz_c (s1.1 + 2) < (xs.length : Int) then if 0 ≤ dz_c (s1.1 + 3) ∧ dz_c (s1.1 + 3) < (xs.length : Int) then Option.bind (jf_O_sheet (dz_sc xs (dz_c (s1.1 + 1))) (dz_sc xs (dz_c (s1.1 + 2))) (dz_sc xs (dz_c (s1.1 + 3))) s1.2) fun q160 => Option.bind (jf_M_sheet (dz_sc xs (dz_c (s1.1 + 1))) (dz_sc xs (dz_c (s1.1 + 2))) (dz_sc xs (dz_c (s1.1 + 3))) q160.2) fun q161 => some (Sum.inl (s1.1 + 5, q161.2)) else none else none else none) else (if dz_c (dz_an (dz_sc xs (dz_c s1.1)) 63) = 34 then (if 0 ≤ dz_c (s1.1 + 1) ∧ dz_c (s1.1 + 1) < (xs.length : Int) then if 0 ≤ dz_c (s1.1 + 2) ∧ dz_c (s1.1 + 2) < (xs.length : Int) then if 0 ≤ dz_c (s1.1 + 3) ∧ dz_c (s1.1 + 3) < (xs.length : Int) then Option.bind (jf_O_lay (dz_sc xs (dz_c (s1.1 + 1))) (dz_sc xs (dz_c (s1.1 + 2))) (dz_sc xs (dz_c (s1.1 + 3))) s1.2) fun q166 => Option.bind (jf_M_lay (dz_sc xs (dz_c (s1.1 + 1))) (dz_sc xs (dz_c (s1.1 + 2))) (dz_sc xs (dz_c (s1.1 + 3))) q166.2) fun q167 => some (Sum.inl (s1.1 + 5, q167.2)) else none else none else none) else (if dz_c (dz_an (dz_sc xs (dz_c s1.1)) 63) = 35 then (if 0 ≤ dz_c (s1.1 + 1) ∧ dz_c (s1.1 + 1) < (xs.length : Int) then if 0 ≤ dz_c (s1.1 + 2) ∧ dz_c (s1.1 + 2) < (xs.length : Int) then if 0 ≤ dz_c (s1.1 + 3) ∧ dz_c (s1.1 + 3) < (xs.length : Int) then if 0 ≤ dz_c (s1.1 + 4) ∧ dz_c (s1.1 + 4) < (xs.length : Int) then Option.bind (jf_O_read (dz_sc xs (dz_c (s1.1 + 1))) (dz_sc xs (dz_c (s1.1 + 2))) (dz_sc xs (dz_c (s1.1 + 3))) (dz_sc xs (dz_c (s1.1 + 4))) s1.2) fun q173 => Option.bind (jf_M_read (dz_sc xs (dz_c (s1.1 + 1))) (dz_sc xs (dz_c (s1.1 + 2))) (dz_sc xs (dz_c (s1.1 + 3))) (dz_sc xs (dz_c (s1.1 + 4))) q173.2) fun q174 => some (Sum.inl (s1.1 + 5, q174.2)) else none else none else none else none) else (if dz_c (dz_an (dz_sc xs (dz_c s1.1)) 63) = 36 then (Option.bind (jf_O_torn s1.2) fun q176 => Option.bind (jf_M_torn s1.2) fun q177 => some (Sum.inl (s1.1 + 5, s1.2))) else (if dz_c (dz_an (dz_sc xs (dz_c s1.1)) 63) = 37 then (if 0 ≤ dz_c (s1.1 + 1) ∧ dz_c (s1.1 + 1) < (xs.length : Int) then Option.bind (jf_O_count (dz_sc xs (dz_c (s1.1 + 1))) s1.2) fun q180 => Option.bind (jf_M_count (dz_sc xs (dz_c (s1.1 + 1))) s1.2) fun q181 => if dz_c q180 = dz_c q181 then (some (Sum.inl (s1.1 + 5, s1.2))) else (some (Sum.inr (false, s1.2))) else none) else (some (Sum.inl (s1.1 + 5, s1.2)))))))))))))))))))))))))))))))))))))))) else none)) 5000 (0, Z)
set_option maxRecDepth 20000 in
set_option maxHeartbeats 4000000 in
theorem jw_L {D : Nat} {Q : Option Value → mm_H → Prop} (xs : List Int32) (Z : dz_Z) (H : dz_p (jf_L xs Z) (fun q => Q (some (dz_B q.1)) (hz_0 q.2))) : mm_Wp (some xs) (D + 10) mm_rL 18 [some (.retAddr 0), some (.ref 0), some (.ref 114), some (dz_I 0)] [] (hz_0 Z) Q := by
  unfold jf_L at H
  refine dz_lpi (P := fun (s1 : Int × dz_Z) => mm_Wp (some xs) (D + 10) mm_rL 18 [some (.retAddr 0), some (.ref 0), some (.ref 114), some (dz_I s1.1)] [] (hz_0 s1.2) Q) (fun s1 H => ?_) 5000 (0, Z) H
  refine wp_s (i := .iload_n 3) (n := 1) (pc' := 19) (st' := [dz_I s1.1]) rfl rfl ?_
  refine wp_s (i := .aload_n 0) (n := 1) (pc' := 20) (st' := [.retAddr 0, dz_I s1.1]) rfl rfl ?_
  refine wq_sl (pc' := 21) rfl rfl ?_
  refine wp_s (i := .iconst 5) (n := 1) (pc' := 22) (st' := [dz_I 5, dz_I (xs.length : Int), dz_I s1.1]) rfl rfl ?_
  refine wq_2 (i := .isub) (z := (xs.length : Int) - 5) (pc' := 23) rfl rfl (op_sub _ _) rfl ?_
  refine wq_ic (p := dz_c ((xs.length : Int) - 5) < dz_c s1.1) (tt := 1316) (pc' := 26) rfl rfl (cq_gt rfl rfl) rfl (fun c2 => ?_) (fun c2 => ?_)
  · replace H := dz_it c2 H
    refine wp_s (i := .iconst 1) (n := 1) (pc' := 1317) (st' := [dz_I 1]) rfl rfl ?_
    refine wq_rt rfl rfl ?_
    replace H := dz_out H
    replace H := dz_sm H
    exact H
  · replace H := dz_if c2 H
    refine wp_s (i := .aload_n 0) (n := 1) (pc' := 27) (st' := [.retAddr 0]) rfl rfl ?_
    refine wp_s (i := .iload_n 3) (n := 1) (pc' := 28) (st' := [dz_I s1.1, .retAddr 0]) rfl rfl ?_
    obtain ⟨k3, H⟩ := dz_ck H
    refine wq_sx (j' := dz_c s1.1) (pc' := 29) rfl rfl k3.1 k3.2 rfl ?_
    refine wp_s (i := .bipush 63) (n := 2) (pc' := 31) (st' := [dz_I 63, dz_I (dz_sc xs (dz_c s1.1))]) rfl rfl ?_
    refine wq_2 (i := .iand) (z := dz_an (dz_sc xs (dz_c s1.1)) 63) (pc' := 32) rfl rfl (op_and _ _) rfl ?_
    by_cases c4 : dz_c (dz_an (dz_sc xs (dz_c s1.1)) 63) = 0
    · replace H := dz_it c4 H
      refine wq_ts (x' := dz_c (dz_an (dz_sc xs (dz_c s1.1)) 63)) (tt := 200) rfl rfl (by rw [c4]; rfl) ?_
      refine wp_s (i := .aload_n 1) (n := 1) (pc' := 201) (st' := [.ref 0]) rfl rfl ?_
      refine wp_s (i := .aload_n 0) (n := 1) (pc' := 202) (st' := [.retAddr 0, .ref 0]) rfl rfl ?_
      refine wp_s (i := .iload_n 3) (n := 1) (pc' := 203) (st' := [dz_I s1.1, .retAddr 0, .ref 0]) rfl rfl ?_
      refine wp_s (i := .iconst 1) (n := 1) (pc' := 204) (st' := [dz_I 1, dz_I s1.1, .retAddr 0, .ref 0]) rfl rfl ?_
      refine wq_2 (i := .iadd) (z := s1.1 + 1) (pc' := 205) rfl rfl (op_add _ _) rfl ?_
      obtain ⟨k5, H⟩ := dz_ck H
      refine wq_sx (j' := dz_c (s1.1 + 1)) (pc' := 206) rfl rfl k5.1 k5.2 rfl ?_
      refine wq_3 (i := .i2l) (v' := dz_J (dz_c (dz_sc xs (dz_c (s1.1 + 1))))) (pc' := 207) rfl rfl (oq_i2l' rfl) rfl ?_
      refine wp_s (i := .bipush 32) (n := 2) (pc' := 209) (st' := [dz_I 32, dz_J (dz_c (dz_sc xs (dz_c (s1.1 + 1)))), .ref 0]) rfl rfl ?_
      refine wq_4 (i := .lshl) (v' := dz_J (dz_lsl (dz_c (dz_sc xs (dz_c (s1.1 + 1)))) 32)) (pc' := 210) rfl rfl (ol_shl _ _) rfl ?_
      refine wp_s (i := .aload_n 0) (n := 1) (pc' := 211) (st' := [.retAddr 0, dz_J (dz_lsl (dz_c (dz_sc xs (dz_c (s1.1 + 1)))) 32), .ref 0]) rfl rfl ?_
      refine wp_s (i := .iload_n 3) (n := 1) (pc' := 212) (st' := [dz_I s1.1, .retAddr 0, dz_J (dz_lsl (dz_c (dz_sc xs (dz_c (s1.1 + 1)))) 32), .ref 0]) rfl rfl ?_
      refine wp_s (i := .iconst 2) (n := 1) (pc' := 213) (st' := [dz_I 2, dz_I s1.1, .retAddr 0, dz_J (dz_lsl (dz_c (dz_sc xs (dz_c (s1.1 + 1)))) 32), .ref 0]) rfl rfl ?_
      refine wq_2 (i := .iadd) (z := s1.1 + 2) (pc' := 214) rfl rfl (op_add _ _) rfl ?_
      obtain ⟨k6, H⟩ := dz_ck H
      refine wq_sx (j' := dz_c (s1.1 + 2)) (pc' := 215) rfl rfl k6.1 k6.2 rfl ?_
      refine wq_3 (i := .i2l) (v' := dz_J (dz_c (dz_sc xs (dz_c (s1.1 + 2))))) (pc' := 216) rfl rfl (oq_i2l' rfl) rfl ?_
      refine wp_s (i := .ldc2_w 13) (n := 3) (pc' := 219) (st' := [dz_J 4294967295, dz_J (dz_c (dz_sc xs (dz_c (s1.1 + 2)))), dz_J (dz_lsl (dz_c (dz_sc xs (dz_c (s1.1 + 1)))) 32), .ref 0]) rfl rfl ?_
      refine wq_4 (i := .land) (v' := dz_J (dz_lan (dz_c (dz_sc xs (dz_c (s1.1 + 2)))) 4294967295)) (pc' := 220) rfl rfl (ol_and _ _) rfl ?_
      refine wq_4 (i := .lor) (v' := dz_J (dz_lor (dz_lsl (dz_c (dz_sc xs (dz_c (s1.1 + 1)))) 32) (dz_lan (dz_c (dz_sc xs (dz_c (s1.1 + 2)))) 4294967295))) (pc' := 221) rfl rfl (ol_or _ _) rfl ?_
      refine wq_cv (Dq := (D + 9)) (r' := mm_r64) (as0 := [dz_J (dz_lor (dz_lsl (dz_c (dz_sc xs (dz_c (s1.1 + 1)))) 32) (dz_lan (dz_c (dz_sc xs (dz_c (s1.1 + 2)))) 4294967295))]) (rest := []) (ls' := [some (.ref 0), some (dz_J (dz_lor (dz_lsl (dz_c (dz_sc xs (dz_c (s1.1 + 1)))) 32) (dz_lan (dz_c (dz_sc xs (dz_c (s1.1 + 2)))) 4294967295))), none, none]) (pc' := 224) rfl rfl rfl rfl ho_O rfl rfl rfl ?_
      refine jw_O_feed (X := (some xs)) (D := D + 9) (dz_lor (dz_lsl (dz_c (dz_sc xs (dz_c (s1.1 + 1)))) 32) (dz_lan (dz_c (dz_sc xs (dz_c (s1.1 + 2)))) 4294967295)) s1.2 (dz_pm (dz_bi H) (fun q7 H => ?_))
      show mm_Wp (some xs) (D + 10) mm_rL 224 [some (.retAddr 0), some (.ref 0), some (.ref 114), some (dz_I s1.1)] [dz_I q7.1] (hz_0 q7.2) Q
      refine wp_s (i := .pop) (n := 1) (pc' := 225) (st' := []) rfl rfl ?_
      refine wp_s (i := .aload_n 2) (n := 1) (pc' := 226) (st' := [.ref 114]) rfl rfl ?_
      refine wp_s (i := .aload_n 0) (n := 1) (pc' := 227) (st' := [.retAddr 0, .ref 114]) rfl rfl ?_
      refine wp_s (i := .iload_n 3) (n := 1) (pc' := 228) (st' := [dz_I s1.1, .retAddr 0, .ref 114]) rfl rfl ?_
      refine wp_s (i := .iconst 1) (n := 1) (pc' := 229) (st' := [dz_I 1, dz_I s1.1, .retAddr 0, .ref 114]) rfl rfl ?_
      refine wq_2 (i := .iadd) (z := s1.1 + 1) (pc' := 230) rfl rfl (op_add _ _) rfl ?_
      refine wq_sx (j' := dz_c (s1.1 + 1)) (pc' := 231) rfl rfl k5.1 k5.2 rfl ?_
      refine wq_3 (i := .i2l) (v' := dz_J (dz_c (dz_sc xs (dz_c (s1.1 + 1))))) (pc' := 232) rfl rfl (oq_i2l' rfl) rfl ?_
      refine wp_s (i := .bipush 32) (n := 2) (pc' := 234) (st' := [dz_I 32, dz_J (dz_c (dz_sc xs (dz_c (s1.1 + 1)))), .ref 114]) rfl rfl ?_
      refine wq_4 (i := .lshl) (v' := dz_J (dz_lsl (dz_c (dz_sc xs (dz_c (s1.1 + 1)))) 32)) (pc' := 235) rfl rfl (ol_shl _ _) rfl ?_
      refine wp_s (i := .aload_n 0) (n := 1) (pc' := 236) (st' := [.retAddr 0, dz_J (dz_lsl (dz_c (dz_sc xs (dz_c (s1.1 + 1)))) 32), .ref 114]) rfl rfl ?_
      refine wp_s (i := .iload_n 3) (n := 1) (pc' := 237) (st' := [dz_I s1.1, .retAddr 0, dz_J (dz_lsl (dz_c (dz_sc xs (dz_c (s1.1 + 1)))) 32), .ref 114]) rfl rfl ?_
      refine wp_s (i := .iconst 2) (n := 1) (pc' := 238) (st' := [dz_I 2, dz_I s1.1, .retAddr 0, dz_J (dz_lsl (dz_c (dz_sc xs (dz_c (s1.1 + 1)))) 32), .ref 114]) rfl rfl ?_
      refine wq_2 (i := .iadd) (z := s1.1 + 2) (pc' := 239) rfl rfl (op_add _ _) rfl ?_
      refine wq_sx (j' := dz_c (s1.1 + 2)) (pc' := 240) rfl rfl k6.1 k6.2 rfl ?_
      refine wq_3 (i := .i2l) (v' := dz_J (dz_c (dz_sc xs (dz_c (s1.1 + 2))))) (pc' := 241) rfl rfl (oq_i2l' rfl) rfl ?_
      refine wp_s (i := .ldc2_w 13) (n := 3) (pc' := 244) (st' := [dz_J 4294967295, dz_J (dz_c (dz_sc xs (dz_c (s1.1 + 2)))), dz_J (dz_lsl (dz_c (dz_sc xs (dz_c (s1.1 + 1)))) 32), .ref 114]) rfl rfl ?_
      refine wq_4 (i := .land) (v' := dz_J (dz_lan (dz_c (dz_sc xs (dz_c (s1.1 + 2)))) 4294967295)) (pc' := 245) rfl rfl (ol_and _ _) rfl ?_
      refine wq_4 (i := .lor) (v' := dz_J (dz_lor (dz_lsl (dz_c (dz_sc xs (dz_c (s1.1 + 1)))) 32) (dz_lan (dz_c (dz_sc xs (dz_c (s1.1 + 2)))) 4294967295))) (pc' := 246) rfl rfl (ol_or _ _) rfl ?_
      refine wq_cv (Dq := (D + 9)) (r' := mm_r121) (as0 := [dz_J (dz_lor (dz_lsl (dz_c (dz_sc xs (dz_c (s1.1 + 1)))) 32) (dz_lan (dz_c (dz_sc xs (dz_c (s1.1 + 2)))) 4294967295))]) (rest := []) (ls' := [some (.ref 114), some (dz_J (dz_lor (dz_lsl (dz_c (dz_sc xs (dz_c (s1.1 + 1)))) 32) (dz_lan (dz_c (dz_sc xs (dz_c (s1.1 + 2)))) 4294967295))), none, none]) (pc' := 249) rfl rfl rfl rfl ho_M rfl rfl rfl ?_
      refine jw_M_feed (X := (some xs)) (D := D + 9) (dz_lor (dz_lsl (dz_c (dz_sc xs (dz_c (s1.1 + 1)))) 32) (dz_lan (dz_c (dz_sc xs (dz_c (s1.1 + 2)))) 4294967295)) q7.2 (dz_pm (dz_bi H) (fun q8 H => ?_))
      show mm_Wp (some xs) (D + 10) mm_rL 249 [some (.retAddr 0), some (.ref 0), some (.ref 114), some (dz_I s1.1)] [dz_I q8.1] (hz_0 q8.2) Q
      refine wp_s (i := .pop) (n := 1) (pc' := 250) (st' := []) rfl rfl ?_
      refine wp_s (i := .goto 1060) (n := 3) (pc' := 1310) (st' := []) rfl rfl ?_
      refine wq_inc (k := 3) (d := 5) (x := s1.1) (ls' := [some (.retAddr 0), some (.ref 0), some (.ref 114), some (dz_I (s1.1 + 5))]) (pc' := 1313) rfl rfl rfl rfl ?_
      refine wp_s (i := .goto (-1295)) (n := 3) (pc' := 18) (st' := []) rfl rfl ?_
      replace H := dz_back H
      exact H
    · replace H := dz_if c4 H
      by_cases c9 : dz_c (dz_an (dz_sc xs (dz_c s1.1)) 63) = 1
      · replace H := dz_it c9 H
        refine wq_ts (x' := dz_c (dz_an (dz_sc xs (dz_c s1.1)) 63)) (tt := 253) rfl rfl (by rw [c9]; rfl) ?_
        refine wp_s (i := .aload_n 1) (n := 1) (pc' := 254) (st' := [.ref 0]) rfl rfl ?_
        refine wp_s (i := .aload_n 0) (n := 1) (pc' := 255) (st' := [.retAddr 0, .ref 0]) rfl rfl ?_
        refine wp_s (i := .iload_n 3) (n := 1) (pc' := 256) (st' := [dz_I s1.1, .retAddr 0, .ref 0]) rfl rfl ?_
        refine wp_s (i := .iconst 1) (n := 1) (pc' := 257) (st' := [dz_I 1, dz_I s1.1, .retAddr 0, .ref 0]) rfl rfl ?_
        refine wq_2 (i := .iadd) (z := s1.1 + 1) (pc' := 258) rfl rfl (op_add _ _) rfl ?_
        obtain ⟨k10, H⟩ := dz_ck H
        refine wq_sx (j' := dz_c (s1.1 + 1)) (pc' := 259) rfl rfl k10.1 k10.2 rfl ?_
        refine wq_cv (Dq := (D + 9)) (r' := mm_r65) (as0 := [dz_I (dz_sc xs (dz_c (s1.1 + 1)))]) (rest := []) (ls' := [some (.ref 0), some (dz_I (dz_sc xs (dz_c (s1.1 + 1)))), none]) (pc' := 262) rfl rfl rfl rfl ho_O rfl rfl rfl ?_
        refine jw_O_end (X := (some xs)) (D := D + 9) (dz_sc xs (dz_c (s1.1 + 1))) s1.2 (dz_pm (dz_bi H) (fun q11 H => ?_))
        show mm_Wp (some xs) (D + 10) mm_rL 262 [some (.retAddr 0), some (.ref 0), some (.ref 114), some (dz_I s1.1)] [dz_I q11.1] (hz_0 q11.2) Q
        refine wp_s (i := .pop) (n := 1) (pc' := 263) (st' := []) rfl rfl ?_
        refine wp_s (i := .aload_n 2) (n := 1) (pc' := 264) (st' := [.ref 114]) rfl rfl ?_
        refine wp_s (i := .aload_n 0) (n := 1) (pc' := 265) (st' := [.retAddr 0, .ref 114]) rfl rfl ?_
        refine wp_s (i := .iload_n 3) (n := 1) (pc' := 266) (st' := [dz_I s1.1, .retAddr 0, .ref 114]) rfl rfl ?_
        refine wp_s (i := .iconst 1) (n := 1) (pc' := 267) (st' := [dz_I 1, dz_I s1.1, .retAddr 0, .ref 114]) rfl rfl ?_
        refine wq_2 (i := .iadd) (z := s1.1 + 1) (pc' := 268) rfl rfl (op_add _ _) rfl ?_
        refine wq_sx (j' := dz_c (s1.1 + 1)) (pc' := 269) rfl rfl k10.1 k10.2 rfl ?_
        refine wq_cv (Dq := (D + 9)) (r' := mm_r122) (as0 := [dz_I (dz_sc xs (dz_c (s1.1 + 1)))]) (rest := []) (ls' := [some (.ref 114), some (dz_I (dz_sc xs (dz_c (s1.1 + 1)))), none]) (pc' := 272) rfl rfl rfl rfl ho_M rfl rfl rfl ?_
        refine jw_M_end (X := (some xs)) (D := D + 8) (dz_sc xs (dz_c (s1.1 + 1))) q11.2 (dz_pm (dz_bi H) (fun q12 H => ?_))
        show mm_Wp (some xs) (D + 10) mm_rL 272 [some (.retAddr 0), some (.ref 0), some (.ref 114), some (dz_I s1.1)] [dz_I q12.1] (hz_0 q12.2) Q
        refine wp_s (i := .pop) (n := 1) (pc' := 273) (st' := []) rfl rfl ?_
        refine wp_s (i := .goto 1037) (n := 3) (pc' := 1310) (st' := []) rfl rfl ?_
        refine wq_inc (k := 3) (d := 5) (x := s1.1) (ls' := [some (.retAddr 0), some (.ref 0), some (.ref 114), some (dz_I (s1.1 + 5))]) (pc' := 1313) rfl rfl rfl rfl ?_
        refine wp_s (i := .goto (-1295)) (n := 3) (pc' := 18) (st' := []) rfl rfl ?_
        replace H := dz_back H
        exact H
      · replace H := dz_if c9 H
        by_cases c13 : dz_c (dz_an (dz_sc xs (dz_c s1.1)) 63) = 2
        · replace H := dz_it c13 H
          refine wq_ts (x' := dz_c (dz_an (dz_sc xs (dz_c s1.1)) 63)) (tt := 276) rfl rfl (by rw [c13]; rfl) ?_
          refine wp_s (i := .aload_n 1) (n := 1) (pc' := 277) (st' := [.ref 0]) rfl rfl ?_
          refine wq_cv (Dq := (D + 9)) (r' := mm_r66) (as0 := []) (rest := []) (ls' := [some (.ref 0), none]) (pc' := 280) rfl rfl rfl rfl ho_O rfl rfl rfl ?_
          refine jw_O_organ (X := (some xs)) (D := D + 0) s1.2 (dz_pm (dz_bi H) (fun q14 H => ?_))
          show mm_Wp (some xs) (D + 10) mm_rL 280 [some (.retAddr 0), some (.ref 0), some (.ref 114), some (dz_I s1.1)] [dz_I q14.1] (hz_0 q14.2) Q
          refine wp_s (i := .pop) (n := 1) (pc' := 281) (st' := []) rfl rfl ?_
          refine wp_s (i := .aload_n 2) (n := 1) (pc' := 282) (st' := [.ref 114]) rfl rfl ?_
          refine wq_cv (Dq := (D + 9)) (r' := mm_r135) (as0 := []) (rest := []) (ls' := [some (.ref 114), none, none]) (pc' := 285) rfl rfl rfl rfl ho_M rfl rfl rfl ?_
          refine jw_M_organ (X := (some xs)) (D := D + 3) q14.2 (dz_pm (dz_bi H) (fun q15 H => ?_))
          show mm_Wp (some xs) (D + 10) mm_rL 285 [some (.retAddr 0), some (.ref 0), some (.ref 114), some (dz_I s1.1)] [dz_I q15.1] (hz_0 q15.2) Q
          refine wp_s (i := .pop) (n := 1) (pc' := 286) (st' := []) rfl rfl ?_
          refine wp_s (i := .goto 1024) (n := 3) (pc' := 1310) (st' := []) rfl rfl ?_
          refine wq_inc (k := 3) (d := 5) (x := s1.1) (ls' := [some (.retAddr 0), some (.ref 0), some (.ref 114), some (dz_I (s1.1 + 5))]) (pc' := 1313) rfl rfl rfl rfl ?_
          refine wp_s (i := .goto (-1295)) (n := 3) (pc' := 18) (st' := []) rfl rfl ?_
          replace H := dz_back H
          exact H
        · replace H := dz_if c13 H
          by_cases c16 : dz_c (dz_an (dz_sc xs (dz_c s1.1)) 63) = 3
          · replace H := dz_it c16 H
            refine wq_ts (x' := dz_c (dz_an (dz_sc xs (dz_c s1.1)) 63)) (tt := 289) rfl rfl (by rw [c16]; rfl) ?_
            refine wp_s (i := .aload_n 1) (n := 1) (pc' := 290) (st' := [.ref 0]) rfl rfl ?_
            refine wq_cv (Dq := (D + 9)) (r' := mm_r68) (as0 := []) (rest := []) (ls' := [some (.ref 0)]) (pc' := 293) rfl rfl rfl rfl ho_O rfl rfl rfl ?_
            refine jw_O_fault (X := (some xs)) (D := D + 9) s1.2 (dz_pm (dz_bi H) (fun q17 H => ?_))
            show mm_Wp (some xs) (D + 10) mm_rL 293 [some (.retAddr 0), some (.ref 0), some (.ref 114), some (dz_I s1.1)] [dz_I q17] (hz_0 s1.2) Q
            refine wp_s (i := .pop) (n := 1) (pc' := 294) (st' := []) rfl rfl ?_
            refine wp_s (i := .aload_n 2) (n := 1) (pc' := 295) (st' := [.ref 114]) rfl rfl ?_
            refine wq_cv (Dq := (D + 9)) (r' := mm_r136) (as0 := []) (rest := []) (ls' := [some (.ref 114)]) (pc' := 298) rfl rfl rfl rfl ho_M rfl rfl rfl ?_
            refine jw_M_fault (X := (some xs)) (D := D + 9) s1.2 (dz_pm (dz_bi H) (fun q18 H => ?_))
            show mm_Wp (some xs) (D + 10) mm_rL 298 [some (.retAddr 0), some (.ref 0), some (.ref 114), some (dz_I s1.1)] [dz_I q18] (hz_0 s1.2) Q
            refine wp_s (i := .pop) (n := 1) (pc' := 299) (st' := []) rfl rfl ?_
            refine wp_s (i := .goto 1011) (n := 3) (pc' := 1310) (st' := []) rfl rfl ?_
            refine wq_inc (k := 3) (d := 5) (x := s1.1) (ls' := [some (.retAddr 0), some (.ref 0), some (.ref 114), some (dz_I (s1.1 + 5))]) (pc' := 1313) rfl rfl rfl rfl ?_
            refine wp_s (i := .goto (-1295)) (n := 3) (pc' := 18) (st' := []) rfl rfl ?_
            replace H := dz_back H
            exact H
          · replace H := dz_if c16 H
            by_cases c19 : dz_c (dz_an (dz_sc xs (dz_c s1.1)) 63) = 4
            · replace H := dz_it c19 H
              refine wq_ts (x' := dz_c (dz_an (dz_sc xs (dz_c s1.1)) 63)) (tt := 302) rfl rfl (by rw [c19]; rfl) ?_
              refine wp_s (i := .aload_n 1) (n := 1) (pc' := 303) (st' := [.ref 0]) rfl rfl ?_
              refine wp_s (i := .aload_n 0) (n := 1) (pc' := 304) (st' := [.retAddr 0, .ref 0]) rfl rfl ?_
              refine wp_s (i := .iload_n 3) (n := 1) (pc' := 305) (st' := [dz_I s1.1, .retAddr 0, .ref 0]) rfl rfl ?_
              refine wp_s (i := .iconst 1) (n := 1) (pc' := 306) (st' := [dz_I 1, dz_I s1.1, .retAddr 0, .ref 0]) rfl rfl ?_
              refine wq_2 (i := .iadd) (z := s1.1 + 1) (pc' := 307) rfl rfl (op_add _ _) rfl ?_
              obtain ⟨k20, H⟩ := dz_ck H
              refine wq_sx (j' := dz_c (s1.1 + 1)) (pc' := 308) rfl rfl k20.1 k20.2 rfl ?_
              refine wq_cv (Dq := (D + 9)) (r' := mm_r69) (as0 := [dz_I (dz_sc xs (dz_c (s1.1 + 1)))]) (rest := []) (ls' := [some (.ref 0), some (dz_I (dz_sc xs (dz_c (s1.1 + 1))))]) (pc' := 311) rfl rfl rfl rfl ho_O rfl rfl rfl ?_
              refine jw_O_rule (X := (some xs)) (D := D + 9) (dz_sc xs (dz_c (s1.1 + 1))) s1.2 (dz_pm (dz_bi H) (fun q21 H => ?_))
              show mm_Wp (some xs) (D + 10) mm_rL 311 [some (.retAddr 0), some (.ref 0), some (.ref 114), some (dz_I s1.1)] [dz_I q21] (hz_0 s1.2) Q
              refine wp_s (i := .pop) (n := 1) (pc' := 312) (st' := []) rfl rfl ?_
              refine wp_s (i := .aload_n 2) (n := 1) (pc' := 313) (st' := [.ref 114]) rfl rfl ?_
              refine wp_s (i := .aload_n 0) (n := 1) (pc' := 314) (st' := [.retAddr 0, .ref 114]) rfl rfl ?_
              refine wp_s (i := .iload_n 3) (n := 1) (pc' := 315) (st' := [dz_I s1.1, .retAddr 0, .ref 114]) rfl rfl ?_
              refine wp_s (i := .iconst 1) (n := 1) (pc' := 316) (st' := [dz_I 1, dz_I s1.1, .retAddr 0, .ref 114]) rfl rfl ?_
              refine wq_2 (i := .iadd) (z := s1.1 + 1) (pc' := 317) rfl rfl (op_add _ _) rfl ?_
              refine wq_sx (j' := dz_c (s1.1 + 1)) (pc' := 318) rfl rfl k20.1 k20.2 rfl ?_
              refine wq_cv (Dq := (D + 9)) (r' := mm_r137) (as0 := [dz_I (dz_sc xs (dz_c (s1.1 + 1)))]) (rest := []) (ls' := [some (.ref 114), some (dz_I (dz_sc xs (dz_c (s1.1 + 1))))]) (pc' := 321) rfl rfl rfl rfl ho_M rfl rfl rfl ?_
              refine jw_M_rule (X := (some xs)) (D := D + 9) (dz_sc xs (dz_c (s1.1 + 1))) s1.2 (dz_pm (dz_bi H) (fun q22 H => ?_))
              show mm_Wp (some xs) (D + 10) mm_rL 321 [some (.retAddr 0), some (.ref 0), some (.ref 114), some (dz_I s1.1)] [dz_I q22] (hz_0 s1.2) Q
              refine wp_s (i := .pop) (n := 1) (pc' := 322) (st' := []) rfl rfl ?_
              refine wp_s (i := .goto 988) (n := 3) (pc' := 1310) (st' := []) rfl rfl ?_
              refine wq_inc (k := 3) (d := 5) (x := s1.1) (ls' := [some (.retAddr 0), some (.ref 0), some (.ref 114), some (dz_I (s1.1 + 5))]) (pc' := 1313) rfl rfl rfl rfl ?_
              refine wp_s (i := .goto (-1295)) (n := 3) (pc' := 18) (st' := []) rfl rfl ?_
              replace H := dz_back H
              exact H
            · replace H := dz_if c19 H
              by_cases c23 : dz_c (dz_an (dz_sc xs (dz_c s1.1)) 63) = 5
              · replace H := dz_it c23 H
                refine wq_ts (x' := dz_c (dz_an (dz_sc xs (dz_c s1.1)) 63)) (tt := 325) rfl rfl (by rw [c23]; rfl) ?_
                refine wp_s (i := .aload_n 1) (n := 1) (pc' := 326) (st' := [.ref 0]) rfl rfl ?_
                refine wp_s (i := .aload_n 0) (n := 1) (pc' := 327) (st' := [.retAddr 0, .ref 0]) rfl rfl ?_
                refine wp_s (i := .iload_n 3) (n := 1) (pc' := 328) (st' := [dz_I s1.1, .retAddr 0, .ref 0]) rfl rfl ?_
                refine wp_s (i := .iconst 1) (n := 1) (pc' := 329) (st' := [dz_I 1, dz_I s1.1, .retAddr 0, .ref 0]) rfl rfl ?_
                refine wq_2 (i := .iadd) (z := s1.1 + 1) (pc' := 330) rfl rfl (op_add _ _) rfl ?_
                obtain ⟨k24, H⟩ := dz_ck H
                refine wq_sx (j' := dz_c (s1.1 + 1)) (pc' := 331) rfl rfl k24.1 k24.2 rfl ?_
                refine wp_s (i := .aload_n 0) (n := 1) (pc' := 332) (st' := [.retAddr 0, dz_I (dz_sc xs (dz_c (s1.1 + 1))), .ref 0]) rfl rfl ?_
                refine wp_s (i := .iload_n 3) (n := 1) (pc' := 333) (st' := [dz_I s1.1, .retAddr 0, dz_I (dz_sc xs (dz_c (s1.1 + 1))), .ref 0]) rfl rfl ?_
                refine wp_s (i := .iconst 2) (n := 1) (pc' := 334) (st' := [dz_I 2, dz_I s1.1, .retAddr 0, dz_I (dz_sc xs (dz_c (s1.1 + 1))), .ref 0]) rfl rfl ?_
                refine wq_2 (i := .iadd) (z := s1.1 + 2) (pc' := 335) rfl rfl (op_add _ _) rfl ?_
                obtain ⟨k25, H⟩ := dz_ck H
                refine wq_sx (j' := dz_c (s1.1 + 2)) (pc' := 336) rfl rfl k25.1 k25.2 rfl ?_
                refine wq_cv (Dq := (D + 9)) (r' := mm_r70) (as0 := [dz_I (dz_sc xs (dz_c (s1.1 + 1))), dz_I (dz_sc xs (dz_c (s1.1 + 2)))]) (rest := []) (ls' := [some (.ref 0), some (dz_I (dz_sc xs (dz_c (s1.1 + 1)))), some (dz_I (dz_sc xs (dz_c (s1.1 + 2))))]) (pc' := 339) rfl rfl rfl rfl ho_O rfl rfl rfl ?_
                refine jw_O_gutter (X := (some xs)) (D := D + 8) (dz_sc xs (dz_c (s1.1 + 1))) (dz_sc xs (dz_c (s1.1 + 2))) s1.2 (dz_pm (dz_bi H) (fun q26 H => ?_))
                show mm_Wp (some xs) (D + 10) mm_rL 339 [some (.retAddr 0), some (.ref 0), some (.ref 114), some (dz_I s1.1)] [dz_I q26] (hz_0 s1.2) Q
                refine wp_s (i := .pop) (n := 1) (pc' := 340) (st' := []) rfl rfl ?_
                refine wp_s (i := .aload_n 2) (n := 1) (pc' := 341) (st' := [.ref 114]) rfl rfl ?_
                refine wp_s (i := .aload_n 0) (n := 1) (pc' := 342) (st' := [.retAddr 0, .ref 114]) rfl rfl ?_
                refine wp_s (i := .iload_n 3) (n := 1) (pc' := 343) (st' := [dz_I s1.1, .retAddr 0, .ref 114]) rfl rfl ?_
                refine wp_s (i := .iconst 1) (n := 1) (pc' := 344) (st' := [dz_I 1, dz_I s1.1, .retAddr 0, .ref 114]) rfl rfl ?_
                refine wq_2 (i := .iadd) (z := s1.1 + 1) (pc' := 345) rfl rfl (op_add _ _) rfl ?_
                refine wq_sx (j' := dz_c (s1.1 + 1)) (pc' := 346) rfl rfl k24.1 k24.2 rfl ?_
                refine wp_s (i := .aload_n 0) (n := 1) (pc' := 347) (st' := [.retAddr 0, dz_I (dz_sc xs (dz_c (s1.1 + 1))), .ref 114]) rfl rfl ?_
                refine wp_s (i := .iload_n 3) (n := 1) (pc' := 348) (st' := [dz_I s1.1, .retAddr 0, dz_I (dz_sc xs (dz_c (s1.1 + 1))), .ref 114]) rfl rfl ?_
                refine wp_s (i := .iconst 2) (n := 1) (pc' := 349) (st' := [dz_I 2, dz_I s1.1, .retAddr 0, dz_I (dz_sc xs (dz_c (s1.1 + 1))), .ref 114]) rfl rfl ?_
                refine wq_2 (i := .iadd) (z := s1.1 + 2) (pc' := 350) rfl rfl (op_add _ _) rfl ?_
                refine wq_sx (j' := dz_c (s1.1 + 2)) (pc' := 351) rfl rfl k25.1 k25.2 rfl ?_
                refine wq_cv (Dq := (D + 9)) (r' := mm_r141) (as0 := [dz_I (dz_sc xs (dz_c (s1.1 + 1))), dz_I (dz_sc xs (dz_c (s1.1 + 2)))]) (rest := []) (ls' := [some (.ref 114), some (dz_I (dz_sc xs (dz_c (s1.1 + 1)))), some (dz_I (dz_sc xs (dz_c (s1.1 + 2))))]) (pc' := 354) rfl rfl rfl rfl ho_M rfl rfl rfl ?_
                refine jw_M_gutter (X := (some xs)) (D := D + 7) (dz_sc xs (dz_c (s1.1 + 1))) (dz_sc xs (dz_c (s1.1 + 2))) s1.2 (dz_pm (dz_bi H) (fun q27 H => ?_))
                show mm_Wp (some xs) (D + 10) mm_rL 354 [some (.retAddr 0), some (.ref 0), some (.ref 114), some (dz_I s1.1)] [dz_I q27] (hz_0 s1.2) Q
                refine wp_s (i := .pop) (n := 1) (pc' := 355) (st' := []) rfl rfl ?_
                refine wp_s (i := .goto 955) (n := 3) (pc' := 1310) (st' := []) rfl rfl ?_
                refine wq_inc (k := 3) (d := 5) (x := s1.1) (ls' := [some (.retAddr 0), some (.ref 0), some (.ref 114), some (dz_I (s1.1 + 5))]) (pc' := 1313) rfl rfl rfl rfl ?_
                refine wp_s (i := .goto (-1295)) (n := 3) (pc' := 18) (st' := []) rfl rfl ?_
                replace H := dz_back H
                exact H
              · replace H := dz_if c23 H
                by_cases c28 : dz_c (dz_an (dz_sc xs (dz_c s1.1)) 63) = 6
                · replace H := dz_it c28 H
                  refine wq_ts (x' := dz_c (dz_an (dz_sc xs (dz_c s1.1)) 63)) (tt := 358) rfl rfl (by rw [c28]; rfl) ?_
                  refine wp_s (i := .aload_n 1) (n := 1) (pc' := 359) (st' := [.ref 0]) rfl rfl ?_
                  refine wp_s (i := .aload_n 0) (n := 1) (pc' := 360) (st' := [.retAddr 0, .ref 0]) rfl rfl ?_
                  refine wp_s (i := .iload_n 3) (n := 1) (pc' := 361) (st' := [dz_I s1.1, .retAddr 0, .ref 0]) rfl rfl ?_
                  refine wp_s (i := .iconst 1) (n := 1) (pc' := 362) (st' := [dz_I 1, dz_I s1.1, .retAddr 0, .ref 0]) rfl rfl ?_
                  refine wq_2 (i := .iadd) (z := s1.1 + 1) (pc' := 363) rfl rfl (op_add _ _) rfl ?_
                  obtain ⟨k29, H⟩ := dz_ck H
                  refine wq_sx (j' := dz_c (s1.1 + 1)) (pc' := 364) rfl rfl k29.1 k29.2 rfl ?_
                  refine wp_s (i := .aload_n 0) (n := 1) (pc' := 365) (st' := [.retAddr 0, dz_I (dz_sc xs (dz_c (s1.1 + 1))), .ref 0]) rfl rfl ?_
                  refine wp_s (i := .iload_n 3) (n := 1) (pc' := 366) (st' := [dz_I s1.1, .retAddr 0, dz_I (dz_sc xs (dz_c (s1.1 + 1))), .ref 0]) rfl rfl ?_
                  refine wp_s (i := .iconst 2) (n := 1) (pc' := 367) (st' := [dz_I 2, dz_I s1.1, .retAddr 0, dz_I (dz_sc xs (dz_c (s1.1 + 1))), .ref 0]) rfl rfl ?_
                  refine wq_2 (i := .iadd) (z := s1.1 + 2) (pc' := 368) rfl rfl (op_add _ _) rfl ?_
                  obtain ⟨k30, H⟩ := dz_ck H
                  refine wq_sx (j' := dz_c (s1.1 + 2)) (pc' := 369) rfl rfl k30.1 k30.2 rfl ?_
                  refine wq_cv (Dq := (D + 9)) (r' := mm_r71) (as0 := [dz_I (dz_sc xs (dz_c (s1.1 + 1))), dz_I (dz_sc xs (dz_c (s1.1 + 2)))]) (rest := []) (ls' := [some (.ref 0), some (dz_I (dz_sc xs (dz_c (s1.1 + 1)))), some (dz_I (dz_sc xs (dz_c (s1.1 + 2)))), none]) (pc' := 372) rfl rfl rfl rfl ho_O rfl rfl rfl ?_
                  refine jw_O_spout (X := (some xs)) (D := D + 8) (dz_sc xs (dz_c (s1.1 + 1))) (dz_sc xs (dz_c (s1.1 + 2))) s1.2 (dz_pm (dz_bi H) (fun q31 H => ?_))
                  show mm_Wp (some xs) (D + 10) mm_rL 372 [some (.retAddr 0), some (.ref 0), some (.ref 114), some (dz_I s1.1)] [dz_I q31] (hz_0 s1.2) Q
                  refine wp_s (i := .pop) (n := 1) (pc' := 373) (st' := []) rfl rfl ?_
                  refine wp_s (i := .aload_n 2) (n := 1) (pc' := 374) (st' := [.ref 114]) rfl rfl ?_
                  refine wp_s (i := .aload_n 0) (n := 1) (pc' := 375) (st' := [.retAddr 0, .ref 114]) rfl rfl ?_
                  refine wp_s (i := .iload_n 3) (n := 1) (pc' := 376) (st' := [dz_I s1.1, .retAddr 0, .ref 114]) rfl rfl ?_
                  refine wp_s (i := .iconst 1) (n := 1) (pc' := 377) (st' := [dz_I 1, dz_I s1.1, .retAddr 0, .ref 114]) rfl rfl ?_
                  refine wq_2 (i := .iadd) (z := s1.1 + 1) (pc' := 378) rfl rfl (op_add _ _) rfl ?_
                  refine wq_sx (j' := dz_c (s1.1 + 1)) (pc' := 379) rfl rfl k29.1 k29.2 rfl ?_
                  refine wp_s (i := .aload_n 0) (n := 1) (pc' := 380) (st' := [.retAddr 0, dz_I (dz_sc xs (dz_c (s1.1 + 1))), .ref 114]) rfl rfl ?_
                  refine wp_s (i := .iload_n 3) (n := 1) (pc' := 381) (st' := [dz_I s1.1, .retAddr 0, dz_I (dz_sc xs (dz_c (s1.1 + 1))), .ref 114]) rfl rfl ?_
                  refine wp_s (i := .iconst 2) (n := 1) (pc' := 382) (st' := [dz_I 2, dz_I s1.1, .retAddr 0, dz_I (dz_sc xs (dz_c (s1.1 + 1))), .ref 114]) rfl rfl ?_
                  refine wq_2 (i := .iadd) (z := s1.1 + 2) (pc' := 383) rfl rfl (op_add _ _) rfl ?_
                  refine wq_sx (j' := dz_c (s1.1 + 2)) (pc' := 384) rfl rfl k30.1 k30.2 rfl ?_
                  refine wq_cv (Dq := (D + 9)) (r' := mm_r142) (as0 := [dz_I (dz_sc xs (dz_c (s1.1 + 1))), dz_I (dz_sc xs (dz_c (s1.1 + 2)))]) (rest := []) (ls' := [some (.ref 114), some (dz_I (dz_sc xs (dz_c (s1.1 + 1)))), some (dz_I (dz_sc xs (dz_c (s1.1 + 2))))]) (pc' := 387) rfl rfl rfl rfl ho_M rfl rfl rfl ?_
                  refine jw_M_spout (X := (some xs)) (D := D + 7) (dz_sc xs (dz_c (s1.1 + 1))) (dz_sc xs (dz_c (s1.1 + 2))) s1.2 (dz_pm (dz_bi H) (fun q32 H => ?_))
                  show mm_Wp (some xs) (D + 10) mm_rL 387 [some (.retAddr 0), some (.ref 0), some (.ref 114), some (dz_I s1.1)] [dz_I q32] (hz_0 s1.2) Q
                  refine wp_s (i := .pop) (n := 1) (pc' := 388) (st' := []) rfl rfl ?_
                  refine wp_s (i := .goto 922) (n := 3) (pc' := 1310) (st' := []) rfl rfl ?_
                  refine wq_inc (k := 3) (d := 5) (x := s1.1) (ls' := [some (.retAddr 0), some (.ref 0), some (.ref 114), some (dz_I (s1.1 + 5))]) (pc' := 1313) rfl rfl rfl rfl ?_
                  refine wp_s (i := .goto (-1295)) (n := 3) (pc' := 18) (st' := []) rfl rfl ?_
                  replace H := dz_back H
                  exact H
                · replace H := dz_if c28 H
                  by_cases c33 : dz_c (dz_an (dz_sc xs (dz_c s1.1)) 63) = 7
                  · replace H := dz_it c33 H
                    refine wq_ts (x' := dz_c (dz_an (dz_sc xs (dz_c s1.1)) 63)) (tt := 391) rfl rfl (by rw [c33]; rfl) ?_
                    refine wp_s (i := .aload_n 1) (n := 1) (pc' := 392) (st' := [.ref 0]) rfl rfl ?_
                    refine wp_s (i := .aload_n 0) (n := 1) (pc' := 393) (st' := [.retAddr 0, .ref 0]) rfl rfl ?_
                    refine wp_s (i := .iload_n 3) (n := 1) (pc' := 394) (st' := [dz_I s1.1, .retAddr 0, .ref 0]) rfl rfl ?_
                    refine wp_s (i := .iconst 1) (n := 1) (pc' := 395) (st' := [dz_I 1, dz_I s1.1, .retAddr 0, .ref 0]) rfl rfl ?_
                    refine wq_2 (i := .iadd) (z := s1.1 + 1) (pc' := 396) rfl rfl (op_add _ _) rfl ?_
                    obtain ⟨k34, H⟩ := dz_ck H
                    refine wq_sx (j' := dz_c (s1.1 + 1)) (pc' := 397) rfl rfl k34.1 k34.2 rfl ?_
                    refine wp_s (i := .aload_n 0) (n := 1) (pc' := 398) (st' := [.retAddr 0, dz_I (dz_sc xs (dz_c (s1.1 + 1))), .ref 0]) rfl rfl ?_
                    refine wp_s (i := .iload_n 3) (n := 1) (pc' := 399) (st' := [dz_I s1.1, .retAddr 0, dz_I (dz_sc xs (dz_c (s1.1 + 1))), .ref 0]) rfl rfl ?_
                    refine wp_s (i := .iconst 2) (n := 1) (pc' := 400) (st' := [dz_I 2, dz_I s1.1, .retAddr 0, dz_I (dz_sc xs (dz_c (s1.1 + 1))), .ref 0]) rfl rfl ?_
                    refine wq_2 (i := .iadd) (z := s1.1 + 2) (pc' := 401) rfl rfl (op_add _ _) rfl ?_
                    obtain ⟨k35, H⟩ := dz_ck H
                    refine wq_sx (j' := dz_c (s1.1 + 2)) (pc' := 402) rfl rfl k35.1 k35.2 rfl ?_
                    refine wq_cv (Dq := (D + 9)) (r' := mm_r72) (as0 := [dz_I (dz_sc xs (dz_c (s1.1 + 1))), dz_I (dz_sc xs (dz_c (s1.1 + 2)))]) (rest := []) (ls' := [some (.ref 0), some (dz_I (dz_sc xs (dz_c (s1.1 + 1)))), some (dz_I (dz_sc xs (dz_c (s1.1 + 2)))), none]) (pc' := 405) rfl rfl rfl rfl ho_O rfl rfl rfl ?_
                    refine jw_O_peg (X := (some xs)) (D := D + 8) (dz_sc xs (dz_c (s1.1 + 1))) (dz_sc xs (dz_c (s1.1 + 2))) s1.2 (dz_pm (dz_bi H) (fun q36 H => ?_))
                    show mm_Wp (some xs) (D + 10) mm_rL 405 [some (.retAddr 0), some (.ref 0), some (.ref 114), some (dz_I s1.1)] [dz_I q36.1] (hz_0 q36.2) Q
                    refine wp_s (i := .pop) (n := 1) (pc' := 406) (st' := []) rfl rfl ?_
                    refine wp_s (i := .aload_n 2) (n := 1) (pc' := 407) (st' := [.ref 114]) rfl rfl ?_
                    refine wp_s (i := .aload_n 0) (n := 1) (pc' := 408) (st' := [.retAddr 0, .ref 114]) rfl rfl ?_
                    refine wp_s (i := .iload_n 3) (n := 1) (pc' := 409) (st' := [dz_I s1.1, .retAddr 0, .ref 114]) rfl rfl ?_
                    refine wp_s (i := .iconst 1) (n := 1) (pc' := 410) (st' := [dz_I 1, dz_I s1.1, .retAddr 0, .ref 114]) rfl rfl ?_
                    refine wq_2 (i := .iadd) (z := s1.1 + 1) (pc' := 411) rfl rfl (op_add _ _) rfl ?_
                    refine wq_sx (j' := dz_c (s1.1 + 1)) (pc' := 412) rfl rfl k34.1 k34.2 rfl ?_
                    refine wp_s (i := .aload_n 0) (n := 1) (pc' := 413) (st' := [.retAddr 0, dz_I (dz_sc xs (dz_c (s1.1 + 1))), .ref 114]) rfl rfl ?_
                    refine wp_s (i := .iload_n 3) (n := 1) (pc' := 414) (st' := [dz_I s1.1, .retAddr 0, dz_I (dz_sc xs (dz_c (s1.1 + 1))), .ref 114]) rfl rfl ?_
                    refine wp_s (i := .iconst 2) (n := 1) (pc' := 415) (st' := [dz_I 2, dz_I s1.1, .retAddr 0, dz_I (dz_sc xs (dz_c (s1.1 + 1))), .ref 114]) rfl rfl ?_
                    refine wq_2 (i := .iadd) (z := s1.1 + 2) (pc' := 416) rfl rfl (op_add _ _) rfl ?_
                    refine wq_sx (j' := dz_c (s1.1 + 2)) (pc' := 417) rfl rfl k35.1 k35.2 rfl ?_
                    refine wq_cv (Dq := (D + 9)) (r' := mm_r143) (as0 := [dz_I (dz_sc xs (dz_c (s1.1 + 1))), dz_I (dz_sc xs (dz_c (s1.1 + 2)))]) (rest := []) (ls' := [some (.ref 114), some (dz_I (dz_sc xs (dz_c (s1.1 + 1)))), some (dz_I (dz_sc xs (dz_c (s1.1 + 2)))), none]) (pc' := 420) rfl rfl rfl rfl ho_M rfl rfl rfl ?_
                    refine jw_M_peg (X := (some xs)) (D := D + 7) (dz_sc xs (dz_c (s1.1 + 1))) (dz_sc xs (dz_c (s1.1 + 2))) q36.2 (dz_pm (dz_bi H) (fun q37 H => ?_))
                    show mm_Wp (some xs) (D + 10) mm_rL 420 [some (.retAddr 0), some (.ref 0), some (.ref 114), some (dz_I s1.1)] [dz_I q37.1] (hz_0 q37.2) Q
                    refine wp_s (i := .pop) (n := 1) (pc' := 421) (st' := []) rfl rfl ?_
                    refine wp_s (i := .goto 889) (n := 3) (pc' := 1310) (st' := []) rfl rfl ?_
                    refine wq_inc (k := 3) (d := 5) (x := s1.1) (ls' := [some (.retAddr 0), some (.ref 0), some (.ref 114), some (dz_I (s1.1 + 5))]) (pc' := 1313) rfl rfl rfl rfl ?_
                    refine wp_s (i := .goto (-1295)) (n := 3) (pc' := 18) (st' := []) rfl rfl ?_
                    replace H := dz_back H
                    exact H
                  · replace H := dz_if c33 H
                    by_cases c38 : dz_c (dz_an (dz_sc xs (dz_c s1.1)) 63) = 8
                    · replace H := dz_it c38 H
                      refine wq_ts (x' := dz_c (dz_an (dz_sc xs (dz_c s1.1)) 63)) (tt := 424) rfl rfl (by rw [c38]; rfl) ?_
                      refine wp_s (i := .aload_n 1) (n := 1) (pc' := 425) (st' := [.ref 0]) rfl rfl ?_
                      refine wp_s (i := .aload_n 0) (n := 1) (pc' := 426) (st' := [.retAddr 0, .ref 0]) rfl rfl ?_
                      refine wp_s (i := .iload_n 3) (n := 1) (pc' := 427) (st' := [dz_I s1.1, .retAddr 0, .ref 0]) rfl rfl ?_
                      refine wp_s (i := .iconst 1) (n := 1) (pc' := 428) (st' := [dz_I 1, dz_I s1.1, .retAddr 0, .ref 0]) rfl rfl ?_
                      refine wq_2 (i := .iadd) (z := s1.1 + 1) (pc' := 429) rfl rfl (op_add _ _) rfl ?_
                      obtain ⟨k39, H⟩ := dz_ck H
                      refine wq_sx (j' := dz_c (s1.1 + 1)) (pc' := 430) rfl rfl k39.1 k39.2 rfl ?_
                      refine wp_s (i := .aload_n 0) (n := 1) (pc' := 431) (st' := [.retAddr 0, dz_I (dz_sc xs (dz_c (s1.1 + 1))), .ref 0]) rfl rfl ?_
                      refine wp_s (i := .iload_n 3) (n := 1) (pc' := 432) (st' := [dz_I s1.1, .retAddr 0, dz_I (dz_sc xs (dz_c (s1.1 + 1))), .ref 0]) rfl rfl ?_
                      refine wp_s (i := .iconst 2) (n := 1) (pc' := 433) (st' := [dz_I 2, dz_I s1.1, .retAddr 0, dz_I (dz_sc xs (dz_c (s1.1 + 1))), .ref 0]) rfl rfl ?_
                      refine wq_2 (i := .iadd) (z := s1.1 + 2) (pc' := 434) rfl rfl (op_add _ _) rfl ?_
                      obtain ⟨k40, H⟩ := dz_ck H
                      refine wq_sx (j' := dz_c (s1.1 + 2)) (pc' := 435) rfl rfl k40.1 k40.2 rfl ?_
                      refine dz_jn (P := fun (q42 : Int) => mm_Wp (some xs) (D + 10) mm_rL 443 [some (.retAddr 0), some (.ref 0), some (.ref 114), some (dz_I s1.1)] [dz_I q42, dz_I (dz_sc xs (dz_c (s1.1 + 1))), .ref 0] (hz_0 s1.2) Q) (dz_bi H) (fun q42 H => ?_) (fun H => ?_)
                      · skip
                        refine wq_cv (Dq := (D + 9)) (r' := mm_r73) (as0 := [dz_I (dz_sc xs (dz_c (s1.1 + 1))), dz_I q42]) (rest := []) (ls' := [some (.ref 0), some (dz_I (dz_sc xs (dz_c (s1.1 + 1)))), some (dz_I q42), none]) (pc' := 446) rfl rfl rfl rfl ho_O rfl rfl rfl ?_
                        refine jw_O_block (X := (some xs)) (D := D + 8) (dz_sc xs (dz_c (s1.1 + 1))) q42 s1.2 (dz_pm (dz_bi H) (fun q43 H => ?_))
                        show mm_Wp (some xs) (D + 10) mm_rL 446 [some (.retAddr 0), some (.ref 0), some (.ref 114), some (dz_I s1.1)] [dz_I q43.1] (hz_0 q43.2) Q
                        refine wp_s (i := .pop) (n := 1) (pc' := 447) (st' := []) rfl rfl ?_
                        refine wp_s (i := .aload_n 2) (n := 1) (pc' := 448) (st' := [.ref 114]) rfl rfl ?_
                        refine wp_s (i := .aload_n 0) (n := 1) (pc' := 449) (st' := [.retAddr 0, .ref 114]) rfl rfl ?_
                        refine wp_s (i := .iload_n 3) (n := 1) (pc' := 450) (st' := [dz_I s1.1, .retAddr 0, .ref 114]) rfl rfl ?_
                        refine wp_s (i := .iconst 1) (n := 1) (pc' := 451) (st' := [dz_I 1, dz_I s1.1, .retAddr 0, .ref 114]) rfl rfl ?_
                        refine wq_2 (i := .iadd) (z := s1.1 + 1) (pc' := 452) rfl rfl (op_add _ _) rfl ?_
                        refine wq_sx (j' := dz_c (s1.1 + 1)) (pc' := 453) rfl rfl k39.1 k39.2 rfl ?_
                        refine wp_s (i := .aload_n 0) (n := 1) (pc' := 454) (st' := [.retAddr 0, dz_I (dz_sc xs (dz_c (s1.1 + 1))), .ref 114]) rfl rfl ?_
                        refine wp_s (i := .iload_n 3) (n := 1) (pc' := 455) (st' := [dz_I s1.1, .retAddr 0, dz_I (dz_sc xs (dz_c (s1.1 + 1))), .ref 114]) rfl rfl ?_
                        refine wp_s (i := .iconst 2) (n := 1) (pc' := 456) (st' := [dz_I 2, dz_I s1.1, .retAddr 0, dz_I (dz_sc xs (dz_c (s1.1 + 1))), .ref 114]) rfl rfl ?_
                        refine wq_2 (i := .iadd) (z := s1.1 + 2) (pc' := 457) rfl rfl (op_add _ _) rfl ?_
                        refine wq_sx (j' := dz_c (s1.1 + 2)) (pc' := 458) rfl rfl k40.1 k40.2 rfl ?_
                        refine dz_jn (P := fun (q45 : Int) => mm_Wp (some xs) (D + 10) mm_rL 466 [some (.retAddr 0), some (.ref 0), some (.ref 114), some (dz_I s1.1)] [dz_I q45, dz_I (dz_sc xs (dz_c (s1.1 + 1))), .ref 114] (hz_0 q43.2) Q) (dz_bi H) (fun q45 H => ?_) (fun H => ?_)
                        · skip
                          refine wq_cv (Dq := (D + 9)) (r' := mm_r144) (as0 := [dz_I (dz_sc xs (dz_c (s1.1 + 1))), dz_I q45]) (rest := []) (ls' := [some (.ref 114), some (dz_I (dz_sc xs (dz_c (s1.1 + 1)))), some (dz_I q45), none]) (pc' := 469) rfl rfl rfl rfl ho_M rfl rfl rfl ?_
                          refine jw_M_block (X := (some xs)) (D := D + 7) (dz_sc xs (dz_c (s1.1 + 1))) q45 q43.2 (dz_pm (dz_bi H) (fun q46 H => ?_))
                          show mm_Wp (some xs) (D + 10) mm_rL 469 [some (.retAddr 0), some (.ref 0), some (.ref 114), some (dz_I s1.1)] [dz_I q46.1] (hz_0 q46.2) Q
                          refine wp_s (i := .pop) (n := 1) (pc' := 470) (st' := []) rfl rfl ?_
                          refine wp_s (i := .goto 840) (n := 3) (pc' := 1310) (st' := []) rfl rfl ?_
                          refine wq_inc (k := 3) (d := 5) (x := s1.1) (ls' := [some (.retAddr 0), some (.ref 0), some (.ref 114), some (dz_I (s1.1 + 5))]) (pc' := 1313) rfl rfl rfl rfl ?_
                          refine wp_s (i := .goto (-1295)) (n := 3) (pc' := 18) (st' := []) rfl rfl ?_
                          replace H := dz_back H
                          exact H
                        · skip
                          refine wq_if (p := dz_c (dz_sc xs (dz_c (s1.1 + 2))) = 0) (tt := 465) (pc' := 461) rfl rfl (cz_eq rfl) rfl (fun c47 => ?_) (fun c47 => ?_)
                          · replace H := dz_it c47 H
                            refine wp_s (i := .iconst 0) (n := 1) (pc' := 466) (st' := [dz_I 0, dz_I (dz_sc xs (dz_c (s1.1 + 1))), .ref 114]) rfl rfl ?_
                            replace H := dz_sm H
                            exact H
                          · replace H := dz_if c47 H
                            refine wp_s (i := .iconst 1) (n := 1) (pc' := 462) (st' := [dz_I 1, dz_I (dz_sc xs (dz_c (s1.1 + 1))), .ref 114]) rfl rfl ?_
                            refine wp_s (i := .goto 4) (n := 3) (pc' := 466) (st' := [dz_I 1, dz_I (dz_sc xs (dz_c (s1.1 + 1))), .ref 114]) rfl rfl ?_
                            replace H := dz_sm H
                            exact H
                      · skip
                        refine wq_if (p := dz_c (dz_sc xs (dz_c (s1.1 + 2))) = 0) (tt := 442) (pc' := 438) rfl rfl (cz_eq rfl) rfl (fun c48 => ?_) (fun c48 => ?_)
                        · replace H := dz_it c48 H
                          refine wp_s (i := .iconst 0) (n := 1) (pc' := 443) (st' := [dz_I 0, dz_I (dz_sc xs (dz_c (s1.1 + 1))), .ref 0]) rfl rfl ?_
                          replace H := dz_sm H
                          exact H
                        · replace H := dz_if c48 H
                          refine wp_s (i := .iconst 1) (n := 1) (pc' := 439) (st' := [dz_I 1, dz_I (dz_sc xs (dz_c (s1.1 + 1))), .ref 0]) rfl rfl ?_
                          refine wp_s (i := .goto 4) (n := 3) (pc' := 443) (st' := [dz_I 1, dz_I (dz_sc xs (dz_c (s1.1 + 1))), .ref 0]) rfl rfl ?_
                          replace H := dz_sm H
                          exact H
                    · replace H := dz_if c38 H
                      by_cases c49 : dz_c (dz_an (dz_sc xs (dz_c s1.1)) 63) = 9
                      · replace H := dz_it c49 H
                        refine wq_ts (x' := dz_c (dz_an (dz_sc xs (dz_c s1.1)) 63)) (tt := 473) rfl rfl (by rw [c49]; rfl) ?_
                        refine wp_s (i := .aload_n 1) (n := 1) (pc' := 474) (st' := [.ref 0]) rfl rfl ?_
                        refine wp_s (i := .aload_n 0) (n := 1) (pc' := 475) (st' := [.retAddr 0, .ref 0]) rfl rfl ?_
                        refine wp_s (i := .iload_n 3) (n := 1) (pc' := 476) (st' := [dz_I s1.1, .retAddr 0, .ref 0]) rfl rfl ?_
                        refine wp_s (i := .iconst 1) (n := 1) (pc' := 477) (st' := [dz_I 1, dz_I s1.1, .retAddr 0, .ref 0]) rfl rfl ?_
                        refine wq_2 (i := .iadd) (z := s1.1 + 1) (pc' := 478) rfl rfl (op_add _ _) rfl ?_
                        obtain ⟨k50, H⟩ := dz_ck H
                        refine wq_sx (j' := dz_c (s1.1 + 1)) (pc' := 479) rfl rfl k50.1 k50.2 rfl ?_
                        refine wp_s (i := .aload_n 0) (n := 1) (pc' := 480) (st' := [.retAddr 0, dz_I (dz_sc xs (dz_c (s1.1 + 1))), .ref 0]) rfl rfl ?_
                        refine wp_s (i := .iload_n 3) (n := 1) (pc' := 481) (st' := [dz_I s1.1, .retAddr 0, dz_I (dz_sc xs (dz_c (s1.1 + 1))), .ref 0]) rfl rfl ?_
                        refine wp_s (i := .iconst 2) (n := 1) (pc' := 482) (st' := [dz_I 2, dz_I s1.1, .retAddr 0, dz_I (dz_sc xs (dz_c (s1.1 + 1))), .ref 0]) rfl rfl ?_
                        refine wq_2 (i := .iadd) (z := s1.1 + 2) (pc' := 483) rfl rfl (op_add _ _) rfl ?_
                        obtain ⟨k51, H⟩ := dz_ck H
                        refine wq_sx (j' := dz_c (s1.1 + 2)) (pc' := 484) rfl rfl k51.1 k51.2 rfl ?_
                        refine wq_cv (Dq := (D + 9)) (r' := mm_r74) (as0 := [dz_I (dz_sc xs (dz_c (s1.1 + 1))), dz_I (dz_sc xs (dz_c (s1.1 + 2)))]) (rest := []) (ls' := [some (.ref 0), some (dz_I (dz_sc xs (dz_c (s1.1 + 1)))), some (dz_I (dz_sc xs (dz_c (s1.1 + 2)))), none]) (pc' := 487) rfl rfl rfl rfl ho_O rfl rfl rfl ?_
                        refine jw_O_cup (X := (some xs)) (D := D + 8) (dz_sc xs (dz_c (s1.1 + 1))) (dz_sc xs (dz_c (s1.1 + 2))) s1.2 (dz_pm (dz_bi H) (fun q52 H => ?_))
                        show mm_Wp (some xs) (D + 10) mm_rL 487 [some (.retAddr 0), some (.ref 0), some (.ref 114), some (dz_I s1.1)] [dz_I q52.1] (hz_0 q52.2) Q
                        refine wp_s (i := .pop) (n := 1) (pc' := 488) (st' := []) rfl rfl ?_
                        refine wp_s (i := .aload_n 2) (n := 1) (pc' := 489) (st' := [.ref 114]) rfl rfl ?_
                        refine wp_s (i := .aload_n 0) (n := 1) (pc' := 490) (st' := [.retAddr 0, .ref 114]) rfl rfl ?_
                        refine wp_s (i := .iload_n 3) (n := 1) (pc' := 491) (st' := [dz_I s1.1, .retAddr 0, .ref 114]) rfl rfl ?_
                        refine wp_s (i := .iconst 1) (n := 1) (pc' := 492) (st' := [dz_I 1, dz_I s1.1, .retAddr 0, .ref 114]) rfl rfl ?_
                        refine wq_2 (i := .iadd) (z := s1.1 + 1) (pc' := 493) rfl rfl (op_add _ _) rfl ?_
                        refine wq_sx (j' := dz_c (s1.1 + 1)) (pc' := 494) rfl rfl k50.1 k50.2 rfl ?_
                        refine wp_s (i := .aload_n 0) (n := 1) (pc' := 495) (st' := [.retAddr 0, dz_I (dz_sc xs (dz_c (s1.1 + 1))), .ref 114]) rfl rfl ?_
                        refine wp_s (i := .iload_n 3) (n := 1) (pc' := 496) (st' := [dz_I s1.1, .retAddr 0, dz_I (dz_sc xs (dz_c (s1.1 + 1))), .ref 114]) rfl rfl ?_
                        refine wp_s (i := .iconst 2) (n := 1) (pc' := 497) (st' := [dz_I 2, dz_I s1.1, .retAddr 0, dz_I (dz_sc xs (dz_c (s1.1 + 1))), .ref 114]) rfl rfl ?_
                        refine wq_2 (i := .iadd) (z := s1.1 + 2) (pc' := 498) rfl rfl (op_add _ _) rfl ?_
                        refine wq_sx (j' := dz_c (s1.1 + 2)) (pc' := 499) rfl rfl k51.1 k51.2 rfl ?_
                        refine wq_cv (Dq := (D + 9)) (r' := mm_r145) (as0 := [dz_I (dz_sc xs (dz_c (s1.1 + 1))), dz_I (dz_sc xs (dz_c (s1.1 + 2)))]) (rest := []) (ls' := [some (.ref 114), some (dz_I (dz_sc xs (dz_c (s1.1 + 1)))), some (dz_I (dz_sc xs (dz_c (s1.1 + 2)))), none]) (pc' := 502) rfl rfl rfl rfl ho_M rfl rfl rfl ?_
                        refine jw_M_cup (X := (some xs)) (D := D + 7) (dz_sc xs (dz_c (s1.1 + 1))) (dz_sc xs (dz_c (s1.1 + 2))) q52.2 (dz_pm (dz_bi H) (fun q53 H => ?_))
                        show mm_Wp (some xs) (D + 10) mm_rL 502 [some (.retAddr 0), some (.ref 0), some (.ref 114), some (dz_I s1.1)] [dz_I q53.1] (hz_0 q53.2) Q
                        refine wp_s (i := .pop) (n := 1) (pc' := 503) (st' := []) rfl rfl ?_
                        refine wp_s (i := .goto 807) (n := 3) (pc' := 1310) (st' := []) rfl rfl ?_
                        refine wq_inc (k := 3) (d := 5) (x := s1.1) (ls' := [some (.retAddr 0), some (.ref 0), some (.ref 114), some (dz_I (s1.1 + 5))]) (pc' := 1313) rfl rfl rfl rfl ?_
                        refine wp_s (i := .goto (-1295)) (n := 3) (pc' := 18) (st' := []) rfl rfl ?_
                        replace H := dz_back H
                        exact H
                      · replace H := dz_if c49 H
                        by_cases c54 : dz_c (dz_an (dz_sc xs (dz_c s1.1)) 63) = 10
                        · replace H := dz_it c54 H
                          refine wq_ts (x' := dz_c (dz_an (dz_sc xs (dz_c s1.1)) 63)) (tt := 506) rfl rfl (by rw [c54]; rfl) ?_
                          refine wp_s (i := .aload_n 1) (n := 1) (pc' := 507) (st' := [.ref 0]) rfl rfl ?_
                          refine wp_s (i := .aload_n 0) (n := 1) (pc' := 508) (st' := [.retAddr 0, .ref 0]) rfl rfl ?_
                          refine wp_s (i := .iload_n 3) (n := 1) (pc' := 509) (st' := [dz_I s1.1, .retAddr 0, .ref 0]) rfl rfl ?_
                          refine wp_s (i := .iconst 1) (n := 1) (pc' := 510) (st' := [dz_I 1, dz_I s1.1, .retAddr 0, .ref 0]) rfl rfl ?_
                          refine wq_2 (i := .iadd) (z := s1.1 + 1) (pc' := 511) rfl rfl (op_add _ _) rfl ?_
                          obtain ⟨k55, H⟩ := dz_ck H
                          refine wq_sx (j' := dz_c (s1.1 + 1)) (pc' := 512) rfl rfl k55.1 k55.2 rfl ?_
                          refine wq_cv (Dq := (D + 9)) (r' := mm_r75) (as0 := [dz_I (dz_sc xs (dz_c (s1.1 + 1)))]) (rest := []) (ls' := [some (.ref 0), some (dz_I (dz_sc xs (dz_c (s1.1 + 1)))), none]) (pc' := 515) rfl rfl rfl rfl ho_O rfl rfl rfl ?_
                          refine jw_O_settings (X := (some xs)) (D := D + 8) (dz_sc xs (dz_c (s1.1 + 1))) s1.2 (dz_pm (dz_bi H) (fun q56 H => ?_))
                          show mm_Wp (some xs) (D + 10) mm_rL 515 [some (.retAddr 0), some (.ref 0), some (.ref 114), some (dz_I s1.1)] [dz_I q56.1] (hz_0 q56.2) Q
                          refine wp_s (i := .pop) (n := 1) (pc' := 516) (st' := []) rfl rfl ?_
                          refine wp_s (i := .aload_n 2) (n := 1) (pc' := 517) (st' := [.ref 114]) rfl rfl ?_
                          refine wp_s (i := .aload_n 0) (n := 1) (pc' := 518) (st' := [.retAddr 0, .ref 114]) rfl rfl ?_
                          refine wp_s (i := .iload_n 3) (n := 1) (pc' := 519) (st' := [dz_I s1.1, .retAddr 0, .ref 114]) rfl rfl ?_
                          refine wp_s (i := .iconst 1) (n := 1) (pc' := 520) (st' := [dz_I 1, dz_I s1.1, .retAddr 0, .ref 114]) rfl rfl ?_
                          refine wq_2 (i := .iadd) (z := s1.1 + 1) (pc' := 521) rfl rfl (op_add _ _) rfl ?_
                          refine wq_sx (j' := dz_c (s1.1 + 1)) (pc' := 522) rfl rfl k55.1 k55.2 rfl ?_
                          refine wq_cv (Dq := (D + 9)) (r' := mm_r149) (as0 := [dz_I (dz_sc xs (dz_c (s1.1 + 1)))]) (rest := []) (ls' := [some (.ref 114), some (dz_I (dz_sc xs (dz_c (s1.1 + 1)))), none]) (pc' := 525) rfl rfl rfl rfl ho_M rfl rfl rfl ?_
                          refine jw_M_settings (X := (some xs)) (D := D + 8) (dz_sc xs (dz_c (s1.1 + 1))) q56.2 (dz_pm (dz_bi H) (fun q57 H => ?_))
                          show mm_Wp (some xs) (D + 10) mm_rL 525 [some (.retAddr 0), some (.ref 0), some (.ref 114), some (dz_I s1.1)] [dz_I q57.1] (hz_0 q57.2) Q
                          refine wp_s (i := .pop) (n := 1) (pc' := 526) (st' := []) rfl rfl ?_
                          refine wp_s (i := .goto 784) (n := 3) (pc' := 1310) (st' := []) rfl rfl ?_
                          refine wq_inc (k := 3) (d := 5) (x := s1.1) (ls' := [some (.retAddr 0), some (.ref 0), some (.ref 114), some (dz_I (s1.1 + 5))]) (pc' := 1313) rfl rfl rfl rfl ?_
                          refine wp_s (i := .goto (-1295)) (n := 3) (pc' := 18) (st' := []) rfl rfl ?_
                          replace H := dz_back H
                          exact H
                        · replace H := dz_if c54 H
                          by_cases c58 : dz_c (dz_an (dz_sc xs (dz_c s1.1)) 63) = 11
                          · replace H := dz_it c58 H
                            refine wq_ts (x' := dz_c (dz_an (dz_sc xs (dz_c s1.1)) 63)) (tt := 529) rfl rfl (by rw [c58]; rfl) ?_
                            refine wp_s (i := .aload_n 1) (n := 1) (pc' := 530) (st' := [.ref 0]) rfl rfl ?_
                            refine wp_s (i := .aload_n 0) (n := 1) (pc' := 531) (st' := [.retAddr 0, .ref 0]) rfl rfl ?_
                            refine wp_s (i := .iload_n 3) (n := 1) (pc' := 532) (st' := [dz_I s1.1, .retAddr 0, .ref 0]) rfl rfl ?_
                            refine wp_s (i := .iconst 1) (n := 1) (pc' := 533) (st' := [dz_I 1, dz_I s1.1, .retAddr 0, .ref 0]) rfl rfl ?_
                            refine wq_2 (i := .iadd) (z := s1.1 + 1) (pc' := 534) rfl rfl (op_add _ _) rfl ?_
                            obtain ⟨k59, H⟩ := dz_ck H
                            refine wq_sx (j' := dz_c (s1.1 + 1)) (pc' := 535) rfl rfl k59.1 k59.2 rfl ?_
                            refine wq_cv (Dq := (D + 9)) (r' := mm_r76) (as0 := [dz_I (dz_sc xs (dz_c (s1.1 + 1)))]) (rest := []) (ls' := [some (.ref 0), some (dz_I (dz_sc xs (dz_c (s1.1 + 1))))]) (pc' := 538) rfl rfl rfl rfl ho_O rfl rfl rfl ?_
                            refine jw_O_rain (X := (some xs)) (D := D + 5) (dz_sc xs (dz_c (s1.1 + 1))) s1.2 (dz_pm (dz_bi H) (fun q60 H => ?_))
                            show mm_Wp (some xs) (D + 10) mm_rL 538 [some (.retAddr 0), some (.ref 0), some (.ref 114), some (dz_I s1.1)] [dz_I q60.1] (hz_0 q60.2) Q
                            refine wp_s (i := .pop) (n := 1) (pc' := 539) (st' := []) rfl rfl ?_
                            refine wp_s (i := .aload_n 2) (n := 1) (pc' := 540) (st' := [.ref 114]) rfl rfl ?_
                            refine wp_s (i := .aload_n 0) (n := 1) (pc' := 541) (st' := [.retAddr 0, .ref 114]) rfl rfl ?_
                            refine wp_s (i := .iload_n 3) (n := 1) (pc' := 542) (st' := [dz_I s1.1, .retAddr 0, .ref 114]) rfl rfl ?_
                            refine wp_s (i := .iconst 1) (n := 1) (pc' := 543) (st' := [dz_I 1, dz_I s1.1, .retAddr 0, .ref 114]) rfl rfl ?_
                            refine wq_2 (i := .iadd) (z := s1.1 + 1) (pc' := 544) rfl rfl (op_add _ _) rfl ?_
                            refine wq_sx (j' := dz_c (s1.1 + 1)) (pc' := 545) rfl rfl k59.1 k59.2 rfl ?_
                            refine wq_cv (Dq := (D + 9)) (r' := mm_r156) (as0 := [dz_I (dz_sc xs (dz_c (s1.1 + 1)))]) (rest := []) (ls' := [some (.ref 114), some (dz_I (dz_sc xs (dz_c (s1.1 + 1))))]) (pc' := 548) rfl rfl rfl rfl ho_M rfl rfl rfl ?_
                            refine jw_M_rain (X := (some xs)) (D := D + 6) (dz_sc xs (dz_c (s1.1 + 1))) q60.2 (dz_pm (dz_bi H) (fun q61 H => ?_))
                            show mm_Wp (some xs) (D + 10) mm_rL 548 [some (.retAddr 0), some (.ref 0), some (.ref 114), some (dz_I s1.1)] [dz_I q61.1] (hz_0 q61.2) Q
                            refine wp_s (i := .pop) (n := 1) (pc' := 549) (st' := []) rfl rfl ?_
                            refine wp_s (i := .goto 761) (n := 3) (pc' := 1310) (st' := []) rfl rfl ?_
                            refine wq_inc (k := 3) (d := 5) (x := s1.1) (ls' := [some (.retAddr 0), some (.ref 0), some (.ref 114), some (dz_I (s1.1 + 5))]) (pc' := 1313) rfl rfl rfl rfl ?_
                            refine wp_s (i := .goto (-1295)) (n := 3) (pc' := 18) (st' := []) rfl rfl ?_
                            replace H := dz_back H
                            exact H
                          · replace H := dz_if c58 H
                            by_cases c62 : dz_c (dz_an (dz_sc xs (dz_c s1.1)) 63) = 12
                            · replace H := dz_it c62 H
                              refine wq_ts (x' := dz_c (dz_an (dz_sc xs (dz_c s1.1)) 63)) (tt := 552) rfl rfl (by rw [c62]; rfl) ?_
                              refine wp_s (i := .aload_n 1) (n := 1) (pc' := 553) (st' := [.ref 0]) rfl rfl ?_
                              refine wq_cv (Dq := (D + 9)) (r' := mm_r77) (as0 := []) (rest := []) (ls' := [some (.ref 0), none]) (pc' := 556) rfl rfl rfl rfl ho_O rfl rfl rfl ?_
                              refine jw_O_dry (X := (some xs)) (D := D + 7) s1.2 (dz_pm (dz_bi H) (fun q63 H => ?_))
                              show mm_Wp (some xs) (D + 10) mm_rL 556 [some (.retAddr 0), some (.ref 0), some (.ref 114), some (dz_I s1.1)] [dz_I q63.1] (hz_0 q63.2) Q
                              refine wp_s (i := .pop) (n := 1) (pc' := 557) (st' := []) rfl rfl ?_
                              refine wp_s (i := .aload_n 2) (n := 1) (pc' := 558) (st' := [.ref 114]) rfl rfl ?_
                              refine wq_cv (Dq := (D + 9)) (r' := mm_r157) (as0 := []) (rest := []) (ls' := [some (.ref 114), none]) (pc' := 561) rfl rfl rfl rfl ho_M rfl rfl rfl ?_
                              refine jw_M_dry (X := (some xs)) (D := D + 8) q63.2 (dz_pm (dz_bi H) (fun q64 H => ?_))
                              show mm_Wp (some xs) (D + 10) mm_rL 561 [some (.retAddr 0), some (.ref 0), some (.ref 114), some (dz_I s1.1)] [dz_I q64.1] (hz_0 q64.2) Q
                              refine wp_s (i := .pop) (n := 1) (pc' := 562) (st' := []) rfl rfl ?_
                              refine wp_s (i := .goto 748) (n := 3) (pc' := 1310) (st' := []) rfl rfl ?_
                              refine wq_inc (k := 3) (d := 5) (x := s1.1) (ls' := [some (.retAddr 0), some (.ref 0), some (.ref 114), some (dz_I (s1.1 + 5))]) (pc' := 1313) rfl rfl rfl rfl ?_
                              refine wp_s (i := .goto (-1295)) (n := 3) (pc' := 18) (st' := []) rfl rfl ?_
                              replace H := dz_back H
                              exact H
                            · replace H := dz_if c62 H
                              by_cases c65 : dz_c (dz_an (dz_sc xs (dz_c s1.1)) 63) = 13
                              · replace H := dz_it c65 H
                                refine wq_ts (x' := dz_c (dz_an (dz_sc xs (dz_c s1.1)) 63)) (tt := 565) rfl rfl (by rw [c65]; rfl) ?_
                                refine wp_s (i := .aload_n 1) (n := 1) (pc' := 566) (st' := [.ref 0]) rfl rfl ?_
                                refine wp_s (i := .aload_n 0) (n := 1) (pc' := 567) (st' := [.retAddr 0, .ref 0]) rfl rfl ?_
                                refine wp_s (i := .iload_n 3) (n := 1) (pc' := 568) (st' := [dz_I s1.1, .retAddr 0, .ref 0]) rfl rfl ?_
                                refine wp_s (i := .iconst 1) (n := 1) (pc' := 569) (st' := [dz_I 1, dz_I s1.1, .retAddr 0, .ref 0]) rfl rfl ?_
                                refine wq_2 (i := .iadd) (z := s1.1 + 1) (pc' := 570) rfl rfl (op_add _ _) rfl ?_
                                obtain ⟨k66, H⟩ := dz_ck H
                                refine wq_sx (j' := dz_c (s1.1 + 1)) (pc' := 571) rfl rfl k66.1 k66.2 rfl ?_
                                refine wq_cv (Dq := (D + 9)) (r' := mm_r78) (as0 := [dz_I (dz_sc xs (dz_c (s1.1 + 1)))]) (rest := []) (ls' := [some (.ref 0), some (dz_I (dz_sc xs (dz_c (s1.1 + 1))))]) (pc' := 574) rfl rfl rfl rfl ho_O rfl rfl rfl ?_
                                refine jw_O_water (X := (some xs)) (D := D + 8) (dz_sc xs (dz_c (s1.1 + 1))) s1.2 (dz_pm (dz_bi H) (fun q67 H => ?_))
                                show mm_Wp (some xs) (D + 10) mm_rL 574 [some (.retAddr 0), some (.ref 0), some (.ref 114), some (dz_I s1.1)] [dz_I q67] (hz_0 s1.2) Q
                                refine wp_s (i := .pop) (n := 1) (pc' := 575) (st' := []) rfl rfl ?_
                                refine wp_s (i := .aload_n 2) (n := 1) (pc' := 576) (st' := [.ref 114]) rfl rfl ?_
                                refine wp_s (i := .aload_n 0) (n := 1) (pc' := 577) (st' := [.retAddr 0, .ref 114]) rfl rfl ?_
                                refine wp_s (i := .iload_n 3) (n := 1) (pc' := 578) (st' := [dz_I s1.1, .retAddr 0, .ref 114]) rfl rfl ?_
                                refine wp_s (i := .iconst 1) (n := 1) (pc' := 579) (st' := [dz_I 1, dz_I s1.1, .retAddr 0, .ref 114]) rfl rfl ?_
                                refine wq_2 (i := .iadd) (z := s1.1 + 1) (pc' := 580) rfl rfl (op_add _ _) rfl ?_
                                refine wq_sx (j' := dz_c (s1.1 + 1)) (pc' := 581) rfl rfl k66.1 k66.2 rfl ?_
                                refine wq_cv (Dq := (D + 9)) (r' := mm_r158) (as0 := [dz_I (dz_sc xs (dz_c (s1.1 + 1)))]) (rest := []) (ls' := [some (.ref 114), some (dz_I (dz_sc xs (dz_c (s1.1 + 1))))]) (pc' := 584) rfl rfl rfl rfl ho_M rfl rfl rfl ?_
                                refine jw_M_water (X := (some xs)) (D := D + 8) (dz_sc xs (dz_c (s1.1 + 1))) s1.2 (dz_pm (dz_bi H) (fun q68 H => ?_))
                                show mm_Wp (some xs) (D + 10) mm_rL 584 [some (.retAddr 0), some (.ref 0), some (.ref 114), some (dz_I s1.1)] [dz_I q68] (hz_0 s1.2) Q
                                refine wp_s (i := .pop) (n := 1) (pc' := 585) (st' := []) rfl rfl ?_
                                refine wp_s (i := .goto 725) (n := 3) (pc' := 1310) (st' := []) rfl rfl ?_
                                refine wq_inc (k := 3) (d := 5) (x := s1.1) (ls' := [some (.retAddr 0), some (.ref 0), some (.ref 114), some (dz_I (s1.1 + 5))]) (pc' := 1313) rfl rfl rfl rfl ?_
                                refine wp_s (i := .goto (-1295)) (n := 3) (pc' := 18) (st' := []) rfl rfl ?_
                                replace H := dz_back H
                                exact H
                              · replace H := dz_if c65 H
                                by_cases c69 : dz_c (dz_an (dz_sc xs (dz_c s1.1)) 63) = 14
                                · replace H := dz_it c69 H
                                  refine wq_ts (x' := dz_c (dz_an (dz_sc xs (dz_c s1.1)) 63)) (tt := 588) rfl rfl (by rw [c69]; rfl) ?_
                                  refine wp_s (i := .aload_n 1) (n := 1) (pc' := 589) (st' := [.ref 0]) rfl rfl ?_
                                  refine wp_s (i := .aload_n 0) (n := 1) (pc' := 590) (st' := [.retAddr 0, .ref 0]) rfl rfl ?_
                                  refine wp_s (i := .iload_n 3) (n := 1) (pc' := 591) (st' := [dz_I s1.1, .retAddr 0, .ref 0]) rfl rfl ?_
                                  refine wp_s (i := .iconst 1) (n := 1) (pc' := 592) (st' := [dz_I 1, dz_I s1.1, .retAddr 0, .ref 0]) rfl rfl ?_
                                  refine wq_2 (i := .iadd) (z := s1.1 + 1) (pc' := 593) rfl rfl (op_add _ _) rfl ?_
                                  obtain ⟨k70, H⟩ := dz_ck H
                                  refine wq_sx (j' := dz_c (s1.1 + 1)) (pc' := 594) rfl rfl k70.1 k70.2 rfl ?_
                                  refine wq_cv (Dq := (D + 9)) (r' := mm_r79) (as0 := [dz_I (dz_sc xs (dz_c (s1.1 + 1)))]) (rest := []) (ls' := [some (.ref 0), some (dz_I (dz_sc xs (dz_c (s1.1 + 1))))]) (pc' := 597) rfl rfl rfl rfl ho_O rfl rfl rfl ?_
                                  refine jw_O_loud (X := (some xs)) (D := D + 8) (dz_sc xs (dz_c (s1.1 + 1))) s1.2 (dz_pm (dz_bi H) (fun q71 H => ?_))
                                  show mm_Wp (some xs) (D + 10) mm_rL 597 [some (.retAddr 0), some (.ref 0), some (.ref 114), some (dz_I s1.1)] [dz_I q71] (hz_0 s1.2) Q
                                  refine wp_s (i := .pop) (n := 1) (pc' := 598) (st' := []) rfl rfl ?_
                                  refine wp_s (i := .aload_n 2) (n := 1) (pc' := 599) (st' := [.ref 114]) rfl rfl ?_
                                  refine wp_s (i := .aload_n 0) (n := 1) (pc' := 600) (st' := [.retAddr 0, .ref 114]) rfl rfl ?_
                                  refine wp_s (i := .iload_n 3) (n := 1) (pc' := 601) (st' := [dz_I s1.1, .retAddr 0, .ref 114]) rfl rfl ?_
                                  refine wp_s (i := .iconst 1) (n := 1) (pc' := 602) (st' := [dz_I 1, dz_I s1.1, .retAddr 0, .ref 114]) rfl rfl ?_
                                  refine wq_2 (i := .iadd) (z := s1.1 + 1) (pc' := 603) rfl rfl (op_add _ _) rfl ?_
                                  refine wq_sx (j' := dz_c (s1.1 + 1)) (pc' := 604) rfl rfl k70.1 k70.2 rfl ?_
                                  refine wq_cv (Dq := (D + 9)) (r' := mm_r159) (as0 := [dz_I (dz_sc xs (dz_c (s1.1 + 1)))]) (rest := []) (ls' := [some (.ref 114), some (dz_I (dz_sc xs (dz_c (s1.1 + 1))))]) (pc' := 607) rfl rfl rfl rfl ho_M rfl rfl rfl ?_
                                  refine jw_M_loud (X := (some xs)) (D := D + 7) (dz_sc xs (dz_c (s1.1 + 1))) s1.2 (dz_pm (dz_bi H) (fun q72 H => ?_))
                                  show mm_Wp (some xs) (D + 10) mm_rL 607 [some (.retAddr 0), some (.ref 0), some (.ref 114), some (dz_I s1.1)] [dz_I q72] (hz_0 s1.2) Q
                                  refine wp_s (i := .pop) (n := 1) (pc' := 608) (st' := []) rfl rfl ?_
                                  refine wp_s (i := .goto 702) (n := 3) (pc' := 1310) (st' := []) rfl rfl ?_
                                  refine wq_inc (k := 3) (d := 5) (x := s1.1) (ls' := [some (.retAddr 0), some (.ref 0), some (.ref 114), some (dz_I (s1.1 + 5))]) (pc' := 1313) rfl rfl rfl rfl ?_
                                  refine wp_s (i := .goto (-1295)) (n := 3) (pc' := 18) (st' := []) rfl rfl ?_
                                  replace H := dz_back H
                                  exact H
                                · replace H := dz_if c69 H
                                  by_cases c73 : dz_c (dz_an (dz_sc xs (dz_c s1.1)) 63) = 15
                                  · replace H := dz_it c73 H
                                    refine wq_ts (x' := dz_c (dz_an (dz_sc xs (dz_c s1.1)) 63)) (tt := 611) rfl rfl (by rw [c73]; rfl) ?_
                                    refine wp_s (i := .aload_n 1) (n := 1) (pc' := 612) (st' := [.ref 0]) rfl rfl ?_
                                    refine wp_s (i := .aload_n 0) (n := 1) (pc' := 613) (st' := [.retAddr 0, .ref 0]) rfl rfl ?_
                                    refine wp_s (i := .iload_n 3) (n := 1) (pc' := 614) (st' := [dz_I s1.1, .retAddr 0, .ref 0]) rfl rfl ?_
                                    refine wp_s (i := .iconst 1) (n := 1) (pc' := 615) (st' := [dz_I 1, dz_I s1.1, .retAddr 0, .ref 0]) rfl rfl ?_
                                    refine wq_2 (i := .iadd) (z := s1.1 + 1) (pc' := 616) rfl rfl (op_add _ _) rfl ?_
                                    obtain ⟨k74, H⟩ := dz_ck H
                                    refine wq_sx (j' := dz_c (s1.1 + 1)) (pc' := 617) rfl rfl k74.1 k74.2 rfl ?_
                                    refine wp_s (i := .aload_n 0) (n := 1) (pc' := 618) (st' := [.retAddr 0, dz_I (dz_sc xs (dz_c (s1.1 + 1))), .ref 0]) rfl rfl ?_
                                    refine wp_s (i := .iload_n 3) (n := 1) (pc' := 619) (st' := [dz_I s1.1, .retAddr 0, dz_I (dz_sc xs (dz_c (s1.1 + 1))), .ref 0]) rfl rfl ?_
                                    refine wp_s (i := .iconst 2) (n := 1) (pc' := 620) (st' := [dz_I 2, dz_I s1.1, .retAddr 0, dz_I (dz_sc xs (dz_c (s1.1 + 1))), .ref 0]) rfl rfl ?_
                                    refine wq_2 (i := .iadd) (z := s1.1 + 2) (pc' := 621) rfl rfl (op_add _ _) rfl ?_
                                    obtain ⟨k75, H⟩ := dz_ck H
                                    refine wq_sx (j' := dz_c (s1.1 + 2)) (pc' := 622) rfl rfl k75.1 k75.2 rfl ?_
                                    refine wq_cv (Dq := (D + 9)) (r' := mm_r80) (as0 := [dz_I (dz_sc xs (dz_c (s1.1 + 1))), dz_I (dz_sc xs (dz_c (s1.1 + 2)))]) (rest := []) (ls' := [some (.ref 0), some (dz_I (dz_sc xs (dz_c (s1.1 + 1)))), some (dz_I (dz_sc xs (dz_c (s1.1 + 2))))]) (pc' := 625) rfl rfl rfl rfl ho_O rfl rfl rfl ?_
                                    refine jw_O_shower (X := (some xs)) (D := D + 8) (dz_sc xs (dz_c (s1.1 + 1))) (dz_sc xs (dz_c (s1.1 + 2))) s1.2 (dz_pm (dz_bi H) (fun q76 H => ?_))
                                    show mm_Wp (some xs) (D + 10) mm_rL 625 [some (.retAddr 0), some (.ref 0), some (.ref 114), some (dz_I s1.1)] [dz_I q76] (hz_0 s1.2) Q
                                    refine wp_s (i := .pop) (n := 1) (pc' := 626) (st' := []) rfl rfl ?_
                                    refine wp_s (i := .aload_n 2) (n := 1) (pc' := 627) (st' := [.ref 114]) rfl rfl ?_
                                    refine wp_s (i := .aload_n 0) (n := 1) (pc' := 628) (st' := [.retAddr 0, .ref 114]) rfl rfl ?_
                                    refine wp_s (i := .iload_n 3) (n := 1) (pc' := 629) (st' := [dz_I s1.1, .retAddr 0, .ref 114]) rfl rfl ?_
                                    refine wp_s (i := .iconst 1) (n := 1) (pc' := 630) (st' := [dz_I 1, dz_I s1.1, .retAddr 0, .ref 114]) rfl rfl ?_
                                    refine wq_2 (i := .iadd) (z := s1.1 + 1) (pc' := 631) rfl rfl (op_add _ _) rfl ?_
                                    refine wq_sx (j' := dz_c (s1.1 + 1)) (pc' := 632) rfl rfl k74.1 k74.2 rfl ?_
                                    refine wp_s (i := .aload_n 0) (n := 1) (pc' := 633) (st' := [.retAddr 0, dz_I (dz_sc xs (dz_c (s1.1 + 1))), .ref 114]) rfl rfl ?_
                                    refine wp_s (i := .iload_n 3) (n := 1) (pc' := 634) (st' := [dz_I s1.1, .retAddr 0, dz_I (dz_sc xs (dz_c (s1.1 + 1))), .ref 114]) rfl rfl ?_
                                    refine wp_s (i := .iconst 2) (n := 1) (pc' := 635) (st' := [dz_I 2, dz_I s1.1, .retAddr 0, dz_I (dz_sc xs (dz_c (s1.1 + 1))), .ref 114]) rfl rfl ?_
                                    refine wq_2 (i := .iadd) (z := s1.1 + 2) (pc' := 636) rfl rfl (op_add _ _) rfl ?_
                                    refine wq_sx (j' := dz_c (s1.1 + 2)) (pc' := 637) rfl rfl k75.1 k75.2 rfl ?_
                                    refine wq_cv (Dq := (D + 9)) (r' := mm_r163) (as0 := [dz_I (dz_sc xs (dz_c (s1.1 + 1))), dz_I (dz_sc xs (dz_c (s1.1 + 2)))]) (rest := []) (ls' := [some (.ref 114), some (dz_I (dz_sc xs (dz_c (s1.1 + 1)))), some (dz_I (dz_sc xs (dz_c (s1.1 + 2))))]) (pc' := 640) rfl rfl rfl rfl ho_M rfl rfl rfl ?_
                                    refine jw_M_shower (X := (some xs)) (D := D + 7) (dz_sc xs (dz_c (s1.1 + 1))) (dz_sc xs (dz_c (s1.1 + 2))) s1.2 (dz_pm (dz_bi H) (fun q77 H => ?_))
                                    show mm_Wp (some xs) (D + 10) mm_rL 640 [some (.retAddr 0), some (.ref 0), some (.ref 114), some (dz_I s1.1)] [dz_I q77] (hz_0 s1.2) Q
                                    refine wp_s (i := .pop) (n := 1) (pc' := 641) (st' := []) rfl rfl ?_
                                    refine wp_s (i := .goto 669) (n := 3) (pc' := 1310) (st' := []) rfl rfl ?_
                                    refine wq_inc (k := 3) (d := 5) (x := s1.1) (ls' := [some (.retAddr 0), some (.ref 0), some (.ref 114), some (dz_I (s1.1 + 5))]) (pc' := 1313) rfl rfl rfl rfl ?_
                                    refine wp_s (i := .goto (-1295)) (n := 3) (pc' := 18) (st' := []) rfl rfl ?_
                                    replace H := dz_back H
                                    exact H
                                  · replace H := dz_if c73 H
                                    by_cases c78 : dz_c (dz_an (dz_sc xs (dz_c s1.1)) 63) = 16
                                    · replace H := dz_it c78 H
                                      refine wq_ts (x' := dz_c (dz_an (dz_sc xs (dz_c s1.1)) 63)) (tt := 644) rfl rfl (by rw [c78]; rfl) ?_
                                      refine wp_s (i := .aload_n 1) (n := 1) (pc' := 645) (st' := [.ref 0]) rfl rfl ?_
                                      refine wp_s (i := .aload_n 0) (n := 1) (pc' := 646) (st' := [.retAddr 0, .ref 0]) rfl rfl ?_
                                      refine wp_s (i := .iload_n 3) (n := 1) (pc' := 647) (st' := [dz_I s1.1, .retAddr 0, .ref 0]) rfl rfl ?_
                                      refine wp_s (i := .iconst 1) (n := 1) (pc' := 648) (st' := [dz_I 1, dz_I s1.1, .retAddr 0, .ref 0]) rfl rfl ?_
                                      refine wq_2 (i := .iadd) (z := s1.1 + 1) (pc' := 649) rfl rfl (op_add _ _) rfl ?_
                                      obtain ⟨k79, H⟩ := dz_ck H
                                      refine wq_sx (j' := dz_c (s1.1 + 1)) (pc' := 650) rfl rfl k79.1 k79.2 rfl ?_
                                      refine wp_s (i := .aload_n 0) (n := 1) (pc' := 651) (st' := [.retAddr 0, dz_I (dz_sc xs (dz_c (s1.1 + 1))), .ref 0]) rfl rfl ?_
                                      refine wp_s (i := .iload_n 3) (n := 1) (pc' := 652) (st' := [dz_I s1.1, .retAddr 0, dz_I (dz_sc xs (dz_c (s1.1 + 1))), .ref 0]) rfl rfl ?_
                                      refine wp_s (i := .iconst 2) (n := 1) (pc' := 653) (st' := [dz_I 2, dz_I s1.1, .retAddr 0, dz_I (dz_sc xs (dz_c (s1.1 + 1))), .ref 0]) rfl rfl ?_
                                      refine wq_2 (i := .iadd) (z := s1.1 + 2) (pc' := 654) rfl rfl (op_add _ _) rfl ?_
                                      obtain ⟨k80, H⟩ := dz_ck H
                                      refine wq_sx (j' := dz_c (s1.1 + 2)) (pc' := 655) rfl rfl k80.1 k80.2 rfl ?_
                                      refine wq_cv (Dq := (D + 9)) (r' := mm_r81) (as0 := [dz_I (dz_sc xs (dz_c (s1.1 + 1))), dz_I (dz_sc xs (dz_c (s1.1 + 2)))]) (rest := []) (ls' := [some (.ref 0), some (dz_I (dz_sc xs (dz_c (s1.1 + 1)))), some (dz_I (dz_sc xs (dz_c (s1.1 + 2))))]) (pc' := 658) rfl rfl rfl rfl ho_O rfl rfl rfl ?_
                                      refine jw_O_plays (X := (some xs)) (D := D + 4) (dz_sc xs (dz_c (s1.1 + 1))) (dz_sc xs (dz_c (s1.1 + 2))) s1.2 (dz_pm (dz_bi H) (fun q81 H => ?_))
                                      show mm_Wp (some xs) (D + 10) mm_rL 658 [some (.retAddr 0), some (.ref 0), some (.ref 114), some (dz_I s1.1)] [dz_I q81.1] (hz_0 q81.2) Q
                                      refine wp_s (i := .pop) (n := 1) (pc' := 659) (st' := []) rfl rfl ?_
                                      refine wp_s (i := .aload_n 2) (n := 1) (pc' := 660) (st' := [.ref 114]) rfl rfl ?_
                                      refine wp_s (i := .aload_n 0) (n := 1) (pc' := 661) (st' := [.retAddr 0, .ref 114]) rfl rfl ?_
                                      refine wp_s (i := .iload_n 3) (n := 1) (pc' := 662) (st' := [dz_I s1.1, .retAddr 0, .ref 114]) rfl rfl ?_
                                      refine wp_s (i := .iconst 1) (n := 1) (pc' := 663) (st' := [dz_I 1, dz_I s1.1, .retAddr 0, .ref 114]) rfl rfl ?_
                                      refine wq_2 (i := .iadd) (z := s1.1 + 1) (pc' := 664) rfl rfl (op_add _ _) rfl ?_
                                      refine wq_sx (j' := dz_c (s1.1 + 1)) (pc' := 665) rfl rfl k79.1 k79.2 rfl ?_
                                      refine wp_s (i := .aload_n 0) (n := 1) (pc' := 666) (st' := [.retAddr 0, dz_I (dz_sc xs (dz_c (s1.1 + 1))), .ref 114]) rfl rfl ?_
                                      refine wp_s (i := .iload_n 3) (n := 1) (pc' := 667) (st' := [dz_I s1.1, .retAddr 0, dz_I (dz_sc xs (dz_c (s1.1 + 1))), .ref 114]) rfl rfl ?_
                                      refine wp_s (i := .iconst 2) (n := 1) (pc' := 668) (st' := [dz_I 2, dz_I s1.1, .retAddr 0, dz_I (dz_sc xs (dz_c (s1.1 + 1))), .ref 114]) rfl rfl ?_
                                      refine wq_2 (i := .iadd) (z := s1.1 + 2) (pc' := 669) rfl rfl (op_add _ _) rfl ?_
                                      refine wq_sx (j' := dz_c (s1.1 + 2)) (pc' := 670) rfl rfl k80.1 k80.2 rfl ?_
                                      refine wq_cv (Dq := (D + 9)) (r' := mm_r164) (as0 := [dz_I (dz_sc xs (dz_c (s1.1 + 1))), dz_I (dz_sc xs (dz_c (s1.1 + 2)))]) (rest := []) (ls' := [some (.ref 114), some (dz_I (dz_sc xs (dz_c (s1.1 + 1)))), some (dz_I (dz_sc xs (dz_c (s1.1 + 2))))]) (pc' := 673) rfl rfl rfl rfl ho_M rfl rfl rfl ?_
                                      refine jw_M_plays (X := (some xs)) (D := D + 4) (dz_sc xs (dz_c (s1.1 + 1))) (dz_sc xs (dz_c (s1.1 + 2))) q81.2 (dz_pm (dz_bi H) (fun q82 H => ?_))
                                      show mm_Wp (some xs) (D + 10) mm_rL 673 [some (.retAddr 0), some (.ref 0), some (.ref 114), some (dz_I s1.1)] [dz_I q82.1] (hz_0 q82.2) Q
                                      refine wp_s (i := .pop) (n := 1) (pc' := 674) (st' := []) rfl rfl ?_
                                      refine wp_s (i := .goto 636) (n := 3) (pc' := 1310) (st' := []) rfl rfl ?_
                                      refine wq_inc (k := 3) (d := 5) (x := s1.1) (ls' := [some (.retAddr 0), some (.ref 0), some (.ref 114), some (dz_I (s1.1 + 5))]) (pc' := 1313) rfl rfl rfl rfl ?_
                                      refine wp_s (i := .goto (-1295)) (n := 3) (pc' := 18) (st' := []) rfl rfl ?_
                                      replace H := dz_back H
                                      exact H
                                    · replace H := dz_if c78 H
                                      by_cases c83 : dz_c (dz_an (dz_sc xs (dz_c s1.1)) 63) = 17
                                      · replace H := dz_it c83 H
                                        refine wq_ts (x' := dz_c (dz_an (dz_sc xs (dz_c s1.1)) 63)) (tt := 677) rfl rfl (by rw [c83]; rfl) ?_
                                        refine wp_s (i := .aload_n 1) (n := 1) (pc' := 678) (st' := [.ref 0]) rfl rfl ?_
                                        refine wp_s (i := .aload_n 0) (n := 1) (pc' := 679) (st' := [.retAddr 0, .ref 0]) rfl rfl ?_
                                        refine wp_s (i := .iload_n 3) (n := 1) (pc' := 680) (st' := [dz_I s1.1, .retAddr 0, .ref 0]) rfl rfl ?_
                                        refine wp_s (i := .iconst 1) (n := 1) (pc' := 681) (st' := [dz_I 1, dz_I s1.1, .retAddr 0, .ref 0]) rfl rfl ?_
                                        refine wq_2 (i := .iadd) (z := s1.1 + 1) (pc' := 682) rfl rfl (op_add _ _) rfl ?_
                                        obtain ⟨k84, H⟩ := dz_ck H
                                        refine wq_sx (j' := dz_c (s1.1 + 1)) (pc' := 683) rfl rfl k84.1 k84.2 rfl ?_
                                        refine wp_s (i := .aload_n 0) (n := 1) (pc' := 684) (st' := [.retAddr 0, dz_I (dz_sc xs (dz_c (s1.1 + 1))), .ref 0]) rfl rfl ?_
                                        refine wp_s (i := .iload_n 3) (n := 1) (pc' := 685) (st' := [dz_I s1.1, .retAddr 0, dz_I (dz_sc xs (dz_c (s1.1 + 1))), .ref 0]) rfl rfl ?_
                                        refine wp_s (i := .iconst 2) (n := 1) (pc' := 686) (st' := [dz_I 2, dz_I s1.1, .retAddr 0, dz_I (dz_sc xs (dz_c (s1.1 + 1))), .ref 0]) rfl rfl ?_
                                        refine wq_2 (i := .iadd) (z := s1.1 + 2) (pc' := 687) rfl rfl (op_add _ _) rfl ?_
                                        obtain ⟨k85, H⟩ := dz_ck H
                                        refine wq_sx (j' := dz_c (s1.1 + 2)) (pc' := 688) rfl rfl k85.1 k85.2 rfl ?_
                                        refine wq_cv (Dq := (D + 9)) (r' := mm_r82) (as0 := [dz_I (dz_sc xs (dz_c (s1.1 + 1))), dz_I (dz_sc xs (dz_c (s1.1 + 2)))]) (rest := []) (ls' := [some (.ref 0), some (dz_I (dz_sc xs (dz_c (s1.1 + 1)))), some (dz_I (dz_sc xs (dz_c (s1.1 + 2)))), none]) (pc' := 691) rfl rfl rfl rfl ho_O rfl rfl rfl ?_
                                        refine jw_O_falls (X := (some xs)) (D := D + 4) (dz_sc xs (dz_c (s1.1 + 1))) (dz_sc xs (dz_c (s1.1 + 2))) s1.2 (dz_pm (dz_bi H) (fun q86 H => ?_))
                                        show mm_Wp (some xs) (D + 10) mm_rL 691 [some (.retAddr 0), some (.ref 0), some (.ref 114), some (dz_I s1.1)] [dz_I q86.1] (hz_0 q86.2) Q
                                        refine wp_s (i := .pop) (n := 1) (pc' := 692) (st' := []) rfl rfl ?_
                                        refine wp_s (i := .aload_n 2) (n := 1) (pc' := 693) (st' := [.ref 114]) rfl rfl ?_
                                        refine wp_s (i := .aload_n 0) (n := 1) (pc' := 694) (st' := [.retAddr 0, .ref 114]) rfl rfl ?_
                                        refine wp_s (i := .iload_n 3) (n := 1) (pc' := 695) (st' := [dz_I s1.1, .retAddr 0, .ref 114]) rfl rfl ?_
                                        refine wp_s (i := .iconst 1) (n := 1) (pc' := 696) (st' := [dz_I 1, dz_I s1.1, .retAddr 0, .ref 114]) rfl rfl ?_
                                        refine wq_2 (i := .iadd) (z := s1.1 + 1) (pc' := 697) rfl rfl (op_add _ _) rfl ?_
                                        refine wq_sx (j' := dz_c (s1.1 + 1)) (pc' := 698) rfl rfl k84.1 k84.2 rfl ?_
                                        refine wp_s (i := .aload_n 0) (n := 1) (pc' := 699) (st' := [.retAddr 0, dz_I (dz_sc xs (dz_c (s1.1 + 1))), .ref 114]) rfl rfl ?_
                                        refine wp_s (i := .iload_n 3) (n := 1) (pc' := 700) (st' := [dz_I s1.1, .retAddr 0, dz_I (dz_sc xs (dz_c (s1.1 + 1))), .ref 114]) rfl rfl ?_
                                        refine wp_s (i := .iconst 2) (n := 1) (pc' := 701) (st' := [dz_I 2, dz_I s1.1, .retAddr 0, dz_I (dz_sc xs (dz_c (s1.1 + 1))), .ref 114]) rfl rfl ?_
                                        refine wq_2 (i := .iadd) (z := s1.1 + 2) (pc' := 702) rfl rfl (op_add _ _) rfl ?_
                                        refine wq_sx (j' := dz_c (s1.1 + 2)) (pc' := 703) rfl rfl k85.1 k85.2 rfl ?_
                                        refine wq_cv (Dq := (D + 9)) (r' := mm_r165) (as0 := [dz_I (dz_sc xs (dz_c (s1.1 + 1))), dz_I (dz_sc xs (dz_c (s1.1 + 2)))]) (rest := []) (ls' := [some (.ref 114), some (dz_I (dz_sc xs (dz_c (s1.1 + 1)))), some (dz_I (dz_sc xs (dz_c (s1.1 + 2)))), none, none, none, none]) (pc' := 706) rfl rfl rfl rfl ho_M rfl rfl rfl ?_
                                        refine jw_M_falls (X := (some xs)) (D := D + 4) (dz_sc xs (dz_c (s1.1 + 1))) (dz_sc xs (dz_c (s1.1 + 2))) q86.2 (dz_pm (dz_bi H) (fun q87 H => ?_))
                                        show mm_Wp (some xs) (D + 10) mm_rL 706 [some (.retAddr 0), some (.ref 0), some (.ref 114), some (dz_I s1.1)] [dz_I q87.1] (hz_0 q87.2) Q
                                        refine wp_s (i := .pop) (n := 1) (pc' := 707) (st' := []) rfl rfl ?_
                                        refine wp_s (i := .goto 603) (n := 3) (pc' := 1310) (st' := []) rfl rfl ?_
                                        refine wq_inc (k := 3) (d := 5) (x := s1.1) (ls' := [some (.retAddr 0), some (.ref 0), some (.ref 114), some (dz_I (s1.1 + 5))]) (pc' := 1313) rfl rfl rfl rfl ?_
                                        refine wp_s (i := .goto (-1295)) (n := 3) (pc' := 18) (st' := []) rfl rfl ?_
                                        replace H := dz_back H
                                        exact H
                                      · replace H := dz_if c83 H
                                        by_cases c88 : dz_c (dz_an (dz_sc xs (dz_c s1.1)) 63) = 18
                                        · replace H := dz_it c88 H
                                          refine wq_ts (x' := dz_c (dz_an (dz_sc xs (dz_c s1.1)) 63)) (tt := 710) rfl rfl (by rw [c88]; rfl) ?_
                                          refine wp_s (i := .aload_n 1) (n := 1) (pc' := 711) (st' := [.ref 0]) rfl rfl ?_
                                          refine wp_s (i := .aload_n 0) (n := 1) (pc' := 712) (st' := [.retAddr 0, .ref 0]) rfl rfl ?_
                                          refine wp_s (i := .iload_n 3) (n := 1) (pc' := 713) (st' := [dz_I s1.1, .retAddr 0, .ref 0]) rfl rfl ?_
                                          refine wp_s (i := .iconst 1) (n := 1) (pc' := 714) (st' := [dz_I 1, dz_I s1.1, .retAddr 0, .ref 0]) rfl rfl ?_
                                          refine wq_2 (i := .iadd) (z := s1.1 + 1) (pc' := 715) rfl rfl (op_add _ _) rfl ?_
                                          obtain ⟨k89, H⟩ := dz_ck H
                                          refine wq_sx (j' := dz_c (s1.1 + 1)) (pc' := 716) rfl rfl k89.1 k89.2 rfl ?_
                                          refine wq_cv (Dq := (D + 9)) (r' := mm_r83) (as0 := [dz_I (dz_sc xs (dz_c (s1.1 + 1)))]) (rest := []) (ls' := [some (.ref 0), some (dz_I (dz_sc xs (dz_c (s1.1 + 1))))]) (pc' := 719) rfl rfl rfl rfl ho_O rfl rfl rfl ?_
                                          refine jw_O_tune (X := (some xs)) (D := D + 9) (dz_sc xs (dz_c (s1.1 + 1))) s1.2 (dz_pm (dz_bi H) (fun q90 H => ?_))
                                          show mm_Wp (some xs) (D + 10) mm_rL 719 [some (.retAddr 0), some (.ref 0), some (.ref 114), some (dz_I s1.1)] [dz_I q90] (hz_0 s1.2) Q
                                          refine wp_s (i := .pop) (n := 1) (pc' := 720) (st' := []) rfl rfl ?_
                                          refine wp_s (i := .aload_n 2) (n := 1) (pc' := 721) (st' := [.ref 114]) rfl rfl ?_
                                          refine wp_s (i := .aload_n 0) (n := 1) (pc' := 722) (st' := [.retAddr 0, .ref 114]) rfl rfl ?_
                                          refine wp_s (i := .iload_n 3) (n := 1) (pc' := 723) (st' := [dz_I s1.1, .retAddr 0, .ref 114]) rfl rfl ?_
                                          refine wp_s (i := .iconst 1) (n := 1) (pc' := 724) (st' := [dz_I 1, dz_I s1.1, .retAddr 0, .ref 114]) rfl rfl ?_
                                          refine wq_2 (i := .iadd) (z := s1.1 + 1) (pc' := 725) rfl rfl (op_add _ _) rfl ?_
                                          refine wq_sx (j' := dz_c (s1.1 + 1)) (pc' := 726) rfl rfl k89.1 k89.2 rfl ?_
                                          refine wq_cv (Dq := (D + 9)) (r' := mm_r166) (as0 := [dz_I (dz_sc xs (dz_c (s1.1 + 1)))]) (rest := []) (ls' := [some (.ref 114), some (dz_I (dz_sc xs (dz_c (s1.1 + 1))))]) (pc' := 729) rfl rfl rfl rfl ho_M rfl rfl rfl ?_
                                          refine jw_M_tune (X := (some xs)) (D := D + 8) (dz_sc xs (dz_c (s1.1 + 1))) s1.2 (dz_pm (dz_bi H) (fun q91 H => ?_))
                                          show mm_Wp (some xs) (D + 10) mm_rL 729 [some (.retAddr 0), some (.ref 0), some (.ref 114), some (dz_I s1.1)] [dz_I q91] (hz_0 s1.2) Q
                                          refine wp_s (i := .pop) (n := 1) (pc' := 730) (st' := []) rfl rfl ?_
                                          refine wp_s (i := .goto 580) (n := 3) (pc' := 1310) (st' := []) rfl rfl ?_
                                          refine wq_inc (k := 3) (d := 5) (x := s1.1) (ls' := [some (.retAddr 0), some (.ref 0), some (.ref 114), some (dz_I (s1.1 + 5))]) (pc' := 1313) rfl rfl rfl rfl ?_
                                          refine wp_s (i := .goto (-1295)) (n := 3) (pc' := 18) (st' := []) rfl rfl ?_
                                          replace H := dz_back H
                                          exact H
                                        · replace H := dz_if c88 H
                                          by_cases c92 : dz_c (dz_an (dz_sc xs (dz_c s1.1)) 63) = 19
                                          · replace H := dz_it c92 H
                                            refine wq_ts (x' := dz_c (dz_an (dz_sc xs (dz_c s1.1)) 63)) (tt := 733) rfl rfl (by rw [c92]; rfl) ?_
                                            refine wp_s (i := .aload_n 1) (n := 1) (pc' := 734) (st' := [.ref 0]) rfl rfl ?_
                                            refine wp_s (i := .aload_n 0) (n := 1) (pc' := 735) (st' := [.retAddr 0, .ref 0]) rfl rfl ?_
                                            refine wp_s (i := .iload_n 3) (n := 1) (pc' := 736) (st' := [dz_I s1.1, .retAddr 0, .ref 0]) rfl rfl ?_
                                            refine wp_s (i := .iconst 1) (n := 1) (pc' := 737) (st' := [dz_I 1, dz_I s1.1, .retAddr 0, .ref 0]) rfl rfl ?_
                                            refine wq_2 (i := .iadd) (z := s1.1 + 1) (pc' := 738) rfl rfl (op_add _ _) rfl ?_
                                            obtain ⟨k93, H⟩ := dz_ck H
                                            refine wq_sx (j' := dz_c (s1.1 + 1)) (pc' := 739) rfl rfl k93.1 k93.2 rfl ?_
                                            refine wp_s (i := .aload_n 0) (n := 1) (pc' := 740) (st' := [.retAddr 0, dz_I (dz_sc xs (dz_c (s1.1 + 1))), .ref 0]) rfl rfl ?_
                                            refine wp_s (i := .iload_n 3) (n := 1) (pc' := 741) (st' := [dz_I s1.1, .retAddr 0, dz_I (dz_sc xs (dz_c (s1.1 + 1))), .ref 0]) rfl rfl ?_
                                            refine wp_s (i := .iconst 2) (n := 1) (pc' := 742) (st' := [dz_I 2, dz_I s1.1, .retAddr 0, dz_I (dz_sc xs (dz_c (s1.1 + 1))), .ref 0]) rfl rfl ?_
                                            refine wq_2 (i := .iadd) (z := s1.1 + 2) (pc' := 743) rfl rfl (op_add _ _) rfl ?_
                                            obtain ⟨k94, H⟩ := dz_ck H
                                            refine wq_sx (j' := dz_c (s1.1 + 2)) (pc' := 744) rfl rfl k94.1 k94.2 rfl ?_
                                            refine wq_cv (Dq := (D + 9)) (r' := mm_r84) (as0 := [dz_I (dz_sc xs (dz_c (s1.1 + 1))), dz_I (dz_sc xs (dz_c (s1.1 + 2)))]) (rest := []) (ls' := [some (.ref 0), some (dz_I (dz_sc xs (dz_c (s1.1 + 1)))), some (dz_I (dz_sc xs (dz_c (s1.1 + 2))))]) (pc' := 747) rfl rfl rfl rfl ho_O rfl rfl rfl ?_
                                            refine jw_O_tells (X := (some xs)) (D := D + 9) (dz_sc xs (dz_c (s1.1 + 1))) (dz_sc xs (dz_c (s1.1 + 2))) s1.2 (dz_pm (dz_bi H) (fun q95 H => ?_))
                                            show mm_Wp (some xs) (D + 10) mm_rL 747 [some (.retAddr 0), some (.ref 0), some (.ref 114), some (dz_I s1.1)] [dz_I q95.1] (hz_0 q95.2) Q
                                            refine wp_s (i := .pop) (n := 1) (pc' := 748) (st' := []) rfl rfl ?_
                                            refine wp_s (i := .aload_n 2) (n := 1) (pc' := 749) (st' := [.ref 114]) rfl rfl ?_
                                            refine wp_s (i := .aload_n 0) (n := 1) (pc' := 750) (st' := [.retAddr 0, .ref 114]) rfl rfl ?_
                                            refine wp_s (i := .iload_n 3) (n := 1) (pc' := 751) (st' := [dz_I s1.1, .retAddr 0, .ref 114]) rfl rfl ?_
                                            refine wp_s (i := .iconst 1) (n := 1) (pc' := 752) (st' := [dz_I 1, dz_I s1.1, .retAddr 0, .ref 114]) rfl rfl ?_
                                            refine wq_2 (i := .iadd) (z := s1.1 + 1) (pc' := 753) rfl rfl (op_add _ _) rfl ?_
                                            refine wq_sx (j' := dz_c (s1.1 + 1)) (pc' := 754) rfl rfl k93.1 k93.2 rfl ?_
                                            refine wp_s (i := .aload_n 0) (n := 1) (pc' := 755) (st' := [.retAddr 0, dz_I (dz_sc xs (dz_c (s1.1 + 1))), .ref 114]) rfl rfl ?_
                                            refine wp_s (i := .iload_n 3) (n := 1) (pc' := 756) (st' := [dz_I s1.1, .retAddr 0, dz_I (dz_sc xs (dz_c (s1.1 + 1))), .ref 114]) rfl rfl ?_
                                            refine wp_s (i := .iconst 2) (n := 1) (pc' := 757) (st' := [dz_I 2, dz_I s1.1, .retAddr 0, dz_I (dz_sc xs (dz_c (s1.1 + 1))), .ref 114]) rfl rfl ?_
                                            refine wq_2 (i := .iadd) (z := s1.1 + 2) (pc' := 758) rfl rfl (op_add _ _) rfl ?_
                                            refine wq_sx (j' := dz_c (s1.1 + 2)) (pc' := 759) rfl rfl k94.1 k94.2 rfl ?_
                                            refine wq_cv (Dq := (D + 9)) (r' := mm_r167) (as0 := [dz_I (dz_sc xs (dz_c (s1.1 + 1))), dz_I (dz_sc xs (dz_c (s1.1 + 2)))]) (rest := []) (ls' := [some (.ref 114), some (dz_I (dz_sc xs (dz_c (s1.1 + 1)))), some (dz_I (dz_sc xs (dz_c (s1.1 + 2))))]) (pc' := 762) rfl rfl rfl rfl ho_M rfl rfl rfl ?_
                                            refine jw_M_tells (X := (some xs)) (D := D + 8) (dz_sc xs (dz_c (s1.1 + 1))) (dz_sc xs (dz_c (s1.1 + 2))) q95.2 (dz_pm (dz_bi H) (fun q96 H => ?_))
                                            show mm_Wp (some xs) (D + 10) mm_rL 762 [some (.retAddr 0), some (.ref 0), some (.ref 114), some (dz_I s1.1)] [dz_I q96.1] (hz_0 q96.2) Q
                                            refine wp_s (i := .pop) (n := 1) (pc' := 763) (st' := []) rfl rfl ?_
                                            refine wp_s (i := .goto 547) (n := 3) (pc' := 1310) (st' := []) rfl rfl ?_
                                            refine wq_inc (k := 3) (d := 5) (x := s1.1) (ls' := [some (.retAddr 0), some (.ref 0), some (.ref 114), some (dz_I (s1.1 + 5))]) (pc' := 1313) rfl rfl rfl rfl ?_
                                            refine wp_s (i := .goto (-1295)) (n := 3) (pc' := 18) (st' := []) rfl rfl ?_
                                            replace H := dz_back H
                                            exact H
                                          · replace H := dz_if c92 H
                                            by_cases c97 : dz_c (dz_an (dz_sc xs (dz_c s1.1)) 63) = 20
                                            · replace H := dz_it c97 H
                                              refine wq_ts (x' := dz_c (dz_an (dz_sc xs (dz_c s1.1)) 63)) (tt := 766) rfl rfl (by rw [c97]; rfl) ?_
                                              refine wp_s (i := .aload_n 1) (n := 1) (pc' := 767) (st' := [.ref 0]) rfl rfl ?_
                                              refine wp_s (i := .aload_n 0) (n := 1) (pc' := 768) (st' := [.retAddr 0, .ref 0]) rfl rfl ?_
                                              refine wp_s (i := .iload_n 3) (n := 1) (pc' := 769) (st' := [dz_I s1.1, .retAddr 0, .ref 0]) rfl rfl ?_
                                              refine wp_s (i := .iconst 1) (n := 1) (pc' := 770) (st' := [dz_I 1, dz_I s1.1, .retAddr 0, .ref 0]) rfl rfl ?_
                                              refine wq_2 (i := .iadd) (z := s1.1 + 1) (pc' := 771) rfl rfl (op_add _ _) rfl ?_
                                              obtain ⟨k98, H⟩ := dz_ck H
                                              refine wq_sx (j' := dz_c (s1.1 + 1)) (pc' := 772) rfl rfl k98.1 k98.2 rfl ?_
                                              refine wq_cv (Dq := (D + 9)) (r' := mm_r85) (as0 := [dz_I (dz_sc xs (dz_c (s1.1 + 1)))]) (rest := []) (ls' := [some (.ref 0), some (dz_I (dz_sc xs (dz_c (s1.1 + 1))))]) (pc' := 775) rfl rfl rfl rfl ho_O rfl rfl rfl ?_
                                              refine jw_O_far (X := (some xs)) (D := D + 3) (dz_sc xs (dz_c (s1.1 + 1))) s1.2 (dz_pm (dz_bi H) (fun q99 H => ?_))
                                              show mm_Wp (some xs) (D + 10) mm_rL 775 [some (.retAddr 0), some (.ref 0), some (.ref 114), some (dz_I s1.1)] [dz_I q99.1] (hz_0 q99.2) Q
                                              refine wp_s (i := .pop) (n := 1) (pc' := 776) (st' := []) rfl rfl ?_
                                              refine wp_s (i := .aload_n 2) (n := 1) (pc' := 777) (st' := [.ref 114]) rfl rfl ?_
                                              refine wp_s (i := .aload_n 0) (n := 1) (pc' := 778) (st' := [.retAddr 0, .ref 114]) rfl rfl ?_
                                              refine wp_s (i := .iload_n 3) (n := 1) (pc' := 779) (st' := [dz_I s1.1, .retAddr 0, .ref 114]) rfl rfl ?_
                                              refine wp_s (i := .iconst 1) (n := 1) (pc' := 780) (st' := [dz_I 1, dz_I s1.1, .retAddr 0, .ref 114]) rfl rfl ?_
                                              refine wq_2 (i := .iadd) (z := s1.1 + 1) (pc' := 781) rfl rfl (op_add _ _) rfl ?_
                                              refine wq_sx (j' := dz_c (s1.1 + 1)) (pc' := 782) rfl rfl k98.1 k98.2 rfl ?_
                                              refine wq_cv (Dq := (D + 9)) (r' := mm_r170) (as0 := [dz_I (dz_sc xs (dz_c (s1.1 + 1)))]) (rest := []) (ls' := [some (.ref 114), some (dz_I (dz_sc xs (dz_c (s1.1 + 1))))]) (pc' := 785) rfl rfl rfl rfl ho_M rfl rfl rfl ?_
                                              refine jw_M_far (X := (some xs)) (D := D + 3) (dz_sc xs (dz_c (s1.1 + 1))) q99.2 (dz_pm (dz_bi H) (fun q100 H => ?_))
                                              show mm_Wp (some xs) (D + 10) mm_rL 785 [some (.retAddr 0), some (.ref 0), some (.ref 114), some (dz_I s1.1)] [dz_I q100.1] (hz_0 q100.2) Q
                                              refine wp_s (i := .pop) (n := 1) (pc' := 786) (st' := []) rfl rfl ?_
                                              refine wp_s (i := .goto 524) (n := 3) (pc' := 1310) (st' := []) rfl rfl ?_
                                              refine wq_inc (k := 3) (d := 5) (x := s1.1) (ls' := [some (.retAddr 0), some (.ref 0), some (.ref 114), some (dz_I (s1.1 + 5))]) (pc' := 1313) rfl rfl rfl rfl ?_
                                              refine wp_s (i := .goto (-1295)) (n := 3) (pc' := 18) (st' := []) rfl rfl ?_
                                              replace H := dz_back H
                                              exact H
                                            · replace H := dz_if c97 H
                                              by_cases c101 : dz_c (dz_an (dz_sc xs (dz_c s1.1)) 63) = 21
                                              · replace H := dz_it c101 H
                                                refine wq_ts (x' := dz_c (dz_an (dz_sc xs (dz_c s1.1)) 63)) (tt := 789) rfl rfl (by rw [c101]; rfl) ?_
                                                refine wp_s (i := .aload_n 1) (n := 1) (pc' := 790) (st' := [.ref 0]) rfl rfl ?_
                                                refine wp_s (i := .aload_n 0) (n := 1) (pc' := 791) (st' := [.retAddr 0, .ref 0]) rfl rfl ?_
                                                refine wp_s (i := .iload_n 3) (n := 1) (pc' := 792) (st' := [dz_I s1.1, .retAddr 0, .ref 0]) rfl rfl ?_
                                                refine wp_s (i := .iconst 1) (n := 1) (pc' := 793) (st' := [dz_I 1, dz_I s1.1, .retAddr 0, .ref 0]) rfl rfl ?_
                                                refine wq_2 (i := .iadd) (z := s1.1 + 1) (pc' := 794) rfl rfl (op_add _ _) rfl ?_
                                                obtain ⟨k102, H⟩ := dz_ck H
                                                refine wq_sx (j' := dz_c (s1.1 + 1)) (pc' := 795) rfl rfl k102.1 k102.2 rfl ?_
                                                refine wp_s (i := .aload_n 0) (n := 1) (pc' := 796) (st' := [.retAddr 0, dz_I (dz_sc xs (dz_c (s1.1 + 1))), .ref 0]) rfl rfl ?_
                                                refine wp_s (i := .iload_n 3) (n := 1) (pc' := 797) (st' := [dz_I s1.1, .retAddr 0, dz_I (dz_sc xs (dz_c (s1.1 + 1))), .ref 0]) rfl rfl ?_
                                                refine wp_s (i := .iconst 2) (n := 1) (pc' := 798) (st' := [dz_I 2, dz_I s1.1, .retAddr 0, dz_I (dz_sc xs (dz_c (s1.1 + 1))), .ref 0]) rfl rfl ?_
                                                refine wq_2 (i := .iadd) (z := s1.1 + 2) (pc' := 799) rfl rfl (op_add _ _) rfl ?_
                                                obtain ⟨k103, H⟩ := dz_ck H
                                                refine wq_sx (j' := dz_c (s1.1 + 2)) (pc' := 800) rfl rfl k103.1 k103.2 rfl ?_
                                                refine wq_cv (Dq := (D + 9)) (r' := mm_r86) (as0 := [dz_I (dz_sc xs (dz_c (s1.1 + 1))), dz_I (dz_sc xs (dz_c (s1.1 + 2)))]) (rest := []) (ls' := [some (.ref 0), some (dz_I (dz_sc xs (dz_c (s1.1 + 1)))), some (dz_I (dz_sc xs (dz_c (s1.1 + 2))))]) (pc' := 803) rfl rfl rfl rfl ho_O rfl rfl rfl ?_
                                                refine jw_O_best (X := (some xs)) (D := D + 3) (dz_sc xs (dz_c (s1.1 + 1))) (dz_sc xs (dz_c (s1.1 + 2))) s1.2 (dz_pm (dz_bi H) (fun q104 H => ?_))
                                                show mm_Wp (some xs) (D + 10) mm_rL 803 [some (.retAddr 0), some (.ref 0), some (.ref 114), some (dz_I s1.1)] [dz_I q104.1] (hz_0 q104.2) Q
                                                refine wp_s (i := .pop) (n := 1) (pc' := 804) (st' := []) rfl rfl ?_
                                                refine wp_s (i := .aload_n 2) (n := 1) (pc' := 805) (st' := [.ref 114]) rfl rfl ?_
                                                refine wp_s (i := .aload_n 0) (n := 1) (pc' := 806) (st' := [.retAddr 0, .ref 114]) rfl rfl ?_
                                                refine wp_s (i := .iload_n 3) (n := 1) (pc' := 807) (st' := [dz_I s1.1, .retAddr 0, .ref 114]) rfl rfl ?_
                                                refine wp_s (i := .iconst 1) (n := 1) (pc' := 808) (st' := [dz_I 1, dz_I s1.1, .retAddr 0, .ref 114]) rfl rfl ?_
                                                refine wq_2 (i := .iadd) (z := s1.1 + 1) (pc' := 809) rfl rfl (op_add _ _) rfl ?_
                                                refine wq_sx (j' := dz_c (s1.1 + 1)) (pc' := 810) rfl rfl k102.1 k102.2 rfl ?_
                                                refine wp_s (i := .aload_n 0) (n := 1) (pc' := 811) (st' := [.retAddr 0, dz_I (dz_sc xs (dz_c (s1.1 + 1))), .ref 114]) rfl rfl ?_
                                                refine wp_s (i := .iload_n 3) (n := 1) (pc' := 812) (st' := [dz_I s1.1, .retAddr 0, dz_I (dz_sc xs (dz_c (s1.1 + 1))), .ref 114]) rfl rfl ?_
                                                refine wp_s (i := .iconst 2) (n := 1) (pc' := 813) (st' := [dz_I 2, dz_I s1.1, .retAddr 0, dz_I (dz_sc xs (dz_c (s1.1 + 1))), .ref 114]) rfl rfl ?_
                                                refine wq_2 (i := .iadd) (z := s1.1 + 2) (pc' := 814) rfl rfl (op_add _ _) rfl ?_
                                                refine wq_sx (j' := dz_c (s1.1 + 2)) (pc' := 815) rfl rfl k103.1 k103.2 rfl ?_
                                                refine wq_cv (Dq := (D + 9)) (r' := mm_r172) (as0 := [dz_I (dz_sc xs (dz_c (s1.1 + 1))), dz_I (dz_sc xs (dz_c (s1.1 + 2)))]) (rest := []) (ls' := [some (.ref 114), some (dz_I (dz_sc xs (dz_c (s1.1 + 1)))), some (dz_I (dz_sc xs (dz_c (s1.1 + 2))))]) (pc' := 818) rfl rfl rfl rfl ho_M rfl rfl rfl ?_
                                                refine jw_M_best (X := (some xs)) (D := D + 2) (dz_sc xs (dz_c (s1.1 + 1))) (dz_sc xs (dz_c (s1.1 + 2))) q104.2 (dz_pm (dz_bi H) (fun q105 H => ?_))
                                                show mm_Wp (some xs) (D + 10) mm_rL 818 [some (.retAddr 0), some (.ref 0), some (.ref 114), some (dz_I s1.1)] [dz_I q105.1] (hz_0 q105.2) Q
                                                refine wp_s (i := .pop) (n := 1) (pc' := 819) (st' := []) rfl rfl ?_
                                                refine wp_s (i := .goto 491) (n := 3) (pc' := 1310) (st' := []) rfl rfl ?_
                                                refine wq_inc (k := 3) (d := 5) (x := s1.1) (ls' := [some (.retAddr 0), some (.ref 0), some (.ref 114), some (dz_I (s1.1 + 5))]) (pc' := 1313) rfl rfl rfl rfl ?_
                                                refine wp_s (i := .goto (-1295)) (n := 3) (pc' := 18) (st' := []) rfl rfl ?_
                                                replace H := dz_back H
                                                exact H
                                              · replace H := dz_if c101 H
                                                by_cases c106 : dz_c (dz_an (dz_sc xs (dz_c s1.1)) 63) = 22
                                                · replace H := dz_it c106 H
                                                  refine wq_ts (x' := dz_c (dz_an (dz_sc xs (dz_c s1.1)) 63)) (tt := 822) rfl rfl (by rw [c106]; rfl) ?_
                                                  refine wp_s (i := .aload_n 1) (n := 1) (pc' := 823) (st' := [.ref 0]) rfl rfl ?_
                                                  refine wp_s (i := .aload_n 0) (n := 1) (pc' := 824) (st' := [.retAddr 0, .ref 0]) rfl rfl ?_
                                                  refine wp_s (i := .iload_n 3) (n := 1) (pc' := 825) (st' := [dz_I s1.1, .retAddr 0, .ref 0]) rfl rfl ?_
                                                  refine wp_s (i := .iconst 1) (n := 1) (pc' := 826) (st' := [dz_I 1, dz_I s1.1, .retAddr 0, .ref 0]) rfl rfl ?_
                                                  refine wq_2 (i := .iadd) (z := s1.1 + 1) (pc' := 827) rfl rfl (op_add _ _) rfl ?_
                                                  obtain ⟨k107, H⟩ := dz_ck H
                                                  refine wq_sx (j' := dz_c (s1.1 + 1)) (pc' := 828) rfl rfl k107.1 k107.2 rfl ?_
                                                  refine wp_s (i := .aload_n 0) (n := 1) (pc' := 829) (st' := [.retAddr 0, dz_I (dz_sc xs (dz_c (s1.1 + 1))), .ref 0]) rfl rfl ?_
                                                  refine wp_s (i := .iload_n 3) (n := 1) (pc' := 830) (st' := [dz_I s1.1, .retAddr 0, dz_I (dz_sc xs (dz_c (s1.1 + 1))), .ref 0]) rfl rfl ?_
                                                  refine wp_s (i := .iconst 2) (n := 1) (pc' := 831) (st' := [dz_I 2, dz_I s1.1, .retAddr 0, dz_I (dz_sc xs (dz_c (s1.1 + 1))), .ref 0]) rfl rfl ?_
                                                  refine wq_2 (i := .iadd) (z := s1.1 + 2) (pc' := 832) rfl rfl (op_add _ _) rfl ?_
                                                  obtain ⟨k108, H⟩ := dz_ck H
                                                  refine wq_sx (j' := dz_c (s1.1 + 2)) (pc' := 833) rfl rfl k108.1 k108.2 rfl ?_
                                                  refine wq_cv (Dq := (D + 9)) (r' := mm_r87) (as0 := [dz_I (dz_sc xs (dz_c (s1.1 + 1))), dz_I (dz_sc xs (dz_c (s1.1 + 2)))]) (rest := []) (ls' := [some (.ref 0), some (dz_I (dz_sc xs (dz_c (s1.1 + 1)))), some (dz_I (dz_sc xs (dz_c (s1.1 + 2))))]) (pc' := 836) rfl rfl rfl rfl ho_O rfl rfl rfl ?_
                                                  refine jw_O_fewest (X := (some xs)) (D := D + 3) (dz_sc xs (dz_c (s1.1 + 1))) (dz_sc xs (dz_c (s1.1 + 2))) s1.2 (dz_pm (dz_bi H) (fun q109 H => ?_))
                                                  show mm_Wp (some xs) (D + 10) mm_rL 836 [some (.retAddr 0), some (.ref 0), some (.ref 114), some (dz_I s1.1)] [dz_I q109.1] (hz_0 q109.2) Q
                                                  refine wp_s (i := .pop) (n := 1) (pc' := 837) (st' := []) rfl rfl ?_
                                                  refine wp_s (i := .aload_n 2) (n := 1) (pc' := 838) (st' := [.ref 114]) rfl rfl ?_
                                                  refine wp_s (i := .aload_n 0) (n := 1) (pc' := 839) (st' := [.retAddr 0, .ref 114]) rfl rfl ?_
                                                  refine wp_s (i := .iload_n 3) (n := 1) (pc' := 840) (st' := [dz_I s1.1, .retAddr 0, .ref 114]) rfl rfl ?_
                                                  refine wp_s (i := .iconst 1) (n := 1) (pc' := 841) (st' := [dz_I 1, dz_I s1.1, .retAddr 0, .ref 114]) rfl rfl ?_
                                                  refine wq_2 (i := .iadd) (z := s1.1 + 1) (pc' := 842) rfl rfl (op_add _ _) rfl ?_
                                                  refine wq_sx (j' := dz_c (s1.1 + 1)) (pc' := 843) rfl rfl k107.1 k107.2 rfl ?_
                                                  refine wp_s (i := .aload_n 0) (n := 1) (pc' := 844) (st' := [.retAddr 0, dz_I (dz_sc xs (dz_c (s1.1 + 1))), .ref 114]) rfl rfl ?_
                                                  refine wp_s (i := .iload_n 3) (n := 1) (pc' := 845) (st' := [dz_I s1.1, .retAddr 0, dz_I (dz_sc xs (dz_c (s1.1 + 1))), .ref 114]) rfl rfl ?_
                                                  refine wp_s (i := .iconst 2) (n := 1) (pc' := 846) (st' := [dz_I 2, dz_I s1.1, .retAddr 0, dz_I (dz_sc xs (dz_c (s1.1 + 1))), .ref 114]) rfl rfl ?_
                                                  refine wq_2 (i := .iadd) (z := s1.1 + 2) (pc' := 847) rfl rfl (op_add _ _) rfl ?_
                                                  refine wq_sx (j' := dz_c (s1.1 + 2)) (pc' := 848) rfl rfl k108.1 k108.2 rfl ?_
                                                  refine wq_cv (Dq := (D + 9)) (r' := mm_r174) (as0 := [dz_I (dz_sc xs (dz_c (s1.1 + 1))), dz_I (dz_sc xs (dz_c (s1.1 + 2)))]) (rest := []) (ls' := [some (.ref 114), some (dz_I (dz_sc xs (dz_c (s1.1 + 1)))), some (dz_I (dz_sc xs (dz_c (s1.1 + 2)))), none, none, none, none, none]) (pc' := 851) rfl rfl rfl rfl ho_M rfl rfl rfl ?_
                                                  refine jw_M_fewest (X := (some xs)) (D := D + 2) (dz_sc xs (dz_c (s1.1 + 1))) (dz_sc xs (dz_c (s1.1 + 2))) q109.2 (dz_pm (dz_bi H) (fun q110 H => ?_))
                                                  show mm_Wp (some xs) (D + 10) mm_rL 851 [some (.retAddr 0), some (.ref 0), some (.ref 114), some (dz_I s1.1)] [dz_I q110.1] (hz_0 q110.2) Q
                                                  refine wp_s (i := .pop) (n := 1) (pc' := 852) (st' := []) rfl rfl ?_
                                                  refine wp_s (i := .goto 458) (n := 3) (pc' := 1310) (st' := []) rfl rfl ?_
                                                  refine wq_inc (k := 3) (d := 5) (x := s1.1) (ls' := [some (.retAddr 0), some (.ref 0), some (.ref 114), some (dz_I (s1.1 + 5))]) (pc' := 1313) rfl rfl rfl rfl ?_
                                                  refine wp_s (i := .goto (-1295)) (n := 3) (pc' := 18) (st' := []) rfl rfl ?_
                                                  replace H := dz_back H
                                                  exact H
                                                · replace H := dz_if c106 H
                                                  by_cases c111 : dz_c (dz_an (dz_sc xs (dz_c s1.1)) 63) = 23
                                                  · replace H := dz_it c111 H
                                                    refine wq_ts (x' := dz_c (dz_an (dz_sc xs (dz_c s1.1)) 63)) (tt := 855) rfl rfl (by rw [c111]; rfl) ?_
                                                    refine wp_s (i := .aload_n 1) (n := 1) (pc' := 856) (st' := [.ref 0]) rfl rfl ?_
                                                    refine wp_s (i := .aload_n 0) (n := 1) (pc' := 857) (st' := [.retAddr 0, .ref 0]) rfl rfl ?_
                                                    refine wp_s (i := .iload_n 3) (n := 1) (pc' := 858) (st' := [dz_I s1.1, .retAddr 0, .ref 0]) rfl rfl ?_
                                                    refine wp_s (i := .iconst 1) (n := 1) (pc' := 859) (st' := [dz_I 1, dz_I s1.1, .retAddr 0, .ref 0]) rfl rfl ?_
                                                    refine wq_2 (i := .iadd) (z := s1.1 + 1) (pc' := 860) rfl rfl (op_add _ _) rfl ?_
                                                    obtain ⟨k112, H⟩ := dz_ck H
                                                    refine wq_sx (j' := dz_c (s1.1 + 1)) (pc' := 861) rfl rfl k112.1 k112.2 rfl ?_
                                                    refine wq_cv (Dq := (D + 9)) (r' := mm_r88) (as0 := [dz_I (dz_sc xs (dz_c (s1.1 + 1)))]) (rest := []) (ls' := [some (.ref 0), some (dz_I (dz_sc xs (dz_c (s1.1 + 1))))]) (pc' := 864) rfl rfl rfl rfl ho_O rfl rfl rfl ?_
                                                    refine jw_O_all (X := (some xs)) (D := D + 3) (dz_sc xs (dz_c (s1.1 + 1))) s1.2 (dz_pm (dz_bi H) (fun q113 H => ?_))
                                                    show mm_Wp (some xs) (D + 10) mm_rL 864 [some (.retAddr 0), some (.ref 0), some (.ref 114), some (dz_I s1.1)] [dz_I q113.1] (hz_0 q113.2) Q
                                                    refine wp_s (i := .pop) (n := 1) (pc' := 865) (st' := []) rfl rfl ?_
                                                    refine wp_s (i := .aload_n 2) (n := 1) (pc' := 866) (st' := [.ref 114]) rfl rfl ?_
                                                    refine wp_s (i := .aload_n 0) (n := 1) (pc' := 867) (st' := [.retAddr 0, .ref 114]) rfl rfl ?_
                                                    refine wp_s (i := .iload_n 3) (n := 1) (pc' := 868) (st' := [dz_I s1.1, .retAddr 0, .ref 114]) rfl rfl ?_
                                                    refine wp_s (i := .iconst 1) (n := 1) (pc' := 869) (st' := [dz_I 1, dz_I s1.1, .retAddr 0, .ref 114]) rfl rfl ?_
                                                    refine wq_2 (i := .iadd) (z := s1.1 + 1) (pc' := 870) rfl rfl (op_add _ _) rfl ?_
                                                    refine wq_sx (j' := dz_c (s1.1 + 1)) (pc' := 871) rfl rfl k112.1 k112.2 rfl ?_
                                                    refine wq_cv (Dq := (D + 9)) (r' := mm_r175) (as0 := [dz_I (dz_sc xs (dz_c (s1.1 + 1)))]) (rest := []) (ls' := [some (.ref 114), some (dz_I (dz_sc xs (dz_c (s1.1 + 1)))), none, none, none, none, none, none]) (pc' := 874) rfl rfl rfl rfl ho_M rfl rfl rfl ?_
                                                    refine jw_M_all (X := (some xs)) (D := D + 3) (dz_sc xs (dz_c (s1.1 + 1))) q113.2 (dz_pm (dz_bi H) (fun q114 H => ?_))
                                                    show mm_Wp (some xs) (D + 10) mm_rL 874 [some (.retAddr 0), some (.ref 0), some (.ref 114), some (dz_I s1.1)] [dz_I q114.1] (hz_0 q114.2) Q
                                                    refine wp_s (i := .pop) (n := 1) (pc' := 875) (st' := []) rfl rfl ?_
                                                    refine wp_s (i := .goto 435) (n := 3) (pc' := 1310) (st' := []) rfl rfl ?_
                                                    refine wq_inc (k := 3) (d := 5) (x := s1.1) (ls' := [some (.retAddr 0), some (.ref 0), some (.ref 114), some (dz_I (s1.1 + 5))]) (pc' := 1313) rfl rfl rfl rfl ?_
                                                    refine wp_s (i := .goto (-1295)) (n := 3) (pc' := 18) (st' := []) rfl rfl ?_
                                                    replace H := dz_back H
                                                    exact H
                                                  · replace H := dz_if c111 H
                                                    by_cases c115 : dz_c (dz_an (dz_sc xs (dz_c s1.1)) 63) = 24
                                                    · replace H := dz_it c115 H
                                                      refine wq_ts (x' := dz_c (dz_an (dz_sc xs (dz_c s1.1)) 63)) (tt := 878) rfl rfl (by rw [c115]; rfl) ?_
                                                      refine wp_s (i := .aload_n 1) (n := 1) (pc' := 879) (st' := [.ref 0]) rfl rfl ?_
                                                      refine wp_s (i := .aload_n 0) (n := 1) (pc' := 880) (st' := [.retAddr 0, .ref 0]) rfl rfl ?_
                                                      refine wp_s (i := .iload_n 3) (n := 1) (pc' := 881) (st' := [dz_I s1.1, .retAddr 0, .ref 0]) rfl rfl ?_
                                                      refine wp_s (i := .iconst 1) (n := 1) (pc' := 882) (st' := [dz_I 1, dz_I s1.1, .retAddr 0, .ref 0]) rfl rfl ?_
                                                      refine wq_2 (i := .iadd) (z := s1.1 + 1) (pc' := 883) rfl rfl (op_add _ _) rfl ?_
                                                      obtain ⟨k116, H⟩ := dz_ck H
                                                      refine wq_sx (j' := dz_c (s1.1 + 1)) (pc' := 884) rfl rfl k116.1 k116.2 rfl ?_
                                                      refine wp_s (i := .aload_n 0) (n := 1) (pc' := 885) (st' := [.retAddr 0, dz_I (dz_sc xs (dz_c (s1.1 + 1))), .ref 0]) rfl rfl ?_
                                                      refine wp_s (i := .iload_n 3) (n := 1) (pc' := 886) (st' := [dz_I s1.1, .retAddr 0, dz_I (dz_sc xs (dz_c (s1.1 + 1))), .ref 0]) rfl rfl ?_
                                                      refine wp_s (i := .iconst 2) (n := 1) (pc' := 887) (st' := [dz_I 2, dz_I s1.1, .retAddr 0, dz_I (dz_sc xs (dz_c (s1.1 + 1))), .ref 0]) rfl rfl ?_
                                                      refine wq_2 (i := .iadd) (z := s1.1 + 2) (pc' := 888) rfl rfl (op_add _ _) rfl ?_
                                                      obtain ⟨k117, H⟩ := dz_ck H
                                                      refine wq_sx (j' := dz_c (s1.1 + 2)) (pc' := 889) rfl rfl k117.1 k117.2 rfl ?_
                                                      refine wq_cv (Dq := (D + 9)) (r' := mm_r89) (as0 := [dz_I (dz_sc xs (dz_c (s1.1 + 1))), dz_I (dz_sc xs (dz_c (s1.1 + 2)))]) (rest := []) (ls' := [some (.ref 0), some (dz_I (dz_sc xs (dz_c (s1.1 + 1)))), some (dz_I (dz_sc xs (dz_c (s1.1 + 2))))]) (pc' := 892) rfl rfl rfl rfl ho_O rfl rfl rfl ?_
                                                      refine jw_O_quiet (X := (some xs)) (D := D + 3) (dz_sc xs (dz_c (s1.1 + 1))) (dz_sc xs (dz_c (s1.1 + 2))) s1.2 (dz_pm (dz_bi H) (fun q118 H => ?_))
                                                      show mm_Wp (some xs) (D + 10) mm_rL 892 [some (.retAddr 0), some (.ref 0), some (.ref 114), some (dz_I s1.1)] [dz_I q118.1] (hz_0 q118.2) Q
                                                      refine wp_s (i := .pop) (n := 1) (pc' := 893) (st' := []) rfl rfl ?_
                                                      refine wp_s (i := .aload_n 2) (n := 1) (pc' := 894) (st' := [.ref 114]) rfl rfl ?_
                                                      refine wp_s (i := .aload_n 0) (n := 1) (pc' := 895) (st' := [.retAddr 0, .ref 114]) rfl rfl ?_
                                                      refine wp_s (i := .iload_n 3) (n := 1) (pc' := 896) (st' := [dz_I s1.1, .retAddr 0, .ref 114]) rfl rfl ?_
                                                      refine wp_s (i := .iconst 1) (n := 1) (pc' := 897) (st' := [dz_I 1, dz_I s1.1, .retAddr 0, .ref 114]) rfl rfl ?_
                                                      refine wq_2 (i := .iadd) (z := s1.1 + 1) (pc' := 898) rfl rfl (op_add _ _) rfl ?_
                                                      refine wq_sx (j' := dz_c (s1.1 + 1)) (pc' := 899) rfl rfl k116.1 k116.2 rfl ?_
                                                      refine wp_s (i := .aload_n 0) (n := 1) (pc' := 900) (st' := [.retAddr 0, dz_I (dz_sc xs (dz_c (s1.1 + 1))), .ref 114]) rfl rfl ?_
                                                      refine wp_s (i := .iload_n 3) (n := 1) (pc' := 901) (st' := [dz_I s1.1, .retAddr 0, dz_I (dz_sc xs (dz_c (s1.1 + 1))), .ref 114]) rfl rfl ?_
                                                      refine wp_s (i := .iconst 2) (n := 1) (pc' := 902) (st' := [dz_I 2, dz_I s1.1, .retAddr 0, dz_I (dz_sc xs (dz_c (s1.1 + 1))), .ref 114]) rfl rfl ?_
                                                      refine wq_2 (i := .iadd) (z := s1.1 + 2) (pc' := 903) rfl rfl (op_add _ _) rfl ?_
                                                      refine wq_sx (j' := dz_c (s1.1 + 2)) (pc' := 904) rfl rfl k117.1 k117.2 rfl ?_
                                                      refine wq_cv (Dq := (D + 9)) (r' := mm_r177) (as0 := [dz_I (dz_sc xs (dz_c (s1.1 + 1))), dz_I (dz_sc xs (dz_c (s1.1 + 2)))]) (rest := []) (ls' := [some (.ref 114), some (dz_I (dz_sc xs (dz_c (s1.1 + 1)))), some (dz_I (dz_sc xs (dz_c (s1.1 + 2)))), none, none, none, none, none, none, none, none]) (pc' := 907) rfl rfl rfl rfl ho_M rfl rfl rfl ?_
                                                      refine jw_M_quiet (X := (some xs)) (D := D + 3) (dz_sc xs (dz_c (s1.1 + 1))) (dz_sc xs (dz_c (s1.1 + 2))) q118.2 (dz_pm (dz_bi H) (fun q119 H => ?_))
                                                      show mm_Wp (some xs) (D + 10) mm_rL 907 [some (.retAddr 0), some (.ref 0), some (.ref 114), some (dz_I s1.1)] [dz_I q119.1] (hz_0 q119.2) Q
                                                      refine wp_s (i := .pop) (n := 1) (pc' := 908) (st' := []) rfl rfl ?_
                                                      refine wp_s (i := .goto 402) (n := 3) (pc' := 1310) (st' := []) rfl rfl ?_
                                                      refine wq_inc (k := 3) (d := 5) (x := s1.1) (ls' := [some (.retAddr 0), some (.ref 0), some (.ref 114), some (dz_I (s1.1 + 5))]) (pc' := 1313) rfl rfl rfl rfl ?_
                                                      refine wp_s (i := .goto (-1295)) (n := 3) (pc' := 18) (st' := []) rfl rfl ?_
                                                      replace H := dz_back H
                                                      exact H
                                                    · replace H := dz_if c115 H
                                                      by_cases c120 : dz_c (dz_an (dz_sc xs (dz_c s1.1)) 63) = 25
                                                      · replace H := dz_it c120 H
                                                        refine wq_ts (x' := dz_c (dz_an (dz_sc xs (dz_c s1.1)) 63)) (tt := 911) rfl rfl (by rw [c120]; rfl) ?_
                                                        refine wp_s (i := .aload_n 1) (n := 1) (pc' := 912) (st' := [.ref 0]) rfl rfl ?_
                                                        refine wp_s (i := .aload_n 0) (n := 1) (pc' := 913) (st' := [.retAddr 0, .ref 0]) rfl rfl ?_
                                                        refine wp_s (i := .iload_n 3) (n := 1) (pc' := 914) (st' := [dz_I s1.1, .retAddr 0, .ref 0]) rfl rfl ?_
                                                        refine wp_s (i := .iconst 1) (n := 1) (pc' := 915) (st' := [dz_I 1, dz_I s1.1, .retAddr 0, .ref 0]) rfl rfl ?_
                                                        refine wq_2 (i := .iadd) (z := s1.1 + 1) (pc' := 916) rfl rfl (op_add _ _) rfl ?_
                                                        obtain ⟨k121, H⟩ := dz_ck H
                                                        refine wq_sx (j' := dz_c (s1.1 + 1)) (pc' := 917) rfl rfl k121.1 k121.2 rfl ?_
                                                        refine wq_cv (Dq := (D + 9)) (r' := mm_r90) (as0 := [dz_I (dz_sc xs (dz_c (s1.1 + 1)))]) (rest := []) (ls' := [some (.ref 0), some (dz_I (dz_sc xs (dz_c (s1.1 + 1))))]) (pc' := 920) rfl rfl rfl rfl ho_O rfl rfl rfl ?_
                                                        refine jw_O_woken (X := (some xs)) (D := D + 4) (dz_sc xs (dz_c (s1.1 + 1))) s1.2 (dz_pm (dz_bi H) (fun q122 H => ?_))
                                                        show mm_Wp (some xs) (D + 10) mm_rL 920 [some (.retAddr 0), some (.ref 0), some (.ref 114), some (dz_I s1.1)] [dz_I q122.1] (hz_0 q122.2) Q
                                                        refine wp_s (i := .pop) (n := 1) (pc' := 921) (st' := []) rfl rfl ?_
                                                        refine wp_s (i := .aload_n 2) (n := 1) (pc' := 922) (st' := [.ref 114]) rfl rfl ?_
                                                        refine wp_s (i := .aload_n 0) (n := 1) (pc' := 923) (st' := [.retAddr 0, .ref 114]) rfl rfl ?_
                                                        refine wp_s (i := .iload_n 3) (n := 1) (pc' := 924) (st' := [dz_I s1.1, .retAddr 0, .ref 114]) rfl rfl ?_
                                                        refine wp_s (i := .iconst 1) (n := 1) (pc' := 925) (st' := [dz_I 1, dz_I s1.1, .retAddr 0, .ref 114]) rfl rfl ?_
                                                        refine wq_2 (i := .iadd) (z := s1.1 + 1) (pc' := 926) rfl rfl (op_add _ _) rfl ?_
                                                        refine wq_sx (j' := dz_c (s1.1 + 1)) (pc' := 927) rfl rfl k121.1 k121.2 rfl ?_
                                                        refine wq_cv (Dq := (D + 9)) (r' := mm_r178) (as0 := [dz_I (dz_sc xs (dz_c (s1.1 + 1)))]) (rest := []) (ls' := [some (.ref 114), some (dz_I (dz_sc xs (dz_c (s1.1 + 1))))]) (pc' := 930) rfl rfl rfl rfl ho_M rfl rfl rfl ?_
                                                        refine jw_M_woken (X := (some xs)) (D := D + 3) (dz_sc xs (dz_c (s1.1 + 1))) q122.2 (dz_pm (dz_bi H) (fun q123 H => ?_))
                                                        show mm_Wp (some xs) (D + 10) mm_rL 930 [some (.retAddr 0), some (.ref 0), some (.ref 114), some (dz_I s1.1)] [dz_I q123.1] (hz_0 q123.2) Q
                                                        refine wp_s (i := .pop) (n := 1) (pc' := 931) (st' := []) rfl rfl ?_
                                                        refine wp_s (i := .goto 379) (n := 3) (pc' := 1310) (st' := []) rfl rfl ?_
                                                        refine wq_inc (k := 3) (d := 5) (x := s1.1) (ls' := [some (.retAddr 0), some (.ref 0), some (.ref 114), some (dz_I (s1.1 + 5))]) (pc' := 1313) rfl rfl rfl rfl ?_
                                                        refine wp_s (i := .goto (-1295)) (n := 3) (pc' := 18) (st' := []) rfl rfl ?_
                                                        replace H := dz_back H
                                                        exact H
                                                      · replace H := dz_if c120 H
                                                        by_cases c124 : dz_c (dz_an (dz_sc xs (dz_c s1.1)) 63) = 26
                                                        · replace H := dz_it c124 H
                                                          refine wq_ts (x' := dz_c (dz_an (dz_sc xs (dz_c s1.1)) 63)) (tt := 934) rfl rfl (by rw [c124]; rfl) ?_
                                                          refine wp_s (i := .aload_n 1) (n := 1) (pc' := 935) (st' := [.ref 0]) rfl rfl ?_
                                                          refine wp_s (i := .aload_n 0) (n := 1) (pc' := 936) (st' := [.retAddr 0, .ref 0]) rfl rfl ?_
                                                          refine wp_s (i := .iload_n 3) (n := 1) (pc' := 937) (st' := [dz_I s1.1, .retAddr 0, .ref 0]) rfl rfl ?_
                                                          refine wp_s (i := .iconst 1) (n := 1) (pc' := 938) (st' := [dz_I 1, dz_I s1.1, .retAddr 0, .ref 0]) rfl rfl ?_
                                                          refine wq_2 (i := .iadd) (z := s1.1 + 1) (pc' := 939) rfl rfl (op_add _ _) rfl ?_
                                                          obtain ⟨k125, H⟩ := dz_ck H
                                                          refine wq_sx (j' := dz_c (s1.1 + 1)) (pc' := 940) rfl rfl k125.1 k125.2 rfl ?_
                                                          refine wq_cv (Dq := (D + 9)) (r' := mm_r91) (as0 := [dz_I (dz_sc xs (dz_c (s1.1 + 1)))]) (rest := []) (ls' := [some (.ref 0), some (dz_I (dz_sc xs (dz_c (s1.1 + 1)))), none, none, none, none, none]) (pc' := 943) rfl rfl rfl rfl ho_O rfl rfl rfl ?_
                                                          refine jw_O_heard (X := (some xs)) (D := D + 4) (dz_sc xs (dz_c (s1.1 + 1))) s1.2 (dz_pm (dz_bi H) (fun q126 H => ?_))
                                                          show mm_Wp (some xs) (D + 10) mm_rL 943 [some (.retAddr 0), some (.ref 0), some (.ref 114), some (dz_I s1.1)] [dz_I q126.1] (hz_0 q126.2) Q
                                                          refine wp_s (i := .pop) (n := 1) (pc' := 944) (st' := []) rfl rfl ?_
                                                          refine wp_s (i := .aload_n 2) (n := 1) (pc' := 945) (st' := [.ref 114]) rfl rfl ?_
                                                          refine wp_s (i := .aload_n 0) (n := 1) (pc' := 946) (st' := [.retAddr 0, .ref 114]) rfl rfl ?_
                                                          refine wp_s (i := .iload_n 3) (n := 1) (pc' := 947) (st' := [dz_I s1.1, .retAddr 0, .ref 114]) rfl rfl ?_
                                                          refine wp_s (i := .iconst 1) (n := 1) (pc' := 948) (st' := [dz_I 1, dz_I s1.1, .retAddr 0, .ref 114]) rfl rfl ?_
                                                          refine wq_2 (i := .iadd) (z := s1.1 + 1) (pc' := 949) rfl rfl (op_add _ _) rfl ?_
                                                          refine wq_sx (j' := dz_c (s1.1 + 1)) (pc' := 950) rfl rfl k125.1 k125.2 rfl ?_
                                                          refine wq_cv (Dq := (D + 9)) (r' := mm_r179) (as0 := [dz_I (dz_sc xs (dz_c (s1.1 + 1)))]) (rest := []) (ls' := [some (.ref 114), some (dz_I (dz_sc xs (dz_c (s1.1 + 1)))), none, none, none, none, none, none]) (pc' := 953) rfl rfl rfl rfl ho_M rfl rfl rfl ?_
                                                          refine jw_M_heard (X := (some xs)) (D := D + 6) (dz_sc xs (dz_c (s1.1 + 1))) q126.2 (dz_pm (dz_bi H) (fun q127 H => ?_))
                                                          show mm_Wp (some xs) (D + 10) mm_rL 953 [some (.retAddr 0), some (.ref 0), some (.ref 114), some (dz_I s1.1)] [dz_I q127.1] (hz_0 q127.2) Q
                                                          refine wp_s (i := .pop) (n := 1) (pc' := 954) (st' := []) rfl rfl ?_
                                                          refine wp_s (i := .goto 356) (n := 3) (pc' := 1310) (st' := []) rfl rfl ?_
                                                          refine wq_inc (k := 3) (d := 5) (x := s1.1) (ls' := [some (.retAddr 0), some (.ref 0), some (.ref 114), some (dz_I (s1.1 + 5))]) (pc' := 1313) rfl rfl rfl rfl ?_
                                                          refine wp_s (i := .goto (-1295)) (n := 3) (pc' := 18) (st' := []) rfl rfl ?_
                                                          replace H := dz_back H
                                                          exact H
                                                        · replace H := dz_if c124 H
                                                          by_cases c128 : dz_c (dz_an (dz_sc xs (dz_c s1.1)) 63) = 27
                                                          · replace H := dz_it c128 H
                                                            refine wq_ts (x' := dz_c (dz_an (dz_sc xs (dz_c s1.1)) 63)) (tt := 957) rfl rfl (by rw [c128]; rfl) ?_
                                                            refine wp_s (i := .aload_n 1) (n := 1) (pc' := 958) (st' := [.ref 0]) rfl rfl ?_
                                                            refine wp_s (i := .aload_n 0) (n := 1) (pc' := 959) (st' := [.retAddr 0, .ref 0]) rfl rfl ?_
                                                            refine wp_s (i := .iload_n 3) (n := 1) (pc' := 960) (st' := [dz_I s1.1, .retAddr 0, .ref 0]) rfl rfl ?_
                                                            refine wp_s (i := .iconst 1) (n := 1) (pc' := 961) (st' := [dz_I 1, dz_I s1.1, .retAddr 0, .ref 0]) rfl rfl ?_
                                                            refine wq_2 (i := .iadd) (z := s1.1 + 1) (pc' := 962) rfl rfl (op_add _ _) rfl ?_
                                                            obtain ⟨k129, H⟩ := dz_ck H
                                                            refine wq_sx (j' := dz_c (s1.1 + 1)) (pc' := 963) rfl rfl k129.1 k129.2 rfl ?_
                                                            refine wq_cv (Dq := (D + 9)) (r' := mm_r92) (as0 := [dz_I (dz_sc xs (dz_c (s1.1 + 1)))]) (rest := []) (ls' := [some (.ref 0), some (dz_I (dz_sc xs (dz_c (s1.1 + 1)))), none, none]) (pc' := 966) rfl rfl rfl rfl ho_O rfl rfl rfl ?_
                                                            refine jw_O_blocked (X := (some xs)) (D := D + 3) (dz_sc xs (dz_c (s1.1 + 1))) s1.2 (dz_pm (dz_bi H) (fun q130 H => ?_))
                                                            show mm_Wp (some xs) (D + 10) mm_rL 966 [some (.retAddr 0), some (.ref 0), some (.ref 114), some (dz_I s1.1)] [dz_I q130.1] (hz_0 q130.2) Q
                                                            refine wp_s (i := .pop) (n := 1) (pc' := 967) (st' := []) rfl rfl ?_
                                                            refine wp_s (i := .aload_n 2) (n := 1) (pc' := 968) (st' := [.ref 114]) rfl rfl ?_
                                                            refine wp_s (i := .aload_n 0) (n := 1) (pc' := 969) (st' := [.retAddr 0, .ref 114]) rfl rfl ?_
                                                            refine wp_s (i := .iload_n 3) (n := 1) (pc' := 970) (st' := [dz_I s1.1, .retAddr 0, .ref 114]) rfl rfl ?_
                                                            refine wp_s (i := .iconst 1) (n := 1) (pc' := 971) (st' := [dz_I 1, dz_I s1.1, .retAddr 0, .ref 114]) rfl rfl ?_
                                                            refine wq_2 (i := .iadd) (z := s1.1 + 1) (pc' := 972) rfl rfl (op_add _ _) rfl ?_
                                                            refine wq_sx (j' := dz_c (s1.1 + 1)) (pc' := 973) rfl rfl k129.1 k129.2 rfl ?_
                                                            refine wq_cv (Dq := (D + 9)) (r' := mm_r180) (as0 := [dz_I (dz_sc xs (dz_c (s1.1 + 1)))]) (rest := []) (ls' := [some (.ref 114), some (dz_I (dz_sc xs (dz_c (s1.1 + 1)))), none, none]) (pc' := 976) rfl rfl rfl rfl ho_M rfl rfl rfl ?_
                                                            refine jw_M_blocked (X := (some xs)) (D := D + 3) (dz_sc xs (dz_c (s1.1 + 1))) q130.2 (dz_pm (dz_bi H) (fun q131 H => ?_))
                                                            show mm_Wp (some xs) (D + 10) mm_rL 976 [some (.retAddr 0), some (.ref 0), some (.ref 114), some (dz_I s1.1)] [dz_I q131.1] (hz_0 q131.2) Q
                                                            refine wp_s (i := .pop) (n := 1) (pc' := 977) (st' := []) rfl rfl ?_
                                                            refine wp_s (i := .goto 333) (n := 3) (pc' := 1310) (st' := []) rfl rfl ?_
                                                            refine wq_inc (k := 3) (d := 5) (x := s1.1) (ls' := [some (.retAddr 0), some (.ref 0), some (.ref 114), some (dz_I (s1.1 + 5))]) (pc' := 1313) rfl rfl rfl rfl ?_
                                                            refine wp_s (i := .goto (-1295)) (n := 3) (pc' := 18) (st' := []) rfl rfl ?_
                                                            replace H := dz_back H
                                                            exact H
                                                          · replace H := dz_if c128 H
                                                            by_cases c132 : dz_c (dz_an (dz_sc xs (dz_c s1.1)) 63) = 28
                                                            · replace H := dz_it c132 H
                                                              refine wq_ts (x' := dz_c (dz_an (dz_sc xs (dz_c s1.1)) 63)) (tt := 980) rfl rfl (by rw [c132]; rfl) ?_
                                                              refine wp_s (i := .aload_n 1) (n := 1) (pc' := 981) (st' := [.ref 0]) rfl rfl ?_
                                                              refine wp_s (i := .aload_n 0) (n := 1) (pc' := 982) (st' := [.retAddr 0, .ref 0]) rfl rfl ?_
                                                              refine wp_s (i := .iload_n 3) (n := 1) (pc' := 983) (st' := [dz_I s1.1, .retAddr 0, .ref 0]) rfl rfl ?_
                                                              refine wp_s (i := .iconst 1) (n := 1) (pc' := 984) (st' := [dz_I 1, dz_I s1.1, .retAddr 0, .ref 0]) rfl rfl ?_
                                                              refine wq_2 (i := .iadd) (z := s1.1 + 1) (pc' := 985) rfl rfl (op_add _ _) rfl ?_
                                                              obtain ⟨k133, H⟩ := dz_ck H
                                                              refine wq_sx (j' := dz_c (s1.1 + 1)) (pc' := 986) rfl rfl k133.1 k133.2 rfl ?_
                                                              refine wq_cv (Dq := (D + 9)) (r' := mm_r93) (as0 := [dz_I (dz_sc xs (dz_c (s1.1 + 1)))]) (rest := []) (ls' := [some (.ref 0), some (dz_I (dz_sc xs (dz_c (s1.1 + 1)))), none, none, none]) (pc' := 989) rfl rfl rfl rfl ho_O rfl rfl rfl ?_
                                                              refine jw_O_frozen (X := (some xs)) (D := D + 3) (dz_sc xs (dz_c (s1.1 + 1))) s1.2 (dz_pm (dz_bi H) (fun q134 H => ?_))
                                                              show mm_Wp (some xs) (D + 10) mm_rL 989 [some (.retAddr 0), some (.ref 0), some (.ref 114), some (dz_I s1.1)] [dz_I q134.1] (hz_0 q134.2) Q
                                                              refine wp_s (i := .pop) (n := 1) (pc' := 990) (st' := []) rfl rfl ?_
                                                              refine wp_s (i := .aload_n 2) (n := 1) (pc' := 991) (st' := [.ref 114]) rfl rfl ?_
                                                              refine wp_s (i := .aload_n 0) (n := 1) (pc' := 992) (st' := [.retAddr 0, .ref 114]) rfl rfl ?_
                                                              refine wp_s (i := .iload_n 3) (n := 1) (pc' := 993) (st' := [dz_I s1.1, .retAddr 0, .ref 114]) rfl rfl ?_
                                                              refine wp_s (i := .iconst 1) (n := 1) (pc' := 994) (st' := [dz_I 1, dz_I s1.1, .retAddr 0, .ref 114]) rfl rfl ?_
                                                              refine wq_2 (i := .iadd) (z := s1.1 + 1) (pc' := 995) rfl rfl (op_add _ _) rfl ?_
                                                              refine wq_sx (j' := dz_c (s1.1 + 1)) (pc' := 996) rfl rfl k133.1 k133.2 rfl ?_
                                                              refine wq_cv (Dq := (D + 9)) (r' := mm_r181) (as0 := [dz_I (dz_sc xs (dz_c (s1.1 + 1)))]) (rest := []) (ls' := [some (.ref 114), some (dz_I (dz_sc xs (dz_c (s1.1 + 1)))), none, none, none]) (pc' := 999) rfl rfl rfl rfl ho_M rfl rfl rfl ?_
                                                              refine jw_M_frozen (X := (some xs)) (D := D + 3) (dz_sc xs (dz_c (s1.1 + 1))) q134.2 (dz_pm (dz_bi H) (fun q135 H => ?_))
                                                              show mm_Wp (some xs) (D + 10) mm_rL 999 [some (.retAddr 0), some (.ref 0), some (.ref 114), some (dz_I s1.1)] [dz_I q135.1] (hz_0 q135.2) Q
                                                              refine wp_s (i := .pop) (n := 1) (pc' := 1000) (st' := []) rfl rfl ?_
                                                              refine wp_s (i := .goto 310) (n := 3) (pc' := 1310) (st' := []) rfl rfl ?_
                                                              refine wq_inc (k := 3) (d := 5) (x := s1.1) (ls' := [some (.retAddr 0), some (.ref 0), some (.ref 114), some (dz_I (s1.1 + 5))]) (pc' := 1313) rfl rfl rfl rfl ?_
                                                              refine wp_s (i := .goto (-1295)) (n := 3) (pc' := 18) (st' := []) rfl rfl ?_
                                                              replace H := dz_back H
                                                              exact H
                                                            · replace H := dz_if c132 H
                                                              by_cases c136 : dz_c (dz_an (dz_sc xs (dz_c s1.1)) 63) = 29
                                                              · replace H := dz_it c136 H
                                                                refine wq_ts (x' := dz_c (dz_an (dz_sc xs (dz_c s1.1)) 63)) (tt := 1003) rfl rfl (by rw [c136]; rfl) ?_
                                                                refine wp_s (i := .aload_n 1) (n := 1) (pc' := 1004) (st' := [.ref 0]) rfl rfl ?_
                                                                refine wp_s (i := .aload_n 0) (n := 1) (pc' := 1005) (st' := [.retAddr 0, .ref 0]) rfl rfl ?_
                                                                refine wp_s (i := .iload_n 3) (n := 1) (pc' := 1006) (st' := [dz_I s1.1, .retAddr 0, .ref 0]) rfl rfl ?_
                                                                refine wp_s (i := .iconst 1) (n := 1) (pc' := 1007) (st' := [dz_I 1, dz_I s1.1, .retAddr 0, .ref 0]) rfl rfl ?_
                                                                refine wq_2 (i := .iadd) (z := s1.1 + 1) (pc' := 1008) rfl rfl (op_add _ _) rfl ?_
                                                                obtain ⟨k137, H⟩ := dz_ck H
                                                                refine wq_sx (j' := dz_c (s1.1 + 1)) (pc' := 1009) rfl rfl k137.1 k137.2 rfl ?_
                                                                refine wp_s (i := .aload_n 0) (n := 1) (pc' := 1010) (st' := [.retAddr 0, dz_I (dz_sc xs (dz_c (s1.1 + 1))), .ref 0]) rfl rfl ?_
                                                                refine wp_s (i := .iload_n 3) (n := 1) (pc' := 1011) (st' := [dz_I s1.1, .retAddr 0, dz_I (dz_sc xs (dz_c (s1.1 + 1))), .ref 0]) rfl rfl ?_
                                                                refine wp_s (i := .iconst 2) (n := 1) (pc' := 1012) (st' := [dz_I 2, dz_I s1.1, .retAddr 0, dz_I (dz_sc xs (dz_c (s1.1 + 1))), .ref 0]) rfl rfl ?_
                                                                refine wq_2 (i := .iadd) (z := s1.1 + 2) (pc' := 1013) rfl rfl (op_add _ _) rfl ?_
                                                                obtain ⟨k138, H⟩ := dz_ck H
                                                                refine wq_sx (j' := dz_c (s1.1 + 2)) (pc' := 1014) rfl rfl k138.1 k138.2 rfl ?_
                                                                refine wq_cv (Dq := (D + 9)) (r' := mm_r94) (as0 := [dz_I (dz_sc xs (dz_c (s1.1 + 1))), dz_I (dz_sc xs (dz_c (s1.1 + 2)))]) (rest := []) (ls' := [some (.ref 0), some (dz_I (dz_sc xs (dz_c (s1.1 + 1)))), some (dz_I (dz_sc xs (dz_c (s1.1 + 2)))), none, none, none]) (pc' := 1017) rfl rfl rfl rfl ho_O rfl rfl rfl ?_
                                                                refine jw_O_lasts (X := (some xs)) (D := D + 5) (dz_sc xs (dz_c (s1.1 + 1))) (dz_sc xs (dz_c (s1.1 + 2))) s1.2 (dz_pm (dz_bi H) (fun q139 H => ?_))
                                                                show mm_Wp (some xs) (D + 10) mm_rL 1017 [some (.retAddr 0), some (.ref 0), some (.ref 114), some (dz_I s1.1)] [dz_I q139.1] (hz_0 q139.2) Q
                                                                refine wp_s (i := .pop) (n := 1) (pc' := 1018) (st' := []) rfl rfl ?_
                                                                refine wp_s (i := .aload_n 2) (n := 1) (pc' := 1019) (st' := [.ref 114]) rfl rfl ?_
                                                                refine wp_s (i := .aload_n 0) (n := 1) (pc' := 1020) (st' := [.retAddr 0, .ref 114]) rfl rfl ?_
                                                                refine wp_s (i := .iload_n 3) (n := 1) (pc' := 1021) (st' := [dz_I s1.1, .retAddr 0, .ref 114]) rfl rfl ?_
                                                                refine wp_s (i := .iconst 1) (n := 1) (pc' := 1022) (st' := [dz_I 1, dz_I s1.1, .retAddr 0, .ref 114]) rfl rfl ?_
                                                                refine wq_2 (i := .iadd) (z := s1.1 + 1) (pc' := 1023) rfl rfl (op_add _ _) rfl ?_
                                                                refine wq_sx (j' := dz_c (s1.1 + 1)) (pc' := 1024) rfl rfl k137.1 k137.2 rfl ?_
                                                                refine wp_s (i := .aload_n 0) (n := 1) (pc' := 1025) (st' := [.retAddr 0, dz_I (dz_sc xs (dz_c (s1.1 + 1))), .ref 114]) rfl rfl ?_
                                                                refine wp_s (i := .iload_n 3) (n := 1) (pc' := 1026) (st' := [dz_I s1.1, .retAddr 0, dz_I (dz_sc xs (dz_c (s1.1 + 1))), .ref 114]) rfl rfl ?_
                                                                refine wp_s (i := .iconst 2) (n := 1) (pc' := 1027) (st' := [dz_I 2, dz_I s1.1, .retAddr 0, dz_I (dz_sc xs (dz_c (s1.1 + 1))), .ref 114]) rfl rfl ?_
                                                                refine wq_2 (i := .iadd) (z := s1.1 + 2) (pc' := 1028) rfl rfl (op_add _ _) rfl ?_
                                                                refine wq_sx (j' := dz_c (s1.1 + 2)) (pc' := 1029) rfl rfl k138.1 k138.2 rfl ?_
                                                                refine wq_cv (Dq := (D + 9)) (r' := mm_r182) (as0 := [dz_I (dz_sc xs (dz_c (s1.1 + 1))), dz_I (dz_sc xs (dz_c (s1.1 + 2)))]) (rest := []) (ls' := [some (.ref 114), some (dz_I (dz_sc xs (dz_c (s1.1 + 1)))), some (dz_I (dz_sc xs (dz_c (s1.1 + 2)))), none]) (pc' := 1032) rfl rfl rfl rfl ho_M rfl rfl rfl ?_
                                                                refine jw_M_lasts (X := (some xs)) (D := D + 5) (dz_sc xs (dz_c (s1.1 + 1))) (dz_sc xs (dz_c (s1.1 + 2))) q139.2 (dz_pm (dz_bi H) (fun q140 H => ?_))
                                                                show mm_Wp (some xs) (D + 10) mm_rL 1032 [some (.retAddr 0), some (.ref 0), some (.ref 114), some (dz_I s1.1)] [dz_I q140.1] (hz_0 q140.2) Q
                                                                refine wp_s (i := .pop) (n := 1) (pc' := 1033) (st' := []) rfl rfl ?_
                                                                refine wp_s (i := .goto 277) (n := 3) (pc' := 1310) (st' := []) rfl rfl ?_
                                                                refine wq_inc (k := 3) (d := 5) (x := s1.1) (ls' := [some (.retAddr 0), some (.ref 0), some (.ref 114), some (dz_I (s1.1 + 5))]) (pc' := 1313) rfl rfl rfl rfl ?_
                                                                refine wp_s (i := .goto (-1295)) (n := 3) (pc' := 18) (st' := []) rfl rfl ?_
                                                                replace H := dz_back H
                                                                exact H
                                                              · replace H := dz_if c136 H
                                                                by_cases c141 : dz_c (dz_an (dz_sc xs (dz_c s1.1)) 63) = 30
                                                                · replace H := dz_it c141 H
                                                                  refine wq_ts (x' := dz_c (dz_an (dz_sc xs (dz_c s1.1)) 63)) (tt := 1036) rfl rfl (by rw [c141]; rfl) ?_
                                                                  refine wp_s (i := .aload_n 1) (n := 1) (pc' := 1037) (st' := [.ref 0]) rfl rfl ?_
                                                                  refine wp_s (i := .aload_n 0) (n := 1) (pc' := 1038) (st' := [.retAddr 0, .ref 0]) rfl rfl ?_
                                                                  refine wp_s (i := .iload_n 3) (n := 1) (pc' := 1039) (st' := [dz_I s1.1, .retAddr 0, .ref 0]) rfl rfl ?_
                                                                  refine wp_s (i := .iconst 1) (n := 1) (pc' := 1040) (st' := [dz_I 1, dz_I s1.1, .retAddr 0, .ref 0]) rfl rfl ?_
                                                                  refine wq_2 (i := .iadd) (z := s1.1 + 1) (pc' := 1041) rfl rfl (op_add _ _) rfl ?_
                                                                  obtain ⟨k142, H⟩ := dz_ck H
                                                                  refine wq_sx (j' := dz_c (s1.1 + 1)) (pc' := 1042) rfl rfl k142.1 k142.2 rfl ?_
                                                                  refine wp_s (i := .aload_n 0) (n := 1) (pc' := 1043) (st' := [.retAddr 0, dz_I (dz_sc xs (dz_c (s1.1 + 1))), .ref 0]) rfl rfl ?_
                                                                  refine wp_s (i := .iload_n 3) (n := 1) (pc' := 1044) (st' := [dz_I s1.1, .retAddr 0, dz_I (dz_sc xs (dz_c (s1.1 + 1))), .ref 0]) rfl rfl ?_
                                                                  refine wp_s (i := .iconst 2) (n := 1) (pc' := 1045) (st' := [dz_I 2, dz_I s1.1, .retAddr 0, dz_I (dz_sc xs (dz_c (s1.1 + 1))), .ref 0]) rfl rfl ?_
                                                                  refine wq_2 (i := .iadd) (z := s1.1 + 2) (pc' := 1046) rfl rfl (op_add _ _) rfl ?_
                                                                  obtain ⟨k143, H⟩ := dz_ck H
                                                                  refine wq_sx (j' := dz_c (s1.1 + 2)) (pc' := 1047) rfl rfl k143.1 k143.2 rfl ?_
                                                                  refine wp_s (i := .aload_n 0) (n := 1) (pc' := 1048) (st' := [.retAddr 0, dz_I (dz_sc xs (dz_c (s1.1 + 2))), dz_I (dz_sc xs (dz_c (s1.1 + 1))), .ref 0]) rfl rfl ?_
                                                                  refine wp_s (i := .iload_n 3) (n := 1) (pc' := 1049) (st' := [dz_I s1.1, .retAddr 0, dz_I (dz_sc xs (dz_c (s1.1 + 2))), dz_I (dz_sc xs (dz_c (s1.1 + 1))), .ref 0]) rfl rfl ?_
                                                                  refine wp_s (i := .iconst 3) (n := 1) (pc' := 1050) (st' := [dz_I 3, dz_I s1.1, .retAddr 0, dz_I (dz_sc xs (dz_c (s1.1 + 2))), dz_I (dz_sc xs (dz_c (s1.1 + 1))), .ref 0]) rfl rfl ?_
                                                                  refine wq_2 (i := .iadd) (z := s1.1 + 3) (pc' := 1051) rfl rfl (op_add _ _) rfl ?_
                                                                  obtain ⟨k144, H⟩ := dz_ck H
                                                                  refine wq_sx (j' := dz_c (s1.1 + 3)) (pc' := 1052) rfl rfl k144.1 k144.2 rfl ?_
                                                                  refine wp_s (i := .aload_n 0) (n := 1) (pc' := 1053) (st' := [.retAddr 0, dz_I (dz_sc xs (dz_c (s1.1 + 3))), dz_I (dz_sc xs (dz_c (s1.1 + 2))), dz_I (dz_sc xs (dz_c (s1.1 + 1))), .ref 0]) rfl rfl ?_
                                                                  refine wp_s (i := .iload_n 3) (n := 1) (pc' := 1054) (st' := [dz_I s1.1, .retAddr 0, dz_I (dz_sc xs (dz_c (s1.1 + 3))), dz_I (dz_sc xs (dz_c (s1.1 + 2))), dz_I (dz_sc xs (dz_c (s1.1 + 1))), .ref 0]) rfl rfl ?_
                                                                  refine wp_s (i := .iconst 4) (n := 1) (pc' := 1055) (st' := [dz_I 4, dz_I s1.1, .retAddr 0, dz_I (dz_sc xs (dz_c (s1.1 + 3))), dz_I (dz_sc xs (dz_c (s1.1 + 2))), dz_I (dz_sc xs (dz_c (s1.1 + 1))), .ref 0]) rfl rfl ?_
                                                                  refine wq_2 (i := .iadd) (z := s1.1 + 4) (pc' := 1056) rfl rfl (op_add _ _) rfl ?_
                                                                  obtain ⟨k145, H⟩ := dz_ck H
                                                                  refine wq_sx (j' := dz_c (s1.1 + 4)) (pc' := 1057) rfl rfl k145.1 k145.2 rfl ?_
                                                                  refine wq_cv (Dq := (D + 9)) (r' := mm_r95) (as0 := [dz_I (dz_sc xs (dz_c (s1.1 + 1))), dz_I (dz_sc xs (dz_c (s1.1 + 2))), dz_I (dz_sc xs (dz_c (s1.1 + 3))), dz_I (dz_sc xs (dz_c (s1.1 + 4)))]) (rest := []) (ls' := [some (.ref 0), some (dz_I (dz_sc xs (dz_c (s1.1 + 1)))), some (dz_I (dz_sc xs (dz_c (s1.1 + 2)))), some (dz_I (dz_sc xs (dz_c (s1.1 + 3)))), some (dz_I (dz_sc xs (dz_c (s1.1 + 4)))), none, none, none, none]) (pc' := 1060) rfl rfl rfl rfl ho_O rfl rfl rfl ?_
                                                                  refine jw_O_draws (X := (some xs)) (D := D + 8) (dz_sc xs (dz_c (s1.1 + 1))) (dz_sc xs (dz_c (s1.1 + 2))) (dz_sc xs (dz_c (s1.1 + 3))) (dz_sc xs (dz_c (s1.1 + 4))) s1.2 (dz_pm (dz_bi H) (fun q146 H => ?_))
                                                                  show mm_Wp (some xs) (D + 10) mm_rL 1060 [some (.retAddr 0), some (.ref 0), some (.ref 114), some (dz_I s1.1)] [dz_I q146.1] (hz_0 q146.2) Q
                                                                  refine wp_s (i := .pop) (n := 1) (pc' := 1061) (st' := []) rfl rfl ?_
                                                                  refine wp_s (i := .aload_n 2) (n := 1) (pc' := 1062) (st' := [.ref 114]) rfl rfl ?_
                                                                  refine wp_s (i := .aload_n 0) (n := 1) (pc' := 1063) (st' := [.retAddr 0, .ref 114]) rfl rfl ?_
                                                                  refine wp_s (i := .iload_n 3) (n := 1) (pc' := 1064) (st' := [dz_I s1.1, .retAddr 0, .ref 114]) rfl rfl ?_
                                                                  refine wp_s (i := .iconst 1) (n := 1) (pc' := 1065) (st' := [dz_I 1, dz_I s1.1, .retAddr 0, .ref 114]) rfl rfl ?_
                                                                  refine wq_2 (i := .iadd) (z := s1.1 + 1) (pc' := 1066) rfl rfl (op_add _ _) rfl ?_
                                                                  refine wq_sx (j' := dz_c (s1.1 + 1)) (pc' := 1067) rfl rfl k142.1 k142.2 rfl ?_
                                                                  refine wp_s (i := .aload_n 0) (n := 1) (pc' := 1068) (st' := [.retAddr 0, dz_I (dz_sc xs (dz_c (s1.1 + 1))), .ref 114]) rfl rfl ?_
                                                                  refine wp_s (i := .iload_n 3) (n := 1) (pc' := 1069) (st' := [dz_I s1.1, .retAddr 0, dz_I (dz_sc xs (dz_c (s1.1 + 1))), .ref 114]) rfl rfl ?_
                                                                  refine wp_s (i := .iconst 2) (n := 1) (pc' := 1070) (st' := [dz_I 2, dz_I s1.1, .retAddr 0, dz_I (dz_sc xs (dz_c (s1.1 + 1))), .ref 114]) rfl rfl ?_
                                                                  refine wq_2 (i := .iadd) (z := s1.1 + 2) (pc' := 1071) rfl rfl (op_add _ _) rfl ?_
                                                                  refine wq_sx (j' := dz_c (s1.1 + 2)) (pc' := 1072) rfl rfl k143.1 k143.2 rfl ?_
                                                                  refine wp_s (i := .aload_n 0) (n := 1) (pc' := 1073) (st' := [.retAddr 0, dz_I (dz_sc xs (dz_c (s1.1 + 2))), dz_I (dz_sc xs (dz_c (s1.1 + 1))), .ref 114]) rfl rfl ?_
                                                                  refine wp_s (i := .iload_n 3) (n := 1) (pc' := 1074) (st' := [dz_I s1.1, .retAddr 0, dz_I (dz_sc xs (dz_c (s1.1 + 2))), dz_I (dz_sc xs (dz_c (s1.1 + 1))), .ref 114]) rfl rfl ?_
                                                                  refine wp_s (i := .iconst 3) (n := 1) (pc' := 1075) (st' := [dz_I 3, dz_I s1.1, .retAddr 0, dz_I (dz_sc xs (dz_c (s1.1 + 2))), dz_I (dz_sc xs (dz_c (s1.1 + 1))), .ref 114]) rfl rfl ?_
                                                                  refine wq_2 (i := .iadd) (z := s1.1 + 3) (pc' := 1076) rfl rfl (op_add _ _) rfl ?_
                                                                  refine wq_sx (j' := dz_c (s1.1 + 3)) (pc' := 1077) rfl rfl k144.1 k144.2 rfl ?_
                                                                  refine wp_s (i := .aload_n 0) (n := 1) (pc' := 1078) (st' := [.retAddr 0, dz_I (dz_sc xs (dz_c (s1.1 + 3))), dz_I (dz_sc xs (dz_c (s1.1 + 2))), dz_I (dz_sc xs (dz_c (s1.1 + 1))), .ref 114]) rfl rfl ?_
                                                                  refine wp_s (i := .iload_n 3) (n := 1) (pc' := 1079) (st' := [dz_I s1.1, .retAddr 0, dz_I (dz_sc xs (dz_c (s1.1 + 3))), dz_I (dz_sc xs (dz_c (s1.1 + 2))), dz_I (dz_sc xs (dz_c (s1.1 + 1))), .ref 114]) rfl rfl ?_
                                                                  refine wp_s (i := .iconst 4) (n := 1) (pc' := 1080) (st' := [dz_I 4, dz_I s1.1, .retAddr 0, dz_I (dz_sc xs (dz_c (s1.1 + 3))), dz_I (dz_sc xs (dz_c (s1.1 + 2))), dz_I (dz_sc xs (dz_c (s1.1 + 1))), .ref 114]) rfl rfl ?_
                                                                  refine wq_2 (i := .iadd) (z := s1.1 + 4) (pc' := 1081) rfl rfl (op_add _ _) rfl ?_
                                                                  refine wq_sx (j' := dz_c (s1.1 + 4)) (pc' := 1082) rfl rfl k145.1 k145.2 rfl ?_
                                                                  refine wq_cv (Dq := (D + 9)) (r' := mm_r183) (as0 := [dz_I (dz_sc xs (dz_c (s1.1 + 1))), dz_I (dz_sc xs (dz_c (s1.1 + 2))), dz_I (dz_sc xs (dz_c (s1.1 + 3))), dz_I (dz_sc xs (dz_c (s1.1 + 4)))]) (rest := []) (ls' := [some (.ref 114), some (dz_I (dz_sc xs (dz_c (s1.1 + 1)))), some (dz_I (dz_sc xs (dz_c (s1.1 + 2)))), some (dz_I (dz_sc xs (dz_c (s1.1 + 3)))), some (dz_I (dz_sc xs (dz_c (s1.1 + 4)))), none, none, none, none]) (pc' := 1085) rfl rfl rfl rfl ho_M rfl rfl rfl ?_
                                                                  refine jw_M_draws (X := (some xs)) (D := D + 7) (dz_sc xs (dz_c (s1.1 + 1))) (dz_sc xs (dz_c (s1.1 + 2))) (dz_sc xs (dz_c (s1.1 + 3))) (dz_sc xs (dz_c (s1.1 + 4))) q146.2 (dz_pm (dz_bi H) (fun q147 H => ?_))
                                                                  show mm_Wp (some xs) (D + 10) mm_rL 1085 [some (.retAddr 0), some (.ref 0), some (.ref 114), some (dz_I s1.1)] [dz_I q147.1] (hz_0 q147.2) Q
                                                                  refine wp_s (i := .pop) (n := 1) (pc' := 1086) (st' := []) rfl rfl ?_
                                                                  refine wp_s (i := .goto 224) (n := 3) (pc' := 1310) (st' := []) rfl rfl ?_
                                                                  refine wq_inc (k := 3) (d := 5) (x := s1.1) (ls' := [some (.retAddr 0), some (.ref 0), some (.ref 114), some (dz_I (s1.1 + 5))]) (pc' := 1313) rfl rfl rfl rfl ?_
                                                                  refine wp_s (i := .goto (-1295)) (n := 3) (pc' := 18) (st' := []) rfl rfl ?_
                                                                  replace H := dz_back H
                                                                  exact H
                                                                · replace H := dz_if c141 H
                                                                  by_cases c148 : dz_c (dz_an (dz_sc xs (dz_c s1.1)) 63) = 31
                                                                  · replace H := dz_it c148 H
                                                                    refine wq_ts (x' := dz_c (dz_an (dz_sc xs (dz_c s1.1)) 63)) (tt := 1089) rfl rfl (by rw [c148]; rfl) ?_
                                                                    refine wp_s (i := .aload_n 1) (n := 1) (pc' := 1090) (st' := [.ref 0]) rfl rfl ?_
                                                                    refine wp_s (i := .aload_n 0) (n := 1) (pc' := 1091) (st' := [.retAddr 0, .ref 0]) rfl rfl ?_
                                                                    refine wp_s (i := .iload_n 3) (n := 1) (pc' := 1092) (st' := [dz_I s1.1, .retAddr 0, .ref 0]) rfl rfl ?_
                                                                    refine wp_s (i := .iconst 1) (n := 1) (pc' := 1093) (st' := [dz_I 1, dz_I s1.1, .retAddr 0, .ref 0]) rfl rfl ?_
                                                                    refine wq_2 (i := .iadd) (z := s1.1 + 1) (pc' := 1094) rfl rfl (op_add _ _) rfl ?_
                                                                    obtain ⟨k149, H⟩ := dz_ck H
                                                                    refine wq_sx (j' := dz_c (s1.1 + 1)) (pc' := 1095) rfl rfl k149.1 k149.2 rfl ?_
                                                                    refine wq_cv (Dq := (D + 9)) (r' := mm_r96) (as0 := [dz_I (dz_sc xs (dz_c (s1.1 + 1)))]) (rest := []) (ls' := [some (.ref 0), some (dz_I (dz_sc xs (dz_c (s1.1 + 1)))), none, none]) (pc' := 1098) rfl rfl rfl rfl ho_O rfl rfl rfl ?_
                                                                    refine jw_O_keep (X := (some xs)) (D := D + 7) (dz_sc xs (dz_c (s1.1 + 1))) s1.2 (dz_pm (dz_bi H) (fun q150 H => ?_))
                                                                    show mm_Wp (some xs) (D + 10) mm_rL 1098 [some (.retAddr 0), some (.ref 0), some (.ref 114), some (dz_I s1.1)] [dz_I q150.1] (hz_0 q150.2) Q
                                                                    refine wp_s (i := .pop) (n := 1) (pc' := 1099) (st' := []) rfl rfl ?_
                                                                    refine wp_s (i := .aload_n 2) (n := 1) (pc' := 1100) (st' := [.ref 114]) rfl rfl ?_
                                                                    refine wp_s (i := .aload_n 0) (n := 1) (pc' := 1101) (st' := [.retAddr 0, .ref 114]) rfl rfl ?_
                                                                    refine wp_s (i := .iload_n 3) (n := 1) (pc' := 1102) (st' := [dz_I s1.1, .retAddr 0, .ref 114]) rfl rfl ?_
                                                                    refine wp_s (i := .iconst 1) (n := 1) (pc' := 1103) (st' := [dz_I 1, dz_I s1.1, .retAddr 0, .ref 114]) rfl rfl ?_
                                                                    refine wq_2 (i := .iadd) (z := s1.1 + 1) (pc' := 1104) rfl rfl (op_add _ _) rfl ?_
                                                                    refine wq_sx (j' := dz_c (s1.1 + 1)) (pc' := 1105) rfl rfl k149.1 k149.2 rfl ?_
                                                                    refine wq_cv (Dq := (D + 9)) (r' := mm_r185) (as0 := [dz_I (dz_sc xs (dz_c (s1.1 + 1)))]) (rest := []) (ls' := [some (.ref 114), some (dz_I (dz_sc xs (dz_c (s1.1 + 1)))), none]) (pc' := 1108) rfl rfl rfl rfl ho_M rfl rfl rfl ?_
                                                                    refine jw_M_keep (X := (some xs)) (D := D + 8) (dz_sc xs (dz_c (s1.1 + 1))) q150.2 (dz_pm (dz_bi H) (fun q151 H => ?_))
                                                                    show mm_Wp (some xs) (D + 10) mm_rL 1108 [some (.retAddr 0), some (.ref 0), some (.ref 114), some (dz_I s1.1)] [dz_I q151.1] (hz_0 q151.2) Q
                                                                    refine wp_s (i := .pop) (n := 1) (pc' := 1109) (st' := []) rfl rfl ?_
                                                                    refine wp_s (i := .goto 201) (n := 3) (pc' := 1310) (st' := []) rfl rfl ?_
                                                                    refine wq_inc (k := 3) (d := 5) (x := s1.1) (ls' := [some (.retAddr 0), some (.ref 0), some (.ref 114), some (dz_I (s1.1 + 5))]) (pc' := 1313) rfl rfl rfl rfl ?_
                                                                    refine wp_s (i := .goto (-1295)) (n := 3) (pc' := 18) (st' := []) rfl rfl ?_
                                                                    replace H := dz_back H
                                                                    exact H
                                                                  · replace H := dz_if c148 H
                                                                    by_cases c152 : dz_c (dz_an (dz_sc xs (dz_c s1.1)) 63) = 32
                                                                    · replace H := dz_it c152 H
                                                                      refine wq_ts (x' := dz_c (dz_an (dz_sc xs (dz_c s1.1)) 63)) (tt := 1112) rfl rfl (by rw [c152]; rfl) ?_
                                                                      refine wp_s (i := .aload_n 1) (n := 1) (pc' := 1113) (st' := [.ref 0]) rfl rfl ?_
                                                                      refine wp_s (i := .aload_n 0) (n := 1) (pc' := 1114) (st' := [.retAddr 0, .ref 0]) rfl rfl ?_
                                                                      refine wp_s (i := .iload_n 3) (n := 1) (pc' := 1115) (st' := [dz_I s1.1, .retAddr 0, .ref 0]) rfl rfl ?_
                                                                      refine wp_s (i := .iconst 1) (n := 1) (pc' := 1116) (st' := [dz_I 1, dz_I s1.1, .retAddr 0, .ref 0]) rfl rfl ?_
                                                                      refine wq_2 (i := .iadd) (z := s1.1 + 1) (pc' := 1117) rfl rfl (op_add _ _) rfl ?_
                                                                      obtain ⟨k153, H⟩ := dz_ck H
                                                                      refine wq_sx (j' := dz_c (s1.1 + 1)) (pc' := 1118) rfl rfl k153.1 k153.2 rfl ?_
                                                                      refine wq_cv (Dq := (D + 9)) (r' := mm_r97) (as0 := [dz_I (dz_sc xs (dz_c (s1.1 + 1)))]) (rest := []) (ls' := [some (.ref 0), some (dz_I (dz_sc xs (dz_c (s1.1 + 1)))), none]) (pc' := 1121) rfl rfl rfl rfl ho_O rfl rfl rfl ?_
                                                                      refine jw_O_back (X := (some xs)) (D := D + 7) (dz_sc xs (dz_c (s1.1 + 1))) s1.2 (dz_pm (dz_bi H) (fun q154 H => ?_))
                                                                      show mm_Wp (some xs) (D + 10) mm_rL 1121 [some (.retAddr 0), some (.ref 0), some (.ref 114), some (dz_I s1.1)] [dz_I q154.1] (hz_0 q154.2) Q
                                                                      refine wp_s (i := .pop) (n := 1) (pc' := 1122) (st' := []) rfl rfl ?_
                                                                      refine wp_s (i := .aload_n 2) (n := 1) (pc' := 1123) (st' := [.ref 114]) rfl rfl ?_
                                                                      refine wp_s (i := .aload_n 0) (n := 1) (pc' := 1124) (st' := [.retAddr 0, .ref 114]) rfl rfl ?_
                                                                      refine wp_s (i := .iload_n 3) (n := 1) (pc' := 1125) (st' := [dz_I s1.1, .retAddr 0, .ref 114]) rfl rfl ?_
                                                                      refine wp_s (i := .iconst 1) (n := 1) (pc' := 1126) (st' := [dz_I 1, dz_I s1.1, .retAddr 0, .ref 114]) rfl rfl ?_
                                                                      refine wq_2 (i := .iadd) (z := s1.1 + 1) (pc' := 1127) rfl rfl (op_add _ _) rfl ?_
                                                                      refine wq_sx (j' := dz_c (s1.1 + 1)) (pc' := 1128) rfl rfl k153.1 k153.2 rfl ?_
                                                                      refine wq_cv (Dq := (D + 9)) (r' := mm_r186) (as0 := [dz_I (dz_sc xs (dz_c (s1.1 + 1)))]) (rest := []) (ls' := [some (.ref 114), some (dz_I (dz_sc xs (dz_c (s1.1 + 1))))]) (pc' := 1131) rfl rfl rfl rfl ho_M rfl rfl rfl ?_
                                                                      refine jw_M_back (X := (some xs)) (D := D + 8) (dz_sc xs (dz_c (s1.1 + 1))) q154.2 (dz_pm (dz_bi H) (fun q155 H => ?_))
                                                                      show mm_Wp (some xs) (D + 10) mm_rL 1131 [some (.retAddr 0), some (.ref 0), some (.ref 114), some (dz_I s1.1)] [dz_I q155.1] (hz_0 q155.2) Q
                                                                      refine wp_s (i := .pop) (n := 1) (pc' := 1132) (st' := []) rfl rfl ?_
                                                                      refine wp_s (i := .goto 178) (n := 3) (pc' := 1310) (st' := []) rfl rfl ?_
                                                                      refine wq_inc (k := 3) (d := 5) (x := s1.1) (ls' := [some (.retAddr 0), some (.ref 0), some (.ref 114), some (dz_I (s1.1 + 5))]) (pc' := 1313) rfl rfl rfl rfl ?_
                                                                      refine wp_s (i := .goto (-1295)) (n := 3) (pc' := 18) (st' := []) rfl rfl ?_
                                                                      replace H := dz_back H
                                                                      exact H
                                                                    · replace H := dz_if c152 H
                                                                      by_cases c156 : dz_c (dz_an (dz_sc xs (dz_c s1.1)) 63) = 33
                                                                      · replace H := dz_it c156 H
                                                                        refine wq_ts (x' := dz_c (dz_an (dz_sc xs (dz_c s1.1)) 63)) (tt := 1135) rfl rfl (by rw [c156]; rfl) ?_
                                                                        refine wp_s (i := .aload_n 1) (n := 1) (pc' := 1136) (st' := [.ref 0]) rfl rfl ?_
                                                                        refine wp_s (i := .aload_n 0) (n := 1) (pc' := 1137) (st' := [.retAddr 0, .ref 0]) rfl rfl ?_
                                                                        refine wp_s (i := .iload_n 3) (n := 1) (pc' := 1138) (st' := [dz_I s1.1, .retAddr 0, .ref 0]) rfl rfl ?_
                                                                        refine wp_s (i := .iconst 1) (n := 1) (pc' := 1139) (st' := [dz_I 1, dz_I s1.1, .retAddr 0, .ref 0]) rfl rfl ?_
                                                                        refine wq_2 (i := .iadd) (z := s1.1 + 1) (pc' := 1140) rfl rfl (op_add _ _) rfl ?_
                                                                        obtain ⟨k157, H⟩ := dz_ck H
                                                                        refine wq_sx (j' := dz_c (s1.1 + 1)) (pc' := 1141) rfl rfl k157.1 k157.2 rfl ?_
                                                                        refine wp_s (i := .aload_n 0) (n := 1) (pc' := 1142) (st' := [.retAddr 0, dz_I (dz_sc xs (dz_c (s1.1 + 1))), .ref 0]) rfl rfl ?_
                                                                        refine wp_s (i := .iload_n 3) (n := 1) (pc' := 1143) (st' := [dz_I s1.1, .retAddr 0, dz_I (dz_sc xs (dz_c (s1.1 + 1))), .ref 0]) rfl rfl ?_
                                                                        refine wp_s (i := .iconst 2) (n := 1) (pc' := 1144) (st' := [dz_I 2, dz_I s1.1, .retAddr 0, dz_I (dz_sc xs (dz_c (s1.1 + 1))), .ref 0]) rfl rfl ?_
                                                                        refine wq_2 (i := .iadd) (z := s1.1 + 2) (pc' := 1145) rfl rfl (op_add _ _) rfl ?_
                                                                        obtain ⟨k158, H⟩ := dz_ck H
                                                                        refine wq_sx (j' := dz_c (s1.1 + 2)) (pc' := 1146) rfl rfl k158.1 k158.2 rfl ?_
                                                                        refine wp_s (i := .aload_n 0) (n := 1) (pc' := 1147) (st' := [.retAddr 0, dz_I (dz_sc xs (dz_c (s1.1 + 2))), dz_I (dz_sc xs (dz_c (s1.1 + 1))), .ref 0]) rfl rfl ?_
                                                                        refine wp_s (i := .iload_n 3) (n := 1) (pc' := 1148) (st' := [dz_I s1.1, .retAddr 0, dz_I (dz_sc xs (dz_c (s1.1 + 2))), dz_I (dz_sc xs (dz_c (s1.1 + 1))), .ref 0]) rfl rfl ?_
                                                                        refine wp_s (i := .iconst 3) (n := 1) (pc' := 1149) (st' := [dz_I 3, dz_I s1.1, .retAddr 0, dz_I (dz_sc xs (dz_c (s1.1 + 2))), dz_I (dz_sc xs (dz_c (s1.1 + 1))), .ref 0]) rfl rfl ?_
                                                                        refine wq_2 (i := .iadd) (z := s1.1 + 3) (pc' := 1150) rfl rfl (op_add _ _) rfl ?_
                                                                        obtain ⟨k159, H⟩ := dz_ck H
                                                                        refine wq_sx (j' := dz_c (s1.1 + 3)) (pc' := 1151) rfl rfl k159.1 k159.2 rfl ?_
                                                                        refine wq_cv (Dq := (D + 9)) (r' := mm_r98) (as0 := [dz_I (dz_sc xs (dz_c (s1.1 + 1))), dz_I (dz_sc xs (dz_c (s1.1 + 2))), dz_I (dz_sc xs (dz_c (s1.1 + 3)))]) (rest := []) (ls' := [some (.ref 0), some (dz_I (dz_sc xs (dz_c (s1.1 + 1)))), some (dz_I (dz_sc xs (dz_c (s1.1 + 2)))), some (dz_I (dz_sc xs (dz_c (s1.1 + 3))))]) (pc' := 1154) rfl rfl rfl rfl ho_O rfl rfl rfl ?_
                                                                        refine jw_O_sheet (X := (some xs)) (D := D + 7) (dz_sc xs (dz_c (s1.1 + 1))) (dz_sc xs (dz_c (s1.1 + 2))) (dz_sc xs (dz_c (s1.1 + 3))) s1.2 (dz_pm (dz_bi H) (fun q160 H => ?_))
                                                                        show mm_Wp (some xs) (D + 10) mm_rL 1154 [some (.retAddr 0), some (.ref 0), some (.ref 114), some (dz_I s1.1)] [dz_I q160.1] (hz_0 q160.2) Q
                                                                        refine wp_s (i := .pop) (n := 1) (pc' := 1155) (st' := []) rfl rfl ?_
                                                                        refine wp_s (i := .aload_n 2) (n := 1) (pc' := 1156) (st' := [.ref 114]) rfl rfl ?_
                                                                        refine wp_s (i := .aload_n 0) (n := 1) (pc' := 1157) (st' := [.retAddr 0, .ref 114]) rfl rfl ?_
                                                                        refine wp_s (i := .iload_n 3) (n := 1) (pc' := 1158) (st' := [dz_I s1.1, .retAddr 0, .ref 114]) rfl rfl ?_
                                                                        refine wp_s (i := .iconst 1) (n := 1) (pc' := 1159) (st' := [dz_I 1, dz_I s1.1, .retAddr 0, .ref 114]) rfl rfl ?_
                                                                        refine wq_2 (i := .iadd) (z := s1.1 + 1) (pc' := 1160) rfl rfl (op_add _ _) rfl ?_
                                                                        refine wq_sx (j' := dz_c (s1.1 + 1)) (pc' := 1161) rfl rfl k157.1 k157.2 rfl ?_
                                                                        refine wp_s (i := .aload_n 0) (n := 1) (pc' := 1162) (st' := [.retAddr 0, dz_I (dz_sc xs (dz_c (s1.1 + 1))), .ref 114]) rfl rfl ?_
                                                                        refine wp_s (i := .iload_n 3) (n := 1) (pc' := 1163) (st' := [dz_I s1.1, .retAddr 0, dz_I (dz_sc xs (dz_c (s1.1 + 1))), .ref 114]) rfl rfl ?_
                                                                        refine wp_s (i := .iconst 2) (n := 1) (pc' := 1164) (st' := [dz_I 2, dz_I s1.1, .retAddr 0, dz_I (dz_sc xs (dz_c (s1.1 + 1))), .ref 114]) rfl rfl ?_
                                                                        refine wq_2 (i := .iadd) (z := s1.1 + 2) (pc' := 1165) rfl rfl (op_add _ _) rfl ?_
                                                                        refine wq_sx (j' := dz_c (s1.1 + 2)) (pc' := 1166) rfl rfl k158.1 k158.2 rfl ?_
                                                                        refine wp_s (i := .aload_n 0) (n := 1) (pc' := 1167) (st' := [.retAddr 0, dz_I (dz_sc xs (dz_c (s1.1 + 2))), dz_I (dz_sc xs (dz_c (s1.1 + 1))), .ref 114]) rfl rfl ?_
                                                                        refine wp_s (i := .iload_n 3) (n := 1) (pc' := 1168) (st' := [dz_I s1.1, .retAddr 0, dz_I (dz_sc xs (dz_c (s1.1 + 2))), dz_I (dz_sc xs (dz_c (s1.1 + 1))), .ref 114]) rfl rfl ?_
                                                                        refine wp_s (i := .iconst 3) (n := 1) (pc' := 1169) (st' := [dz_I 3, dz_I s1.1, .retAddr 0, dz_I (dz_sc xs (dz_c (s1.1 + 2))), dz_I (dz_sc xs (dz_c (s1.1 + 1))), .ref 114]) rfl rfl ?_
                                                                        refine wq_2 (i := .iadd) (z := s1.1 + 3) (pc' := 1170) rfl rfl (op_add _ _) rfl ?_
                                                                        refine wq_sx (j' := dz_c (s1.1 + 3)) (pc' := 1171) rfl rfl k159.1 k159.2 rfl ?_
                                                                        refine wq_cv (Dq := (D + 9)) (r' := mm_r187) (as0 := [dz_I (dz_sc xs (dz_c (s1.1 + 1))), dz_I (dz_sc xs (dz_c (s1.1 + 2))), dz_I (dz_sc xs (dz_c (s1.1 + 3)))]) (rest := []) (ls' := [some (.ref 114), some (dz_I (dz_sc xs (dz_c (s1.1 + 1)))), some (dz_I (dz_sc xs (dz_c (s1.1 + 2)))), some (dz_I (dz_sc xs (dz_c (s1.1 + 3)))), none]) (pc' := 1174) rfl rfl rfl rfl ho_M rfl rfl rfl ?_
                                                                        refine jw_M_sheet (X := (some xs)) (D := D + 8) (dz_sc xs (dz_c (s1.1 + 1))) (dz_sc xs (dz_c (s1.1 + 2))) (dz_sc xs (dz_c (s1.1 + 3))) q160.2 (dz_pm (dz_bi H) (fun q161 H => ?_))
                                                                        show mm_Wp (some xs) (D + 10) mm_rL 1174 [some (.retAddr 0), some (.ref 0), some (.ref 114), some (dz_I s1.1)] [dz_I q161.1] (hz_0 q161.2) Q
                                                                        refine wp_s (i := .pop) (n := 1) (pc' := 1175) (st' := []) rfl rfl ?_
                                                                        refine wp_s (i := .goto 135) (n := 3) (pc' := 1310) (st' := []) rfl rfl ?_
                                                                        refine wq_inc (k := 3) (d := 5) (x := s1.1) (ls' := [some (.retAddr 0), some (.ref 0), some (.ref 114), some (dz_I (s1.1 + 5))]) (pc' := 1313) rfl rfl rfl rfl ?_
                                                                        refine wp_s (i := .goto (-1295)) (n := 3) (pc' := 18) (st' := []) rfl rfl ?_
                                                                        replace H := dz_back H
                                                                        exact H
                                                                      · replace H := dz_if c156 H
                                                                        by_cases c162 : dz_c (dz_an (dz_sc xs (dz_c s1.1)) 63) = 34
                                                                        · replace H := dz_it c162 H
                                                                          refine wq_ts (x' := dz_c (dz_an (dz_sc xs (dz_c s1.1)) 63)) (tt := 1178) rfl rfl (by rw [c162]; rfl) ?_
                                                                          refine wp_s (i := .aload_n 1) (n := 1) (pc' := 1179) (st' := [.ref 0]) rfl rfl ?_
                                                                          refine wp_s (i := .aload_n 0) (n := 1) (pc' := 1180) (st' := [.retAddr 0, .ref 0]) rfl rfl ?_
                                                                          refine wp_s (i := .iload_n 3) (n := 1) (pc' := 1181) (st' := [dz_I s1.1, .retAddr 0, .ref 0]) rfl rfl ?_
                                                                          refine wp_s (i := .iconst 1) (n := 1) (pc' := 1182) (st' := [dz_I 1, dz_I s1.1, .retAddr 0, .ref 0]) rfl rfl ?_
                                                                          refine wq_2 (i := .iadd) (z := s1.1 + 1) (pc' := 1183) rfl rfl (op_add _ _) rfl ?_
                                                                          obtain ⟨k163, H⟩ := dz_ck H
                                                                          refine wq_sx (j' := dz_c (s1.1 + 1)) (pc' := 1184) rfl rfl k163.1 k163.2 rfl ?_
                                                                          refine wp_s (i := .aload_n 0) (n := 1) (pc' := 1185) (st' := [.retAddr 0, dz_I (dz_sc xs (dz_c (s1.1 + 1))), .ref 0]) rfl rfl ?_
                                                                          refine wp_s (i := .iload_n 3) (n := 1) (pc' := 1186) (st' := [dz_I s1.1, .retAddr 0, dz_I (dz_sc xs (dz_c (s1.1 + 1))), .ref 0]) rfl rfl ?_
                                                                          refine wp_s (i := .iconst 2) (n := 1) (pc' := 1187) (st' := [dz_I 2, dz_I s1.1, .retAddr 0, dz_I (dz_sc xs (dz_c (s1.1 + 1))), .ref 0]) rfl rfl ?_
                                                                          refine wq_2 (i := .iadd) (z := s1.1 + 2) (pc' := 1188) rfl rfl (op_add _ _) rfl ?_
                                                                          obtain ⟨k164, H⟩ := dz_ck H
                                                                          refine wq_sx (j' := dz_c (s1.1 + 2)) (pc' := 1189) rfl rfl k164.1 k164.2 rfl ?_
                                                                          refine wp_s (i := .aload_n 0) (n := 1) (pc' := 1190) (st' := [.retAddr 0, dz_I (dz_sc xs (dz_c (s1.1 + 2))), dz_I (dz_sc xs (dz_c (s1.1 + 1))), .ref 0]) rfl rfl ?_
                                                                          refine wp_s (i := .iload_n 3) (n := 1) (pc' := 1191) (st' := [dz_I s1.1, .retAddr 0, dz_I (dz_sc xs (dz_c (s1.1 + 2))), dz_I (dz_sc xs (dz_c (s1.1 + 1))), .ref 0]) rfl rfl ?_
                                                                          refine wp_s (i := .iconst 3) (n := 1) (pc' := 1192) (st' := [dz_I 3, dz_I s1.1, .retAddr 0, dz_I (dz_sc xs (dz_c (s1.1 + 2))), dz_I (dz_sc xs (dz_c (s1.1 + 1))), .ref 0]) rfl rfl ?_
                                                                          refine wq_2 (i := .iadd) (z := s1.1 + 3) (pc' := 1193) rfl rfl (op_add _ _) rfl ?_
                                                                          obtain ⟨k165, H⟩ := dz_ck H
                                                                          refine wq_sx (j' := dz_c (s1.1 + 3)) (pc' := 1194) rfl rfl k165.1 k165.2 rfl ?_
                                                                          refine wq_cv (Dq := (D + 9)) (r' := mm_r99) (as0 := [dz_I (dz_sc xs (dz_c (s1.1 + 1))), dz_I (dz_sc xs (dz_c (s1.1 + 2))), dz_I (dz_sc xs (dz_c (s1.1 + 3)))]) (rest := []) (ls' := [some (.ref 0), some (dz_I (dz_sc xs (dz_c (s1.1 + 1)))), some (dz_I (dz_sc xs (dz_c (s1.1 + 2)))), some (dz_I (dz_sc xs (dz_c (s1.1 + 3)))), none, none]) (pc' := 1197) rfl rfl rfl rfl ho_O rfl rfl rfl ?_
                                                                          refine jw_O_lay (X := (some xs)) (D := D + 7) (dz_sc xs (dz_c (s1.1 + 1))) (dz_sc xs (dz_c (s1.1 + 2))) (dz_sc xs (dz_c (s1.1 + 3))) s1.2 (dz_pm (dz_bi H) (fun q166 H => ?_))
                                                                          show mm_Wp (some xs) (D + 10) mm_rL 1197 [some (.retAddr 0), some (.ref 0), some (.ref 114), some (dz_I s1.1)] [dz_I q166.1] (hz_0 q166.2) Q
                                                                          refine wp_s (i := .pop) (n := 1) (pc' := 1198) (st' := []) rfl rfl ?_
                                                                          refine wp_s (i := .aload_n 2) (n := 1) (pc' := 1199) (st' := [.ref 114]) rfl rfl ?_
                                                                          refine wp_s (i := .aload_n 0) (n := 1) (pc' := 1200) (st' := [.retAddr 0, .ref 114]) rfl rfl ?_
                                                                          refine wp_s (i := .iload_n 3) (n := 1) (pc' := 1201) (st' := [dz_I s1.1, .retAddr 0, .ref 114]) rfl rfl ?_
                                                                          refine wp_s (i := .iconst 1) (n := 1) (pc' := 1202) (st' := [dz_I 1, dz_I s1.1, .retAddr 0, .ref 114]) rfl rfl ?_
                                                                          refine wq_2 (i := .iadd) (z := s1.1 + 1) (pc' := 1203) rfl rfl (op_add _ _) rfl ?_
                                                                          refine wq_sx (j' := dz_c (s1.1 + 1)) (pc' := 1204) rfl rfl k163.1 k163.2 rfl ?_
                                                                          refine wp_s (i := .aload_n 0) (n := 1) (pc' := 1205) (st' := [.retAddr 0, dz_I (dz_sc xs (dz_c (s1.1 + 1))), .ref 114]) rfl rfl ?_
                                                                          refine wp_s (i := .iload_n 3) (n := 1) (pc' := 1206) (st' := [dz_I s1.1, .retAddr 0, dz_I (dz_sc xs (dz_c (s1.1 + 1))), .ref 114]) rfl rfl ?_
                                                                          refine wp_s (i := .iconst 2) (n := 1) (pc' := 1207) (st' := [dz_I 2, dz_I s1.1, .retAddr 0, dz_I (dz_sc xs (dz_c (s1.1 + 1))), .ref 114]) rfl rfl ?_
                                                                          refine wq_2 (i := .iadd) (z := s1.1 + 2) (pc' := 1208) rfl rfl (op_add _ _) rfl ?_
                                                                          refine wq_sx (j' := dz_c (s1.1 + 2)) (pc' := 1209) rfl rfl k164.1 k164.2 rfl ?_
                                                                          refine wp_s (i := .aload_n 0) (n := 1) (pc' := 1210) (st' := [.retAddr 0, dz_I (dz_sc xs (dz_c (s1.1 + 2))), dz_I (dz_sc xs (dz_c (s1.1 + 1))), .ref 114]) rfl rfl ?_
                                                                          refine wp_s (i := .iload_n 3) (n := 1) (pc' := 1211) (st' := [dz_I s1.1, .retAddr 0, dz_I (dz_sc xs (dz_c (s1.1 + 2))), dz_I (dz_sc xs (dz_c (s1.1 + 1))), .ref 114]) rfl rfl ?_
                                                                          refine wp_s (i := .iconst 3) (n := 1) (pc' := 1212) (st' := [dz_I 3, dz_I s1.1, .retAddr 0, dz_I (dz_sc xs (dz_c (s1.1 + 2))), dz_I (dz_sc xs (dz_c (s1.1 + 1))), .ref 114]) rfl rfl ?_
                                                                          refine wq_2 (i := .iadd) (z := s1.1 + 3) (pc' := 1213) rfl rfl (op_add _ _) rfl ?_
                                                                          refine wq_sx (j' := dz_c (s1.1 + 3)) (pc' := 1214) rfl rfl k165.1 k165.2 rfl ?_
                                                                          refine wq_cv (Dq := (D + 9)) (r' := mm_r188) (as0 := [dz_I (dz_sc xs (dz_c (s1.1 + 1))), dz_I (dz_sc xs (dz_c (s1.1 + 2))), dz_I (dz_sc xs (dz_c (s1.1 + 3)))]) (rest := []) (ls' := [some (.ref 114), some (dz_I (dz_sc xs (dz_c (s1.1 + 1)))), some (dz_I (dz_sc xs (dz_c (s1.1 + 2)))), some (dz_I (dz_sc xs (dz_c (s1.1 + 3))))]) (pc' := 1217) rfl rfl rfl rfl ho_M rfl rfl rfl ?_
                                                                          refine jw_M_lay (X := (some xs)) (D := D + 8) (dz_sc xs (dz_c (s1.1 + 1))) (dz_sc xs (dz_c (s1.1 + 2))) (dz_sc xs (dz_c (s1.1 + 3))) q166.2 (dz_pm (dz_bi H) (fun q167 H => ?_))
                                                                          show mm_Wp (some xs) (D + 10) mm_rL 1217 [some (.retAddr 0), some (.ref 0), some (.ref 114), some (dz_I s1.1)] [dz_I q167.1] (hz_0 q167.2) Q
                                                                          refine wp_s (i := .pop) (n := 1) (pc' := 1218) (st' := []) rfl rfl ?_
                                                                          refine wp_s (i := .goto 92) (n := 3) (pc' := 1310) (st' := []) rfl rfl ?_
                                                                          refine wq_inc (k := 3) (d := 5) (x := s1.1) (ls' := [some (.retAddr 0), some (.ref 0), some (.ref 114), some (dz_I (s1.1 + 5))]) (pc' := 1313) rfl rfl rfl rfl ?_
                                                                          refine wp_s (i := .goto (-1295)) (n := 3) (pc' := 18) (st' := []) rfl rfl ?_
                                                                          replace H := dz_back H
                                                                          exact H
                                                                        · replace H := dz_if c162 H
                                                                          by_cases c168 : dz_c (dz_an (dz_sc xs (dz_c s1.1)) 63) = 35
                                                                          · replace H := dz_it c168 H
                                                                            refine wq_ts (x' := dz_c (dz_an (dz_sc xs (dz_c s1.1)) 63)) (tt := 1221) rfl rfl (by rw [c168]; rfl) ?_
                                                                            refine wp_s (i := .aload_n 1) (n := 1) (pc' := 1222) (st' := [.ref 0]) rfl rfl ?_
                                                                            refine wp_s (i := .aload_n 0) (n := 1) (pc' := 1223) (st' := [.retAddr 0, .ref 0]) rfl rfl ?_
                                                                            refine wp_s (i := .iload_n 3) (n := 1) (pc' := 1224) (st' := [dz_I s1.1, .retAddr 0, .ref 0]) rfl rfl ?_
                                                                            refine wp_s (i := .iconst 1) (n := 1) (pc' := 1225) (st' := [dz_I 1, dz_I s1.1, .retAddr 0, .ref 0]) rfl rfl ?_
                                                                            refine wq_2 (i := .iadd) (z := s1.1 + 1) (pc' := 1226) rfl rfl (op_add _ _) rfl ?_
                                                                            obtain ⟨k169, H⟩ := dz_ck H
                                                                            refine wq_sx (j' := dz_c (s1.1 + 1)) (pc' := 1227) rfl rfl k169.1 k169.2 rfl ?_
                                                                            refine wp_s (i := .aload_n 0) (n := 1) (pc' := 1228) (st' := [.retAddr 0, dz_I (dz_sc xs (dz_c (s1.1 + 1))), .ref 0]) rfl rfl ?_
                                                                            refine wp_s (i := .iload_n 3) (n := 1) (pc' := 1229) (st' := [dz_I s1.1, .retAddr 0, dz_I (dz_sc xs (dz_c (s1.1 + 1))), .ref 0]) rfl rfl ?_
                                                                            refine wp_s (i := .iconst 2) (n := 1) (pc' := 1230) (st' := [dz_I 2, dz_I s1.1, .retAddr 0, dz_I (dz_sc xs (dz_c (s1.1 + 1))), .ref 0]) rfl rfl ?_
                                                                            refine wq_2 (i := .iadd) (z := s1.1 + 2) (pc' := 1231) rfl rfl (op_add _ _) rfl ?_
                                                                            obtain ⟨k170, H⟩ := dz_ck H
                                                                            refine wq_sx (j' := dz_c (s1.1 + 2)) (pc' := 1232) rfl rfl k170.1 k170.2 rfl ?_
                                                                            refine wp_s (i := .aload_n 0) (n := 1) (pc' := 1233) (st' := [.retAddr 0, dz_I (dz_sc xs (dz_c (s1.1 + 2))), dz_I (dz_sc xs (dz_c (s1.1 + 1))), .ref 0]) rfl rfl ?_
                                                                            refine wp_s (i := .iload_n 3) (n := 1) (pc' := 1234) (st' := [dz_I s1.1, .retAddr 0, dz_I (dz_sc xs (dz_c (s1.1 + 2))), dz_I (dz_sc xs (dz_c (s1.1 + 1))), .ref 0]) rfl rfl ?_
                                                                            refine wp_s (i := .iconst 3) (n := 1) (pc' := 1235) (st' := [dz_I 3, dz_I s1.1, .retAddr 0, dz_I (dz_sc xs (dz_c (s1.1 + 2))), dz_I (dz_sc xs (dz_c (s1.1 + 1))), .ref 0]) rfl rfl ?_
                                                                            refine wq_2 (i := .iadd) (z := s1.1 + 3) (pc' := 1236) rfl rfl (op_add _ _) rfl ?_
                                                                            obtain ⟨k171, H⟩ := dz_ck H
                                                                            refine wq_sx (j' := dz_c (s1.1 + 3)) (pc' := 1237) rfl rfl k171.1 k171.2 rfl ?_
                                                                            refine wp_s (i := .aload_n 0) (n := 1) (pc' := 1238) (st' := [.retAddr 0, dz_I (dz_sc xs (dz_c (s1.1 + 3))), dz_I (dz_sc xs (dz_c (s1.1 + 2))), dz_I (dz_sc xs (dz_c (s1.1 + 1))), .ref 0]) rfl rfl ?_
                                                                            refine wp_s (i := .iload_n 3) (n := 1) (pc' := 1239) (st' := [dz_I s1.1, .retAddr 0, dz_I (dz_sc xs (dz_c (s1.1 + 3))), dz_I (dz_sc xs (dz_c (s1.1 + 2))), dz_I (dz_sc xs (dz_c (s1.1 + 1))), .ref 0]) rfl rfl ?_
                                                                            refine wp_s (i := .iconst 4) (n := 1) (pc' := 1240) (st' := [dz_I 4, dz_I s1.1, .retAddr 0, dz_I (dz_sc xs (dz_c (s1.1 + 3))), dz_I (dz_sc xs (dz_c (s1.1 + 2))), dz_I (dz_sc xs (dz_c (s1.1 + 1))), .ref 0]) rfl rfl ?_
                                                                            refine wq_2 (i := .iadd) (z := s1.1 + 4) (pc' := 1241) rfl rfl (op_add _ _) rfl ?_
                                                                            obtain ⟨k172, H⟩ := dz_ck H
                                                                            refine wq_sx (j' := dz_c (s1.1 + 4)) (pc' := 1242) rfl rfl k172.1 k172.2 rfl ?_
                                                                            refine wq_cv (Dq := (D + 9)) (r' := mm_r100) (as0 := [dz_I (dz_sc xs (dz_c (s1.1 + 1))), dz_I (dz_sc xs (dz_c (s1.1 + 2))), dz_I (dz_sc xs (dz_c (s1.1 + 3))), dz_I (dz_sc xs (dz_c (s1.1 + 4)))]) (rest := []) (ls' := [some (.ref 0), some (dz_I (dz_sc xs (dz_c (s1.1 + 1)))), some (dz_I (dz_sc xs (dz_c (s1.1 + 2)))), some (dz_I (dz_sc xs (dz_c (s1.1 + 3)))), some (dz_I (dz_sc xs (dz_c (s1.1 + 4)))), none, none, none, none]) (pc' := 1245) rfl rfl rfl rfl ho_O rfl rfl rfl ?_
                                                                            refine jw_O_read (X := (some xs)) (D := D + 5) (dz_sc xs (dz_c (s1.1 + 1))) (dz_sc xs (dz_c (s1.1 + 2))) (dz_sc xs (dz_c (s1.1 + 3))) (dz_sc xs (dz_c (s1.1 + 4))) s1.2 (dz_pm (dz_bi H) (fun q173 H => ?_))
                                                                            show mm_Wp (some xs) (D + 10) mm_rL 1245 [some (.retAddr 0), some (.ref 0), some (.ref 114), some (dz_I s1.1)] [dz_I q173.1] (hz_0 q173.2) Q
                                                                            refine wp_s (i := .pop) (n := 1) (pc' := 1246) (st' := []) rfl rfl ?_
                                                                            refine wp_s (i := .aload_n 2) (n := 1) (pc' := 1247) (st' := [.ref 114]) rfl rfl ?_
                                                                            refine wp_s (i := .aload_n 0) (n := 1) (pc' := 1248) (st' := [.retAddr 0, .ref 114]) rfl rfl ?_
                                                                            refine wp_s (i := .iload_n 3) (n := 1) (pc' := 1249) (st' := [dz_I s1.1, .retAddr 0, .ref 114]) rfl rfl ?_
                                                                            refine wp_s (i := .iconst 1) (n := 1) (pc' := 1250) (st' := [dz_I 1, dz_I s1.1, .retAddr 0, .ref 114]) rfl rfl ?_
                                                                            refine wq_2 (i := .iadd) (z := s1.1 + 1) (pc' := 1251) rfl rfl (op_add _ _) rfl ?_
                                                                            refine wq_sx (j' := dz_c (s1.1 + 1)) (pc' := 1252) rfl rfl k169.1 k169.2 rfl ?_
                                                                            refine wp_s (i := .aload_n 0) (n := 1) (pc' := 1253) (st' := [.retAddr 0, dz_I (dz_sc xs (dz_c (s1.1 + 1))), .ref 114]) rfl rfl ?_
                                                                            refine wp_s (i := .iload_n 3) (n := 1) (pc' := 1254) (st' := [dz_I s1.1, .retAddr 0, dz_I (dz_sc xs (dz_c (s1.1 + 1))), .ref 114]) rfl rfl ?_
                                                                            refine wp_s (i := .iconst 2) (n := 1) (pc' := 1255) (st' := [dz_I 2, dz_I s1.1, .retAddr 0, dz_I (dz_sc xs (dz_c (s1.1 + 1))), .ref 114]) rfl rfl ?_
                                                                            refine wq_2 (i := .iadd) (z := s1.1 + 2) (pc' := 1256) rfl rfl (op_add _ _) rfl ?_
                                                                            refine wq_sx (j' := dz_c (s1.1 + 2)) (pc' := 1257) rfl rfl k170.1 k170.2 rfl ?_
                                                                            refine wp_s (i := .aload_n 0) (n := 1) (pc' := 1258) (st' := [.retAddr 0, dz_I (dz_sc xs (dz_c (s1.1 + 2))), dz_I (dz_sc xs (dz_c (s1.1 + 1))), .ref 114]) rfl rfl ?_
                                                                            refine wp_s (i := .iload_n 3) (n := 1) (pc' := 1259) (st' := [dz_I s1.1, .retAddr 0, dz_I (dz_sc xs (dz_c (s1.1 + 2))), dz_I (dz_sc xs (dz_c (s1.1 + 1))), .ref 114]) rfl rfl ?_
                                                                            refine wp_s (i := .iconst 3) (n := 1) (pc' := 1260) (st' := [dz_I 3, dz_I s1.1, .retAddr 0, dz_I (dz_sc xs (dz_c (s1.1 + 2))), dz_I (dz_sc xs (dz_c (s1.1 + 1))), .ref 114]) rfl rfl ?_
                                                                            refine wq_2 (i := .iadd) (z := s1.1 + 3) (pc' := 1261) rfl rfl (op_add _ _) rfl ?_
                                                                            refine wq_sx (j' := dz_c (s1.1 + 3)) (pc' := 1262) rfl rfl k171.1 k171.2 rfl ?_
                                                                            refine wp_s (i := .aload_n 0) (n := 1) (pc' := 1263) (st' := [.retAddr 0, dz_I (dz_sc xs (dz_c (s1.1 + 3))), dz_I (dz_sc xs (dz_c (s1.1 + 2))), dz_I (dz_sc xs (dz_c (s1.1 + 1))), .ref 114]) rfl rfl ?_
                                                                            refine wp_s (i := .iload_n 3) (n := 1) (pc' := 1264) (st' := [dz_I s1.1, .retAddr 0, dz_I (dz_sc xs (dz_c (s1.1 + 3))), dz_I (dz_sc xs (dz_c (s1.1 + 2))), dz_I (dz_sc xs (dz_c (s1.1 + 1))), .ref 114]) rfl rfl ?_
                                                                            refine wp_s (i := .iconst 4) (n := 1) (pc' := 1265) (st' := [dz_I 4, dz_I s1.1, .retAddr 0, dz_I (dz_sc xs (dz_c (s1.1 + 3))), dz_I (dz_sc xs (dz_c (s1.1 + 2))), dz_I (dz_sc xs (dz_c (s1.1 + 1))), .ref 114]) rfl rfl ?_
                                                                            refine wq_2 (i := .iadd) (z := s1.1 + 4) (pc' := 1266) rfl rfl (op_add _ _) rfl ?_
                                                                            refine wq_sx (j' := dz_c (s1.1 + 4)) (pc' := 1267) rfl rfl k172.1 k172.2 rfl ?_
                                                                            refine wq_cv (Dq := (D + 9)) (r' := mm_r189) (as0 := [dz_I (dz_sc xs (dz_c (s1.1 + 1))), dz_I (dz_sc xs (dz_c (s1.1 + 2))), dz_I (dz_sc xs (dz_c (s1.1 + 3))), dz_I (dz_sc xs (dz_c (s1.1 + 4)))]) (rest := []) (ls' := [some (.ref 114), some (dz_I (dz_sc xs (dz_c (s1.1 + 1)))), some (dz_I (dz_sc xs (dz_c (s1.1 + 2)))), some (dz_I (dz_sc xs (dz_c (s1.1 + 3)))), some (dz_I (dz_sc xs (dz_c (s1.1 + 4)))), none, none, none]) (pc' := 1270) rfl rfl rfl rfl ho_M rfl rfl rfl ?_
                                                                            refine jw_M_read (X := (some xs)) (D := D + 6) (dz_sc xs (dz_c (s1.1 + 1))) (dz_sc xs (dz_c (s1.1 + 2))) (dz_sc xs (dz_c (s1.1 + 3))) (dz_sc xs (dz_c (s1.1 + 4))) q173.2 (dz_pm (dz_bi H) (fun q174 H => ?_))
                                                                            show mm_Wp (some xs) (D + 10) mm_rL 1270 [some (.retAddr 0), some (.ref 0), some (.ref 114), some (dz_I s1.1)] [dz_I q174.1] (hz_0 q174.2) Q
                                                                            refine wp_s (i := .pop) (n := 1) (pc' := 1271) (st' := []) rfl rfl ?_
                                                                            refine wp_s (i := .goto 39) (n := 3) (pc' := 1310) (st' := []) rfl rfl ?_
                                                                            refine wq_inc (k := 3) (d := 5) (x := s1.1) (ls' := [some (.retAddr 0), some (.ref 0), some (.ref 114), some (dz_I (s1.1 + 5))]) (pc' := 1313) rfl rfl rfl rfl ?_
                                                                            refine wp_s (i := .goto (-1295)) (n := 3) (pc' := 18) (st' := []) rfl rfl ?_
                                                                            replace H := dz_back H
                                                                            exact H
                                                                          · replace H := dz_if c168 H
                                                                            by_cases c175 : dz_c (dz_an (dz_sc xs (dz_c s1.1)) 63) = 36
                                                                            · replace H := dz_it c175 H
                                                                              refine wq_ts (x' := dz_c (dz_an (dz_sc xs (dz_c s1.1)) 63)) (tt := 1274) rfl rfl (by rw [c175]; rfl) ?_
                                                                              refine wp_s (i := .aload_n 1) (n := 1) (pc' := 1275) (st' := [.ref 0]) rfl rfl ?_
                                                                              refine wq_cv (Dq := (D + 9)) (r' := mm_r101) (as0 := []) (rest := []) (ls' := [some (.ref 0)]) (pc' := 1278) rfl rfl rfl rfl ho_O rfl rfl rfl ?_
                                                                              refine jw_O_torn (X := (some xs)) (D := D + 9) s1.2 (dz_pm (dz_bi H) (fun q176 H => ?_))
                                                                              show mm_Wp (some xs) (D + 10) mm_rL 1278 [some (.retAddr 0), some (.ref 0), some (.ref 114), some (dz_I s1.1)] [dz_I q176] (hz_0 s1.2) Q
                                                                              refine wp_s (i := .pop) (n := 1) (pc' := 1279) (st' := []) rfl rfl ?_
                                                                              refine wp_s (i := .aload_n 2) (n := 1) (pc' := 1280) (st' := [.ref 114]) rfl rfl ?_
                                                                              refine wq_cv (Dq := (D + 9)) (r' := mm_r190) (as0 := []) (rest := []) (ls' := [some (.ref 114)]) (pc' := 1283) rfl rfl rfl rfl ho_M rfl rfl rfl ?_
                                                                              refine jw_M_torn (X := (some xs)) (D := D + 9) s1.2 (dz_pm (dz_bi H) (fun q177 H => ?_))
                                                                              show mm_Wp (some xs) (D + 10) mm_rL 1283 [some (.retAddr 0), some (.ref 0), some (.ref 114), some (dz_I s1.1)] [dz_I q177] (hz_0 s1.2) Q
                                                                              refine wp_s (i := .pop) (n := 1) (pc' := 1284) (st' := []) rfl rfl ?_
                                                                              refine wp_s (i := .goto 26) (n := 3) (pc' := 1310) (st' := []) rfl rfl ?_
                                                                              refine wq_inc (k := 3) (d := 5) (x := s1.1) (ls' := [some (.retAddr 0), some (.ref 0), some (.ref 114), some (dz_I (s1.1 + 5))]) (pc' := 1313) rfl rfl rfl rfl ?_
                                                                              refine wp_s (i := .goto (-1295)) (n := 3) (pc' := 18) (st' := []) rfl rfl ?_
                                                                              replace H := dz_back H
                                                                              exact H
                                                                            · replace H := dz_if c175 H
                                                                              by_cases c178 : dz_c (dz_an (dz_sc xs (dz_c s1.1)) 63) = 37
                                                                              · replace H := dz_it c178 H
                                                                                refine wq_ts (x' := dz_c (dz_an (dz_sc xs (dz_c s1.1)) 63)) (tt := 1287) rfl rfl (by rw [c178]; rfl) ?_
                                                                                refine wp_s (i := .aload_n 1) (n := 1) (pc' := 1288) (st' := [.ref 0]) rfl rfl ?_
                                                                                refine wp_s (i := .aload_n 0) (n := 1) (pc' := 1289) (st' := [.retAddr 0, .ref 0]) rfl rfl ?_
                                                                                refine wp_s (i := .iload_n 3) (n := 1) (pc' := 1290) (st' := [dz_I s1.1, .retAddr 0, .ref 0]) rfl rfl ?_
                                                                                refine wp_s (i := .iconst 1) (n := 1) (pc' := 1291) (st' := [dz_I 1, dz_I s1.1, .retAddr 0, .ref 0]) rfl rfl ?_
                                                                                refine wq_2 (i := .iadd) (z := s1.1 + 1) (pc' := 1292) rfl rfl (op_add _ _) rfl ?_
                                                                                obtain ⟨k179, H⟩ := dz_ck H
                                                                                refine wq_sx (j' := dz_c (s1.1 + 1)) (pc' := 1293) rfl rfl k179.1 k179.2 rfl ?_
                                                                                refine wq_cv (Dq := (D + 9)) (r' := mm_r102) (as0 := [dz_I (dz_sc xs (dz_c (s1.1 + 1)))]) (rest := []) (ls' := [some (.ref 0), some (dz_I (dz_sc xs (dz_c (s1.1 + 1))))]) (pc' := 1296) rfl rfl rfl rfl ho_O rfl rfl rfl ?_
                                                                                refine jw_O_count (X := (some xs)) (D := D + 7) (dz_sc xs (dz_c (s1.1 + 1))) s1.2 (dz_pm (dz_bi H) (fun q180 H => ?_))
                                                                                show mm_Wp (some xs) (D + 10) mm_rL 1296 [some (.retAddr 0), some (.ref 0), some (.ref 114), some (dz_I s1.1)] [dz_I q180] (hz_0 s1.2) Q
                                                                                refine wp_s (i := .aload_n 2) (n := 1) (pc' := 1297) (st' := [.ref 114, dz_I q180]) rfl rfl ?_
                                                                                refine wp_s (i := .aload_n 0) (n := 1) (pc' := 1298) (st' := [.retAddr 0, .ref 114, dz_I q180]) rfl rfl ?_
                                                                                refine wp_s (i := .iload_n 3) (n := 1) (pc' := 1299) (st' := [dz_I s1.1, .retAddr 0, .ref 114, dz_I q180]) rfl rfl ?_
                                                                                refine wp_s (i := .iconst 1) (n := 1) (pc' := 1300) (st' := [dz_I 1, dz_I s1.1, .retAddr 0, .ref 114, dz_I q180]) rfl rfl ?_
                                                                                refine wq_2 (i := .iadd) (z := s1.1 + 1) (pc' := 1301) rfl rfl (op_add _ _) rfl ?_
                                                                                refine wq_sx (j' := dz_c (s1.1 + 1)) (pc' := 1302) rfl rfl k179.1 k179.2 rfl ?_
                                                                                refine wq_cv (Dq := (D + 9)) (r' := mm_r191) (as0 := [dz_I (dz_sc xs (dz_c (s1.1 + 1)))]) (rest := [dz_I q180]) (ls' := [some (.ref 114), some (dz_I (dz_sc xs (dz_c (s1.1 + 1)))), none, none]) (pc' := 1305) rfl rfl rfl rfl ho_M rfl rfl rfl ?_
                                                                                refine jw_M_count (X := (some xs)) (D := D + 8) (dz_sc xs (dz_c (s1.1 + 1))) s1.2 (dz_pm (dz_bi H) (fun q181 H => ?_))
                                                                                show mm_Wp (some xs) (D + 10) mm_rL 1305 [some (.retAddr 0), some (.ref 0), some (.ref 114), some (dz_I s1.1)] [dz_I q181, dz_I q180] (hz_0 s1.2) Q
                                                                                refine wq_ic (p := dz_c q180 = dz_c q181) (tt := 1310) (pc' := 1308) rfl rfl (cq_eq rfl rfl) rfl (fun c182 => ?_) (fun c182 => ?_)
                                                                                · replace H := dz_it c182 H
                                                                                  refine wq_inc (k := 3) (d := 5) (x := s1.1) (ls' := [some (.retAddr 0), some (.ref 0), some (.ref 114), some (dz_I (s1.1 + 5))]) (pc' := 1313) rfl rfl rfl rfl ?_
                                                                                  refine wp_s (i := .goto (-1295)) (n := 3) (pc' := 18) (st' := []) rfl rfl ?_
                                                                                  replace H := dz_back H
                                                                                  exact H
                                                                                · replace H := dz_if c182 H
                                                                                  refine wp_s (i := .iconst 0) (n := 1) (pc' := 1309) (st' := [dz_I 0]) rfl rfl ?_
                                                                                  refine wq_rf rfl rfl ?_
                                                                                  replace H := dz_out H
                                                                                  replace H := dz_sm H
                                                                                  exact H
                                                                              · replace H := dz_if c178 H
                                                                                refine wq_ts (x' := dz_c (dz_an (dz_sc xs (dz_c s1.1)) 63)) (tt := 1310) rfl rfl (by unfold mm_sw; rw [if_pos (by omega)]; rfl) ?_
                                                                                refine wq_inc (k := 3) (d := 5) (x := s1.1) (ls' := [some (.retAddr 0), some (.ref 0), some (.ref 114), some (dz_I (s1.1 + 5))]) (pc' := 1313) rfl rfl rfl rfl ?_
                                                                                refine wp_s (i := .goto (-1295)) (n := 3) (pc' := 18) (st' := []) rfl rfl ?_
                                                                                replace H := dz_back H
                                                                                exact H
def dz_n : List (Nat × Nat × List Int) := [(0, 2, [25]), (0, 3, [36]), (1, 1, [4]), (1, 2, [15]), (106, 2, [(-1)]), (108, 2, [(-1)]), (110, 2, [(-1)]), (112, 2, [(-1)]), (114, 30, [0, 4, 7, 12, 16, 21, 25, 29, 35, 41, 46, 49, 53, 57, 61, 67]), (114, 31, [114, 111, 111, 102, 112, 101, 103, 115, 112, 111, 117, 116, 114, 97, 105, 110, 115, 108, 101, 101, 112, 116, 117, 110, 101, 119, 101, 97, 114, 103, 117, 116, 116, 101, 114, 103, 114, 111, 117, 110, 100, 115, 108, 97, 116, 101, 116, 105, 112, 108, 101, 97, 107, 101, 97, 99, 104, 106, 111, 105, 110, 102, 114, 111, 122, 101, 110]), (114, 42, [(-4), (-4), (-4), (-4)])]
def dz_lk (b f : Nat) : List (Nat × Nat × List Int) → List Int
  | [] => []
  | q :: t => bif Nat.beq q.1 b && Nat.beq q.2.1 f then q.2.2 else dz_lk b f t
/-- the numbers behind both constructors -/
def dz_0 : dz_Z := fun b f i => if i < 0 then 0 else (dz_lk b f dz_n).getD i.toNat 0
set_option maxRecDepth 20000 in
theorem hz_st : hp_0 = hz_0 dz_0 := @of_decide_eq_true _ (mm_dH _ _) (by decide +kernel)
theorem hz_len (Z : dz_Z) : (hz_0 Z).length = 137 := by unfold hz_0; rw [List.length_map]; rfl
def hz_sp (s : hz_S) : Nat := mm_cs (hz_c dz_0 s)
theorem hz_cs (Z : dz_Z) (s : hz_S) : mm_cs (hz_c Z s) = hz_sp s := by
  unfold hz_sp
  rcases s with ⟨t, b, f, n⟩ | ⟨c, b, fs⟩ | ⟨t, l⟩
  · rcases t with _ | _ | t
    · simp only [hz_c, mm_cs, mm_al, dz_wn]
    · simp only [hz_c, mm_cs, mm_al, dz_xn]
    · simp only [hz_c, mm_cs, mm_al, dz_wn]
  · simp only [hz_c, mm_cs, List.length_map]
  · rfl
set_option maxRecDepth 20000 in
theorem hz_sz0 : mm_sz (hz_0 dz_0) ≤ 7302250 := by decide +kernel
theorem hz_sz (Z : dz_Z) : mm_sz (hz_0 Z) ≤ 7302250 := by
  have e : mm_sz (hz_0 Z) = mm_sz (hz_0 dz_0) := by
    unfold mm_sz hz_0
    rw [List.map_map, List.map_map]
    have e2 : hz_t.map (mm_cs ∘ hz_c Z) = hz_t.map (mm_cs ∘ hz_c dz_0) := List.map_congr_left (fun s _ => by simp only [Function.comp, hz_cs])
    rw [e2]
  rw [e]
  exact hz_sz0
def pk_Q (v : Option Value) (h : mm_H) : Prop := v = some (.int 1) ∧ h.length ≤ 600000 ∧ mm_sz h ≤ 7302250
set_option maxRecDepth 20000 in
theorem pm_all (xs : List Int32) (hx : dz_p (jf_L xs dz_0) (fun q => q.1 = true)) : mm_Wp (some xs) 13 mm_rL 0 mm_L0 [] [] pk_Q := by
  show mm_Wp (some xs) 13 mm_rL 0 [some (.retAddr 0), none, none, none] [] [] pk_Q
  refine wp_s (i := .new 7) (n := 3) (pc' := 3) (st' := [.ref 0]) (h' := [.inr (9, mm_dfs 9)]) rfl rfl ?_
  refine wp_s (i := .dup) (n := 1) (pc' := 4) (st' := [.ref 0, .ref 0]) rfl rfl ?_
  refine wp_c (i := .invokespecial 9) (n := 3) (Dq := 12) (r' := mm_r63) (as := [.ref 0]) (rest := [.ref 0]) rfl rfl rfl ?_
  refine wp_x 2000 hp_ia ?_
  show mm_Wp (some xs) 13 mm_rL 7 [some (.retAddr 0), none, none, none] [.ref 0] hp_a pk_Q
  refine wp_s (i := .astore_n 1) (n := 1) (pc' := 8) (ls' := [some (.retAddr 0), some (.ref 0), none, none]) (st' := []) rfl rfl ?_
  refine wp_s (i := .new 10) (n := 3) (pc' := 11) (st' := [.ref 114]) (h' := hp_a ++ [.inr (10, mm_dfs 10)]) rfl rfl ?_
  refine wp_s (i := .dup) (n := 1) (pc' := 12) (st' := [.ref 114, .ref 114]) rfl rfl ?_
  refine wp_c (i := .invokespecial 12) (n := 3) (Dq := 12) (r' := mm_r119) (as := [.ref 114]) (rest := [.ref 114]) rfl rfl rfl ?_
  refine wp_x 2000 hp_ib ?_
  show mm_Wp (some xs) 13 mm_rL 15 [some (.retAddr 0), some (.ref 0), none, none] [.ref 114] hp_0 pk_Q
  refine wp_s (i := .astore_n 2) (n := 1) (pc' := 16) (ls' := [some (.retAddr 0), some (.ref 0), some (.ref 114), none]) (st' := []) rfl rfl ?_
  refine wp_s (i := .iconst 0) (n := 1) (pc' := 17) (st' := [dz_I 0]) rfl rfl ?_
  refine wp_s (i := .istore_n 3) (n := 1) (pc' := 18) (ls' := [some (.retAddr 0), some (.ref 0), some (.ref 114), some (dz_I 0)]) (st' := []) rfl rfl ?_
  rw [hz_st]
  refine jw_L (D := 3) xs dz_0 (dz_pm hx (fun q hq => ⟨?_, ?_, ?_⟩))
  · rw [hq]; rfl
  · rw [hz_len]; omega
  · exact hz_sz _
/-- all that is left: the law's program answers true on every script -/
theorem mq_all (hp : ∀ xs : List Int32, xs.length ≤ 2560 → dz_p (jf_L xs dz_0) (fun q => q.1 = true)) : mm_Want 2560 := by
  intro xs hx
  obtain ⟨f, v, h', h1, rfl, h2, h3⟩ := pm_all xs (hp xs hx)
  exact ⟨f, h', h1, h2, h3⟩
end mg_26law
section mg_30tk
/-! tools for the programs: what a program comes to, told from the front; objects as functions -/
section dp
variable {α β : Type} {K : α → Prop} {c : Prop}
theorem dp_sm {r : α} (k : K r) : dz_p (some r) K := ⟨r, rfl, k⟩
theorem dp_ck [Decidable c] {a b : Option α} (h : c) (k : dz_p a K) : dz_p (if c then a else b) K := by rw [if_pos h]; exact k
theorem dp_no [Decidable c] {a b : Option α} (h : ¬c) (k : dz_p b K) : dz_p (if c then a else b) K := by rw [if_neg h]; exact k
theorem dp_br [Decidable c] {a b : Option α} (k1 : c → dz_p a K) (k2 : ¬c → dz_p b K) : dz_p (if c then a else b) K := by
  by_cases h : c
  · exact dp_ck h (k1 h)
  · exact dp_no h (k2 h)
theorem dp_bi {x : Option β} {f : β → Option α} (k : dz_p x (fun a => dz_p (f a) K)) : dz_p (x.bind f) K := by
  obtain ⟨a, rfl, k⟩ := k
  exact k
theorem dp_le {e : β} {f : β → Option α} (k : dz_p (f e) K) : dz_p (dz_a e f) K := k
theorem dp_eq {o : Option α} {a : α} (h : o = some a) (k : K a) : dz_p o K := ⟨a, h, k⟩
theorem dp_is {o : Option α} {a : α} (h : dz_p o (fun q => q = a)) : o = some a := by
  obtain ⟨b, rfl, rfl⟩ := h
  rfl
theorem dp_lp {S : Type} {body : S → Option (S ⊕ α)} (I : Nat → S → Prop) (hb : ∀ k s, I k s → dz_p (body s) (Sum.elim (fun s' => ∃ k', k' < k ∧ I k' s') K)) : ∀ (n k : Nat) (s : S), k < n → I k s → dz_p (dz_lp body n s) K
  | 0, k, s, hk, _ => absurd hk (by omega)
  | n + 1, k, s, hk, hi => by
    obtain ⟨q, e, H⟩ := hb k s hi
    unfold dz_lp
    refine dp_bi ⟨q, e, ?_⟩
    cases q with
    | inl s' =>
      obtain ⟨k', h1, h2⟩ := H
      exact dp_lp I hb n k' s' (by omega) h2
    | inr r => exact dp_sm (r := r) (K := K) H
end dp
abbrev ob_O : Type := Nat → Int → Int
def ob_u (o : ob_O) (f : Nat) (i v : Int) : ob_O := fun f' i' => if f' = f ∧ i' = i then v else o f' i'
def ob_f (o : ob_O) (f : Nat) (g : Int → Int) : ob_O := fun f' i' => if f' = f then g i' else o f' i'
def ob_z (Z : dz_Z) (b : Nat) (o : ob_O) : dz_Z := fun b' => if b' = b then o else Z b'
theorem oz_s {Z : dz_Z} {b : Nat} {o : ob_O} : ob_z Z b o b = o := by unfold ob_z; rw [if_pos rfl]
theorem oz_n {Z : dz_Z} {b c : Nat} {o : ob_O} (h : c ≠ b) : ob_z Z b o c = Z c := by unfold ob_z; rw [if_neg h]
theorem oz_i {Z : dz_Z} {b : Nat} : ob_z Z b (Z b) = Z := by
  funext b'
  unfold ob_z
  split
  · next h => rw [h]
  · rfl
theorem oz_z {Z : dz_Z} {b : Nat} {o o' : ob_O} : ob_z (ob_z Z b o) b o' = ob_z Z b o' := by
  funext b'
  unfold ob_z
  split <;> rfl
theorem oz_u {Z : dz_Z} {b f : Nat} {i v : Int} : dz_u Z b f i v = ob_z Z b (ob_u (Z b) f i v) := by
  funext b' f' i'
  unfold dz_u ob_z ob_u
  by_cases h : b' = b
  · subst h
    simp only [true_and, if_true]
  · rw [if_neg (fun q => h q.1), if_neg h]
theorem oz_f {Z : dz_Z} {b f : Nat} {g : Int → Int} : dz_f Z b f g = ob_z Z b (ob_f (Z b) f g) := by
  funext b' f' i'
  unfold dz_f ob_z ob_f
  by_cases h : b' = b
  · subst h
    simp only [true_and, if_true]
  · rw [if_neg (fun q => h q.1), if_neg h]
theorem oz_uz {Z : dz_Z} {b f : Nat} {i v : Int} {o : ob_O} : dz_u (ob_z Z b o) b f i v = ob_z Z b (ob_u o f i v) := by rw [oz_u, oz_s, oz_z]
theorem oz_fz {Z : dz_Z} {b f : Nat} {g : Int → Int} {o : ob_O} : dz_f (ob_z Z b o) b f g = ob_z Z b (ob_f o f g) := by rw [oz_f, oz_s, oz_z]
theorem ou_s {o : ob_O} {f : Nat} {i v : Int} : ob_u o f i v f i = v := by unfold ob_u; rw [if_pos ⟨rfl, rfl⟩]
theorem ou_f {o : ob_O} {f f' : Nat} {i i' v : Int} (h : f' ≠ f) : ob_u o f i v f' i' = o f' i' := by unfold ob_u; rw [if_neg (fun q => h q.1)]
theorem ou_i {o : ob_O} {f : Nat} {i i' v : Int} (h : i' ≠ i) : ob_u o f i v f i' = o f i' := by unfold ob_u; rw [if_neg (fun q => h q.2)]
theorem ou_a {o : ob_O} {f : Nat} {i i' v : Int} : ob_u o f i v f i' = if i' = i then v else o f i' := by unfold ob_u; simp only [true_and]
theorem ou_u {o : ob_O} {f : Nat} {i v w : Int} : ob_u (ob_u o f i v) f i w = ob_u o f i w := by
  funext f' i'
  unfold ob_u
  split <;> rfl
theorem ou_m {o : ob_O} {f : Nat} {i : Int} : ob_u o f i (o f i) = o := by
  funext f' i'
  unfold ob_u
  split
  · next h => rw [h.1, h.2]
  · rfl
theorem of_s {o : ob_O} {f : Nat} {g : Int → Int} : ob_f o f g f = g := by funext i; unfold ob_f; rw [if_pos rfl]
theorem of_n {o : ob_O} {f f' : Nat} {g : Int → Int} (h : f' ≠ f) : ob_f o f g f' = o f' := by funext i; unfold ob_f; rw [if_neg h]
theorem dc_or (x y : Int) : dz_c (dz_or x y) = dz_or x y := by unfold dz_c dz_or; rw [Int32.ofInt_toInt]
theorem dc_an (x y : Int) : dz_c (dz_an x y) = dz_an x y := by unfold dz_c dz_an; rw [Int32.ofInt_toInt]
theorem dc_o0 (x : Int) : dz_or x 0 = dz_c x := by
  unfold dz_or dz_c
  congr 1
  exact Int32.or_zero
theorem dc_ir {x : Int} (h : 0 ≤ x) (h' : x ≤ 2147483647) : dz_c x = x := dz_ci (by omega) h'
end mg_30tk
section mg_31cf
/-! a second of the class's Flow, told on its object: slots 0 held, 1 counts, 2 hits, 3 on the way, 4 louds, 5 second, 6 fallen, 7 ran off, 8 sounded, 9 spouts heard, 10 in gutters, 11 at spouts; of a Plan: 0 roofs, 1 areas, 2 roofs' gutters, 3 gutters, 4 left, 5 right, 6 spouts, 7 tones, 8 sizes, 9 others, 10 showers, 11 sleepers, 12 from, 13 to, 14 wakes, 15 wear; of a Setup: 0 pegs, 1 blocks, 2 kinds, 3 lengths, 5 tune, 6 tune's seconds, 20 to 22 rains -/
def so_way (w : Int) : Prop := (0 ≤ w ∧ w < 5) ∨ (10 ≤ w ∧ w < 18) ∨ w = 20
def so_lead (o : ob_O) (w d : Int) : ob_O := if w < 5 then ob_u o 10 w (o 10 w + d) else if w < 18 then ob_u o 11 (w - 10) (o 11 (w - 10) + d) else ob_u o 7 0 (o 7 0 + d)
def so_roof (P : ob_O) (v : Int) : Nat → ob_O → ob_O
  | 0, o => o
  | r + 1, o => so_lead (ob_u (so_roof P v r o) 6 0 (so_roof P v r o 6 0 + P 1 r * v)) (P 2 r) (P 1 r * v)
def so_half (peg sec q : Int) : Int := if peg = 0 then q else if peg = 1 then 0 else if Int.tmod (dz_c sec) 2 = 0 then q - Int.tdiv (dz_c q) 2 else Int.tdiv (dz_c q) 2
def so_g1 (P S : ob_O) (g : Int) (o : ob_O) : ob_O := if S 1 g = 0 then so_lead (so_lead o (P 4 g) (so_half (S 0 g) (o 5 0) (o 10 g))) (P 5 g) (o 10 g - so_half (S 0 g) (o 5 0) (o 10 g)) else ob_u o 7 0 (o 7 0 + o 10 g)
def so_gut (P S : ob_O) : Nat → ob_O → ob_O
  | 0, o => o
  | g + 1, o => so_g1 P S g (so_gut P S g o)
def so_tip (o : ob_O) (s n d : Int) : Int := Int.tdiv (dz_c (o 0 s + d)) n
def so_cup (o : ob_O) (k n ot s d : Int) : Int × ob_O :=
  if k = 0 then (if dz_c d ≤ 0 then 0 else 1, ob_u o 7 0 (o 7 0 + d))
  else if k = 1 then (so_tip o s n d, ob_u (ob_u o 0 s (o 0 s + d - so_tip o s n d * n)) 7 0 (o 7 0 + so_tip o s n d * n))
  else if k = 2 then (if dz_c (o 0 s + d) < n then (if dz_c (o 0 s + d) ≤ 0 then (0, ob_u o 0 s (o 0 s + d)) else (0, ob_u (ob_u o 0 s (o 0 s + d - 1)) 7 0 (o 7 0 + 1))) else (1, ob_u (ob_u o 0 s 0) 7 0 (o 7 0 + (o 0 s + d))))
  else if k = 3 then (Int.tdiv (dz_c (o 1 s + d)) n, ob_u (ob_u o 7 0 (o 7 0 + d)) 1 s (o 1 s + d - Int.tdiv (dz_c (o 1 s + d)) n * n))
  else if k = 4 then (so_tip o s n d, ob_u (ob_u o 0 s (o 0 s + d - so_tip o s n d * n)) 3 ot (o 3 ot + so_tip o s n d * n))
  else (0, ob_u o 7 0 (o 7 0 + d))
def so_brk (P o : ob_O) (s : Int) : Bool := decide (0 < P 15 0 ∧ P 15 0 ≤ dz_l (o 2 s))
def so_ld (P : ob_O) (s l : Int) (x : Int × ob_O) : Int × ob_O := if dz_c l ≤ 0 then (x.1, ob_u x.2 4 s l) else (dz_or x.1 (dz_sl 1 (P 7 s)), ob_u (ob_u (ob_u x.2 4 s l) 8 0 (x.2 8 0 + l)) 9 0 (dz_or (x.2 9 0) (dz_sl 1 s)))
def so_c1 (P S : ob_O) (s : Int) (x : Int × ob_O) : Int × ob_O := so_ld P s (if so_brk P x.2 s = false then (so_cup (ob_u x.2 2 s (x.2 2 s + dz_c (x.2 11 s))) (S 2 s) (P 8 s) (P 9 s) s (x.2 11 s)).1 else 0) (x.1, (so_cup (ob_u x.2 2 s (x.2 2 s + dz_c (x.2 11 s))) (S 2 s) (P 8 s) (P 9 s) s (x.2 11 s)).2)
def so_cups (P S : ob_O) : Nat → Int × ob_O → Int × ob_O
  | 0, x => x
  | s + 1, x => so_c1 P S s (so_cups P S s x)
def so_in (o : ob_O) : ob_O := ob_f (ob_f (ob_f o 11 (o 3)) 3 (fun _ => 0)) 10 (fun _ => 0)
def so_gs (P S : ob_O) (v : Int) (o : ob_O) : ob_O := so_gut P S (P 3 0).toNat (so_roof P v (P 0 0).toNat (so_in o))
def so_end (x : Int × ob_O) : Int × ob_O := (x.1, ob_u x.2 5 0 (x.2 5 0 + 1))
def so_sec (P S : ob_O) (v : Int) (o : ob_O) : Int × ob_O := so_end (so_cups P S (P 6 0).toNat (0, so_gs P S v o))
/-- what a plan that was read keeps -/
def so_P (P : ob_O) : Prop := (0 ≤ P 0 0 ∧ P 0 0 ≤ 4) ∧ (∀ r : Int, 0 ≤ r → r < P 0 0 → (1 ≤ P 1 r ∧ P 1 r ≤ 9) ∧ 0 ≤ P 2 r ∧ P 2 r < 5) ∧ (0 ≤ P 3 0 ∧ P 3 0 ≤ 5) ∧ (∀ g : Int, 0 ≤ g → g < P 3 0 → so_way (P 4 g) ∧ so_way (P 5 g)) ∧ (0 ≤ P 6 0 ∧ P 6 0 ≤ 8) ∧ (∀ s : Int, 0 ≤ s → s < P 6 0 → 0 ≤ P 7 s ∧ P 7 s < 8) ∧ (0 ≤ P 10 0 ∧ P 10 0 ≤ 3) ∧ (0 ≤ P 11 0 ∧ P 11 0 ≤ 4) ∧ (∀ k : Int, 0 ≤ k → k < P 11 0 → 0 ≤ P 12 k ∧ P 12 k ≤ P 13 k ∧ P 13 k ≤ 11 ∧ 1 ≤ P 14 k ∧ P 14 k ≤ 99) ∧ (0 ≤ P 15 0 ∧ P 15 0 ≤ 999)
/-- what a setup keeps under a plan -/
def so_S (P S : ob_O) : Prop := (∀ g : Int, 0 ≤ g → g < P 3 0 → 0 ≤ S 0 g ∧ S 0 g ≤ 2) ∧ (∀ g : Int, 0 ≤ g → g < 5 → S 1 g = 0 ∨ S 1 g = 1) ∧ (∀ s : Int, 0 ≤ s → s < P 6 0 → (0 ≤ S 2 s ∧ S 2 s ≤ 5) ∧ ((S 2 s ≠ 0 ∧ S 2 s ≠ 5) → 1 ≤ P 8 s ∧ P 8 s ≤ 30) ∧ (S 2 s = 4 → 0 ≤ P 9 s ∧ P 9 s < P 6 0)) ∧ (∀ w : Int, 0 ≤ w → w < P 10 0 → (0 ≤ S 3 w ∧ S 3 w ≤ 12) ∧ (∀ i : Int, 0 ≤ i → i < S 3 w → 0 ≤ S (20 + w.toNat) i ∧ S (20 + w.toNat) i ≤ 9)) ∧ (0 ≤ S 6 0 ∧ S 6 0 ≤ 12) ∧ (∀ i : Int, 0 ≤ i → i < S 6 0 → 0 ≤ S 5 i ∧ S 5 i ≤ 255)
theorem ne_FP {c p : Nat} (h : hz_isF c) (h' : hz_isP p) : p ≠ c := by unfold hz_isF at h; unfold hz_isP at h'; omega
theorem ne_FS {c p : Nat} (h : hz_isF c) (h' : hz_isS p) : p ≠ c := by unfold hz_isF at h; unfold hz_isS at h'; omega
section cf
variable {F p q : Nat} {Z : dz_Z} {o : ob_O} {v w d s n k ot : Int}
theorem cf_lead (hw : so_way w) : jf_F_lead F w d (ob_z Z F o) = some (ob_z Z F (so_lead o w d)) := by
  have hc : dz_c w = w := dc_ir (by unfold so_way at hw; omega) (by unfold so_way at hw; omega)
  unfold jf_F_lead so_lead
  rw [hc]
  rcases hw with h | h | h
  · rw [if_neg (by omega), if_neg (by omega), if_pos (by omega), if_pos (by omega)]
    simp only [dz_a, oz_uz, oz_s]
  · have hc' : dz_c (w - 10) = w - 10 := dc_ir (by omega) (by omega)
    rw [hc', if_neg (by omega), if_pos (by omega), if_neg (by omega), if_neg (by omega), if_pos (by omega), if_neg (by omega), if_pos (by omega)]
    simp only [dz_a, oz_uz, oz_s]
  · rw [if_neg (by omega), if_pos (by omega), if_neg (by omega), if_pos (by omega), if_neg (by omega), if_neg (by omega)]
    simp only [dz_a, oz_uz, oz_s]
theorem cf_roofs (hpF : p ≠ F) (hP : so_P (Z p)) : jf_F_fallOnRoofs F p v (ob_z Z F o) = some (ob_z Z F (so_roof (Z p) v (Z p 0 0).toNat o)) := by
  apply dp_is
  unfold jf_F_fallOnRoofs
  refine dp_lp (fun k s => ∃ r : Nat, r + k = (Z p 0 0).toNat ∧ s = ((r : Int), ob_z Z F (so_roof (Z p) v r o))) ?_ 5000 (Z p 0 0).toNat (0, ob_z Z F o) (by have := hP.1; omega) ⟨0, by omega, rfl⟩
  rintro k _ ⟨r, hr, rfl⟩
  have h0 := hP.1
  have e1 : dz_c (Z p 0 0) = Z p 0 0 := dc_ir h0.1 (by omega)
  have e2 : dz_c (r : Int) = r := dc_ir (by omega) (by omega)
  simp only [oz_n hpF, e1, e2]
  by_cases hk : r = (Z p 0 0).toNat
  · refine dp_ck (by omega) (dp_sm ?_)
    rw [← hk]
    rfl
  · refine dp_no (by omega) (dp_ck ⟨by omega, by omega⟩ (dp_le ?_))
    simp only [oz_s, oz_uz, oz_n hpF]
    have hg := (hP.2.1 r (by omega) (by omega)).2
    refine dp_bi (dp_eq (cf_lead (Or.inl hg)) (dp_sm ⟨k - 1, by omega, r + 1, by omega, ?_⟩))
    simp only [so_roof]
    rfl
theorem cf_half {peg qq : Int} (hp : 0 ≤ peg ∧ peg ≤ 2) : jf_F_shareOfLeft F peg qq (ob_z Z F o) = some (so_half peg (o 5 0) qq) := by
  have hc : dz_c peg = peg := dc_ir (by omega) (by omega)
  have hm : dz_c (Int.tmod (dz_c (o 5 0)) 2) = Int.tmod (dz_c (o 5 0)) 2 := by
    have h1 := Int.tmod_lt_of_pos (dz_c (o 5 0)) (b := 2) (by omega)
    have h2 := Int.lt_tmod_of_pos (dz_c (o 5 0)) (b := 2) (by omega)
    exact dz_ci (by omega) (by omega)
  unfold jf_F_shareOfLeft so_half
  simp only [oz_s, hc, hm]
  by_cases h0 : peg = 0
  · rw [if_neg (by omega), if_pos h0]
  · rw [if_pos h0, if_neg h0]
    by_cases h1 : peg = 1
    · rw [if_neg (by omega), if_pos h1]
    · rw [if_pos h1, if_neg h1]
      by_cases h2 : Int.tmod (dz_c (o 5 0)) 2 = 0
      · rw [if_neg (by omega), if_pos h2]
        rfl
      · rw [if_pos h2, if_neg h2]
        rfl
theorem so_lead_f (f : Nat) (h : f ≠ 7) (h1 : f ≠ 10) (h2 : f ≠ 11) : so_lead o w d f = o f := by
  funext i
  unfold so_lead
  split
  · rw [ou_f h1]
  · split
    · rw [ou_f h2]
    · rw [ou_f h]
theorem cf_gut (hpF : p ≠ F) (hqF : q ≠ F) (hP : so_P (Z p)) (hS : so_S (Z p) (Z q)) : jf_F_runThroughGutters F p q (ob_z Z F o) = some (ob_z Z F (so_gut (Z p) (Z q) (Z p 3 0).toNat o)) := by
  apply dp_is
  unfold jf_F_runThroughGutters
  refine dp_lp (fun k s => ∃ r : Nat, r + k = (Z p 3 0).toNat ∧ s = ((r : Int), ob_z Z F (so_gut (Z p) (Z q) r o))) ?_ 5000 (Z p 3 0).toNat (0, ob_z Z F o) (by have := hP.2.2.1; omega) ⟨0, by omega, rfl⟩
  rintro k _ ⟨r, hr, rfl⟩
  have h0 := hP.2.2.1
  have e1 : dz_c (Z p 3 0) = Z p 3 0 := dc_ir h0.1 (by omega)
  have e2 : dz_c (r : Int) = r := dc_ir (by omega) (by omega)
  simp only [oz_n hpF, oz_n hqF, oz_s, e1, e2]
  by_cases hk : r = (Z p 3 0).toNat
  · refine dp_ck (by omega) (dp_sm ?_)
    rw [← hk]
    rfl
  · refine dp_no (by omega) (dp_ck ⟨by omega, by omega⟩ ?_)
    have hw := hP.2.2.2.1 r (by omega) (by omega)
    have hpg := hS.1 r (by omega) (by omega)
    have hb := hS.2.1 r (by omega) (by omega)
    have e3 : dz_c (Z q 1 r) = Z q 1 r := dz_ci (by omega) (by omega)
    rw [e3]
    refine dp_br (fun h => ?_) (fun h => ?_)
    · refine dp_bi (dp_eq (cf_half hpg) ?_)
      refine dp_bi (dp_eq (cf_lead hw.1) ?_)
      simp only [oz_n hpF]
      refine dp_bi (dp_eq (cf_lead hw.2) (dp_sm ⟨k - 1, by omega, r + 1, by omega, ?_⟩))
      simp only [so_gut, so_g1, if_pos h]
      rfl
    · refine dp_le (dp_sm ⟨k - 1, by omega, r + 1, by omega, ?_⟩)
      simp only [so_gut, so_g1, if_neg h, oz_uz]
      rfl
theorem cf_tip (hs : 0 ≤ s ∧ s < 8) (hn : 1 ≤ n ∧ n ≤ 30) (hot : 0 ≤ ot ∧ ot < 8) : jf_F_tip F s n d ot (ob_z Z F o) = some (so_tip o s n d, ob_z Z F (ob_u (ob_u o 0 s (o 0 s + d - so_tip o s n d * n)) 3 ot (o 3 ot + so_tip o s n d * n))) := by
  have h1 : dz_c s = s := dc_ir hs.1 (by omega)
  have h2 : dz_c n = n := dc_ir (by omega) (by omega)
  have h3 : dz_c ot = ot := dc_ir hot.1 (by omega)
  unfold jf_F_tip so_tip
  simp only [h1, h2, h3, dz_a, oz_uz, oz_s, ou_s]
  rw [if_pos hs, if_neg (by omega), if_pos (by omega)]
  show (if ot < 0 then _ else _) = _
  rw [if_neg (by omega), if_neg (by omega), if_pos hot]
  simp only [ou_u, ou_f (show (3 : Nat) ≠ 0 by decide)]
theorem cf_tipg (hs : 0 ≤ s ∧ s < 8) (hn : 1 ≤ n ∧ n ≤ 30) : jf_F_tip F s n d 20 (ob_z Z F o) = some (so_tip o s n d, ob_z Z F (ob_u (ob_u o 0 s (o 0 s + d - so_tip o s n d * n)) 7 0 (o 7 0 + so_tip o s n d * n))) := by
  have h1 : dz_c s = s := dc_ir hs.1 (by omega)
  have h2 : dz_c n = n := dc_ir (by omega) (by omega)
  have h3 : dz_c 20 = 20 := by decide
  unfold jf_F_tip so_tip
  simp only [h1, h2, h3, dz_a, oz_uz, oz_s, ou_s]
  rw [if_pos hs, if_neg (by omega), if_pos (by omega)]
  simp only [Option.bind_some]
  rw [if_neg (by decide), if_pos (by decide)]
  simp only [ou_u, ou_f (show (7 : Nat) ≠ 0 by decide)]
theorem so_cup_2 : so_cup o 2 n ot s d = (if dz_c (o 0 s + d) < n then (if dz_c (o 0 s + d) ≤ 0 then (0, ob_u o 0 s (o 0 s + d)) else (0, ob_u (ob_u o 0 s (o 0 s + d - 1)) 7 0 (o 7 0 + 1))) else (1, ob_u (ob_u o 0 s 0) 7 0 (o 7 0 + (o 0 s + d)))) := by
  unfold so_cup
  rw [if_neg (by decide), if_neg (by decide), if_pos rfl]
theorem so_cup_3 : so_cup o 3 n ot s d = (Int.tdiv (dz_c (o 1 s + d)) n, ob_u (ob_u o 7 0 (o 7 0 + d)) 1 s (o 1 s + d - Int.tdiv (dz_c (o 1 s + d)) n * n)) := by
  unfold so_cup
  rw [if_neg (by decide), if_neg (by decide), if_neg (by decide), if_pos rfl]
theorem cf_leak (hs : 0 ≤ s ∧ s < 8) (hn : 1 ≤ n ∧ n ≤ 30) : jf_F_leak F s n d (ob_z Z F o) = some ((so_cup o 2 n ot s d).1, ob_z Z F (so_cup o 2 n ot s d).2) := by
  have h1 : dz_c s = s := dc_ir hs.1 (by omega)
  have h2 : dz_c n = n := dc_ir (by omega) (by omega)
  unfold jf_F_leak
  rw [so_cup_2]
  simp only [h1, h2, dz_a, oz_uz, oz_s, ou_s]
  rw [if_pos hs]
  by_cases c1 : dz_c (o 0 s + d) < n
  · rw [if_pos c1, if_pos c1]
    by_cases c2 : dz_c (o 0 s + d) ≤ 0
    · rw [if_pos c2, if_pos c2]
    · rw [if_neg c2, if_neg c2]
      simp only [ou_f (show (0 : Nat) ≠ 7 by decide), ou_f (show (7 : Nat) ≠ 0 by decide), ou_s]
      congr 3
      funext f' i'
      unfold ob_u
      by_cases hf : f' = 0 ∧ i' = s
      · rw [if_pos hf, if_neg (by omega), if_pos hf]
      · rw [if_neg hf, if_neg hf, if_neg hf]
  · rw [if_neg c1, if_neg c1]
    simp only [ou_f (show (7 : Nat) ≠ 0 by decide)]
    congr 3
    funext f' i'
    unfold ob_u
    by_cases hf : f' = 0 ∧ i' = s
    · rw [if_pos hf, if_neg (by omega), if_pos hf]
    · rw [if_neg hf, if_neg hf, if_neg hf]
theorem cf_each (hs : 0 ≤ s ∧ s < 8) (hn : 1 ≤ n ∧ n ≤ 30) : jf_F_countEach F s n d (ob_z Z F o) = some ((so_cup o 3 n ot s d).1, ob_z Z F (so_cup o 3 n ot s d).2) := by
  have h1 : dz_c s = s := dc_ir hs.1 (by omega)
  have h2 : dz_c n = n := dc_ir (by omega) (by omega)
  unfold jf_F_countEach
  rw [so_cup_3]
  simp only [h1, h2, dz_a, oz_uz, oz_s, ou_s, ou_f (show (1 : Nat) ≠ 7 by decide)]
  rw [if_pos hs, if_neg (by omega), if_pos (by omega)]
  simp only [Option.bind_some, ou_u]
theorem cf_cup (hpF : p ≠ F) (hs : 0 ≤ s ∧ s < 8) (hk : 0 ≤ k ∧ k ≤ 5) (hn : (k ≠ 0 ∧ k ≠ 5) → 1 ≤ Z p 8 s ∧ Z p 8 s ≤ 30) (hot : k = 4 → 0 ≤ Z p 9 s ∧ Z p 9 s < 8) : jf_F_fillCup F p k s d (ob_z Z F o) = some ((so_cup o k (Z p 8 s) (Z p 9 s) s d).1, ob_z Z F (so_cup o k (Z p 8 s) (Z p 9 s) s d).2) := by
  have h1 : dz_c s = s := dc_ir hs.1 (by omega)
  have h2 : dz_c k = k := dc_ir (by omega) (by omega)
  unfold jf_F_fillCup
  simp only [h1, h2, dz_a, oz_uz, oz_s, oz_n hpF]
  by_cases c0 : k = 0
  · subst c0
    rw [if_pos rfl]
    unfold so_cup
    rw [if_pos rfl]
    by_cases c : dz_c d ≤ 0
    · rw [if_pos c, if_pos c]
    · rw [if_neg c, if_neg c]
  rw [if_neg c0]
  by_cases c1 : k = 1
  · subst c1
    rw [if_pos rfl, if_pos hs, cf_tipg hs (hn (by omega))]
    unfold so_cup
    rfl
  rw [if_neg c1]
  by_cases c2 : k = 2
  · subst c2
    rw [if_pos rfl, if_pos hs, cf_leak (ot := Z p 9 s) hs (hn (by omega))]
    rfl
  rw [if_neg c2]
  by_cases c3 : k = 3
  · subst c3
    rw [if_pos rfl, if_pos hs, cf_each (ot := Z p 9 s) hs (hn (by omega))]
    rfl
  rw [if_neg c3]
  by_cases c4 : k = 4
  · subst c4
    rw [if_pos rfl, if_pos hs, cf_tip hs (hn (by omega)) (hot rfl)]
    unfold so_cup
    rfl
  rw [if_neg c4]
  unfold so_cup
  rw [if_neg c0, if_neg c1, if_neg c2, if_neg c3, if_neg c4]
theorem cf_brk (hpF : p ≠ F) (hs : 0 ≤ s ∧ s < 8) (hw : 0 ≤ Z p 15 0 ∧ Z p 15 0 ≤ 999) : jf_F_isBroken F p s (ob_z Z F o) = some (so_brk (Z p) o s) := by
  have h1 : dz_c s = s := dc_ir hs.1 (by omega)
  have h2 : dz_c (Z p 15 0) = Z p 15 0 := dc_ir (by omega) (by omega)
  unfold jf_F_isBroken so_brk
  simp only [h1, h2, oz_s, oz_n hpF]
  by_cases c : Z p 15 0 ≤ 0
  · rw [if_pos c, decide_eq_false (by omega)]
  · rw [if_neg c, if_pos hs]
    by_cases c2 : dz_l (o 2 s) < Z p 15 0
    · rw [if_pos c2, decide_eq_false (by omega)]
    · rw [if_neg c2, decide_eq_true (by omega)]
theorem cf_cups (hpF : p ≠ F) (hqF : q ≠ F) (hP : so_P (Z p)) (hS : so_S (Z p) (Z q)) : jf_F_fillCups F p q (ob_z Z F o) = some ((so_cups (Z p) (Z q) (Z p 6 0).toNat (0, o)).1, ob_z Z F (so_cups (Z p) (Z q) (Z p 6 0).toNat (0, o)).2) := by
  apply dp_is
  unfold jf_F_fillCups
  refine dp_lp (fun k s => ∃ r : Nat, r + k = (Z p 6 0).toNat ∧ s = ((so_cups (Z p) (Z q) r (0, o)).1, (r : Int), ob_z Z F (so_cups (Z p) (Z q) r (0, o)).2)) ?_ 5000 (Z p 6 0).toNat (0, 0, ob_z Z F o) (by have := hP.2.2.2.2.1; omega) ⟨0, by omega, rfl⟩
  rintro k _ ⟨r, hr, rfl⟩
  have h0 := hP.2.2.2.2.1
  have e1 : dz_c (Z p 6 0) = Z p 6 0 := dc_ir h0.1 (by omega)
  have e2 : dz_c (r : Int) = r := dc_ir (by omega) (by omega)
  generalize hx : so_cups (Z p) (Z q) r (0, o) = x
  simp only [oz_n hpF, oz_n hqF, oz_s, e1, e2]
  by_cases hk : r = (Z p 6 0).toNat
  · refine dp_ck (by omega) (dp_sm ?_)
    rw [← hk, hx]
    rfl
  · refine dp_no (by omega) ?_
    have hs : (0 : Int) ≤ r ∧ (r : Int) < 8 := ⟨by omega, by omega⟩
    refine dp_bi (dp_eq (cf_brk hpF hs hP.2.2.2.2.2.2.2.2.2) (dp_ck hs (dp_le ?_)))
    simp only [oz_uz, oz_n hqF]
    have hq := hS.2.2.1 r (by omega) (by omega)
    refine dp_bi (dp_eq (cf_cup hpF hs hq.1 hq.2.1 (fun h => ⟨(hq.2.2 h).1, by have := (hq.2.2 h).2; omega⟩)) ?_)
    refine dp_bi ?_
    have key : ∀ l : Int, l = (if so_brk (Z p) x.2 r = false then (so_cup (ob_u x.2 2 r (x.2 2 r + dz_c (x.2 11 r))) (Z q 2 r) (Z p 8 r) (Z p 9 r) r (x.2 11 r)).1 else 0) → so_cups (Z p) (Z q) (r + 1) (0, o) = so_ld (Z p) r l (x.1, (so_cup (ob_u x.2 2 r (x.2 2 r + dz_c (x.2 11 r))) (Z q 2 r) (Z p 8 r) (Z p 9 r) r (x.2 11 r)).2) := by
      intro l hl
      rw [hl]
      show so_c1 (Z p) (Z q) r (so_cups (Z p) (Z q) r (0, o)) = _
      rw [hx]
      rfl
    refine dp_br (fun hb => dp_sm ?_) (fun hb => dp_sm ?_)
    all_goals
      refine dp_le ?_
      simp only [oz_uz, oz_s, oz_n hpF, ou_s]
      refine dp_br (fun hl => dp_sm ⟨k - 1, by omega, r + 1, by omega, ?_⟩) (fun hl => dp_le (dp_le (dp_sm ⟨k - 1, by omega, r + 1, by omega, ?_⟩)))
    · rw [key _ (by rw [if_pos hb])]
      unfold so_ld
      rw [if_pos hl]
      rfl
    · rw [key _ (by rw [if_pos hb])]
      unfold so_ld
      rw [if_neg hl]
      simp only [oz_uz, oz_s, oz_n hpF, ou_s, ou_f (show (8 : Nat) ≠ 4 by decide), ou_f (show (9 : Nat) ≠ 4 by decide), ou_f (show (9 : Nat) ≠ 8 by decide)]
      rfl
    · rw [key _ (by rw [if_neg hb])]
      unfold so_ld
      rw [if_pos hl]
      rfl
    · exact absurd (by decide) hl
theorem cf_sec (hF : hz_isF F) (hp : hz_isP p) (hq : hz_isS q) (hP : so_P (Z p)) (hS : so_S (Z p) (Z q)) : jf_F_passSecond F p q v Z = some ((so_sec (Z p) (Z q) v (Z F)).1, ob_z Z F (so_sec (Z p) (Z q) v (Z F)).2) := by
  have hpF := ne_FP hF hp
  have hqF := ne_FS hF hq
  unfold jf_F_passSecond
  simp only [dz_a]
  rw [show Z = ob_z Z F (Z F) from oz_i.symm]
  simp only [oz_fz, oz_s, oz_n hpF, oz_n hqF]
  rw [show ob_f (ob_f (ob_f (Z F) 11 (Z F 3)) 3 fun _ => 0) 10 (fun _ => 0) = so_in (Z F) from rfl, cf_roofs hpF hP]
  simp only [Option.bind_some]
  rw [cf_gut hpF hqF hP hS]
  simp only [Option.bind_some]
  rw [cf_cups hpF hqF hP hS]
  simp only [Option.bind_some, oz_uz, oz_s, oz_z]
  rfl
end cf
end mg_31cf
section mg_32sb
/-! how much water there is: bounds on a second -/
def so_sm (g : Int → Int) : Nat → Int
  | 0 => 0
  | n + 1 => so_sm g n + g n
theorem sm_c {g g' : Int → Int} : ∀ n : Nat, (∀ i : Int, 0 ≤ i → i < n → g i = g' i) → so_sm g n = so_sm g' n
  | 0, _ => rfl
  | n + 1, h => by
    show so_sm g n + g n = so_sm g' n + g' n
    rw [sm_c n (fun i h0 h1 => h i h0 (by omega)), h n (by omega) (by omega)]
theorem sm_u (g : Int → Int) (j v : Int) : ∀ n : Nat, so_sm (fun i => if i = j then v else g i) n = so_sm g n + (if 0 ≤ j ∧ j < n then v - g j else 0)
  | 0 => by rw [if_neg (by omega)]; rfl
  | n + 1 => by
    show so_sm _ n + (if (n : Int) = j then v else g n) = so_sm g n + g n + _
    rw [sm_u g j v n]
    by_cases h : (n : Int) = j
    · subst h
      rw [if_neg (by omega), if_pos rfl, if_pos (by omega)]
      omega
    · rw [if_neg h]
      by_cases h2 : 0 ≤ j ∧ j < (n : Int)
      · rw [if_pos h2, if_pos (by omega)]
        omega
      · rw [if_neg h2, if_neg (by omega)]
        omega
theorem sm_0 {g : Int → Int} : ∀ n : Nat, (∀ i : Int, 0 ≤ i → i < n → 0 ≤ g i) → 0 ≤ so_sm g n
  | 0, _ => Int.le_refl _
  | n + 1, h => by
    show 0 ≤ so_sm g n + g n
    have h1 := sm_0 n (fun i h0 h1 => h i h0 (by omega))
    have h2 := h n (by omega) (by omega)
    omega
theorem sm_m {g : Int → Int} {k : Nat} : ∀ n : Nat, k ≤ n → (∀ i : Int, 0 ≤ i → i < n → 0 ≤ g i) → so_sm g k ≤ so_sm g n
  | 0, hk, _ => by
    have : k = 0 := by omega
    subst this
    exact Int.le_refl _
  | n + 1, hk, h => by
    by_cases e : k = n + 1
    · subst e
      exact Int.le_refl _
    · have h1 := sm_m (g := g) (k := k) n (by omega) (fun i h0 h1 => h i h0 (by omega))
      have h2 := h n (by omega) (by omega)
      show so_sm g k ≤ so_sm g n + g n
      omega
theorem sm_z : ∀ n : Nat, so_sm (fun _ => 0) n = 0
  | 0 => rfl
  | n + 1 => by
    show so_sm (fun _ => 0) n + 0 = 0
    rw [sm_z n]
    rfl
/-- one of them, by the sum -/
theorem sm_1 {g : Int → Int} {n : Nat} {j : Int} (h : ∀ i : Int, 0 ≤ i → i < n → 0 ≤ g i) (h0 : 0 ≤ j) (h1 : j < n) : g j ≤ so_sm g n := by
  have e := sm_u g j 0 n
  rw [if_pos ⟨h0, h1⟩] at e
  have := sm_0 (g := fun i => if i = j then 0 else g i) n (fun i h0 h1 => by
    show 0 ≤ if i = j then 0 else g i
    split
    · omega
    · exact h i h0 h1)
  omega
theorem ou_fn {o : ob_O} {f : Nat} {i v : Int} : ob_u o f i v f = fun i' => if i' = i then v else o f i' := by
  funext i'
  exact ou_a
theorem ou_ff {o : ob_O} {f f' : Nat} {i v : Int} (h : f' ≠ f) : ob_u o f i v f' = o f' := by
  funext i'
  exact ou_f h
/-- nothing in gutters or at spouts is below 0 -/
def so_nn (o : ob_O) : Prop := (∀ i : Int, 0 ≤ i → i < 5 → 0 ≤ o 10 i) ∧ (∀ i : Int, 0 ≤ i → i < 8 → 0 ≤ o 11 i)
/-- what is in gutters from g on, and at spouts -/
def so_ps (g : Nat) (o : ob_O) : Int := so_sm (o 10) 5 - so_sm (o 10) g + so_sm (o 11) 8
section sb
variable {P S o : ob_O} {w d v q : Int} {g : Nat}
theorem sb_nl (hn : so_nn o) (hd : 0 ≤ d) : so_nn (so_lead o w d) := by
  unfold so_lead
  split
  · refine ⟨fun i h0 h1 => ?_, fun i h0 h1 => ?_⟩
    · rw [ou_a]
      have := hn.1 i h0 h1
      split
      · next e => rw [← e]; omega
      · exact this
    · rw [ou_f (by decide)]
      exact hn.2 i h0 h1
  · split
    · refine ⟨fun i h0 h1 => ?_, fun i h0 h1 => ?_⟩
      · rw [ou_f (by decide)]
        exact hn.1 i h0 h1
      · rw [ou_a]
        have := hn.2 i h0 h1
        split
        · next e => rw [← e]; omega
        · exact this
    · refine ⟨fun i h0 h1 => ?_, fun i h0 h1 => ?_⟩
      · rw [ou_f (by decide)]
        exact hn.1 i h0 h1
      · rw [ou_f (by decide)]
        exact hn.2 i h0 h1
theorem sb_pl (hd : 0 ≤ d) (hw : so_way w) (hg : g ≤ 5) : so_ps g (so_lead o w d) ≤ so_ps g o + d := by
  unfold so_lead so_ps
  unfold so_way at hw
  split
  · rw [ou_fn, ou_ff (by decide), sm_u, sm_u, if_pos (by omega)]
    split <;> omega
  · split
    · rw [ou_fn, ou_ff (by decide), sm_u, if_pos (by omega)]
      omega
    · rw [ou_ff (by decide), ou_ff (by decide)]
      omega
theorem sb_roof (hP : so_P P) (hv : 0 ≤ v ∧ v ≤ 9) (hn : so_nn o) : ∀ r : Nat, (r : Int) ≤ P 0 0 → so_nn (so_roof P v r o) ∧ so_ps 0 (so_roof P v r o) ≤ so_ps 0 o + 81 * r
  | 0, _ => ⟨hn, by show so_ps 0 o ≤ _; omega⟩
  | r + 1, hr => by
    obtain ⟨h1, h2⟩ := sb_roof hP hv hn r (by omega)
    have h3 := hP.2.1 r (by omega) (by omega)
    have h4 : 0 ≤ P 1 r * v := Int.mul_nonneg (by omega) hv.1
    have h5 : P 1 r * v ≤ 9 * 9 := Int.mul_le_mul h3.1.2 hv.2 hv.1 (by omega)
    have e10 : ob_u (so_roof P v r o) 6 0 (so_roof P v r o 6 0 + P 1 r * v) 10 = so_roof P v r o 10 := ou_ff (by decide)
    have e11 : ob_u (so_roof P v r o) 6 0 (so_roof P v r o 6 0 + P 1 r * v) 11 = so_roof P v r o 11 := ou_ff (by decide)
    refine ⟨sb_nl (by unfold so_nn; rw [e10, e11]; exact h1) h4, ?_⟩
    show so_ps 0 (so_lead _ (P 2 r) (P 1 r * v)) ≤ _
    have := sb_pl (o := ob_u (so_roof P v r o) 6 0 (so_roof P v r o 6 0 + P 1 r * v)) (g := 0) h4 (Or.inl h3.2) (by omega)
    have e : so_ps 0 (ob_u (so_roof P v r o) 6 0 (so_roof P v r o 6 0 + P 1 r * v)) = so_ps 0 (so_roof P v r o) := by unfold so_ps; rw [e10, e11]
    rw [e] at this
    omega
theorem sb_half {peg sec : Int} (hq : 0 ≤ q ∧ q ≤ 2147483647) : 0 ≤ so_half peg sec q ∧ so_half peg sec q ≤ q := by
  have hc : dz_c q = q := dc_ir hq.1 hq.2
  unfold so_half
  rw [hc, Int.tdiv_eq_ediv_of_nonneg hq.1]
  split
  · omega
  · split
    · omega
    · split <;> omega
theorem so_ps_1 {g : Nat} (hg : g < 5) : so_ps g o = so_ps (g + 1) o + o 10 g := by
  unfold so_ps
  show _ = so_sm (o 10) 5 - (so_sm (o 10) g + o 10 g) + so_sm (o 11) 8 + o 10 g
  omega
theorem sb_gin (hn : so_nn o) (hg : g < 5) : 0 ≤ o 10 g ∧ o 10 g ≤ so_ps g o := by
  refine ⟨hn.1 g (by omega) (by omega), ?_⟩
  rw [so_ps_1 hg]
  have h1 := sm_m (g := o 10) (k := g + 1) 5 (by omega) hn.1
  have h2 := sm_0 (g := o 11) 8 hn.2
  unfold so_ps
  omega
theorem sb_gut (hP : so_P P) (hn : so_nn o) (hB : so_ps 0 o ≤ 2147483647) : ∀ r : Nat, (r : Int) ≤ P 3 0 → so_nn (so_gut P S r o) ∧ so_ps r (so_gut P S r o) ≤ so_ps 0 o
  | 0, _ => ⟨hn, Int.le_refl _⟩
  | r + 1, hr => by
    obtain ⟨h1, h2⟩ := sb_gut hP hn hB r (by omega)
    have h3 := hP.2.2.2.1 r (by omega) (by omega)
    have hr5 : r < 5 := by have := hP.2.2.1; omega
    have h4 := sb_gin h1 hr5
    have h5 := so_ps_1 (o := so_gut P S r o) hr5
    show so_nn (so_g1 P S r (so_gut P S r o)) ∧ so_ps (r + 1) (so_g1 P S r (so_gut P S r o)) ≤ _
    unfold so_g1
    split
    · have h6 := sb_half (peg := S 0 r) (sec := so_gut P S r o 5 0) (q := so_gut P S r o 10 r) ⟨h4.1, by omega⟩
      have h7 := sb_pl (o := so_gut P S r o) (g := r + 1) h6.1 h3.1 (by omega)
      have h8 := sb_pl (o := so_lead (so_gut P S r o) (P 4 r) (so_half (S 0 r) (so_gut P S r o 5 0) (so_gut P S r o 10 r))) (d := so_gut P S r o 10 r - so_half (S 0 r) (so_gut P S r o 5 0) (so_gut P S r o 10 r)) (g := r + 1) (by omega) h3.2 (by omega)
      refine ⟨sb_nl (sb_nl h1 h6.1) (by omega), by omega⟩
    · refine ⟨⟨fun i h0 h1' => ?_, fun i h0 h1' => ?_⟩, ?_⟩
      · rw [ou_f (by decide)]; exact h1.1 i h0 h1'
      · rw [ou_f (by decide)]; exact h1.2 i h0 h1'
      · have e : so_ps (r + 1) (ob_u (so_gut P S r o) 7 0 (so_gut P S r o 7 0 + so_gut P S r o 10 r)) = so_ps (r + 1) (so_gut P S r o) := by unfold so_ps; rw [ou_ff (by decide), ou_ff (by decide)]
        rw [e]
        omega
/-- leads change only what is in gutters, at spouts, or ran off -/
theorem so_roof_f {f : Nat} (h : f ≠ 6) (h7 : f ≠ 7) (h10 : f ≠ 10) (h11 : f ≠ 11) : ∀ r : Nat, so_roof P v r o f = o f
  | 0 => rfl
  | r + 1 => by
    show so_lead _ (P 2 r) (P 1 r * v) f = o f
    rw [so_lead_f f h7 h10 h11, ou_ff h]
    exact so_roof_f h h7 h10 h11 r
theorem so_g1_f {f : Nat} {g : Int} (h7 : f ≠ 7) (h10 : f ≠ 10) (h11 : f ≠ 11) : so_g1 P S g o f = o f := by
  unfold so_g1
  split
  · rw [so_lead_f f h7 h10 h11, so_lead_f f h7 h10 h11]
  · rw [ou_ff h7]
theorem so_gut_f {f : Nat} (h7 : f ≠ 7) (h10 : f ≠ 10) (h11 : f ≠ 11) : ∀ r : Nat, so_gut P S r o f = o f
  | 0 => rfl
  | r + 1 => by
    show so_g1 P S r (so_gut P S r o) f = o f
    rw [so_g1_f h7 h10 h11]
    exact so_gut_f h7 h10 h11 r
/-- bounds of a flow: its water, its counts, its hits -/
def so_B (B H : Int) (o : ob_O) : Prop := (∀ i : Int, 0 ≤ i → i < 8 → 0 ≤ o 0 i ∧ 0 ≤ o 3 i ∧ (0 ≤ o 1 i ∧ o 1 i ≤ 30) ∧ 0 ≤ o 2 i ∧ o 2 i ≤ H) ∧ so_sm (o 0) 8 + so_sm (o 3) 8 ≤ B
/-- what comes to the spouts in a second -/
theorem sb_spt {B H : Int} (hP : so_P P) (hv : 0 ≤ v ∧ v ≤ 9) (hb : so_B B H o) (hB : B ≤ 1000000000) : so_nn (so_gs P S v o) ∧ so_sm (so_gs P S v o 11) 8 ≤ so_sm (o 3) 8 + 324 := by
  have n0 : so_nn (so_in o) := ⟨fun i h0 h1 => by unfold so_in; rw [of_s]; omega, fun i h0 h1 => by unfold so_in; rw [of_n (by decide), of_n (by decide), of_s]; exact (hb.1 i h0 h1).2.1⟩
  have p0 : so_ps 0 (so_in o) = so_sm (o 3) 8 := by
    unfold so_ps so_in
    rw [of_s, of_n (by decide), of_n (by decide), of_s, sm_z]
    show 0 - 0 + _ = _
    omega
  have hs0 := sm_0 (g := o 0) 8 (fun i h0 h1 => (hb.1 i h0 h1).1)
  have h1 := sb_roof hP hv n0 (P 0 0).toNat (by have := hP.1; omega)
  have h2 := sb_gut (S := S) hP h1.1 (by have := hP.1; have := hb.2; omega) (P 3 0).toNat (by have := hP.2.2.1; omega)
  refine ⟨h2.1, ?_⟩
  have h3 := sm_m (g := so_gs P S v o 10) (k := (P 3 0).toNat) 5 (by have := hP.2.2.1; omega) h2.1.1
  have h4 := h2.2
  have h5 : so_ps (P 3 0).toNat (so_gs P S v o) = so_sm (so_gs P S v o 10) 5 - so_sm (so_gs P S v o 10) (P 3 0).toNat + so_sm (so_gs P S v o 11) 8 := rfl
  have h6 : so_ps (P 3 0).toNat (so_gs P S v o) ≤ so_ps 0 (so_roof P v (P 0 0).toNat (so_in o)) := h4
  have := hP.1
  omega
end sb
end mg_32sb
section mg_33sc
/-! bounds on cups -/
/-- what is held, on the way, and at spouts from s on -/
def so_th (s : Nat) (o : ob_O) : Int := so_sm (o 0) 8 + so_sm (o 3) 8 + (so_sm (o 11) 8 - so_sm (o 11) s)
section sc
variable {P S o : ob_O} {k n ot s d B H : Int}
theorem dv_pos {x m : Int} (hx : 0 ≤ x ∧ x ≤ 2147483647) (hm : 1 ≤ m) : 0 ≤ Int.tdiv (dz_c x) m ∧ Int.tdiv (dz_c x) m * m ≤ x ∧ x - Int.tdiv (dz_c x) m * m < m := by
  rw [dc_ir hx.1 hx.2, Int.tdiv_eq_ediv_of_nonneg hx.1]
  have h1 := Int.emod_add_mul_ediv x m
  have h2 := Int.emod_nonneg x (show m ≠ 0 by omega)
  have h3 := Int.emod_lt_of_pos x (show 0 < m by omega)
  have h4 := Int.ediv_nonneg hx.1 (show 0 ≤ m by omega)
  rw [Int.mul_comm m] at h1
  exact ⟨h4, by omega, by omega⟩
/-- a cup: what it changes, and how much water goes -/
theorem sc_cup (hs : 0 ≤ s ∧ s < 8) (hk : (k ≠ 0 ∧ k ≠ 5) → 1 ≤ n ∧ n ≤ 30) (hot : k = 4 → 0 ≤ ot ∧ ot < 8) (hd : 0 ≤ d ∧ d ≤ 1000000000) (hb : ∀ i : Int, 0 ≤ i → i < 8 → 0 ≤ o 0 i ∧ 0 ≤ o 3 i ∧ (0 ≤ o 1 i ∧ o 1 i ≤ 30)) (hh : o 0 s ≤ 1000000000) : (∀ i : Int, 0 ≤ i → i < 8 → 0 ≤ (so_cup o k n ot s d).2 0 i ∧ 0 ≤ (so_cup o k n ot s d).2 3 i ∧ (0 ≤ (so_cup o k n ot s d).2 1 i ∧ (so_cup o k n ot s d).2 1 i ≤ 30)) ∧ so_sm ((so_cup o k n ot s d).2 0) 8 + so_sm ((so_cup o k n ot s d).2 3) 8 ≤ so_sm (o 0) 8 + so_sm (o 3) 8 + d ∧ (∀ f : Nat, f ≠ 0 → f ≠ 1 → f ≠ 3 → f ≠ 7 → (so_cup o k n ot s d).2 f = o f) ∧ 0 ≤ (so_cup o k n ot s d).1 := by
  have hbs := hb s hs.1 hs.2
  unfold so_cup
  split
  · refine ⟨fun i h0 h1 => ?_, ?_, fun f h0 h1 h3 h7 => ou_ff h7, ?_⟩
    · simp only [ou_f (show (0 : Nat) ≠ 7 by decide), ou_f (show (1 : Nat) ≠ 7 by decide), ou_f (show (3 : Nat) ≠ 7 by decide)]
      exact hb i h0 h1
    · simp only [ou_ff (show (0 : Nat) ≠ 7 by decide), ou_ff (show (3 : Nat) ≠ 7 by decide)]
      omega
    · simp only
      split <;> omega
  split
  · next h0 h1 =>
    have hn := hk (by omega)
    have ht := dv_pos (x := o 0 s + d) (m := n) (by omega) hn.1
    refine ⟨fun i h0 h1 => ?_, ?_, fun f h0 h1 h3 h7 => ?_, ht.1⟩
    · have := hb i h0 h1
      simp only [ou_f (show (0 : Nat) ≠ 7 by decide), ou_f (show (1 : Nat) ≠ 7 by decide), ou_f (show (3 : Nat) ≠ 7 by decide), ou_f (show (1 : Nat) ≠ 0 by decide), ou_f (show (3 : Nat) ≠ 0 by decide), ou_a]
      unfold so_tip
      refine ⟨?_, this.2.1, this.2.2⟩
      split <;> omega
    · simp only [ou_ff (show (0 : Nat) ≠ 7 by decide), ou_ff (show (3 : Nat) ≠ 7 by decide), ou_ff (show (3 : Nat) ≠ 0 by decide), ou_fn]
      rw [sm_u, if_pos (by omega)]
      unfold so_tip
      have : 0 ≤ Int.tdiv (dz_c (o 0 s + d)) n * n := Int.mul_nonneg ht.1 (by omega)
      omega
    · simp only [ou_ff h7, ou_ff h0]
  split
  · next h0 h1 h2 =>
    have hn := hk (by omega)
    have hc : dz_c (o 0 s + d) = o 0 s + d := dc_ir (by omega) (by omega)
    rw [hc]
    split
    · split
      · refine ⟨fun i h0 h1 => ?_, ?_, fun f h0 h1 h3 h7 => ou_ff h0, Int.le_refl _⟩
        · have := hb i h0 h1
          simp only [ou_f (show (1 : Nat) ≠ 0 by decide), ou_f (show (3 : Nat) ≠ 0 by decide), ou_a]
          refine ⟨?_, this.2.1, this.2.2⟩
          split <;> omega
        · simp only [ou_ff (show (3 : Nat) ≠ 0 by decide), ou_fn]
          rw [sm_u, if_pos (by omega)]
          omega
      · refine ⟨fun i h0 h1 => ?_, ?_, fun f h0 h1 h3 h7 => ?_, Int.le_refl _⟩
        · have := hb i h0 h1
          simp only [ou_f (show (0 : Nat) ≠ 7 by decide), ou_f (show (1 : Nat) ≠ 7 by decide), ou_f (show (3 : Nat) ≠ 7 by decide), ou_f (show (1 : Nat) ≠ 0 by decide), ou_f (show (3 : Nat) ≠ 0 by decide), ou_a]
          refine ⟨?_, this.2.1, this.2.2⟩
          split <;> omega
        · simp only [ou_ff (show (0 : Nat) ≠ 7 by decide), ou_ff (show (3 : Nat) ≠ 7 by decide), ou_ff (show (3 : Nat) ≠ 0 by decide), ou_fn]
          rw [sm_u, if_pos (by omega)]
          omega
        · simp only [ou_ff h7, ou_ff h0]
    · refine ⟨fun i h0 h1 => ?_, ?_, fun f h0 h1 h3 h7 => ?_, by omega⟩
      · have := hb i h0 h1
        simp only [ou_f (show (0 : Nat) ≠ 7 by decide), ou_f (show (1 : Nat) ≠ 7 by decide), ou_f (show (3 : Nat) ≠ 7 by decide), ou_f (show (1 : Nat) ≠ 0 by decide), ou_f (show (3 : Nat) ≠ 0 by decide), ou_a]
        refine ⟨?_, this.2.1, this.2.2⟩
        split <;> omega
      · simp only [ou_ff (show (0 : Nat) ≠ 7 by decide), ou_ff (show (3 : Nat) ≠ 7 by decide), ou_ff (show (3 : Nat) ≠ 0 by decide), ou_fn]
        rw [sm_u, if_pos (by omega)]
        omega
      · simp only [ou_ff h7, ou_ff h0]
  split
  · next h0 h1 h2 h3 =>
    have hn := hk (by omega)
    have ht := dv_pos (x := o 1 s + d) (m := n) (by omega) hn.1
    refine ⟨fun i h0 h1 => ?_, ?_, fun f h0 h1 h3 h7 => ?_, ht.1⟩
    · have := hb i h0 h1
      simp only [ou_f (show (0 : Nat) ≠ 7 by decide), ou_f (show (1 : Nat) ≠ 7 by decide), ou_f (show (3 : Nat) ≠ 7 by decide), ou_f (show (0 : Nat) ≠ 1 by decide), ou_f (show (3 : Nat) ≠ 1 by decide), ou_a]
      refine ⟨this.1, this.2.1, ?_⟩
      split <;> omega
    · simp only [ou_ff (show (0 : Nat) ≠ 7 by decide), ou_ff (show (3 : Nat) ≠ 7 by decide), ou_ff (show (3 : Nat) ≠ 1 by decide), ou_ff (show (0 : Nat) ≠ 1 by decide)]
      omega
    · simp only [ou_ff h7, ou_ff h1]
  split
  · next h0 h1 h2 h3 h4 =>
    have hn := hk (by omega)
    have hto := hot h4
    have ht := dv_pos (x := o 0 s + d) (m := n) (by omega) hn.1
    have hm : 0 ≤ Int.tdiv (dz_c (o 0 s + d)) n * n := Int.mul_nonneg ht.1 (by omega)
    refine ⟨fun i h0 h1 => ?_, ?_, fun f h0 h1 h3 h7 => ?_, ht.1⟩
    · have := hb i h0 h1
      have := hb ot hto.1 hto.2
      simp only [ou_f (show (0 : Nat) ≠ 3 by decide), ou_f (show (1 : Nat) ≠ 3 by decide), ou_f (show (1 : Nat) ≠ 0 by decide), ou_f (show (3 : Nat) ≠ 0 by decide), ou_a]
      unfold so_tip
      refine ⟨?_, ?_, ?_⟩
      · split <;> omega
      · split <;> omega
      · omega
    · simp only [ou_ff (show (0 : Nat) ≠ 3 by decide), ou_ff (show (3 : Nat) ≠ 0 by decide), ou_fn]
      rw [sm_u, sm_u, if_pos (by omega), if_pos (by omega)]
      unfold so_tip
      omega
    · simp only [ou_ff h3, ou_ff h0]
  · refine ⟨fun i h0 h1 => ?_, ?_, fun f h0 h1 h3 h7 => ou_ff h7, Int.le_refl _⟩
    · simp only [ou_f (show (0 : Nat) ≠ 7 by decide), ou_f (show (1 : Nat) ≠ 7 by decide), ou_f (show (3 : Nat) ≠ 7 by decide)]
      exact hb i h0 h1
    · simp only [ou_ff (show (0 : Nat) ≠ 7 by decide), ou_ff (show (3 : Nat) ≠ 7 by decide)]
      omega
theorem so_ld_f {x : Int × ob_O} {l : Int} {f : Nat} (h4 : f ≠ 4) (h8 : f ≠ 8) (h9 : f ≠ 9) : (so_ld P s l x).2 f = x.2 f := by
  unfold so_ld
  split
  · exact ou_ff h4
  · show ob_u (ob_u (ob_u _ 4 _ _) 8 _ _) 9 _ _ f = _
    rw [ou_ff h9, ou_ff h8, ou_ff h4]
/-- all cups up to r -/
theorem sc_cups {g : ob_O} (hP : so_P P) (hS : so_S P S) (hg : so_nn g) (hb : so_B B H g) (hB : B + so_sm (g 11) 8 ≤ 1000000000) (r : Nat) (hr : (r : Int) ≤ P 6 0) :
    (∀ i : Int, 0 ≤ i → i < 8 → 0 ≤ (so_cups P S r (0, g)).2 0 i ∧ 0 ≤ (so_cups P S r (0, g)).2 3 i ∧ (0 ≤ (so_cups P S r (0, g)).2 1 i ∧ (so_cups P S r (0, g)).2 1 i ≤ 30)) ∧ so_sm ((so_cups P S r (0, g)).2 0) 8 + so_sm ((so_cups P S r (0, g)).2 3) 8 ≤ B + so_sm (g 11) r ∧ (so_cups P S r (0, g)).2 11 = g 11 ∧ (so_cups P S r (0, g)).2 5 = g 5 ∧ (so_cups P S r (0, g)).2 6 = g 6 ∧ (∀ i : Int, 0 ≤ i → i < 8 → (so_cups P S r (0, g)).2 2 i = g 2 i + (if i < r then g 11 i else 0)) := by
  induction r with
  | zero =>
    refine ⟨fun i h0 h1 => ⟨(hb.1 i h0 h1).1, (hb.1 i h0 h1).2.1, (hb.1 i h0 h1).2.2.1⟩, ?_, rfl, rfl, rfl, fun i h0 h1 => ?_⟩
    · show so_sm (g 0) 8 + so_sm (g 3) 8 ≤ B + 0
      have := hb.2
      omega
    · rw [if_neg (by omega)]
      show g 2 i = _
      omega
  | succ r ih =>
    obtain ⟨i1, i2, i3, i5, i6, i4⟩ := ih (by omega)
    have h6 := hP.2.2.2.2.1
    have hs : (0 : Int) ≤ r ∧ (r : Int) < 8 := ⟨by omega, by omega⟩
    have hq := hS.2.2.1 r (by omega) (by omega)
    have hd0 := hg.2 r (by omega) (by omega)
    have hsmr := sm_m (g := g 11) (k := r + 1) 8 (by omega) hg.2
    have hsm1 : so_sm (g 11) (r + 1) = so_sm (g 11) r + g 11 r := rfl
    have hsm0 := sm_0 (g := g 11) r (fun i h0 h1 => hg.2 i h0 (by omega))
    show _ ∧ _ ∧ _ ∧ _ ∧ _ ∧ _
    generalize hx : so_cups P S r (0, g) = x at i1 i2 i3 i5 i6 i4
    have e1 : so_cups P S (r + 1) (0, g) = so_c1 P S r x := by show so_c1 P S r (so_cups P S r (0, g)) = _; rw [hx]
    rw [e1]
    have hB0 := sm_0 (g := x.2 3) 8 (fun i h0 h1 => (i1 i h0 h1).2.1)
    have hB1 := sm_1 (g := x.2 0) (n := 8) (j := r) (fun i h0 h1 => (i1 i h0 h1).1) hs.1 hs.2
    have hbn := sm_0 (g := g 0) 8 (fun i h0 h1 => (hb.1 i h0 h1).1)
    have hbn3 := sm_0 (g := g 3) 8 (fun i h0 h1 => (hb.1 i h0 h1).2.1)
    have hb2 := hb.2
    have hdc : dz_c (x.2 11 r) = g 11 r := by rw [i3]; exact dc_ir hd0 (by omega)
    have hcup := sc_cup (o := ob_u x.2 2 r (x.2 2 r + dz_c (x.2 11 r))) (k := S 2 r) (n := P 8 r) (ot := P 9 r) (s := r) (d := x.2 11 r) hs hq.2.1 (fun h => ⟨(hq.2.2 h).1, by have := (hq.2.2 h).2; omega⟩) (by rw [i3]; omega) (fun i h0 h1 => by
      rw [ou_f (by decide), ou_f (by decide), ou_f (by decide)]
      exact i1 i h0 h1) (by rw [ou_f (by decide)]; omega)
    rw [ou_ff (show (0 : Nat) ≠ 2 by decide), ou_ff (show (3 : Nat) ≠ 2 by decide)] at hcup
    obtain ⟨c1, c2, c3, c4⟩ := hcup
    unfold so_c1
    simp only [so_ld_f (show (0 : Nat) ≠ 4 by decide) (show (0 : Nat) ≠ 8 by decide) (show (0 : Nat) ≠ 9 by decide), so_ld_f (show (3 : Nat) ≠ 4 by decide) (show (3 : Nat) ≠ 8 by decide) (show (3 : Nat) ≠ 9 by decide), so_ld_f (show (1 : Nat) ≠ 4 by decide) (show (1 : Nat) ≠ 8 by decide) (show (1 : Nat) ≠ 9 by decide), so_ld_f (show (2 : Nat) ≠ 4 by decide) (show (2 : Nat) ≠ 8 by decide) (show (2 : Nat) ≠ 9 by decide), so_ld_f (show (5 : Nat) ≠ 4 by decide) (show (5 : Nat) ≠ 8 by decide) (show (5 : Nat) ≠ 9 by decide), so_ld_f (show (6 : Nat) ≠ 4 by decide) (show (6 : Nat) ≠ 8 by decide) (show (6 : Nat) ≠ 9 by decide), so_ld_f (show (11 : Nat) ≠ 4 by decide) (show (11 : Nat) ≠ 8 by decide) (show (11 : Nat) ≠ 9 by decide)]
    refine ⟨c1, ?_, ?_, ?_, ?_, fun i h0 h1 => ?_⟩
    · rw [hsm1]
      rw [i3] at c2
      rw [i3]
      omega
    · rw [c3 11 (by decide) (by decide) (by decide) (by decide), ou_ff (by decide), i3]
    · rw [c3 5 (by decide) (by decide) (by decide) (by decide), ou_ff (by decide), i5]
    · rw [c3 6 (by decide) (by decide) (by decide) (by decide), ou_ff (by decide), i6]
    · rw [c3 2 (by decide) (by decide) (by decide) (by decide), ou_a, hdc]
      have := i4 i h0 h1
      by_cases e : i = r
      · subst e
        rw [if_pos rfl, if_pos (by omega), this, if_neg (by omega)]
        omega
      · rw [if_neg e, this]
        by_cases e2 : i < r
        · rw [if_pos e2, if_pos (by omega)]
        · rw [if_neg e2, if_neg (by omega)]
/-- a second keeps the bounds -/
theorem sc_sec {v : Int} (hP : so_P P) (hS : so_S P S) (hv : 0 ≤ v ∧ v ≤ 9) (hb : so_B B H o) (hB : B ≤ 400000000) : so_B (B + 324) (H + B + 324) (so_sec P S v o).2 ∧ (so_sec P S v o).2 5 0 = o 5 0 + 1 := by
  have hsp := sb_spt (S := S) hP hv hb (by omega)
  have hm3 := sm_0 (g := o 3) 8 (fun i h0 h1 => (hb.1 i h0 h1).2.1)
  have hm0 := sm_0 (g := o 0) 8 (fun i h0 h1 => (hb.1 i h0 h1).1)
  have hb2 := hb.2
  have gf : ∀ f : Nat, f ≠ 3 → f ≠ 6 → f ≠ 7 → f ≠ 10 → f ≠ 11 → so_gs P S v o f = o f := by
    intro f h3 h6 h7 h10 h11
    show so_gut P S _ (so_roof P v _ (so_in o)) f = o f
    rw [so_gut_f h7 h10 h11, so_roof_f h6 h7 h10 h11]
    unfold so_in
    rw [of_n h10, of_n h3, of_n h11]
  have g3 : so_gs P S v o 3 = fun _ => 0 := by
    show so_gut P S _ (so_roof P v _ (so_in o)) 3 = _
    rw [so_gut_f (by decide) (by decide) (by decide), so_roof_f (by decide) (by decide) (by decide) (by decide)]
    unfold so_in
    rw [of_n (by decide), of_s]
  have hbg : so_B (so_sm (o 0) 8) H (so_gs P S v o) := by
    refine ⟨fun i h0 h1 => ?_, ?_⟩
    · rw [gf 0 (by decide) (by decide) (by decide) (by decide) (by decide), gf 1 (by decide) (by decide) (by decide) (by decide) (by decide), gf 2 (by decide) (by decide) (by decide) (by decide) (by decide), g3]
      have := hb.1 i h0 h1
      exact ⟨this.1, Int.le_refl _, this.2.2⟩
    · rw [gf 0 (by decide) (by decide) (by decide) (by decide) (by decide), g3, sm_z]
      omega
  obtain ⟨i1, i2, i3, i5, i6, i4⟩ := sc_cups (S := S) hP hS hsp.1 hbg (by omega) (P 6 0).toNat (by have := hP.2.2.2.2.1; omega)
  have hmr := sm_m (g := so_gs P S v o 11) (k := (P 6 0).toNat) 8 (by have := hP.2.2.2.2.1; omega) hsp.1.2
  unfold so_sec so_end
  simp only [so_B]
  refine ⟨⟨fun i h0 h1 => ?_, ?_⟩, ?_⟩
  · rw [ou_f (by decide), ou_f (by decide), ou_f (by decide), ou_f (by decide)]
    have a1 := i1 i h0 h1
    have a2 := i4 i h0 h1
    have a3 := hbg.1 i h0 h1
    have a4 := hsp.1.2 i h0 h1
    have a5 := sm_1 (g := so_gs P S v o 11) (n := 8) hsp.1.2 h0 h1
    refine ⟨a1.1, a1.2.1, a1.2.2, ?_, ?_⟩
    · rw [a2]; split <;> omega
    · rw [a2]; split <;> omega
  · rw [ou_ff (by decide), ou_ff (by decide)]
    omega
  · rw [ou_s, i5, gf 5 (by decide) (by decide) (by decide) (by decide) (by decide)]
end sc
end mg_33sc
section mg_34mf
/-! a second of the reference, against the same words -/
/-- the reference's plan -/
def mr_P (P m : ob_O) : Prop := m 1 0 = P 0 0 ∧ (∀ r : Int, 0 ≤ r → r < P 0 0 → m 7 (2 * r) = P 1 r ∧ m 7 (2 * r + 1) = P 2 r) ∧ m 2 0 = P 3 0 ∧ (∀ g : Int, 0 ≤ g → g < P 3 0 → m 8 (2 * g) = P 4 g ∧ m 8 (2 * g + 1) = P 5 g) ∧ m 3 0 = P 6 0 ∧ (∀ s : Int, 0 ≤ s → s < P 6 0 → m 9 s = P 7 s) ∧ m 4 0 = P 10 0 ∧ m 5 0 = P 11 0 ∧ (∀ k : Int, 0 ≤ k → k < P 11 0 → m 10 (3 * k) = P 12 k ∧ m 10 (3 * k + 1) = P 13 k ∧ m 10 (3 * k + 2) = P 14 k) ∧ m 6 0 = P 15 0
/-- the reference's setup, on the page that begins at e: as a second needs it -/
def mr_W (e : Int) (P S m : ob_O) : Prop := (∀ g : Int, 0 ≤ g → g < P 3 0 → m 0 (e + g) = S 0 g) ∧ (∀ g : Int, 0 ≤ g → g < 5 → m 0 (e + (5 + g)) = S 1 g) ∧ (∀ s : Int, 0 ≤ s → s < P 6 0 → m 0 (e + (10 + s)) = S 2 s ∧ ((S 2 s ≠ 0 ∧ S 2 s ≠ 5) → m 0 (e + (18 + s)) = P 8 s) ∧ (S 2 s = 4 → m 0 (e + (26 + s)) = P 9 s))
/-- the reference's flow, on the page that begins at e -/
def mr_F (e : Int) (P o m : ob_O) : Prop := (∀ i : Int, 0 ≤ i → i < 8 → m 0 (e + 86 + i) = o 0 i ∧ m 0 (e + 94 + i) = o 1 i ∧ m 0 (e + 102 + i) = o 2 i ∧ m 0 (e + 110 + i) = o 3 i ∧ m 0 (e + 126 + i) = o 4 i ∧ m 0 (e + 118 + i) = (if i < P 6 0 ∧ 0 < P 15 0 ∧ P 15 0 ≤ o 2 i then 1 else 0) ∧ (P 6 0 ≤ i → o 3 i = 0 ∧ o 4 i = 0)) ∧ m 0 (e + 134) = o 5 0 ∧ m 0 (e + 135) = o 6 0 ∧ m 0 (e + 136) = o 7 0 ∧ m 0 (e + 137) = o 8 0
/-- a page of the reference -/
def mr_pg (e : Int) : Prop := e = 0 ∨ e = 420
def mo_lead (e : Int) (m : ob_O) (w d : Int) : ob_O := if w < 5 then ob_u m 32 w (m 32 w + d) else if w < 18 then ob_u m 33 (w - 10) (m 33 (w - 10) + d) else ob_u m 0 (e + 136) (m 0 (e + 136) + d)
/-- while rain runs through gutters: w0 is what was on the way, m0 the reference before -/
def mg_R (e : Int) (w0 : Int → Int) (m0 o m : ob_O) : Prop := (∀ i : Int, 0 ≤ i → i < 5 → m 32 i = o 10 i) ∧ (∀ i : Int, 0 ≤ i → i < 8 → m 33 i + w0 i = o 11 i) ∧ m 0 (e + 135) = o 6 0 ∧ m 0 (e + 136) = o 7 0 ∧ (∀ f : Nat, f ≠ 0 → f ≠ 32 → f ≠ 33 → m f = m0 f) ∧ (∀ j : Int, j ≠ e + 135 → j ≠ e + 136 → m 0 j = m0 0 j)
section mf
variable {Y : dz_Z} {P S o m m0 : ob_O} {e v w d s q : Int} {w0 : Int → Int}
theorem mf_lead (he : mr_pg e) (hw : so_way w) : jf_M_leads e w d (ob_z Y 114 m) = some (ob_z Y 114 (mo_lead e m w d)) := by
  have hc : dz_c w = w := dc_ir (by unfold so_way at hw; omega) (by unfold so_way at hw; omega)
  have hc' : dz_c (w - 10) = w - 10 := dz_ci (by unfold so_way at hw; omega) (by unfold so_way at hw; omega)
  have hc2 : dz_c (e + 136) = e + 136 := dc_ir (by unfold mr_pg at he; omega) (by unfold mr_pg at he; omega)
  unfold jf_M_leads mo_lead
  rw [hc, hc', hc2]
  rcases hw with h | h | h
  · rw [if_pos (by omega), if_pos (by omega), if_pos (by omega), if_pos (by omega)]
    simp only [dz_a, oz_uz, oz_s]
  · rw [if_pos (by omega), if_neg (by omega), if_pos (by omega), if_neg (by omega), if_pos (by omega)]
    simp only [dz_a, oz_uz, oz_s]
  · rw [if_neg (by omega), if_pos (by unfold mr_pg at he; omega), if_neg (by omega), if_neg (by omega)]
    simp only [dz_a, oz_uz, oz_s]
theorem mg_lead (h : mg_R e w0 m0 o m) (hw : so_way w) : mg_R e w0 m0 (so_lead o w d) (mo_lead e m w d) := by
  obtain ⟨h1, h2, h3, h4, h5, h6⟩ := h
  unfold so_lead mo_lead
  unfold so_way at hw
  split
  · refine ⟨fun i a b => ?_, fun i a b => ?_, ?_, ?_, fun f a b c => ?_, fun j a b => ?_⟩
    · rw [ou_a, ou_a, h1 i a b, h1 w (by omega) (by omega)]
    · rw [ou_f (by decide), ou_f (by decide)]; exact h2 i a b
    · rw [ou_f (by decide), ou_f (by decide)]; exact h3
    · rw [ou_f (by decide), ou_f (by decide)]; exact h4
    · rw [ou_ff b]; exact h5 f a b c
    · rw [ou_f (by decide)]; exact h6 j a b
  · split
    · refine ⟨fun i a b => ?_, fun i a b => ?_, ?_, ?_, fun f a b c => ?_, fun j a b => ?_⟩
      · rw [ou_f (by decide), ou_f (by decide)]; exact h1 i a b
      · rw [ou_a, ou_a, ← h2 i a b, ← h2 (w - 10) (by omega) (by omega)]
        split
        · next hi => rw [hi]; omega
        · rfl
      · rw [ou_f (by decide), ou_f (by decide)]; exact h3
      · rw [ou_f (by decide), ou_f (by decide)]; exact h4
      · rw [ou_ff c]; exact h5 f a b c
      · rw [ou_f (by decide)]; exact h6 j a b
    · refine ⟨fun i a b => ?_, fun i a b => ?_, ?_, ?_, fun f a b c => ?_, fun j a b => ?_⟩
      · rw [ou_f (by decide), ou_f (by decide)]; exact h1 i a b
      · rw [ou_f (by decide), ou_f (by decide)]; exact h2 i a b
      · rw [ou_i (by omega), ou_f (by decide)]; exact h3
      · rw [ou_s, ou_s, h4]
      · rw [ou_ff a]; exact h5 f a b c
      · rw [ou_i b]; exact h6 j a b
theorem mf_half {peg : Int} (hq : 0 ≤ q ∧ q ≤ 2147483646) : so_half peg d q = if peg = 0 then q else if peg = 1 then 0 else if Int.tmod (dz_c d) 2 = 0 then Int.tdiv (dz_c (q + 1)) 2 else Int.tdiv (dz_c (q + 0)) 2 := by
  unfold so_half
  rw [dc_ir hq.1 (by omega), dc_ir (x := q + 1) (by omega) (by omega), dc_ir (x := q + 0) (by omega) (by omega), Int.tdiv_eq_ediv_of_nonneg hq.1, Int.tdiv_eq_ediv_of_nonneg (a := q + 1) (by omega), Int.tdiv_eq_ediv_of_nonneg (a := q + 0) (by omega)]
  split
  · rfl
  · split
    · rfl
    · split <;> omega
/-- rain on the roofs, through the gutters -/
theorem mf_gut {B H : Int} (he : mr_pg e) (hP : so_P P) (hS : so_S P S) (hv : 0 ≤ v ∧ v ≤ 9) (hb : so_B B H o) (hB : B ≤ 1000000000) (rP : mr_P P m0) (rW : mr_W 0 P S m0) (r5 : m0 0 (e + 134) = o 5 0) (r6 : m0 0 (e + 135) = o 6 0) (r7 : m0 0 (e + 136) = o 7 0) {K : dz_Z → Prop} (k : ∀ m', mg_R e (o 3) m0 (so_gs P S v o) m' → K (ob_z Y 114 m')) : dz_p (jf_M_gutters e v (ob_z Y 114 m0)) K := by
  have n0 : so_nn (so_in o) := ⟨fun i h0 h1 => by unfold so_in; rw [of_s]; omega, fun i h0 h1 => by unfold so_in; rw [of_n (by decide), of_n (by decide), of_s]; exact (hb.1 i h0 h1).2.1⟩
  have p0 : so_ps 0 (so_in o) = so_sm (o 3) 8 := by
    unfold so_ps so_in
    rw [of_s, of_n (by decide), of_n (by decide), of_s, sm_z]
    show 0 - 0 + _ = _
    omega
  have hs0 := sm_0 (g := o 0) 8 (fun i h0 h1 => (hb.1 i h0 h1).1)
  have hb2 := hb.2
  have e135 : dz_c (e + 135) = e + 135 := dc_ir (by unfold mr_pg at he; omega) (by unfold mr_pg at he; omega)
  have e136 : dz_c (e + 136) = e + 136 := dc_ir (by unfold mr_pg at he; omega) (by unfold mr_pg at he; omega)
  have e134 : dz_c (e + 134) = e + 134 := dc_ir (by unfold mr_pg at he; omega) (by unfold mr_pg at he; omega)
  have hpg : 0 ≤ e ∧ e + 137 < 700 := by unfold mr_pg at he; omega
  unfold jf_M_gutters
  -- nothing yet
  refine dp_lp (fun k s => ∃ (r : Nat) (m : ob_O), r + k = 8 ∧ s = ((r : Int), ob_z Y 114 m) ∧ (∀ i : Int, 0 ≤ i → i < r → m 33 i = 0 ∧ (i < 5 → m 32 i = 0)) ∧ (∀ f : Nat, f ≠ 32 → f ≠ 33 → m f = m0 f)) ?_ 5000 8 (0, ob_z Y 114 m0) (by omega) ⟨0, m0, by omega, rfl, fun i h0 h1 => absurd h1 (by omega), fun f _ _ => rfl⟩
  rintro k1 _ ⟨r, m, hr, rfl, hz, hm⟩
  have er : dz_c (r : Int) = r := dc_ir (by omega) (by omega)
  simp only [er, oz_s]
  by_cases hk : ¬ r = 8
  · have et : dz_c (Int.tmod (r : Int) 5) = (r : Int) % 5 := by rw [Int.tmod_eq_emod_of_nonneg (by omega)]; exact dc_ir (by omega) (by omega)
    rw [et]
    refine dp_no (by omega) (dp_ck (by omega) (dp_le (dp_ck (by omega) (dp_le (dp_sm ⟨k1 - 1, by omega, r + 1, ob_u (ob_u m 32 ((r : Int) % 5) 0) 33 r 0, by omega, ?_, fun i h0 h1 => ⟨?_, fun h5 => ?_⟩, fun f h2 h3 => ?_⟩)))))
    · simp only [oz_uz]
      rfl
    · rw [ou_a]
      split
      · rfl
      · rw [ou_f (by decide)]; exact (hz i h0 (by omega)).1
    · rw [ou_f (by decide), ou_a]
      split
      · rfl
      · exact (hz i h0 (by omega)).2 h5
    · rw [ou_ff h3, ou_ff h2]; exact hm f h2 h3
  have hk : r = 8 := by omega
  subst hk
  refine dp_ck (by omega) ?_
  have g0 : mg_R e (o 3) m0 (so_in o) m := by
    refine ⟨fun i a b => ?_, fun i a b => ?_, ?_, ?_, fun f a b c => hm f b c, fun j _ _ => by rw [hm 0 (by decide) (by decide)]⟩
    · rw [(hz i a (by omega)).2 b]; unfold so_in; rw [of_s]
    · rw [(hz i a (by omega)).1]; unfold so_in; rw [of_n (by decide), of_n (by decide), of_s]; omega
    · rw [hm 0 (by decide) (by decide), r6]; unfold so_in; rw [of_n (by decide), of_n (by decide), of_n (by decide)]
    · rw [hm 0 (by decide) (by decide), r7]; unfold so_in; rw [of_n (by decide), of_n (by decide), of_n (by decide)]
  clear hz hm
  -- roofs
  refine dp_lp (fun k s => ∃ (r : Nat) (m : ob_O), r + k = (P 0 0).toNat ∧ s = ((r : Int), ob_z Y 114 m) ∧ mg_R e (o 3) m0 (so_roof P v r (so_in o)) m) ?_ 5000 (P 0 0).toNat (0, ob_z Y 114 m) (by have := hP.1; omega) ⟨0, m, by omega, rfl, g0⟩
  rintro k2 _ ⟨r, m, hr, rfl, hg⟩
  clear g0
  have h0 := hP.1
  have er : dz_c (r : Int) = r := dc_ir (by omega) (by omega)
  have em1 : m 1 0 = P 0 0 := by rw [hg.2.2.2.2.1 1 (by decide) (by decide) (by decide)]; exact rP.1
  have ec1 : dz_c (P 0 0) = P 0 0 := dc_ir (by omega) (by omega)
  simp only [er, oz_s, em1, ec1]
  by_cases hk : ¬ r = (P 0 0).toNat
  · have e7 : m 7 = m0 7 := hg.2.2.2.2.1 7 (by decide) (by decide) (by decide)
    have hrr := rP.2.1 r (by omega) (by omega)
    have hpr := hP.2.1 r (by omega) (by omega)
    have ea : dz_c (2 * (r : Int)) = 2 * r := dc_ir (by omega) (by omega)
    have eb : dz_c (2 * (r : Int) + 1) = 2 * r + 1 := dc_ir (by omega) (by omega)
    have ec : dz_c (P 2 r) = P 2 r := dc_ir (by omega) (by omega)
    simp only [ea, eb, e7, hrr, ec]
    refine dp_no (by omega) (dp_ck (by omega) (dp_ck (by omega) (dp_ck (by omega) (dp_le ?_))))
    rw [e135]
    simp only [oz_uz, oz_s]
    refine dp_ck (by omega) (dp_le (dp_sm ⟨k2 - 1, by omega, r + 1, ob_u (ob_u m 32 (P 2 r) (m 32 (P 2 r) + P 1 r * v)) 0 (e + 135) (m 0 (e + 135) + P 1 r * v), by omega, ?_, ?_⟩))
    · simp only [oz_uz, ou_f (show (7 : Nat) ≠ 32 by decide), ou_f (show (0 : Nat) ≠ 32 by decide), e7, hrr]
      rfl
    · show mg_R e (o 3) m0 (so_lead (ob_u (so_roof P v r (so_in o)) 6 0 (so_roof P v r (so_in o) 6 0 + P 1 r * v)) (P 2 r) (P 1 r * v)) _
      obtain ⟨a1, a2, a3, a4, a5, a6⟩ := hg
      unfold so_lead
      rw [if_pos (by omega)]
      refine ⟨fun i a b => ?_, fun i a b => ?_, ?_, ?_, fun f a b c => ?_, fun j a b => ?_⟩
      · rw [ou_f (by decide), ou_a, ou_a, ou_f (by decide), ou_f (by decide), a1 i a b, a1 (P 2 r) (by omega) (by omega)]
      · rw [ou_f (by decide), ou_f (by decide), ou_f (by decide), ou_f (by decide)]; exact a2 i a b
      · rw [ou_s, ou_f (by decide), ou_s, a3]
      · rw [ou_i (by omega), ou_f (by decide), ou_f (by decide), ou_f (by decide), a4]
      · rw [ou_ff a, ou_ff b]; exact a5 f a b c
      · rw [ou_i a, ou_f (by decide)]; exact a6 j a b
  have hk : r = (P 0 0).toNat := by omega
  refine dp_ck (by omega) ?_
  rw [hk] at hg
  clear hk hr er
  have hn1 := sb_roof (o := so_in o) hP hv n0 (P 0 0).toNat (by omega)
  -- gutters
  refine dp_lp (fun k s => ∃ (r : Nat) (m : ob_O), r + k = (P 3 0).toNat ∧ s = ((r : Int), ob_z Y 114 m) ∧ mg_R e (o 3) m0 (so_gut P S r (so_roof P v (P 0 0).toNat (so_in o))) m) ?_ 5000 (P 3 0).toNat (0, ob_z Y 114 m) (by have := hP.2.2.1; omega) ⟨0, m, by omega, rfl, hg⟩
  clear hg em1
  rintro k3 _ ⟨r, m, hr, rfl, hg⟩
  have h3 := hP.2.2.1
  have er : dz_c (r : Int) = r := dc_ir (by omega) (by omega)
  have em2 : m 2 0 = P 3 0 := by rw [hg.2.2.2.2.1 2 (by decide) (by decide) (by decide)]; exact rP.2.2.1
  have ec2 : dz_c (P 3 0) = P 3 0 := dc_ir (by omega) (by omega)
  simp only [er, oz_s, em2, ec2]
  by_cases hk : r = (P 3 0).toNat
  · refine dp_ck (by omega) (dp_sm ?_)
    refine k m ?_
    rw [hk] at hg
    exact hg
  · have hw := hP.2.2.2.1 r (by omega) (by omega)
    have hgg := rP.2.2.2.1 r (by omega) (by omega)
    have hpeg := hS.1 r (by omega) (by omega)
    have hblk := hS.2.1 r (by omega) (by omega)
    have hn2 := sb_gut (S := S) hP hn1.1 (by omega) r (by omega)
    have hq := sb_gin hn2.1 (show r < 5 by omega)
    have e10 : m 32 r = so_gut P S r (so_roof P v (P 0 0).toNat (so_in o)) 10 r := hg.1 r (by omega) (by omega)
    have e5 : m 0 (e + 134) = so_gut P S r (so_roof P v (P 0 0).toNat (so_in o)) 5 0 := by
      rw [hg.2.2.2.2.2 _ (by omega) (by omega), r5, so_gut_f (by decide) (by decide) (by decide), so_roof_f (by decide) (by decide) (by decide) (by decide)]
      unfold so_in
      rw [of_n (by decide), of_n (by decide), of_n (by decide)]
    have epg : m 0 r = S 0 r := by
      rw [hg.2.2.2.2.2 _ (by omega) (by omega)]
      have := rW.1 r (by omega) (by omega)
      rw [Int.zero_add] at this
      exact this
    have ebl : m 0 (5 + r) = S 1 r := by
      rw [hg.2.2.2.2.2 _ (by omega) (by omega)]
      have := rW.2.1 r (by omega) (by omega)
      rw [Int.zero_add] at this
      exact this
    have e8 : m 8 = m0 8 := hg.2.2.2.2.1 8 (by decide) (by decide) (by decide)
    generalize hgo : so_gut P S r (so_roof P v (P 0 0).toNat (so_in o)) = go at hg e10 e5 hn2 hq
    have ea : dz_c (0 + (r : Int)) = r := by rw [Int.zero_add]; exact er
    have eb : dz_c (5 + (r : Int)) = 5 + r := dc_ir (by omega) (by omega)
    have ec : dz_c (S 0 r) = S 0 r := dc_ir (by omega) (by omega)
    have ed : dz_c (S 1 r) = S 1 r := dz_ci (by omega) (by omega)
    have ef : dz_c (2 * (r : Int)) = 2 * r := dc_ir (by omega) (by omega)
    have eg : dz_c (2 * (r : Int) + 1) = 2 * r + 1 := dc_ir (by omega) (by omega)
    have hm : dz_c (Int.tmod (dz_c (go 5 0)) 2) = Int.tmod (dz_c (go 5 0)) 2 := by
      have h1 := Int.tmod_lt_of_pos (dz_c (go 5 0)) (b := 2) (by omega)
      have h2 := Int.lt_tmod_of_pos (dz_c (go 5 0)) (b := 2) (by omega)
      exact dz_ci (by omega) (by omega)
    simp only [ea, eb, e134, epg, ebl, ec, ed, e5, hm, e10, ef, eg, e8, hgg, e136]
    refine dp_no (by omega) (dp_ck (by omega) (dp_ck (by omega) (dp_bi ?_)))
    have hhalf : ∀ K' : Int → Prop, K' (so_half (S 0 r) (go 5 0) (go 10 r)) → dz_p (if S 0 r ≠ 0 then if S 0 r ≠ 1 then if 0 ≤ e + 134 ∧ e + 134 < 700 then if Int.tmod (dz_c (go 5 0)) 2 ≠ 0 then some (Int.tdiv (dz_c (go 10 r + 0)) 2) else some (Int.tdiv (dz_c (go 10 r + 1)) 2) else none else some 0 else some (go 10 r)) K' := by
      intro K' hK
      rw [mf_half (by omega)] at hK
      by_cases c0 : S 0 r = 0
      · rw [if_pos c0] at hK
        exact dp_no (by omega) (dp_sm hK)
      · rw [if_neg c0] at hK
        refine dp_ck c0 ?_
        by_cases c1 : S 0 r = 1
        · rw [if_pos c1] at hK
          exact dp_no (by omega) (dp_sm hK)
        · rw [if_neg c1] at hK
          refine dp_ck c1 (dp_ck (by omega) ?_)
          by_cases c2 : Int.tmod (dz_c (go 5 0)) 2 = 0
          · rw [if_pos c2] at hK
            exact dp_no (by omega) (dp_sm hK)
          · rw [if_neg c2] at hK
            exact dp_ck c2 (dp_sm hK)
    apply hhalf
    refine dp_ck (by omega) ?_
    have step : so_gut P S (r + 1) (so_roof P v (P 0 0).toNat (so_in o)) = so_g1 P S r go := by show so_g1 P S r (so_gut P S r _) = _; rw [hgo]
    refine dp_br (fun hb1 => ?_) (fun hb1 => ?_)
    · have hb0 : S 1 r = 0 := by omega
      refine dp_ck (by omega) (dp_bi (dp_eq (mf_lead he hw.1) ?_))
      have g1 := mg_lead (d := so_half (S 0 r) (go 5 0) (go 10 r)) hg hw.1
      have e8' : mo_lead e m (P 4 r) (so_half (S 0 r) (go 5 0) (go 10 r)) 8 = m0 8 := g1.2.2.2.2.1 8 (by decide) (by decide) (by decide)
      simp only [oz_s, e8', hgg]
      refine dp_ck (by omega) (dp_bi (dp_eq (mf_lead he hw.2) (dp_sm ⟨k3 - 1, by omega, r + 1, _, by omega, rfl, ?_⟩)))
      rw [step]
      unfold so_g1
      rw [if_pos hb0]
      exact mg_lead g1 hw.2
    · have hb0 : ¬ S 1 r = 0 := by omega
      refine dp_ck (by omega) (dp_le (dp_sm ⟨k3 - 1, by omega, r + 1, ob_u m 0 (e + 136) (m 0 (e + 136) + go 10 r), by omega, ?_, ?_⟩))
      · simp only [oz_uz]
        rfl
      · rw [step]
        unfold so_g1
        rw [if_neg hb0]
        obtain ⟨a1, a2, a3, a4, a5, a6⟩ := hg
        refine ⟨fun i a b => ?_, fun i a b => ?_, ?_, ?_, fun f a b c => ?_, fun j a b => ?_⟩
        · rw [ou_f (by decide), ou_f (by decide)]; exact a1 i a b
        · rw [ou_f (by decide), ou_f (by decide)]; exact a2 i a b
        · rw [ou_i (by omega), ou_f (by decide)]; exact a3
        · rw [ou_s, ou_s, a4]
        · rw [ou_ff a]; exact a5 f a b c
        · rw [ou_i b]; exact a6 j a b
end mf
end mg_34mf
section mg_35mc
/-! the reference's cups -/
section mc
variable {Y : dz_Z} {P S o m m0 : ob_O} {e v w d s k n ot : Int}
theorem mc_snd (he : mr_pg e) (hs : 0 ≤ s ∧ s < 8) (hk : 0 ≤ k ∧ k ≤ 5) (hn : (k ≠ 0 ∧ k ≠ 5) → (m 0 (18 + s) = n ∧ 1 ≤ n ∧ n ≤ 30)) (hmk : m 0 (10 + s) = k) (h0 : m 0 (e + 86 + s) = o 0 s) (h1 : m 0 (e + 94 + s) = o 1 s) (h7 : m 0 (e + 136) = o 7 0) (hc : 0 ≤ o 1 s + w ∧ o 1 s + w ≤ 2147483647) {K : Int × dz_Z → Prop} (kk : ∀ m' : ob_O, m' 0 (e + 86 + s) = (so_cup o k n ot s w).2 0 s → m' 0 (e + 94 + s) = (so_cup o k n ot s w).2 1 s → m' 0 (e + 136) = (so_cup o k n ot s w).2 7 0 → m' 34 0 = (if k = 4 then so_tip o s n w * n else 0) → (∀ f : Nat, f ≠ 0 → f ≠ 34 → m' f = m f) → (∀ j : Int, j ≠ e + 86 + s → j ≠ e + 94 + s → j ≠ e + 136 → m' 0 j = m 0 j) → K ((so_cup o k n ot s w).1, ob_z Y 114 m')) : dz_p (jf_M_sounds e s w (ob_z Y 114 m)) K := by
  have e10 : dz_c (10 + s) = 10 + s := dc_ir (by omega) (by omega)
  have e18 : dz_c (18 + s) = 18 + s := dc_ir (by omega) (by omega)
  have e136 : dz_c (e + 136) = e + 136 := dc_ir (by unfold mr_pg at he; omega) (by unfold mr_pg at he; omega)
  have e86 : dz_c (e + 86 + s) = e + 86 + s := dc_ir (by unfold mr_pg at he; omega) (by unfold mr_pg at he; omega)
  have e94 : dz_c (e + 94 + s) = e + 94 + s := dc_ir (by unfold mr_pg at he; omega) (by unfold mr_pg at he; omega)
  have hpg : 0 ≤ e ∧ e + 137 < 700 := by unfold mr_pg at he; omega
  have ek : dz_c k = k := dc_ir hk.1 (by omega)
  unfold jf_M_sounds
  simp only [e10, e18, e136, e86, e94, oz_s, oz_uz, hmk, ek, ou_f (show (0 : Nat) ≠ 34 by decide), h0, h1, h7]
  refine dp_ck (by omega) (dp_ck (by omega) (dp_le ?_))
  simp only [oz_s, oz_uz, ou_f (show (0 : Nat) ≠ 34 by decide), h0, h1, h7]
  by_cases c0 : k = 0
  · have ec : so_cup o k n ot s w = (if dz_c w ≤ 0 then 0 else 1, ob_u o 7 0 (o 7 0 + w)) := by unfold so_cup; rw [if_pos c0]
    have ec2 : (so_cup o k n ot s w).2 = ob_u o 7 0 (o 7 0 + w) := by rw [ec]
    refine dp_ck c0 (dp_ck (by omega) (dp_le (dp_no (by omega) ?_)))
    have fin : K ((so_cup o k n ot s w).1, ob_z Y 114 (ob_u (ob_u m 34 0 0) 0 (e + 136) (o 7 0 + w))) := by
      apply kk
      · rw [ou_i (by omega), ou_f (by decide), h0, ec2, ou_f (by decide)]
      · rw [ou_i (by omega), ou_f (by decide), h1, ec2, ou_f (by decide)]
      · rw [ou_s, ec2, ou_s]
      · rw [ou_f (by decide), ou_s, if_neg (by omega)]
      · intro f a b; rw [ou_ff a, ou_ff b]
      · intro j a b c; rw [ou_i c, ou_f (by decide)]
    rw [ec] at fin
    refine dp_br (fun c => dp_sm ?_) (fun c => dp_sm ?_)
    · rw [if_pos c] at fin; exact fin
    · rw [if_neg c] at fin; exact fin
  refine dp_no c0 ?_
  by_cases c5 : k = 5
  · have ec : so_cup o k n ot s w = (0, ob_u o 7 0 (o 7 0 + w)) := by unfold so_cup; rw [if_neg c0, if_neg (by omega), if_neg (by omega), if_neg (by omega), if_neg (by omega)]
    have ec2 : (so_cup o k n ot s w).2 = ob_u o 7 0 (o 7 0 + w) := by rw [ec]
    refine dp_no (by omega) (dp_ck (by omega) (dp_le (dp_ck c0 (dp_sm ?_))))
    have fin : K ((so_cup o k n ot s w).1, ob_z Y 114 (ob_u (ob_u m 34 0 0) 0 (e + 136) (o 7 0 + w))) := by
      apply kk
      · rw [ou_i (by omega), ou_f (by decide), h0, ec2, ou_f (by decide)]
      · rw [ou_i (by omega), ou_f (by decide), h1, ec2, ou_f (by decide)]
      · rw [ou_s, ec2, ou_s]
      · rw [ou_f (by decide), ou_s, if_neg (by omega)]
      · intro f a b; rw [ou_ff a, ou_ff b]
      · intro j a b c; rw [ou_i c, ou_f (by decide)]
    rw [ec] at fin
    exact fin
  refine dp_ck c5 ?_
  obtain ⟨hmn, hn1, hn2⟩ := hn ⟨c0, c5⟩
  have en : dz_c n = n := dc_ir (by omega) (by omega)
  simp only [hmn, en]
  by_cases c3 : k = 3
  · have ec : so_cup o k n ot s w = (Int.tdiv (dz_c (o 1 s + w)) n, ob_u (ob_u o 7 0 (o 7 0 + w)) 1 s (o 1 s + w - Int.tdiv (dz_c (o 1 s + w)) n * n)) := by rw [c3]; exact so_cup_3
    have ec2 : (so_cup o k n ot s w).2 = ob_u (ob_u o 7 0 (o 7 0 + w)) 1 s (o 1 s + w - Int.tdiv (dz_c (o 1 s + w)) n * n) := by rw [ec]
    refine dp_no (by omega) (dp_ck (by omega) (dp_ck (by omega) (dp_le (dp_ck (by omega) (dp_le (dp_sm ?_))))))
    have fin : K ((so_cup o k n ot s w).1, ob_z Y 114 (ob_u (ob_u (ob_u m 34 0 0) 0 (e + 136) (o 7 0 + w)) 0 (e + 94 + s) (Int.tmod (dz_c (o 1 s + w)) n))) := by
      have etm : Int.tmod (dz_c (o 1 s + w)) n = o 1 s + w - Int.tdiv (dz_c (o 1 s + w)) n * n := by
        have h := Int.tmod_add_mul_tdiv (dz_c (o 1 s + w)) n
        rw [Int.mul_comm] at h
        have h2 : dz_c (o 1 s + w) = o 1 s + w := dc_ir hc.1 hc.2
        rw [h2] at h ⊢
        omega
      apply kk
      · rw [ou_i (by omega), ou_i (by omega), ou_f (by decide), h0, ec2, ou_f (by decide), ou_f (by decide)]
      · rw [ou_s, ec2, ou_s, etm]
      · rw [ou_i (by omega), ou_s, ec2, ou_f (by decide), ou_s]
      · rw [ou_f (by decide), ou_f (by decide), ou_s, if_neg (by omega)]
      · intro f a b; rw [ou_ff a, ou_ff a, ou_ff b]
      · intro j a b c; rw [ou_i b, ou_i c, ou_f (by decide)]
    rw [ec] at fin
    simp only [oz_uz]
    exact fin
  refine dp_ck c3 (dp_ck (by omega) ?_)
  by_cases c2 : k = 2
  · have ec : so_cup o k n ot s w = (if dz_c (o 0 s + w) < n then (if dz_c (o 0 s + w) ≤ 0 then (0, ob_u o 0 s (o 0 s + w)) else (0, ob_u (ob_u o 0 s (o 0 s + w - 1)) 7 0 (o 7 0 + 1))) else (1, ob_u (ob_u o 0 s 0) 7 0 (o 7 0 + (o 0 s + w)))) := by rw [c2]; exact so_cup_2
    refine dp_no (by omega) (dp_bi ?_)
    have fin : ∀ q : Int, q = (if dz_c (o 0 s + w) < n then (if dz_c (o 0 s + w) ≤ 0 then 0 else 1) else o 0 s + w) → K ((so_cup o k n ot s w).1, ob_z Y 114 (ob_u (ob_u (ob_u m 34 0 0) 0 (e + 136) (o 7 0 + q)) 0 (e + 86 + s) (o 0 s + w - q))) := by
      intro q hq
      apply kk
      · rw [ou_s, ec, hq]
        split
        · split
          · simp only [ou_s]; omega
          · simp only [ou_f (show (0 : Nat) ≠ 7 by decide), ou_s]
        · simp only [ou_f (show (0 : Nat) ≠ 7 by decide), ou_s]; omega
      · rw [ou_i (by omega), ou_i (by omega), ou_f (by decide), h1, ec]
        split
        · split
          · simp only [ou_f (show (1 : Nat) ≠ 0 by decide)]
          · simp only [ou_f (show (1 : Nat) ≠ 0 by decide), ou_f (show (1 : Nat) ≠ 7 by decide)]
        · simp only [ou_f (show (1 : Nat) ≠ 0 by decide), ou_f (show (1 : Nat) ≠ 7 by decide)]
      · rw [ou_i (by omega), ou_s, ec, hq]
        split
        · split
          · simp only [ou_f (show (7 : Nat) ≠ 0 by decide)]; omega
          · simp only [ou_s]
        · simp only [ou_s]
      · rw [ou_f (by decide), ou_f (by decide), ou_s, if_neg (by omega)]
      · intro f a b; rw [ou_ff a, ou_ff a, ou_ff b]
      · intro j a b c; rw [ou_i a, ou_i c, ou_f (by decide)]
    rw [ec] at fin
    refine dp_br (fun d1 => dp_br (fun d2 => dp_sm ?_) (fun d2 => dp_sm ?_)) (fun d1 => dp_sm ?_)
    · have := fin 0 (by rw [if_pos d1, if_pos d2])
      rw [if_pos d1, if_pos d2] at this
      exact dp_ck (by omega) (dp_le (dp_le (dp_ck d1 (dp_sm (by simp only [oz_uz]; exact this)))))
    · have := fin 1 (by rw [if_pos d1, if_neg d2])
      rw [if_pos d1, if_neg d2] at this
      exact dp_ck (by omega) (dp_le (dp_le (dp_ck d1 (dp_sm (by simp only [oz_uz]; exact this)))))
    · have := fin (o 0 s + w) (by rw [if_neg d1])
      rw [if_neg d1] at this
      exact dp_ck (by omega) (dp_le (dp_le (dp_no d1 (dp_sm (by simp only [oz_uz]; exact this)))))
  refine dp_ck c2 (dp_ck (by omega) (dp_le (dp_le (dp_ck (by omega) (dp_bi ?_)))))
  simp only [oz_uz, oz_s]
  by_cases c1 : k = 1
  · have ec : so_cup o k n ot s w = (so_tip o s n w, ob_u (ob_u o 0 s (o 0 s + w - so_tip o s n w * n)) 7 0 (o 7 0 + so_tip o s n w * n)) := by unfold so_cup; rw [if_neg c0, if_pos c1]
    have ec2 : (so_cup o k n ot s w).2 = ob_u (ob_u o 0 s (o 0 s + w - so_tip o s n w * n)) 7 0 (o 7 0 + so_tip o s n w * n) := by rw [ec]
    refine dp_no (by omega) (dp_sm (dp_le (dp_bi (dp_ck (by omega) (dp_sm (dp_le (dp_sm ?_)))))))
    have fin : K ((so_cup o k n ot s w).1, ob_z Y 114 (ob_u (ob_u (ob_u (ob_u m 34 0 0) 0 (e + 86 + s) (o 0 s + w - so_tip o s n w * n)) 0 (e + 136) (o 7 0 + so_tip o s n w * n)) 34 0 0)) := by
      apply kk
      · rw [ou_f (by decide), ou_i (by omega), ou_s, ec2, ou_f (by decide), ou_s]
      · rw [ou_f (by decide), ou_i (by omega), ou_i (by omega), ou_f (by decide), h1, ec2, ou_f (by decide), ou_f (by decide)]
      · rw [ou_f (by decide), ou_s, ec2, ou_s]
      · rw [ou_s, if_neg (by omega)]
      · intro f a b; rw [ou_ff b, ou_ff a, ou_ff a, ou_ff b]
      · intro j a b c; rw [ou_f (by decide), ou_i c, ou_i a, ou_f (by decide)]
    rw [ec] at fin
    simp only [oz_uz, ou_i (show e + 136 ≠ e + 86 + s by omega), ou_f (show (0 : Nat) ≠ 34 by decide), h7]
    exact fin
  · have c4 : k = 4 := by omega
    have ec : so_cup o k n ot s w = (so_tip o s n w, ob_u (ob_u o 0 s (o 0 s + w - so_tip o s n w * n)) 3 ot (o 3 ot + so_tip o s n w * n)) := by unfold so_cup; rw [if_neg c0, if_neg c1, if_neg c2, if_neg c3, if_pos c4]
    have ec2 : (so_cup o k n ot s w).2 = ob_u (ob_u o 0 s (o 0 s + w - so_tip o s n w * n)) 3 ot (o 3 ot + so_tip o s n w * n) := by rw [ec]
    refine dp_ck c1 (dp_sm (dp_le (dp_bi (dp_no (by omega) (dp_sm (dp_le (dp_sm ?_)))))))
    have fin : K ((so_cup o k n ot s w).1, ob_z Y 114 (ob_u (ob_u (ob_u (ob_u m 34 0 0) 0 (e + 86 + s) (o 0 s + w - so_tip o s n w * n)) 0 (e + 136) (o 7 0 + 0)) 34 0 (so_tip o s n w * n))) := by
      apply kk
      · rw [ou_f (by decide), ou_i (by omega), ou_s, ec2, ou_f (by decide), ou_s]
      · rw [ou_f (by decide), ou_i (by omega), ou_i (by omega), ou_f (by decide), h1, ec2, ou_f (by decide), ou_f (by decide)]
      · rw [ou_f (by decide), ou_s, ec2, ou_f (by decide), ou_f (by decide)]; omega
      · rw [ou_s, if_pos c4]
      · intro f a b; rw [ou_ff b, ou_ff a, ou_ff a, ou_ff b]
      · intro j a b c; rw [ou_f (by decide), ou_i c, ou_i a, ou_f (by decide)]
    rw [ec] at fin
    simp only [oz_uz, ou_i (show e + 136 ≠ e + 86 + s by omega), ou_f (show (0 : Nat) ≠ 34 by decide), h7]
    exact fin
end mc
end mg_35mc
