/-! the law as a program, and what is wanted of the mini-machine out of it -/
def dz_sc (xs : List Int32) (j : Int) : Int := (xs.getD j.toNat 0).toInt
section sx
variable {Dp : Nat} {r : mm_R} {pc pc' : Nat} {ls : mm_L} {t : List Value} {h : mm_H} {Q : Option Value → mm_H → Prop} {j j' : Int} {xs : List Int32}
theorem wq_sx (hat : mm_at r pc = some (.iaload, 1)) (hj : dz_c j = j') (h0 : 0 ≤ j') (h1 : j' < (xs.length : Int)) (hp : pc + 1 = pc') (kk : mm_Wp (some xs) Dp r pc' ls (dz_I (dz_sc xs j') :: t) h Q) : mm_Wp (some xs) Dp r pc ls (dz_I j :: .retAddr 0 :: t) h Q := by
  subst hp
  refine wp_s hat (ls' := ls) (st' := dz_I (dz_sc xs j') :: t) (h' := h) ?_ kk
  have e : mm_g1 (some xs) .iaload (dz_I j :: .retAddr 0 :: t) h = some (dz_I (dz_sc xs j') :: t) := by
    unfold mm_g1
    simp only [dz_in hj h0 h1, cond_true]
    rw [dz_tn, hj]
    unfold dz_sc
    show some (Value.int _ :: t) = some (Value.int (Int32.ofInt (xs.getD j'.toNat 0).toInt) :: t)
    rw [dz_oc]
  show (match mm_g1 (some xs) .iaload (dz_I j :: .retAddr 0 :: t) h with | some t => (.inl (some (pc + 1, ls, t, h)) : mm_O) | none => .inl ((mm_g2 .iaload (dz_I j :: .retAddr 0 :: t) h).map (fun q : List Value × mm_H => (pc + 1, ls, q.1, q.2)))) = _
  rw [e]
theorem wq_sl (hat : mm_at r pc = some (.arraylength, 1)) (hp : pc + 1 = pc') (kk : mm_Wp (some xs) Dp r pc' ls (dz_I (xs.length : Int) :: t) h Q) : mm_Wp (some xs) Dp r pc ls (.retAddr 0 :: t) h Q := by
  subst hp
  exact wp_s hat (ls' := ls) (st' := dz_I (xs.length : Int) :: t) (h' := h) rfl kk
end sx
def jf_L (xs : List Int32) (Z : dz_Z) : Option (Bool × dz_Z) := dz_lp (fun (s1 : Int × dz_Z) => if dz_c ((xs.length : Int) - 5) < dz_c s1.1 then (some (Sum.inr (true, s1.2))) else (if 0 ≤ dz_c s1.1 ∧ dz_c s1.1 < (xs.length : Int) then if dz_c (dz_an (dz_sc xs (dz_c s1.1)) 63) = 0 then (if 0 ≤ dz_c (s1.1 + 1) ∧ dz_c (s1.1 + 1) < (xs.length : Int) then if 0 ≤ dz_c (s1.1 + 2) ∧ dz_c (s1.1 + 2) < (xs.length : Int) then Option.bind (jf_O_feed (dz_lor (dz_lsl (dz_c (dz_sc xs (dz_c (s1.1 + 1)))) 32) (dz_lan (dz_c (dz_sc xs (dz_c (s1.1 + 2)))) 4294967295)) s1.2) fun q7 => Option.bind (jf_M_feed (dz_lor (dz_lsl (dz_c (dz_sc xs (dz_c (s1.1 + 1)))) 32) (dz_lan (dz_c (dz_sc xs (dz_c (s1.1 + 2)))) 4294967295)) q7.2) fun q8 => if dz_c q7.1 = dz_c q8.1 then (some (Sum.inl (s1.1 + 5, q8.2))) else (some (Sum.inr (false, q8.2))) else none else none) else (if dz_c (dz_an (dz_sc xs (dz_c s1.1)) 63) = 1 then (if 0 ≤ dz_c (s1.1 + 1) ∧ dz_c (s1.1 + 1) < (xs.length : Int) then Option.bind (jf_O_end (dz_sc xs (dz_c (s1.1 + 1))) s1.2) fun q12 => Option.bind (jf_M_end (dz_sc xs (dz_c (s1.1 + 1))) q12.2) fun q13 => some (Sum.inl (s1.1 + 5, q13.2)) else none) else (if dz_c (dz_an (dz_sc xs (dz_c s1.1)) 63) = 2 then (Option.bind (jf_O_organ s1.2) fun q15 => Option.bind (jf_M_organ q15.2) fun q16 => some (Sum.inl (s1.1 + 5, q16.2))) else (if dz_c (dz_an (dz_sc xs (dz_c s1.1)) 63) = 3 then (Option.bind (jf_O_fault s1.2) fun q18 => Option.bind (jf_M_fault s1.2) fun q19 => some (Sum.inl (s1.1 + 5, s1.2))) else (if dz_c (dz_an (dz_sc xs (dz_c s1.1)) 63) = 4 then (if 0 ≤ dz_c (s1.1 + 1) ∧ dz_c (s1.1 + 1) < (xs.length : Int) then Option.bind (jf_O_rule (dz_sc xs (dz_c (s1.1 + 1))) s1.2) fun q22 => Option.bind (jf_M_rule (dz_sc xs (dz_c (s1.1 + 1))) s1.2) fun q23 => some (Sum.inl (s1.1 + 5, s1.2)) else none) else (if dz_c (dz_an (dz_sc xs (dz_c s1.1)) 63) = 5 then (if 0 ≤ dz_c (s1.1 + 1) ∧ dz_c (s1.1 + 1) < (xs.length : Int) then if 0 ≤ dz_c (s1.1 + 2) ∧ dz_c (s1.1 + 2) < (xs.length : Int) then Option.bind (jf_O_gutter (dz_sc xs (dz_c (s1.1 + 1))) (dz_sc xs (dz_c (s1.1 + 2))) s1.2) fun q27 => Option.bind (jf_M_gutter (dz_sc xs (dz_c (s1.1 + 1))) (dz_sc xs (dz_c (s1.1 + 2))) s1.2) fun q28 => some (Sum.inl (s1.1 + 5, s1.2)) else none else none) else (if dz_c (dz_an (dz_sc xs (dz_c s1.1)) 63) = 6 then (if 0 ≤ dz_c (s1.1 + 1) ∧ dz_c (s1.1 + 1) < (xs.length : Int) then if 0 ≤ dz_c (s1.1 + 2) ∧ dz_c (s1.1 + 2) < (xs.length : Int) then Option.bind (jf_O_spout (dz_sc xs (dz_c (s1.1 + 1))) (dz_sc xs (dz_c (s1.1 + 2))) s1.2) fun q32 => Option.bind (jf_M_spout (dz_sc xs (dz_c (s1.1 + 1))) (dz_sc xs (dz_c (s1.1 + 2))) s1.2) fun q33 => some (Sum.inl (s1.1 + 5, s1.2)) else none else none) else (if dz_c (dz_an (dz_sc xs (dz_c s1.1)) 63) = 7 then (if 0 ≤ dz_c (s1.1 + 1) ∧ dz_c (s1.1 + 1) < (xs.length : Int) then if 0 ≤ dz_c (s1.1 + 2) ∧ dz_c (s1.1 + 2) < (xs.length : Int) then Option.bind (jf_O_peg (dz_sc xs (dz_c (s1.1 + 1))) (dz_sc xs (dz_c (s1.1 + 2))) s1.2) fun q37 => Option.bind (jf_M_peg (dz_sc xs (dz_c (s1.1 + 1))) (dz_sc xs (dz_c (s1.1 + 2))) q37.2) fun q38 => some (Sum.inl (s1.1 + 5, q38.2)) else none else none) else (if dz_c (dz_an (dz_sc xs (dz_c s1.1)) 63) = 8 then (if 0 ≤ dz_c (s1.1 + 1) ∧ dz_c (s1.1 + 1) < (xs.length : Int) then if 0 ≤ dz_c (s1.1 + 2) ∧ dz_c (s1.1 + 2) < (xs.length : Int) then Option.bind (α := Int) (if dz_c (dz_sc xs (dz_c (s1.1 + 2))) = 0 then (some 0) else (some 1)) (fun (q43 : Int) => Option.bind (jf_O_block (dz_sc xs (dz_c (s1.1 + 1))) q43 s1.2) fun q44 => Option.bind (α := Int) (if dz_c (dz_sc xs (dz_c (s1.1 + 2))) = 0 then (some 0) else (some 1)) (fun (q46 : Int) => Option.bind (jf_M_block (dz_sc xs (dz_c (s1.1 + 1))) q46 q44.2) fun q47 => some (Sum.inl (s1.1 + 5, q47.2)))) else none else none) else (if dz_c (dz_an (dz_sc xs (dz_c s1.1)) 63) = 9 then (if 0 ≤ dz_c (s1.1 + 1) ∧ dz_c (s1.1 + 1) < (xs.length : Int) then if 0 ≤ dz_c (s1.1 + 2) ∧ dz_c (s1.1 + 2) < (xs.length : Int) then Option.bind (jf_O_cup (dz_sc xs (dz_c (s1.1 + 1))) (dz_sc xs (dz_c (s1.1 + 2))) s1.2) fun q53 => Option.bind (jf_M_cup (dz_sc xs (dz_c (s1.1 + 1))) (dz_sc xs (dz_c (s1.1 + 2))) q53.2) fun q54 => some (Sum.inl (s1.1 + 5, q54.2)) else none else none) else (if dz_c (dz_an (dz_sc xs (dz_c s1.1)) 63) = 10 then (if 0 ≤ dz_c (s1.1 + 1) ∧ dz_c (s1.1 + 1) < (xs.length : Int) then Option.bind (jf_O_settings (dz_sc xs (dz_c (s1.1 + 1))) s1.2) fun q57 => Option.bind (jf_M_settings (dz_sc xs (dz_c (s1.1 + 1))) q57.2) fun q58 => some (Sum.inl (s1.1 + 5, q58.2)) else none) else (if dz_c (dz_an (dz_sc xs (dz_c s1.1)) 63) = 11 then (if 0 ≤ dz_c (s1.1 + 1) ∧ dz_c (s1.1 + 1) < (xs.length : Int) then Option.bind (jf_O_rain (dz_sc xs (dz_c (s1.1 + 1))) s1.2) fun q61 => Option.bind (jf_M_rain (dz_sc xs (dz_c (s1.1 + 1))) q61.2) fun q62 => some (Sum.inl (s1.1 + 5, q62.2)) else none) else (if dz_c (dz_an (dz_sc xs (dz_c s1.1)) 63) = 12 then (Option.bind (jf_O_dry s1.2) fun q64 => Option.bind (jf_M_dry q64.2) fun q65 => some (Sum.inl (s1.1 + 5, q65.2))) else (if dz_c (dz_an (dz_sc xs (dz_c s1.1)) 63) = 13 then (if 0 ≤ dz_c (s1.1 + 1) ∧ dz_c (s1.1 + 1) < (xs.length : Int) then Option.bind (jf_O_water (dz_sc xs (dz_c (s1.1 + 1))) s1.2) fun q68 => Option.bind (jf_M_water (dz_sc xs (dz_c (s1.1 + 1))) s1.2) fun q69 => some (Sum.inl (s1.1 + 5, s1.2)) else none) else (if dz_c (dz_an (dz_sc xs (dz_c s1.1)) 63) = 14 then (if 0 ≤ dz_c (s1.1 + 1) ∧ dz_c (s1.1 + 1) < (xs.length : Int) then Option.bind (jf_O_loud (dz_sc xs (dz_c (s1.1 + 1))) s1.2) fun q72 => Option.bind (jf_M_loud (dz_sc xs (dz_c (s1.1 + 1))) s1.2) fun q73 => some (Sum.inl (s1.1 + 5, s1.2)) else none) else (if dz_c (dz_an (dz_sc xs (dz_c s1.1)) 63) = 15 then (if 0 ≤ dz_c (s1.1 + 1) ∧ dz_c (s1.1 + 1) < (xs.length : Int) then if 0 ≤ dz_c (s1.1 + 2) ∧ dz_c (s1.1 + 2) < (xs.length : Int) then Option.bind (jf_O_shower (dz_sc xs (dz_c (s1.1 + 1))) (dz_sc xs (dz_c (s1.1 + 2))) s1.2) fun q77 => Option.bind (jf_M_shower (dz_sc xs (dz_c (s1.1 + 1))) (dz_sc xs (dz_c (s1.1 + 2))) s1.2) fun q78 => some (Sum.inl (s1.1 + 5, s1.2)) else none else none) else (if dz_c (dz_an (dz_sc xs (dz_c s1.1)) 63) = 16 then (if 0 ≤ dz_c (s1.1 + 1) ∧ dz_c (s1.1 + 1) < (xs.length : Int) then if 0 ≤ dz_c (s1.1 + 2) ∧ dz_c (s1.1 + 2) < (xs.length : Int) then Option.bind (jf_O_plays (dz_sc xs (dz_c (s1.1 + 1))) (dz_sc xs (dz_c (s1.1 + 2))) s1.2) fun q82 => Option.bind (jf_M_plays (dz_sc xs (dz_c (s1.1 + 1))) (dz_sc xs (dz_c (s1.1 + 2))) q82.2) fun q83 => some (Sum.inl (s1.1 + 5, q83.2)) else none else none) else (if dz_c (dz_an (dz_sc xs (dz_c s1.1)) 63) = 17 then (if 0 ≤ dz_c (s1.1 + 1) ∧ dz_c (s1.1 + 1) < (xs.length : Int) then if 0 ≤ dz_c (s1.1 + 2) ∧ dz_c (s1.1 + 2) < (xs.length : Int) then Option.bind (jf_O_falls (dz_sc xs (dz_c (s1.1 + 1))) (dz_sc xs (dz_c (s1.1 + 2))) s1.2) fun q87 => Option.bind (jf_M_falls (dz_sc xs (dz_c (s1.1 + 1))) (dz_sc xs (dz_c (s1.1 + 2))) q87.2) fun q88 => some (Sum.inl (s1.1 + 5, q88.2)) else none else none) else (if dz_c (dz_an (dz_sc xs (dz_c s1.1)) 63) = 18 then (if 0 ≤ dz_c (s1.1 + 1) ∧ dz_c (s1.1 + 1) < (xs.length : Int) then Option.bind (jf_O_tune (dz_sc xs (dz_c (s1.1 + 1))) s1.2) fun q91 => Option.bind (jf_M_tune (dz_sc xs (dz_c (s1.1 + 1))) s1.2) fun q92 => some (Sum.inl (s1.1 + 5, s1.2)) else none) else (if dz_c (dz_an (dz_sc xs (dz_c s1.1)) 63) = 19 then (if 0 ≤ dz_c (s1.1 + 1) ∧ dz_c (s1.1 + 1) < (xs.length : Int) then if 0 ≤ dz_c (s1.1 + 2) ∧ dz_c (s1.1 + 2) < (xs.length : Int) then Option.bind (jf_O_tells (dz_sc xs (dz_c (s1.1 + 1))) (dz_sc xs (dz_c (s1.1 + 2))) s1.2) fun q96 => Option.bind (jf_M_tells (dz_sc xs (dz_c (s1.1 + 1))) (dz_sc xs (dz_c (s1.1 + 2))) q96.2) fun q97 => some (Sum.inl (s1.1 + 5, q97.2)) else none else none) else (if dz_c (dz_an (dz_sc xs (dz_c s1.1)) 63) = 20 then (if 0 ≤ dz_c (s1.1 + 1) ∧ dz_c (s1.1 + 1) < (xs.length : Int) then Option.bind (jf_O_far (dz_sc xs (dz_c (s1.1 + 1))) s1.2) fun q100 => Option.bind (jf_M_far (dz_sc xs (dz_c (s1.1 + 1))) q100.2) fun q101 => some (Sum.inl (s1.1 + 5, q101.2)) else none) else (if dz_c (dz_an (dz_sc xs (dz_c s1.1)) 63) = 21 then (if 0 ≤ dz_c (s1.1 + 1) ∧ dz_c (s1.1 + 1) < (xs.length : Int) then if 0 ≤ dz_c (s1.1 + 2) ∧ dz_c (s1.1 + 2) < (xs.length : Int) then Option.bind (jf_O_best (dz_sc xs (dz_c (s1.1 + 1))) (dz_sc xs (dz_c (s1.1 + 2))) s1.2) fun q105 => Option.bind (jf_M_best (dz_sc xs (dz_c (s1.1 + 1))) (dz_sc xs (dz_c (s1.1 + 2))) q105.2) fun q106 => some (Sum.inl (s1.1 + 5, q106.2)) else none else none) else (if dz_c (dz_an (dz_sc xs (dz_c s1.1)) 63) = 22 then (if 0 ≤ dz_c (s1.1 + 1) ∧ dz_c (s1.1 + 1) < (xs.length : Int) then if 0 ≤ dz_c (s1.1 + 2) ∧ dz_c (s1.1 + 2) < (xs.length : Int) then Option.bind (jf_O_fewest (dz_sc xs (dz_c (s1.1 + 1))) (dz_sc xs (dz_c (s1.1 + 2))) s1.2) fun q110 => Option.bind (jf_M_fewest (dz_sc xs (dz_c (s1.1 + 1))) (dz_sc xs (dz_c (s1.1 + 2))) q110.2) fun q111 => some (Sum.inl (s1.1 + 5, q111.2)) else none else none) else (if dz_c (dz_an (dz_sc xs (dz_c s1.1)) 63) = 23 then (if 0 ≤ dz_c (s1.1 + 1) ∧ dz_c (s1.1 + 1) < (xs.length : Int) then Option.bind (jf_O_all (dz_sc xs (dz_c (s1.1 + 1))) s1.2) fun q114 => Option.bind (jf_M_all (dz_sc xs (dz_c (s1.1 + 1))) q114.2) fun q115 => some (Sum.inl (s1.1 + 5, q115.2)) else none) else (if dz_c (dz_an (dz_sc xs (dz_c s1.1)) 63) = 24 then (if 0 ≤ dz_c (s1.1 + 1) ∧ dz_c (s1.1 + 1) < (xs.length : Int) then if 0 ≤ dz_c (s1.1 + 2) ∧ dz_c (s1.1 + 2) < (xs.length : Int) then Option.bind (jf_O_quiet (dz_sc xs (dz_c (s1.1 + 1))) (dz_sc xs (dz_c (s1.1 + 2))) s1.2) fun q119 => Option.bind (jf_M_quiet (dz_sc xs (dz_c (s1.1 + 1))) (dz_sc xs (dz_c (s1.1 + 2))) q119.2) fun q120 => some (Sum.inl (s1.1 + 5, q120.2)) else none else none) else (if dz_c (dz_an (dz_sc xs (dz_c s1.1)) 63) = 25 then (if 0 ≤ dz_c (s1.1 + 1) ∧ dz_c (s1.1 + 1) < (xs.length : Int) then Option.bind (jf_O_woken (dz_sc xs (dz_c (s1.1 + 1))) s1.2) fun q123 => Option.bind (jf_M_woken (dz_sc xs (dz_c (s1.1 + 1))) q123.2) fun q124 => some (Sum.inl (s1.1 + 5, q124.2)) else none) else (if dz_c (dz_an (dz_sc xs (dz_c s1.1)) 63) = 26 then (if 0 ≤ dz_c (s1.1 + 1) ∧ dz_c (s1.1 + 1) < (xs.length : Int) then Option.bind (jf_O_heard (dz_sc xs (dz_c (s1.1 + 1))) s1.2) fun q127 => Option.bind (jf_M_heard (dz_sc xs (dz_c (s1.1 + 1))) q127.2) fun q128 => some (Sum.inl (s1.1 + 5, q128.2)) else none) else (if dz_c (dz_an (dz_sc xs (dz_c s1.1)) 63) = 27 then (if 0 ≤ dz_c (s1.1 + 1) ∧ dz_c (s1.1 + 1) < (xs.length : Int) then Option.bind (jf_O_blocked (dz_sc xs (dz_c (s1.1 + 1))) s1.2) fun q131 => Option.bind (jf_M_blocked (dz_sc xs (dz_c (s1.1 + 1))) q131.2) fun q132 => some (Sum.inl (s1.1 + 5, q132.2)) else none) else (if dz_c (dz_an (dz_sc xs (dz_c s1.1)) 63) = 28 then (if 0 ≤ dz_c (s1.1 + 1) ∧ dz_c (s1.1 + 1) < (xs.length : Int) then Option.bind (jf_O_frozen (dz_sc xs (dz_c (s1.1 + 1))) s1.2) fun q135 => Option.bind (jf_M_frozen (dz_sc xs (dz_c (s1.1 + 1))) q135.2) fun q136 => some (Sum.inl (s1.1 + 5, q136.2)) else none) else (if dz_c (dz_an (dz_sc xs (dz_c s1.1)) 63) = 29 then (if 0 ≤ dz_c (s1.1 + 1) ∧ dz_c (s1.1 + 1) < (xs.length : Int) then if 0 ≤ dz_c (s1.1 + 2) ∧ dz_c (s1.1 + 2) < (xs.length : Int) then Option.bind (jf_O_lasts (dz_sc xs (dz_c (s1.1 + 1))) (dz_sc xs (dz_c (s1.1 + 2))) s1.2) fun q140 => Option.bind (jf_M_lasts (dz_sc xs (dz_c (s1.1 + 1))) (dz_sc xs (dz_c (s1.1 + 2))) q140.2) fun q141 => some (Sum.inl (s1.1 + 5, q141.2)) else none else none) else (if dz_c (dz_an (dz_sc xs (dz_c s1.1)) 63) = 30 then (if 0 ≤ dz_c (s1.1 + 1) ∧ dz_c (s1.1 + 1) < (xs.length : Int) then if 0 ≤ dz_c (s1.1 + 2) ∧ dz_c (s1.1 + 2) < (xs.length : Int) then if 0 ≤ dz_c (s1.1 + 3) ∧ dz_c (s1.1 + 3) < (xs.length : Int) then if 0 ≤ dz_c (s1.1 + 4) ∧ dz_c (s1.1 + 4) < (xs.length : Int) then Option.bind (jf_O_draws (dz_sc xs (dz_c (s1.1 + 1))) (dz_sc xs (dz_c (s1.1 + 2))) (dz_sc xs (dz_c (s1.1 + 3))) (dz_sc xs (dz_c (s1.1 + 4))) s1.2) fun q147 => Option.bind (jf_M_draws (dz_sc xs (dz_c (s1.1 + 1))) (dz_sc xs (dz_c (s1.1 + 2))) (dz_sc xs (dz_c (s1.1 + 3))) (dz_sc xs (dz_c (s1.1 + 4))) q147.2) fun q148 => some (Sum.inl (s1.1 + 5, q148.2)) else none else none else none else none) else (if dz_c (dz_an (dz_sc xs (dz_c s1.1)) 63) = 31 then (if 0 ≤ dz_c (s1.1 + 1) ∧ dz_c (s1.1 + 1) < (xs.length : Int) then Option.bind (jf_O_keep (dz_sc xs (dz_c (s1.1 + 1))) s1.2) fun q151 => Option.bind (jf_M_keep (dz_sc xs (dz_c (s1.1 + 1))) q151.2) fun q152 => some (Sum.inl (s1.1 + 5, q152.2)) else none) else (if dz_c (dz_an (dz_sc xs (dz_c s1.1)) 63) = 32 then (if 0 ≤ dz_c (s1.1 + 1) ∧ dz_c (s1.1 + 1) < (xs.length : Int) then Option.bind (jf_O_back (dz_sc xs (dz_c (s1.1 + 1))) s1.2) fun q155 => Option.bind (jf_M_back (dz_sc xs (dz_c (s1.1 + 1))) q155.2) fun q156 => some (Sum.inl (s1.1 + 5, q156.2)) else none) else (if dz_c (dz_an (dz_sc xs (dz_c s1.1)) 63) = 33 then (if 0 ≤ dz_c (s1.1 + 1) ∧ dz_c (s1.1 + 1) < (xs.length : Int) then if 0 ≤ dz_c (s1.1 + 2) ∧ dz_c (s1.1 + 2) < (xs.length : Int) then if 0 ≤ dz_c (s1.1 + 3) ∧ dz_c (s1.1 + 3) < (xs.length : Int) then Option.bind (jf_O_sheet (dz_sc xs (dz_c (s1.1 + 1))) (dz_sc xs (dz_c (s1.1 + 2))) (dz_sc xs (dz_c (s1.1 + 3))) s1.2) fun q161 => Option.bind (jf_M_sheet (dz_sc xs (dz_c (s1.1 + 1))) (dz_sc xs (dz_c (s1.1 + 2))) (dz_sc xs (dz_c (s1.1 + 3))) q161.2) fun q162 => some (Sum.inl (s1.1 + 5, q162.2)) else none else none else none) else (if dz_c (dz_an (dz_sc xs (dz_c s1.1)) 63) = 34 then (if 0 ≤ dz_c (s1.1 + 1) ∧ dz_c (s1.1 + 1) < (xs.length : Int) then if 0 ≤ dz_c (s1.1 + 2) ∧ dz_c (s1.1 + 2) < (xs.length : Int) then if 0 ≤ dz_c (s1.1 + 3) ∧ dz_c (s1.1 + 3) < (xs.length : Int) then Option.bind (jf_O_lay (dz_sc xs (dz_c (s1.1 + 1))) (dz_sc xs (dz_c (s1.1 + 2))) (dz_sc xs (dz_c (s1.1 + 3))) s1.2) fun q167 => Option.bind (jf_M_lay (dz_sc xs (dz_c (s1.1 + 1))) (dz_sc xs (dz_c (s1.1 + 2))) (dz_sc xs (dz_c (s1.1 + 3))) q167.2) fun q168 => some (Sum.inl (s1.1 + 5, q168.2)) else none else none else none) else (if dz_c (dz_an (dz_sc xs (dz_c s1.1)) 63) = 35 then (if 0 ≤ dz_c (s1.1 + 1) ∧ dz_c (s1.1 + 1) < (xs.length : Int) then if 0 ≤ dz_c (s1.1 + 2) ∧ dz_c (s1.1 + 2) < (xs.length : Int) then if 0 ≤ dz_c (s1.1 + 3) ∧ dz_c (s1.1 + 3) < (xs.length : Int) then if 0 ≤ dz_c (s1.1 + 4) ∧ dz_c (s1.1 + 4) < (xs.length : Int) then Option.bind (jf_O_read (dz_sc xs (dz_c (s1.1 + 1))) (dz_sc xs (dz_c (s1.1 + 2))) (dz_sc xs (dz_c (s1.1 + 3))) (dz_sc xs (dz_c (s1.1 + 4))) s1.2) fun q174 => Option.bind (jf_M_read (dz_sc xs (dz_c (s1.1 + 1))) (dz_sc xs (dz_c (s1.1 + 2))) (dz_sc xs (dz_c (s1.1 + 3))) (dz_sc xs (dz_c (s1.1 + 4))) q174.2) fun q175 => some (Sum.inl (s1.1 + 5, q175.2)) else none else none else none else none) else (if dz_c (dz_an (dz_sc xs (dz_c s1.1)) 63) = 36 then (Option.bind (jf_O_torn s1.2) fun q177 => Option.bind (jf_M_torn s1.2) fun q178 => some (Sum.inl (s1.1 + 5, s1.2))) else (if dz_c (dz_an (dz_sc xs (dz_c s1.1)) 63) = 37 then (if 0 ≤ dz_c (s1.1 + 1) ∧ dz_c (s1.1 + 1) < (xs.length : Int) then Option.bind (jf_O_count (dz_sc xs (dz_c (s1.1 + 1))) s1.2) fun q181 => Option.bind (jf_M_count (dz_sc xs (dz_c (s1.1 + 1))) s1.2) fun q182 => some (Sum.inl (s1.1 + 5, s1.2)) else none) else (some (Sum.inl (s1.1 + 5, s1.2)))))))))))))))))))))))))))))))))))))))) else none)) 5000 (0, Z)
set_option maxRecDepth 20000 in
set_option maxHeartbeats 4000000 in
theorem jw_L {D : Nat} {Q : Option Value → mm_H → Prop} (xs : List Int32) (Z : dz_Z) (H : dz_p (jf_L xs Z) (fun q => Q (some (dz_B q.1)) (hz_0 q.2))) : mm_Wp (some xs) (D + 10) mm_rL 18 [some (.retAddr 0), some (.ref 0), some (.ref 114), some (dz_I 0)] [] (hz_0 Z) Q := by
  unfold jf_L at H
  refine dz_lpi (P := fun (s1 : Int × dz_Z) => mm_Wp (some xs) (D + 10) mm_rL 18 [some (.retAddr 0), some (.ref 0), some (.ref 114), some (dz_I s1.1)] [] (hz_0 s1.2) Q) (fun s1 H => ?_) 5000 (0, Z) H
  refine wp_s (i := .iload_n 3) (n := 1) (pc' := 19) (st' := [dz_I s1.1]) rfl rfl ?_
  refine wp_s (i := .aload_n 0) (n := 1) (pc' := 20) (st' := [.retAddr 0, dz_I s1.1]) rfl rfl ?_
  refine wq_sl (pc' := 21) rfl rfl ?_
  refine wp_s (i := .iconst 5) (n := 1) (pc' := 22) (st' := [dz_I 5, dz_I (xs.length : Int), dz_I s1.1]) rfl rfl ?_
  refine wq_2 (i := .isub) (z := (xs.length : Int) - 5) (pc' := 23) rfl rfl (op_sub _ _) rfl ?_
  refine wq_ic (p := dz_c ((xs.length : Int) - 5) < dz_c s1.1) (tt := 1316) (pc' := 26) rfl rfl (cq_gt rfl rfl) rfl (fun c2 => ?_) (fun c2 => ?_)
  · replace H := dz_it c2 H
    refine wp_s (i := .iconst 1) (n := 1) (pc' := 1317) (st' := [dz_I 1]) rfl rfl ?_
    refine wq_rt rfl rfl ?_
    replace H := dz_out H
    replace H := dz_sm H
    exact H
  · replace H := dz_if c2 H
    refine wp_s (i := .aload_n 0) (n := 1) (pc' := 27) (st' := [.retAddr 0]) rfl rfl ?_
    refine wp_s (i := .iload_n 3) (n := 1) (pc' := 28) (st' := [dz_I s1.1, .retAddr 0]) rfl rfl ?_
    obtain ⟨k3, H⟩ := dz_ck H
    refine wq_sx (j' := dz_c s1.1) (pc' := 29) rfl rfl k3.1 k3.2 rfl ?_
    refine wp_s (i := .bipush 63) (n := 2) (pc' := 31) (st' := [dz_I 63, dz_I (dz_sc xs (dz_c s1.1))]) rfl rfl ?_
    refine wq_2 (i := .iand) (z := dz_an (dz_sc xs (dz_c s1.1)) 63) (pc' := 32) rfl rfl (op_and _ _) rfl ?_
    by_cases c4 : dz_c (dz_an (dz_sc xs (dz_c s1.1)) 63) = 0
    · replace H := dz_it c4 H
      refine wq_ts (x' := dz_c (dz_an (dz_sc xs (dz_c s1.1)) 63)) (tt := 200) rfl rfl (by rw [c4]; rfl) ?_
      refine wp_s (i := .aload_n 1) (n := 1) (pc' := 201) (st' := [.ref 0]) rfl rfl ?_
      refine wp_s (i := .aload_n 0) (n := 1) (pc' := 202) (st' := [.retAddr 0, .ref 0]) rfl rfl ?_
      refine wp_s (i := .iload_n 3) (n := 1) (pc' := 203) (st' := [dz_I s1.1, .retAddr 0, .ref 0]) rfl rfl ?_
      refine wp_s (i := .iconst 1) (n := 1) (pc' := 204) (st' := [dz_I 1, dz_I s1.1, .retAddr 0, .ref 0]) rfl rfl ?_
      refine wq_2 (i := .iadd) (z := s1.1 + 1) (pc' := 205) rfl rfl (op_add _ _) rfl ?_
      obtain ⟨k5, H⟩ := dz_ck H
      refine wq_sx (j' := dz_c (s1.1 + 1)) (pc' := 206) rfl rfl k5.1 k5.2 rfl ?_
      refine wq_3 (i := .i2l) (v' := dz_J (dz_c (dz_sc xs (dz_c (s1.1 + 1))))) (pc' := 207) rfl rfl (oq_i2l' rfl) rfl ?_
      refine wp_s (i := .bipush 32) (n := 2) (pc' := 209) (st' := [dz_I 32, dz_J (dz_c (dz_sc xs (dz_c (s1.1 + 1)))), .ref 0]) rfl rfl ?_
      refine wq_4 (i := .lshl) (v' := dz_J (dz_lsl (dz_c (dz_sc xs (dz_c (s1.1 + 1)))) 32)) (pc' := 210) rfl rfl (ol_shl _ _) rfl ?_
      refine wp_s (i := .aload_n 0) (n := 1) (pc' := 211) (st' := [.retAddr 0, dz_J (dz_lsl (dz_c (dz_sc xs (dz_c (s1.1 + 1)))) 32), .ref 0]) rfl rfl ?_
      refine wp_s (i := .iload_n 3) (n := 1) (pc' := 212) (st' := [dz_I s1.1, .retAddr 0, dz_J (dz_lsl (dz_c (dz_sc xs (dz_c (s1.1 + 1)))) 32), .ref 0]) rfl rfl ?_
      refine wp_s (i := .iconst 2) (n := 1) (pc' := 213) (st' := [dz_I 2, dz_I s1.1, .retAddr 0, dz_J (dz_lsl (dz_c (dz_sc xs (dz_c (s1.1 + 1)))) 32), .ref 0]) rfl rfl ?_
      refine wq_2 (i := .iadd) (z := s1.1 + 2) (pc' := 214) rfl rfl (op_add _ _) rfl ?_
      obtain ⟨k6, H⟩ := dz_ck H
      refine wq_sx (j' := dz_c (s1.1 + 2)) (pc' := 215) rfl rfl k6.1 k6.2 rfl ?_
      refine wq_3 (i := .i2l) (v' := dz_J (dz_c (dz_sc xs (dz_c (s1.1 + 2))))) (pc' := 216) rfl rfl (oq_i2l' rfl) rfl ?_
      refine wp_s (i := .ldc2_w 13) (n := 3) (pc' := 219) (st' := [dz_J 4294967295, dz_J (dz_c (dz_sc xs (dz_c (s1.1 + 2)))), dz_J (dz_lsl (dz_c (dz_sc xs (dz_c (s1.1 + 1)))) 32), .ref 0]) rfl rfl ?_
      refine wq_4 (i := .land) (v' := dz_J (dz_lan (dz_c (dz_sc xs (dz_c (s1.1 + 2)))) 4294967295)) (pc' := 220) rfl rfl (ol_and _ _) rfl ?_
      refine wq_4 (i := .lor) (v' := dz_J (dz_lor (dz_lsl (dz_c (dz_sc xs (dz_c (s1.1 + 1)))) 32) (dz_lan (dz_c (dz_sc xs (dz_c (s1.1 + 2)))) 4294967295))) (pc' := 221) rfl rfl (ol_or _ _) rfl ?_
      refine wq_cv (Dq := (D + 9)) (r' := mm_r64) (as0 := [dz_J (dz_lor (dz_lsl (dz_c (dz_sc xs (dz_c (s1.1 + 1)))) 32) (dz_lan (dz_c (dz_sc xs (dz_c (s1.1 + 2)))) 4294967295))]) (rest := []) (ls' := [some (.ref 0), some (dz_J (dz_lor (dz_lsl (dz_c (dz_sc xs (dz_c (s1.1 + 1)))) 32) (dz_lan (dz_c (dz_sc xs (dz_c (s1.1 + 2)))) 4294967295))), none, none]) (pc' := 224) rfl rfl rfl rfl ho_O rfl rfl rfl ?_
      refine jw_O_feed (X := (some xs)) (D := D + 9) (dz_lor (dz_lsl (dz_c (dz_sc xs (dz_c (s1.1 + 1)))) 32) (dz_lan (dz_c (dz_sc xs (dz_c (s1.1 + 2)))) 4294967295)) s1.2 (dz_pm (dz_bi H) (fun q7 H => ?_))
      show mm_Wp (some xs) (D + 10) mm_rL 224 [some (.retAddr 0), some (.ref 0), some (.ref 114), some (dz_I s1.1)] [dz_I q7.1] (hz_0 q7.2) Q
      refine wp_s (i := .aload_n 2) (n := 1) (pc' := 225) (st' := [.ref 114, dz_I q7.1]) rfl rfl ?_
      refine wp_s (i := .aload_n 0) (n := 1) (pc' := 226) (st' := [.retAddr 0, .ref 114, dz_I q7.1]) rfl rfl ?_
      refine wp_s (i := .iload_n 3) (n := 1) (pc' := 227) (st' := [dz_I s1.1, .retAddr 0, .ref 114, dz_I q7.1]) rfl rfl ?_
      refine wp_s (i := .iconst 1) (n := 1) (pc' := 228) (st' := [dz_I 1, dz_I s1.1, .retAddr 0, .ref 114, dz_I q7.1]) rfl rfl ?_
      refine wq_2 (i := .iadd) (z := s1.1 + 1) (pc' := 229) rfl rfl (op_add _ _) rfl ?_
      refine wq_sx (j' := dz_c (s1.1 + 1)) (pc' := 230) rfl rfl k5.1 k5.2 rfl ?_
      refine wq_3 (i := .i2l) (v' := dz_J (dz_c (dz_sc xs (dz_c (s1.1 + 1))))) (pc' := 231) rfl rfl (oq_i2l' rfl) rfl ?_
      refine wp_s (i := .bipush 32) (n := 2) (pc' := 233) (st' := [dz_I 32, dz_J (dz_c (dz_sc xs (dz_c (s1.1 + 1)))), .ref 114, dz_I q7.1]) rfl rfl ?_
      refine wq_4 (i := .lshl) (v' := dz_J (dz_lsl (dz_c (dz_sc xs (dz_c (s1.1 + 1)))) 32)) (pc' := 234) rfl rfl (ol_shl _ _) rfl ?_
      refine wp_s (i := .aload_n 0) (n := 1) (pc' := 235) (st' := [.retAddr 0, dz_J (dz_lsl (dz_c (dz_sc xs (dz_c (s1.1 + 1)))) 32), .ref 114, dz_I q7.1]) rfl rfl ?_
      refine wp_s (i := .iload_n 3) (n := 1) (pc' := 236) (st' := [dz_I s1.1, .retAddr 0, dz_J (dz_lsl (dz_c (dz_sc xs (dz_c (s1.1 + 1)))) 32), .ref 114, dz_I q7.1]) rfl rfl ?_
      refine wp_s (i := .iconst 2) (n := 1) (pc' := 237) (st' := [dz_I 2, dz_I s1.1, .retAddr 0, dz_J (dz_lsl (dz_c (dz_sc xs (dz_c (s1.1 + 1)))) 32), .ref 114, dz_I q7.1]) rfl rfl ?_
      refine wq_2 (i := .iadd) (z := s1.1 + 2) (pc' := 238) rfl rfl (op_add _ _) rfl ?_
      refine wq_sx (j' := dz_c (s1.1 + 2)) (pc' := 239) rfl rfl k6.1 k6.2 rfl ?_
      refine wq_3 (i := .i2l) (v' := dz_J (dz_c (dz_sc xs (dz_c (s1.1 + 2))))) (pc' := 240) rfl rfl (oq_i2l' rfl) rfl ?_
      refine wp_s (i := .ldc2_w 13) (n := 3) (pc' := 243) (st' := [dz_J 4294967295, dz_J (dz_c (dz_sc xs (dz_c (s1.1 + 2)))), dz_J (dz_lsl (dz_c (dz_sc xs (dz_c (s1.1 + 1)))) 32), .ref 114, dz_I q7.1]) rfl rfl ?_
      refine wq_4 (i := .land) (v' := dz_J (dz_lan (dz_c (dz_sc xs (dz_c (s1.1 + 2)))) 4294967295)) (pc' := 244) rfl rfl (ol_and _ _) rfl ?_
      refine wq_4 (i := .lor) (v' := dz_J (dz_lor (dz_lsl (dz_c (dz_sc xs (dz_c (s1.1 + 1)))) 32) (dz_lan (dz_c (dz_sc xs (dz_c (s1.1 + 2)))) 4294967295))) (pc' := 245) rfl rfl (ol_or _ _) rfl ?_
      refine wq_cv (Dq := (D + 9)) (r' := mm_r121) (as0 := [dz_J (dz_lor (dz_lsl (dz_c (dz_sc xs (dz_c (s1.1 + 1)))) 32) (dz_lan (dz_c (dz_sc xs (dz_c (s1.1 + 2)))) 4294967295))]) (rest := [dz_I q7.1]) (ls' := [some (.ref 114), some (dz_J (dz_lor (dz_lsl (dz_c (dz_sc xs (dz_c (s1.1 + 1)))) 32) (dz_lan (dz_c (dz_sc xs (dz_c (s1.1 + 2)))) 4294967295))), none, none]) (pc' := 248) rfl rfl rfl rfl ho_M rfl rfl rfl ?_
      refine jw_M_feed (X := (some xs)) (D := D + 9) (dz_lor (dz_lsl (dz_c (dz_sc xs (dz_c (s1.1 + 1)))) 32) (dz_lan (dz_c (dz_sc xs (dz_c (s1.1 + 2)))) 4294967295)) q7.2 (dz_pm (dz_bi H) (fun q8 H => ?_))
      show mm_Wp (some xs) (D + 10) mm_rL 248 [some (.retAddr 0), some (.ref 0), some (.ref 114), some (dz_I s1.1)] [dz_I q8.1, dz_I q7.1] (hz_0 q8.2) Q
      refine wq_ic (p := dz_c q7.1 = dz_c q8.1) (tt := 1310) (pc' := 251) rfl rfl (cq_eq rfl rfl) rfl (fun c9 => ?_) (fun c9 => ?_)
      · replace H := dz_it c9 H
        refine wq_inc (k := 3) (d := 5) (x := s1.1) (ls' := [some (.retAddr 0), some (.ref 0), some (.ref 114), some (dz_I (s1.1 + 5))]) (pc' := 1313) rfl rfl rfl rfl ?_
        refine wp_s (i := .goto (-1295)) (n := 3) (pc' := 18) (st' := []) rfl rfl ?_
        replace H := dz_back H
        exact H
      · replace H := dz_if c9 H
        refine wp_s (i := .iconst 0) (n := 1) (pc' := 252) (st' := [dz_I 0]) rfl rfl ?_
        refine wq_rf rfl rfl ?_
        replace H := dz_out H
        replace H := dz_sm H
        exact H
    · replace H := dz_if c4 H
      by_cases c10 : dz_c (dz_an (dz_sc xs (dz_c s1.1)) 63) = 1
      · replace H := dz_it c10 H
        refine wq_ts (x' := dz_c (dz_an (dz_sc xs (dz_c s1.1)) 63)) (tt := 253) rfl rfl (by rw [c10]; rfl) ?_
        refine wp_s (i := .aload_n 1) (n := 1) (pc' := 254) (st' := [.ref 0]) rfl rfl ?_
        refine wp_s (i := .aload_n 0) (n := 1) (pc' := 255) (st' := [.retAddr 0, .ref 0]) rfl rfl ?_
        refine wp_s (i := .iload_n 3) (n := 1) (pc' := 256) (st' := [dz_I s1.1, .retAddr 0, .ref 0]) rfl rfl ?_
        refine wp_s (i := .iconst 1) (n := 1) (pc' := 257) (st' := [dz_I 1, dz_I s1.1, .retAddr 0, .ref 0]) rfl rfl ?_
        refine wq_2 (i := .iadd) (z := s1.1 + 1) (pc' := 258) rfl rfl (op_add _ _) rfl ?_
        obtain ⟨k11, H⟩ := dz_ck H
        refine wq_sx (j' := dz_c (s1.1 + 1)) (pc' := 259) rfl rfl k11.1 k11.2 rfl ?_
        refine wq_cv (Dq := (D + 9)) (r' := mm_r65) (as0 := [dz_I (dz_sc xs (dz_c (s1.1 + 1)))]) (rest := []) (ls' := [some (.ref 0), some (dz_I (dz_sc xs (dz_c (s1.1 + 1)))), none]) (pc' := 262) rfl rfl rfl rfl ho_O rfl rfl rfl ?_
        refine jw_O_end (X := (some xs)) (D := D + 9) (dz_sc xs (dz_c (s1.1 + 1))) s1.2 (dz_pm (dz_bi H) (fun q12 H => ?_))
        show mm_Wp (some xs) (D + 10) mm_rL 262 [some (.retAddr 0), some (.ref 0), some (.ref 114), some (dz_I s1.1)] [dz_I q12.1] (hz_0 q12.2) Q
        refine wp_s (i := .pop) (n := 1) (pc' := 263) (st' := []) rfl rfl ?_
        refine wp_s (i := .aload_n 2) (n := 1) (pc' := 264) (st' := [.ref 114]) rfl rfl ?_
        refine wp_s (i := .aload_n 0) (n := 1) (pc' := 265) (st' := [.retAddr 0, .ref 114]) rfl rfl ?_
        refine wp_s (i := .iload_n 3) (n := 1) (pc' := 266) (st' := [dz_I s1.1, .retAddr 0, .ref 114]) rfl rfl ?_
        refine wp_s (i := .iconst 1) (n := 1) (pc' := 267) (st' := [dz_I 1, dz_I s1.1, .retAddr 0, .ref 114]) rfl rfl ?_
        refine wq_2 (i := .iadd) (z := s1.1 + 1) (pc' := 268) rfl rfl (op_add _ _) rfl ?_
        refine wq_sx (j' := dz_c (s1.1 + 1)) (pc' := 269) rfl rfl k11.1 k11.2 rfl ?_
        refine wq_cv (Dq := (D + 9)) (r' := mm_r122) (as0 := [dz_I (dz_sc xs (dz_c (s1.1 + 1)))]) (rest := []) (ls' := [some (.ref 114), some (dz_I (dz_sc xs (dz_c (s1.1 + 1)))), none]) (pc' := 272) rfl rfl rfl rfl ho_M rfl rfl rfl ?_
        refine jw_M_end (X := (some xs)) (D := D + 8) (dz_sc xs (dz_c (s1.1 + 1))) q12.2 (dz_pm (dz_bi H) (fun q13 H => ?_))
        show mm_Wp (some xs) (D + 10) mm_rL 272 [some (.retAddr 0), some (.ref 0), some (.ref 114), some (dz_I s1.1)] [dz_I q13.1] (hz_0 q13.2) Q
        refine wp_s (i := .pop) (n := 1) (pc' := 273) (st' := []) rfl rfl ?_
        refine wp_s (i := .goto 1037) (n := 3) (pc' := 1310) (st' := []) rfl rfl ?_
        refine wq_inc (k := 3) (d := 5) (x := s1.1) (ls' := [some (.retAddr 0), some (.ref 0), some (.ref 114), some (dz_I (s1.1 + 5))]) (pc' := 1313) rfl rfl rfl rfl ?_
        refine wp_s (i := .goto (-1295)) (n := 3) (pc' := 18) (st' := []) rfl rfl ?_
        replace H := dz_back H
        exact H
      · replace H := dz_if c10 H
        by_cases c14 : dz_c (dz_an (dz_sc xs (dz_c s1.1)) 63) = 2
        · replace H := dz_it c14 H
          refine wq_ts (x' := dz_c (dz_an (dz_sc xs (dz_c s1.1)) 63)) (tt := 276) rfl rfl (by rw [c14]; rfl) ?_
          refine wp_s (i := .aload_n 1) (n := 1) (pc' := 277) (st' := [.ref 0]) rfl rfl ?_
          refine wq_cv (Dq := (D + 9)) (r' := mm_r66) (as0 := []) (rest := []) (ls' := [some (.ref 0), none]) (pc' := 280) rfl rfl rfl rfl ho_O rfl rfl rfl ?_
          refine jw_O_organ (X := (some xs)) (D := D + 0) s1.2 (dz_pm (dz_bi H) (fun q15 H => ?_))
          show mm_Wp (some xs) (D + 10) mm_rL 280 [some (.retAddr 0), some (.ref 0), some (.ref 114), some (dz_I s1.1)] [dz_I q15.1] (hz_0 q15.2) Q
          refine wp_s (i := .pop) (n := 1) (pc' := 281) (st' := []) rfl rfl ?_
          refine wp_s (i := .aload_n 2) (n := 1) (pc' := 282) (st' := [.ref 114]) rfl rfl ?_
          refine wq_cv (Dq := (D + 9)) (r' := mm_r135) (as0 := []) (rest := []) (ls' := [some (.ref 114), none, none]) (pc' := 285) rfl rfl rfl rfl ho_M rfl rfl rfl ?_
          refine jw_M_organ (X := (some xs)) (D := D + 3) q15.2 (dz_pm (dz_bi H) (fun q16 H => ?_))
          show mm_Wp (some xs) (D + 10) mm_rL 285 [some (.retAddr 0), some (.ref 0), some (.ref 114), some (dz_I s1.1)] [dz_I q16.1] (hz_0 q16.2) Q
          refine wp_s (i := .pop) (n := 1) (pc' := 286) (st' := []) rfl rfl ?_
          refine wp_s (i := .goto 1024) (n := 3) (pc' := 1310) (st' := []) rfl rfl ?_
          refine wq_inc (k := 3) (d := 5) (x := s1.1) (ls' := [some (.retAddr 0), some (.ref 0), some (.ref 114), some (dz_I (s1.1 + 5))]) (pc' := 1313) rfl rfl rfl rfl ?_
          refine wp_s (i := .goto (-1295)) (n := 3) (pc' := 18) (st' := []) rfl rfl ?_
          replace H := dz_back H
          exact H
        · replace H := dz_if c14 H
          by_cases c17 : dz_c (dz_an (dz_sc xs (dz_c s1.1)) 63) = 3
          · replace H := dz_it c17 H
            refine wq_ts (x' := dz_c (dz_an (dz_sc xs (dz_c s1.1)) 63)) (tt := 289) rfl rfl (by rw [c17]; rfl) ?_
            refine wp_s (i := .aload_n 1) (n := 1) (pc' := 290) (st' := [.ref 0]) rfl rfl ?_
            refine wq_cv (Dq := (D + 9)) (r' := mm_r68) (as0 := []) (rest := []) (ls' := [some (.ref 0)]) (pc' := 293) rfl rfl rfl rfl ho_O rfl rfl rfl ?_
            refine jw_O_fault (X := (some xs)) (D := D + 9) s1.2 (dz_pm (dz_bi H) (fun q18 H => ?_))
            show mm_Wp (some xs) (D + 10) mm_rL 293 [some (.retAddr 0), some (.ref 0), some (.ref 114), some (dz_I s1.1)] [dz_I q18] (hz_0 s1.2) Q
            refine wp_s (i := .pop) (n := 1) (pc' := 294) (st' := []) rfl rfl ?_
            refine wp_s (i := .aload_n 2) (n := 1) (pc' := 295) (st' := [.ref 114]) rfl rfl ?_
            refine wq_cv (Dq := (D + 9)) (r' := mm_r136) (as0 := []) (rest := []) (ls' := [some (.ref 114)]) (pc' := 298) rfl rfl rfl rfl ho_M rfl rfl rfl ?_
            refine jw_M_fault (X := (some xs)) (D := D + 9) s1.2 (dz_pm (dz_bi H) (fun q19 H => ?_))
            show mm_Wp (some xs) (D + 10) mm_rL 298 [some (.retAddr 0), some (.ref 0), some (.ref 114), some (dz_I s1.1)] [dz_I q19] (hz_0 s1.2) Q
            refine wp_s (i := .pop) (n := 1) (pc' := 299) (st' := []) rfl rfl ?_
            refine wp_s (i := .goto 1011) (n := 3) (pc' := 1310) (st' := []) rfl rfl ?_
            refine wq_inc (k := 3) (d := 5) (x := s1.1) (ls' := [some (.retAddr 0), some (.ref 0), some (.ref 114), some (dz_I (s1.1 + 5))]) (pc' := 1313) rfl rfl rfl rfl ?_
            refine wp_s (i := .goto (-1295)) (n := 3) (pc' := 18) (st' := []) rfl rfl ?_
            replace H := dz_back H
            exact H
          · replace H := dz_if c17 H
            by_cases c20 : dz_c (dz_an (dz_sc xs (dz_c s1.1)) 63) = 4
            · replace H := dz_it c20 H
              refine wq_ts (x' := dz_c (dz_an (dz_sc xs (dz_c s1.1)) 63)) (tt := 302) rfl rfl (by rw [c20]; rfl) ?_
              refine wp_s (i := .aload_n 1) (n := 1) (pc' := 303) (st' := [.ref 0]) rfl rfl ?_
              refine wp_s (i := .aload_n 0) (n := 1) (pc' := 304) (st' := [.retAddr 0, .ref 0]) rfl rfl ?_
              refine wp_s (i := .iload_n 3) (n := 1) (pc' := 305) (st' := [dz_I s1.1, .retAddr 0, .ref 0]) rfl rfl ?_
              refine wp_s (i := .iconst 1) (n := 1) (pc' := 306) (st' := [dz_I 1, dz_I s1.1, .retAddr 0, .ref 0]) rfl rfl ?_
              refine wq_2 (i := .iadd) (z := s1.1 + 1) (pc' := 307) rfl rfl (op_add _ _) rfl ?_
              obtain ⟨k21, H⟩ := dz_ck H
              refine wq_sx (j' := dz_c (s1.1 + 1)) (pc' := 308) rfl rfl k21.1 k21.2 rfl ?_
              refine wq_cv (Dq := (D + 9)) (r' := mm_r69) (as0 := [dz_I (dz_sc xs (dz_c (s1.1 + 1)))]) (rest := []) (ls' := [some (.ref 0), some (dz_I (dz_sc xs (dz_c (s1.1 + 1))))]) (pc' := 311) rfl rfl rfl rfl ho_O rfl rfl rfl ?_
              refine jw_O_rule (X := (some xs)) (D := D + 9) (dz_sc xs (dz_c (s1.1 + 1))) s1.2 (dz_pm (dz_bi H) (fun q22 H => ?_))
              show mm_Wp (some xs) (D + 10) mm_rL 311 [some (.retAddr 0), some (.ref 0), some (.ref 114), some (dz_I s1.1)] [dz_I q22] (hz_0 s1.2) Q
              refine wp_s (i := .pop) (n := 1) (pc' := 312) (st' := []) rfl rfl ?_
              refine wp_s (i := .aload_n 2) (n := 1) (pc' := 313) (st' := [.ref 114]) rfl rfl ?_
              refine wp_s (i := .aload_n 0) (n := 1) (pc' := 314) (st' := [.retAddr 0, .ref 114]) rfl rfl ?_
              refine wp_s (i := .iload_n 3) (n := 1) (pc' := 315) (st' := [dz_I s1.1, .retAddr 0, .ref 114]) rfl rfl ?_
              refine wp_s (i := .iconst 1) (n := 1) (pc' := 316) (st' := [dz_I 1, dz_I s1.1, .retAddr 0, .ref 114]) rfl rfl ?_
              refine wq_2 (i := .iadd) (z := s1.1 + 1) (pc' := 317) rfl rfl (op_add _ _) rfl ?_
              refine wq_sx (j' := dz_c (s1.1 + 1)) (pc' := 318) rfl rfl k21.1 k21.2 rfl ?_
              refine wq_cv (Dq := (D + 9)) (r' := mm_r137) (as0 := [dz_I (dz_sc xs (dz_c (s1.1 + 1)))]) (rest := []) (ls' := [some (.ref 114), some (dz_I (dz_sc xs (dz_c (s1.1 + 1))))]) (pc' := 321) rfl rfl rfl rfl ho_M rfl rfl rfl ?_
              refine jw_M_rule (X := (some xs)) (D := D + 9) (dz_sc xs (dz_c (s1.1 + 1))) s1.2 (dz_pm (dz_bi H) (fun q23 H => ?_))
              show mm_Wp (some xs) (D + 10) mm_rL 321 [some (.retAddr 0), some (.ref 0), some (.ref 114), some (dz_I s1.1)] [dz_I q23] (hz_0 s1.2) Q
              refine wp_s (i := .pop) (n := 1) (pc' := 322) (st' := []) rfl rfl ?_
              refine wp_s (i := .goto 988) (n := 3) (pc' := 1310) (st' := []) rfl rfl ?_
              refine wq_inc (k := 3) (d := 5) (x := s1.1) (ls' := [some (.retAddr 0), some (.ref 0), some (.ref 114), some (dz_I (s1.1 + 5))]) (pc' := 1313) rfl rfl rfl rfl ?_
              refine wp_s (i := .goto (-1295)) (n := 3) (pc' := 18) (st' := []) rfl rfl ?_
              replace H := dz_back H
              exact H
            · replace H := dz_if c20 H
              by_cases c24 : dz_c (dz_an (dz_sc xs (dz_c s1.1)) 63) = 5
              · replace H := dz_it c24 H
                refine wq_ts (x' := dz_c (dz_an (dz_sc xs (dz_c s1.1)) 63)) (tt := 325) rfl rfl (by rw [c24]; rfl) ?_
                refine wp_s (i := .aload_n 1) (n := 1) (pc' := 326) (st' := [.ref 0]) rfl rfl ?_
                refine wp_s (i := .aload_n 0) (n := 1) (pc' := 327) (st' := [.retAddr 0, .ref 0]) rfl rfl ?_
                refine wp_s (i := .iload_n 3) (n := 1) (pc' := 328) (st' := [dz_I s1.1, .retAddr 0, .ref 0]) rfl rfl ?_
                refine wp_s (i := .iconst 1) (n := 1) (pc' := 329) (st' := [dz_I 1, dz_I s1.1, .retAddr 0, .ref 0]) rfl rfl ?_
                refine wq_2 (i := .iadd) (z := s1.1 + 1) (pc' := 330) rfl rfl (op_add _ _) rfl ?_
                obtain ⟨k25, H⟩ := dz_ck H
                refine wq_sx (j' := dz_c (s1.1 + 1)) (pc' := 331) rfl rfl k25.1 k25.2 rfl ?_
                refine wp_s (i := .aload_n 0) (n := 1) (pc' := 332) (st' := [.retAddr 0, dz_I (dz_sc xs (dz_c (s1.1 + 1))), .ref 0]) rfl rfl ?_
                refine wp_s (i := .iload_n 3) (n := 1) (pc' := 333) (st' := [dz_I s1.1, .retAddr 0, dz_I (dz_sc xs (dz_c (s1.1 + 1))), .ref 0]) rfl rfl ?_
                refine wp_s (i := .iconst 2) (n := 1) (pc' := 334) (st' := [dz_I 2, dz_I s1.1, .retAddr 0, dz_I (dz_sc xs (dz_c (s1.1 + 1))), .ref 0]) rfl rfl ?_
                refine wq_2 (i := .iadd) (z := s1.1 + 2) (pc' := 335) rfl rfl (op_add _ _) rfl ?_
                obtain ⟨k26, H⟩ := dz_ck H
                refine wq_sx (j' := dz_c (s1.1 + 2)) (pc' := 336) rfl rfl k26.1 k26.2 rfl ?_
                refine wq_cv (Dq := (D + 9)) (r' := mm_r70) (as0 := [dz_I (dz_sc xs (dz_c (s1.1 + 1))), dz_I (dz_sc xs (dz_c (s1.1 + 2)))]) (rest := []) (ls' := [some (.ref 0), some (dz_I (dz_sc xs (dz_c (s1.1 + 1)))), some (dz_I (dz_sc xs (dz_c (s1.1 + 2))))]) (pc' := 339) rfl rfl rfl rfl ho_O rfl rfl rfl ?_
                refine jw_O_gutter (X := (some xs)) (D := D + 8) (dz_sc xs (dz_c (s1.1 + 1))) (dz_sc xs (dz_c (s1.1 + 2))) s1.2 (dz_pm (dz_bi H) (fun q27 H => ?_))
                show mm_Wp (some xs) (D + 10) mm_rL 339 [some (.retAddr 0), some (.ref 0), some (.ref 114), some (dz_I s1.1)] [dz_I q27] (hz_0 s1.2) Q
                refine wp_s (i := .pop) (n := 1) (pc' := 340) (st' := []) rfl rfl ?_
                refine wp_s (i := .aload_n 2) (n := 1) (pc' := 341) (st' := [.ref 114]) rfl rfl ?_
                refine wp_s (i := .aload_n 0) (n := 1) (pc' := 342) (st' := [.retAddr 0, .ref 114]) rfl rfl ?_
                refine wp_s (i := .iload_n 3) (n := 1) (pc' := 343) (st' := [dz_I s1.1, .retAddr 0, .ref 114]) rfl rfl ?_
                refine wp_s (i := .iconst 1) (n := 1) (pc' := 344) (st' := [dz_I 1, dz_I s1.1, .retAddr 0, .ref 114]) rfl rfl ?_
                refine wq_2 (i := .iadd) (z := s1.1 + 1) (pc' := 345) rfl rfl (op_add _ _) rfl ?_
                refine wq_sx (j' := dz_c (s1.1 + 1)) (pc' := 346) rfl rfl k25.1 k25.2 rfl ?_
                refine wp_s (i := .aload_n 0) (n := 1) (pc' := 347) (st' := [.retAddr 0, dz_I (dz_sc xs (dz_c (s1.1 + 1))), .ref 114]) rfl rfl ?_
                refine wp_s (i := .iload_n 3) (n := 1) (pc' := 348) (st' := [dz_I s1.1, .retAddr 0, dz_I (dz_sc xs (dz_c (s1.1 + 1))), .ref 114]) rfl rfl ?_
                refine wp_s (i := .iconst 2) (n := 1) (pc' := 349) (st' := [dz_I 2, dz_I s1.1, .retAddr 0, dz_I (dz_sc xs (dz_c (s1.1 + 1))), .ref 114]) rfl rfl ?_
                refine wq_2 (i := .iadd) (z := s1.1 + 2) (pc' := 350) rfl rfl (op_add _ _) rfl ?_
                refine wq_sx (j' := dz_c (s1.1 + 2)) (pc' := 351) rfl rfl k26.1 k26.2 rfl ?_
                refine wq_cv (Dq := (D + 9)) (r' := mm_r141) (as0 := [dz_I (dz_sc xs (dz_c (s1.1 + 1))), dz_I (dz_sc xs (dz_c (s1.1 + 2)))]) (rest := []) (ls' := [some (.ref 114), some (dz_I (dz_sc xs (dz_c (s1.1 + 1)))), some (dz_I (dz_sc xs (dz_c (s1.1 + 2))))]) (pc' := 354) rfl rfl rfl rfl ho_M rfl rfl rfl ?_
                refine jw_M_gutter (X := (some xs)) (D := D + 7) (dz_sc xs (dz_c (s1.1 + 1))) (dz_sc xs (dz_c (s1.1 + 2))) s1.2 (dz_pm (dz_bi H) (fun q28 H => ?_))
                show mm_Wp (some xs) (D + 10) mm_rL 354 [some (.retAddr 0), some (.ref 0), some (.ref 114), some (dz_I s1.1)] [dz_I q28] (hz_0 s1.2) Q
                refine wp_s (i := .pop) (n := 1) (pc' := 355) (st' := []) rfl rfl ?_
                refine wp_s (i := .goto 955) (n := 3) (pc' := 1310) (st' := []) rfl rfl ?_
                refine wq_inc (k := 3) (d := 5) (x := s1.1) (ls' := [some (.retAddr 0), some (.ref 0), some (.ref 114), some (dz_I (s1.1 + 5))]) (pc' := 1313) rfl rfl rfl rfl ?_
                refine wp_s (i := .goto (-1295)) (n := 3) (pc' := 18) (st' := []) rfl rfl ?_
                replace H := dz_back H
                exact H
              · replace H := dz_if c24 H
                by_cases c29 : dz_c (dz_an (dz_sc xs (dz_c s1.1)) 63) = 6
                · replace H := dz_it c29 H
                  refine wq_ts (x' := dz_c (dz_an (dz_sc xs (dz_c s1.1)) 63)) (tt := 358) rfl rfl (by rw [c29]; rfl) ?_
                  refine wp_s (i := .aload_n 1) (n := 1) (pc' := 359) (st' := [.ref 0]) rfl rfl ?_
                  refine wp_s (i := .aload_n 0) (n := 1) (pc' := 360) (st' := [.retAddr 0, .ref 0]) rfl rfl ?_
                  refine wp_s (i := .iload_n 3) (n := 1) (pc' := 361) (st' := [dz_I s1.1, .retAddr 0, .ref 0]) rfl rfl ?_
                  refine wp_s (i := .iconst 1) (n := 1) (pc' := 362) (st' := [dz_I 1, dz_I s1.1, .retAddr 0, .ref 0]) rfl rfl ?_
                  refine wq_2 (i := .iadd) (z := s1.1 + 1) (pc' := 363) rfl rfl (op_add _ _) rfl ?_
                  obtain ⟨k30, H⟩ := dz_ck H
                  refine wq_sx (j' := dz_c (s1.1 + 1)) (pc' := 364) rfl rfl k30.1 k30.2 rfl ?_
                  refine wp_s (i := .aload_n 0) (n := 1) (pc' := 365) (st' := [.retAddr 0, dz_I (dz_sc xs (dz_c (s1.1 + 1))), .ref 0]) rfl rfl ?_
                  refine wp_s (i := .iload_n 3) (n := 1) (pc' := 366) (st' := [dz_I s1.1, .retAddr 0, dz_I (dz_sc xs (dz_c (s1.1 + 1))), .ref 0]) rfl rfl ?_
                  refine wp_s (i := .iconst 2) (n := 1) (pc' := 367) (st' := [dz_I 2, dz_I s1.1, .retAddr 0, dz_I (dz_sc xs (dz_c (s1.1 + 1))), .ref 0]) rfl rfl ?_
                  refine wq_2 (i := .iadd) (z := s1.1 + 2) (pc' := 368) rfl rfl (op_add _ _) rfl ?_
                  obtain ⟨k31, H⟩ := dz_ck H
                  refine wq_sx (j' := dz_c (s1.1 + 2)) (pc' := 369) rfl rfl k31.1 k31.2 rfl ?_
                  refine wq_cv (Dq := (D + 9)) (r' := mm_r71) (as0 := [dz_I (dz_sc xs (dz_c (s1.1 + 1))), dz_I (dz_sc xs (dz_c (s1.1 + 2)))]) (rest := []) (ls' := [some (.ref 0), some (dz_I (dz_sc xs (dz_c (s1.1 + 1)))), some (dz_I (dz_sc xs (dz_c (s1.1 + 2)))), none]) (pc' := 372) rfl rfl rfl rfl ho_O rfl rfl rfl ?_
                  refine jw_O_spout (X := (some xs)) (D := D + 8) (dz_sc xs (dz_c (s1.1 + 1))) (dz_sc xs (dz_c (s1.1 + 2))) s1.2 (dz_pm (dz_bi H) (fun q32 H => ?_))
                  show mm_Wp (some xs) (D + 10) mm_rL 372 [some (.retAddr 0), some (.ref 0), some (.ref 114), some (dz_I s1.1)] [dz_I q32] (hz_0 s1.2) Q
                  refine wp_s (i := .pop) (n := 1) (pc' := 373) (st' := []) rfl rfl ?_
                  refine wp_s (i := .aload_n 2) (n := 1) (pc' := 374) (st' := [.ref 114]) rfl rfl ?_
                  refine wp_s (i := .aload_n 0) (n := 1) (pc' := 375) (st' := [.retAddr 0, .ref 114]) rfl rfl ?_
                  refine wp_s (i := .iload_n 3) (n := 1) (pc' := 376) (st' := [dz_I s1.1, .retAddr 0, .ref 114]) rfl rfl ?_
                  refine wp_s (i := .iconst 1) (n := 1) (pc' := 377) (st' := [dz_I 1, dz_I s1.1, .retAddr 0, .ref 114]) rfl rfl ?_
                  refine wq_2 (i := .iadd) (z := s1.1 + 1) (pc' := 378) rfl rfl (op_add _ _) rfl ?_
                  refine wq_sx (j' := dz_c (s1.1 + 1)) (pc' := 379) rfl rfl k30.1 k30.2 rfl ?_
                  refine wp_s (i := .aload_n 0) (n := 1) (pc' := 380) (st' := [.retAddr 0, dz_I (dz_sc xs (dz_c (s1.1 + 1))), .ref 114]) rfl rfl ?_
                  refine wp_s (i := .iload_n 3) (n := 1) (pc' := 381) (st' := [dz_I s1.1, .retAddr 0, dz_I (dz_sc xs (dz_c (s1.1 + 1))), .ref 114]) rfl rfl ?_
                  refine wp_s (i := .iconst 2) (n := 1) (pc' := 382) (st' := [dz_I 2, dz_I s1.1, .retAddr 0, dz_I (dz_sc xs (dz_c (s1.1 + 1))), .ref 114]) rfl rfl ?_
                  refine wq_2 (i := .iadd) (z := s1.1 + 2) (pc' := 383) rfl rfl (op_add _ _) rfl ?_
                  refine wq_sx (j' := dz_c (s1.1 + 2)) (pc' := 384) rfl rfl k31.1 k31.2 rfl ?_
                  refine wq_cv (Dq := (D + 9)) (r' := mm_r142) (as0 := [dz_I (dz_sc xs (dz_c (s1.1 + 1))), dz_I (dz_sc xs (dz_c (s1.1 + 2)))]) (rest := []) (ls' := [some (.ref 114), some (dz_I (dz_sc xs (dz_c (s1.1 + 1)))), some (dz_I (dz_sc xs (dz_c (s1.1 + 2))))]) (pc' := 387) rfl rfl rfl rfl ho_M rfl rfl rfl ?_
                  refine jw_M_spout (X := (some xs)) (D := D + 7) (dz_sc xs (dz_c (s1.1 + 1))) (dz_sc xs (dz_c (s1.1 + 2))) s1.2 (dz_pm (dz_bi H) (fun q33 H => ?_))
                  show mm_Wp (some xs) (D + 10) mm_rL 387 [some (.retAddr 0), some (.ref 0), some (.ref 114), some (dz_I s1.1)] [dz_I q33] (hz_0 s1.2) Q
                  refine wp_s (i := .pop) (n := 1) (pc' := 388) (st' := []) rfl rfl ?_
                  refine wp_s (i := .goto 922) (n := 3) (pc' := 1310) (st' := []) rfl rfl ?_
                  refine wq_inc (k := 3) (d := 5) (x := s1.1) (ls' := [some (.retAddr 0), some (.ref 0), some (.ref 114), some (dz_I (s1.1 + 5))]) (pc' := 1313) rfl rfl rfl rfl ?_
                  refine wp_s (i := .goto (-1295)) (n := 3) (pc' := 18) (st' := []) rfl rfl ?_
                  replace H := dz_back H
                  exact H
                · replace H := dz_if c29 H
                  by_cases c34 : dz_c (dz_an (dz_sc xs (dz_c s1.1)) 63) = 7
                  · replace H := dz_it c34 H
                    refine wq_ts (x' := dz_c (dz_an (dz_sc xs (dz_c s1.1)) 63)) (tt := 391) rfl rfl (by rw [c34]; rfl) ?_
                    refine wp_s (i := .aload_n 1) (n := 1) (pc' := 392) (st' := [.ref 0]) rfl rfl ?_
                    refine wp_s (i := .aload_n 0) (n := 1) (pc' := 393) (st' := [.retAddr 0, .ref 0]) rfl rfl ?_
                    refine wp_s (i := .iload_n 3) (n := 1) (pc' := 394) (st' := [dz_I s1.1, .retAddr 0, .ref 0]) rfl rfl ?_
                    refine wp_s (i := .iconst 1) (n := 1) (pc' := 395) (st' := [dz_I 1, dz_I s1.1, .retAddr 0, .ref 0]) rfl rfl ?_
                    refine wq_2 (i := .iadd) (z := s1.1 + 1) (pc' := 396) rfl rfl (op_add _ _) rfl ?_
                    obtain ⟨k35, H⟩ := dz_ck H
                    refine wq_sx (j' := dz_c (s1.1 + 1)) (pc' := 397) rfl rfl k35.1 k35.2 rfl ?_
                    refine wp_s (i := .aload_n 0) (n := 1) (pc' := 398) (st' := [.retAddr 0, dz_I (dz_sc xs (dz_c (s1.1 + 1))), .ref 0]) rfl rfl ?_
                    refine wp_s (i := .iload_n 3) (n := 1) (pc' := 399) (st' := [dz_I s1.1, .retAddr 0, dz_I (dz_sc xs (dz_c (s1.1 + 1))), .ref 0]) rfl rfl ?_
                    refine wp_s (i := .iconst 2) (n := 1) (pc' := 400) (st' := [dz_I 2, dz_I s1.1, .retAddr 0, dz_I (dz_sc xs (dz_c (s1.1 + 1))), .ref 0]) rfl rfl ?_
                    refine wq_2 (i := .iadd) (z := s1.1 + 2) (pc' := 401) rfl rfl (op_add _ _) rfl ?_
                    obtain ⟨k36, H⟩ := dz_ck H
                    refine wq_sx (j' := dz_c (s1.1 + 2)) (pc' := 402) rfl rfl k36.1 k36.2 rfl ?_
                    refine wq_cv (Dq := (D + 9)) (r' := mm_r72) (as0 := [dz_I (dz_sc xs (dz_c (s1.1 + 1))), dz_I (dz_sc xs (dz_c (s1.1 + 2)))]) (rest := []) (ls' := [some (.ref 0), some (dz_I (dz_sc xs (dz_c (s1.1 + 1)))), some (dz_I (dz_sc xs (dz_c (s1.1 + 2)))), none]) (pc' := 405) rfl rfl rfl rfl ho_O rfl rfl rfl ?_
                    refine jw_O_peg (X := (some xs)) (D := D + 8) (dz_sc xs (dz_c (s1.1 + 1))) (dz_sc xs (dz_c (s1.1 + 2))) s1.2 (dz_pm (dz_bi H) (fun q37 H => ?_))
                    show mm_Wp (some xs) (D + 10) mm_rL 405 [some (.retAddr 0), some (.ref 0), some (.ref 114), some (dz_I s1.1)] [dz_I q37.1] (hz_0 q37.2) Q
                    refine wp_s (i := .pop) (n := 1) (pc' := 406) (st' := []) rfl rfl ?_
                    refine wp_s (i := .aload_n 2) (n := 1) (pc' := 407) (st' := [.ref 114]) rfl rfl ?_
                    refine wp_s (i := .aload_n 0) (n := 1) (pc' := 408) (st' := [.retAddr 0, .ref 114]) rfl rfl ?_
                    refine wp_s (i := .iload_n 3) (n := 1) (pc' := 409) (st' := [dz_I s1.1, .retAddr 0, .ref 114]) rfl rfl ?_
                    refine wp_s (i := .iconst 1) (n := 1) (pc' := 410) (st' := [dz_I 1, dz_I s1.1, .retAddr 0, .ref 114]) rfl rfl ?_
                    refine wq_2 (i := .iadd) (z := s1.1 + 1) (pc' := 411) rfl rfl (op_add _ _) rfl ?_
                    refine wq_sx (j' := dz_c (s1.1 + 1)) (pc' := 412) rfl rfl k35.1 k35.2 rfl ?_
                    refine wp_s (i := .aload_n 0) (n := 1) (pc' := 413) (st' := [.retAddr 0, dz_I (dz_sc xs (dz_c (s1.1 + 1))), .ref 114]) rfl rfl ?_
                    refine wp_s (i := .iload_n 3) (n := 1) (pc' := 414) (st' := [dz_I s1.1, .retAddr 0, dz_I (dz_sc xs (dz_c (s1.1 + 1))), .ref 114]) rfl rfl ?_
                    refine wp_s (i := .iconst 2) (n := 1) (pc' := 415) (st' := [dz_I 2, dz_I s1.1, .retAddr 0, dz_I (dz_sc xs (dz_c (s1.1 + 1))), .ref 114]) rfl rfl ?_
                    refine wq_2 (i := .iadd) (z := s1.1 + 2) (pc' := 416) rfl rfl (op_add _ _) rfl ?_
                    refine wq_sx (j' := dz_c (s1.1 + 2)) (pc' := 417) rfl rfl k36.1 k36.2 rfl ?_
                    refine wq_cv (Dq := (D + 9)) (r' := mm_r143) (as0 := [dz_I (dz_sc xs (dz_c (s1.1 + 1))), dz_I (dz_sc xs (dz_c (s1.1 + 2)))]) (rest := []) (ls' := [some (.ref 114), some (dz_I (dz_sc xs (dz_c (s1.1 + 1)))), some (dz_I (dz_sc xs (dz_c (s1.1 + 2)))), none]) (pc' := 420) rfl rfl rfl rfl ho_M rfl rfl rfl ?_
                    refine jw_M_peg (X := (some xs)) (D := D + 7) (dz_sc xs (dz_c (s1.1 + 1))) (dz_sc xs (dz_c (s1.1 + 2))) q37.2 (dz_pm (dz_bi H) (fun q38 H => ?_))
                    show mm_Wp (some xs) (D + 10) mm_rL 420 [some (.retAddr 0), some (.ref 0), some (.ref 114), some (dz_I s1.1)] [dz_I q38.1] (hz_0 q38.2) Q
                    refine wp_s (i := .pop) (n := 1) (pc' := 421) (st' := []) rfl rfl ?_
                    refine wp_s (i := .goto 889) (n := 3) (pc' := 1310) (st' := []) rfl rfl ?_
                    refine wq_inc (k := 3) (d := 5) (x := s1.1) (ls' := [some (.retAddr 0), some (.ref 0), some (.ref 114), some (dz_I (s1.1 + 5))]) (pc' := 1313) rfl rfl rfl rfl ?_
                    refine wp_s (i := .goto (-1295)) (n := 3) (pc' := 18) (st' := []) rfl rfl ?_
                    replace H := dz_back H
                    exact H
                  · replace H := dz_if c34 H
                    by_cases c39 : dz_c (dz_an (dz_sc xs (dz_c s1.1)) 63) = 8
                    · replace H := dz_it c39 H
                      refine wq_ts (x' := dz_c (dz_an (dz_sc xs (dz_c s1.1)) 63)) (tt := 424) rfl rfl (by rw [c39]; rfl) ?_
                      refine wp_s (i := .aload_n 1) (n := 1) (pc' := 425) (st' := [.ref 0]) rfl rfl ?_
                      refine wp_s (i := .aload_n 0) (n := 1) (pc' := 426) (st' := [.retAddr 0, .ref 0]) rfl rfl ?_
                      refine wp_s (i := .iload_n 3) (n := 1) (pc' := 427) (st' := [dz_I s1.1, .retAddr 0, .ref 0]) rfl rfl ?_
                      refine wp_s (i := .iconst 1) (n := 1) (pc' := 428) (st' := [dz_I 1, dz_I s1.1, .retAddr 0, .ref 0]) rfl rfl ?_
                      refine wq_2 (i := .iadd) (z := s1.1 + 1) (pc' := 429) rfl rfl (op_add _ _) rfl ?_
                      obtain ⟨k40, H⟩ := dz_ck H
                      refine wq_sx (j' := dz_c (s1.1 + 1)) (pc' := 430) rfl rfl k40.1 k40.2 rfl ?_
                      refine wp_s (i := .aload_n 0) (n := 1) (pc' := 431) (st' := [.retAddr 0, dz_I (dz_sc xs (dz_c (s1.1 + 1))), .ref 0]) rfl rfl ?_
                      refine wp_s (i := .iload_n 3) (n := 1) (pc' := 432) (st' := [dz_I s1.1, .retAddr 0, dz_I (dz_sc xs (dz_c (s1.1 + 1))), .ref 0]) rfl rfl ?_
                      refine wp_s (i := .iconst 2) (n := 1) (pc' := 433) (st' := [dz_I 2, dz_I s1.1, .retAddr 0, dz_I (dz_sc xs (dz_c (s1.1 + 1))), .ref 0]) rfl rfl ?_
                      refine wq_2 (i := .iadd) (z := s1.1 + 2) (pc' := 434) rfl rfl (op_add _ _) rfl ?_
                      obtain ⟨k41, H⟩ := dz_ck H
                      refine wq_sx (j' := dz_c (s1.1 + 2)) (pc' := 435) rfl rfl k41.1 k41.2 rfl ?_
                      refine dz_jn (P := fun (q43 : Int) => mm_Wp (some xs) (D + 10) mm_rL 443 [some (.retAddr 0), some (.ref 0), some (.ref 114), some (dz_I s1.1)] [dz_I q43, dz_I (dz_sc xs (dz_c (s1.1 + 1))), .ref 0] (hz_0 s1.2) Q) (dz_bi H) (fun q43 H => ?_) (fun H => ?_)
                      · skip
                        refine wq_cv (Dq := (D + 9)) (r' := mm_r73) (as0 := [dz_I (dz_sc xs (dz_c (s1.1 + 1))), dz_I q43]) (rest := []) (ls' := [some (.ref 0), some (dz_I (dz_sc xs (dz_c (s1.1 + 1)))), some (dz_I q43), none]) (pc' := 446) rfl rfl rfl rfl ho_O rfl rfl rfl ?_
                        refine jw_O_block (X := (some xs)) (D := D + 8) (dz_sc xs (dz_c (s1.1 + 1))) q43 s1.2 (dz_pm (dz_bi H) (fun q44 H => ?_))
                        show mm_Wp (some xs) (D + 10) mm_rL 446 [some (.retAddr 0), some (.ref 0), some (.ref 114), some (dz_I s1.1)] [dz_I q44.1] (hz_0 q44.2) Q
                        refine wp_s (i := .pop) (n := 1) (pc' := 447) (st' := []) rfl rfl ?_
                        refine wp_s (i := .aload_n 2) (n := 1) (pc' := 448) (st' := [.ref 114]) rfl rfl ?_
                        refine wp_s (i := .aload_n 0) (n := 1) (pc' := 449) (st' := [.retAddr 0, .ref 114]) rfl rfl ?_
                        refine wp_s (i := .iload_n 3) (n := 1) (pc' := 450) (st' := [dz_I s1.1, .retAddr 0, .ref 114]) rfl rfl ?_
                        refine wp_s (i := .iconst 1) (n := 1) (pc' := 451) (st' := [dz_I 1, dz_I s1.1, .retAddr 0, .ref 114]) rfl rfl ?_
                        refine wq_2 (i := .iadd) (z := s1.1 + 1) (pc' := 452) rfl rfl (op_add _ _) rfl ?_
                        refine wq_sx (j' := dz_c (s1.1 + 1)) (pc' := 453) rfl rfl k40.1 k40.2 rfl ?_
                        refine wp_s (i := .aload_n 0) (n := 1) (pc' := 454) (st' := [.retAddr 0, dz_I (dz_sc xs (dz_c (s1.1 + 1))), .ref 114]) rfl rfl ?_
                        refine wp_s (i := .iload_n 3) (n := 1) (pc' := 455) (st' := [dz_I s1.1, .retAddr 0, dz_I (dz_sc xs (dz_c (s1.1 + 1))), .ref 114]) rfl rfl ?_
                        refine wp_s (i := .iconst 2) (n := 1) (pc' := 456) (st' := [dz_I 2, dz_I s1.1, .retAddr 0, dz_I (dz_sc xs (dz_c (s1.1 + 1))), .ref 114]) rfl rfl ?_
                        refine wq_2 (i := .iadd) (z := s1.1 + 2) (pc' := 457) rfl rfl (op_add _ _) rfl ?_
                        refine wq_sx (j' := dz_c (s1.1 + 2)) (pc' := 458) rfl rfl k41.1 k41.2 rfl ?_
                        refine dz_jn (P := fun (q46 : Int) => mm_Wp (some xs) (D + 10) mm_rL 466 [some (.retAddr 0), some (.ref 0), some (.ref 114), some (dz_I s1.1)] [dz_I q46, dz_I (dz_sc xs (dz_c (s1.1 + 1))), .ref 114] (hz_0 q44.2) Q) (dz_bi H) (fun q46 H => ?_) (fun H => ?_)
                        · skip
                          refine wq_cv (Dq := (D + 9)) (r' := mm_r144) (as0 := [dz_I (dz_sc xs (dz_c (s1.1 + 1))), dz_I q46]) (rest := []) (ls' := [some (.ref 114), some (dz_I (dz_sc xs (dz_c (s1.1 + 1)))), some (dz_I q46), none]) (pc' := 469) rfl rfl rfl rfl ho_M rfl rfl rfl ?_
                          refine jw_M_block (X := (some xs)) (D := D + 7) (dz_sc xs (dz_c (s1.1 + 1))) q46 q44.2 (dz_pm (dz_bi H) (fun q47 H => ?_))
                          show mm_Wp (some xs) (D + 10) mm_rL 469 [some (.retAddr 0), some (.ref 0), some (.ref 114), some (dz_I s1.1)] [dz_I q47.1] (hz_0 q47.2) Q
                          refine wp_s (i := .pop) (n := 1) (pc' := 470) (st' := []) rfl rfl ?_
                          refine wp_s (i := .goto 840) (n := 3) (pc' := 1310) (st' := []) rfl rfl ?_
                          refine wq_inc (k := 3) (d := 5) (x := s1.1) (ls' := [some (.retAddr 0), some (.ref 0), some (.ref 114), some (dz_I (s1.1 + 5))]) (pc' := 1313) rfl rfl rfl rfl ?_
                          refine wp_s (i := .goto (-1295)) (n := 3) (pc' := 18) (st' := []) rfl rfl ?_
                          replace H := dz_back H
                          exact H
                        · skip
                          refine wq_if (p := dz_c (dz_sc xs (dz_c (s1.1 + 2))) = 0) (tt := 465) (pc' := 461) rfl rfl (cz_eq rfl) rfl (fun c48 => ?_) (fun c48 => ?_)
                          · replace H := dz_it c48 H
                            refine wp_s (i := .iconst 0) (n := 1) (pc' := 466) (st' := [dz_I 0, dz_I (dz_sc xs (dz_c (s1.1 + 1))), .ref 114]) rfl rfl ?_
                            replace H := dz_sm H
                            exact H
                          · replace H := dz_if c48 H
                            refine wp_s (i := .iconst 1) (n := 1) (pc' := 462) (st' := [dz_I 1, dz_I (dz_sc xs (dz_c (s1.1 + 1))), .ref 114]) rfl rfl ?_
                            refine wp_s (i := .goto 4) (n := 3) (pc' := 466) (st' := [dz_I 1, dz_I (dz_sc xs (dz_c (s1.1 + 1))), .ref 114]) rfl rfl ?_
                            replace H := dz_sm H
                            exact H
                      · skip
                        refine wq_if (p := dz_c (dz_sc xs (dz_c (s1.1 + 2))) = 0) (tt := 442) (pc' := 438) rfl rfl (cz_eq rfl) rfl (fun c49 => ?_) (fun c49 => ?_)
                        · replace H := dz_it c49 H
                          refine wp_s (i := .iconst 0) (n := 1) (pc' := 443) (st' := [dz_I 0, dz_I (dz_sc xs (dz_c (s1.1 + 1))), .ref 0]) rfl rfl ?_
                          replace H := dz_sm H
                          exact H
                        · replace H := dz_if c49 H
                          refine wp_s (i := .iconst 1) (n := 1) (pc' := 439) (st' := [dz_I 1, dz_I (dz_sc xs (dz_c (s1.1 + 1))), .ref 0]) rfl rfl ?_
                          refine wp_s (i := .goto 4) (n := 3) (pc' := 443) (st' := [dz_I 1, dz_I (dz_sc xs (dz_c (s1.1 + 1))), .ref 0]) rfl rfl ?_
                          replace H := dz_sm H
                          exact H
                    · replace H := dz_if c39 H
                      by_cases c50 : dz_c (dz_an (dz_sc xs (dz_c s1.1)) 63) = 9
                      · replace H := dz_it c50 H
                        refine wq_ts (x' := dz_c (dz_an (dz_sc xs (dz_c s1.1)) 63)) (tt := 473) rfl rfl (by rw [c50]; rfl) ?_
                        refine wp_s (i := .aload_n 1) (n := 1) (pc' := 474) (st' := [.ref 0]) rfl rfl ?_
                        refine wp_s (i := .aload_n 0) (n := 1) (pc' := 475) (st' := [.retAddr 0, .ref 0]) rfl rfl ?_
                        refine wp_s (i := .iload_n 3) (n := 1) (pc' := 476) (st' := [dz_I s1.1, .retAddr 0, .ref 0]) rfl rfl ?_
                        refine wp_s (i := .iconst 1) (n := 1) (pc' := 477) (st' := [dz_I 1, dz_I s1.1, .retAddr 0, .ref 0]) rfl rfl ?_
                        refine wq_2 (i := .iadd) (z := s1.1 + 1) (pc' := 478) rfl rfl (op_add _ _) rfl ?_
                        obtain ⟨k51, H⟩ := dz_ck H
                        refine wq_sx (j' := dz_c (s1.1 + 1)) (pc' := 479) rfl rfl k51.1 k51.2 rfl ?_
                        refine wp_s (i := .aload_n 0) (n := 1) (pc' := 480) (st' := [.retAddr 0, dz_I (dz_sc xs (dz_c (s1.1 + 1))), .ref 0]) rfl rfl ?_
                        refine wp_s (i := .iload_n 3) (n := 1) (pc' := 481) (st' := [dz_I s1.1, .retAddr 0, dz_I (dz_sc xs (dz_c (s1.1 + 1))), .ref 0]) rfl rfl ?_
                        refine wp_s (i := .iconst 2) (n := 1) (pc' := 482) (st' := [dz_I 2, dz_I s1.1, .retAddr 0, dz_I (dz_sc xs (dz_c (s1.1 + 1))), .ref 0]) rfl rfl ?_
                        refine wq_2 (i := .iadd) (z := s1.1 + 2) (pc' := 483) rfl rfl (op_add _ _) rfl ?_
                        obtain ⟨k52, H⟩ := dz_ck H
                        refine wq_sx (j' := dz_c (s1.1 + 2)) (pc' := 484) rfl rfl k52.1 k52.2 rfl ?_
                        refine wq_cv (Dq := (D + 9)) (r' := mm_r74) (as0 := [dz_I (dz_sc xs (dz_c (s1.1 + 1))), dz_I (dz_sc xs (dz_c (s1.1 + 2)))]) (rest := []) (ls' := [some (.ref 0), some (dz_I (dz_sc xs (dz_c (s1.1 + 1)))), some (dz_I (dz_sc xs (dz_c (s1.1 + 2)))), none]) (pc' := 487) rfl rfl rfl rfl ho_O rfl rfl rfl ?_
                        refine jw_O_cup (X := (some xs)) (D := D + 8) (dz_sc xs (dz_c (s1.1 + 1))) (dz_sc xs (dz_c (s1.1 + 2))) s1.2 (dz_pm (dz_bi H) (fun q53 H => ?_))
                        show mm_Wp (some xs) (D + 10) mm_rL 487 [some (.retAddr 0), some (.ref 0), some (.ref 114), some (dz_I s1.1)] [dz_I q53.1] (hz_0 q53.2) Q
                        refine wp_s (i := .pop) (n := 1) (pc' := 488) (st' := []) rfl rfl ?_
                        refine wp_s (i := .aload_n 2) (n := 1) (pc' := 489) (st' := [.ref 114]) rfl rfl ?_
                        refine wp_s (i := .aload_n 0) (n := 1) (pc' := 490) (st' := [.retAddr 0, .ref 114]) rfl rfl ?_
                        refine wp_s (i := .iload_n 3) (n := 1) (pc' := 491) (st' := [dz_I s1.1, .retAddr 0, .ref 114]) rfl rfl ?_
                        refine wp_s (i := .iconst 1) (n := 1) (pc' := 492) (st' := [dz_I 1, dz_I s1.1, .retAddr 0, .ref 114]) rfl rfl ?_
                        refine wq_2 (i := .iadd) (z := s1.1 + 1) (pc' := 493) rfl rfl (op_add _ _) rfl ?_
                        refine wq_sx (j' := dz_c (s1.1 + 1)) (pc' := 494) rfl rfl k51.1 k51.2 rfl ?_
                        refine wp_s (i := .aload_n 0) (n := 1) (pc' := 495) (st' := [.retAddr 0, dz_I (dz_sc xs (dz_c (s1.1 + 1))), .ref 114]) rfl rfl ?_
                        refine wp_s (i := .iload_n 3) (n := 1) (pc' := 496) (st' := [dz_I s1.1, .retAddr 0, dz_I (dz_sc xs (dz_c (s1.1 + 1))), .ref 114]) rfl rfl ?_
                        refine wp_s (i := .iconst 2) (n := 1) (pc' := 497) (st' := [dz_I 2, dz_I s1.1, .retAddr 0, dz_I (dz_sc xs (dz_c (s1.1 + 1))), .ref 114]) rfl rfl ?_
                        refine wq_2 (i := .iadd) (z := s1.1 + 2) (pc' := 498) rfl rfl (op_add _ _) rfl ?_
                        refine wq_sx (j' := dz_c (s1.1 + 2)) (pc' := 499) rfl rfl k52.1 k52.2 rfl ?_
                        refine wq_cv (Dq := (D + 9)) (r' := mm_r145) (as0 := [dz_I (dz_sc xs (dz_c (s1.1 + 1))), dz_I (dz_sc xs (dz_c (s1.1 + 2)))]) (rest := []) (ls' := [some (.ref 114), some (dz_I (dz_sc xs (dz_c (s1.1 + 1)))), some (dz_I (dz_sc xs (dz_c (s1.1 + 2)))), none]) (pc' := 502) rfl rfl rfl rfl ho_M rfl rfl rfl ?_
                        refine jw_M_cup (X := (some xs)) (D := D + 7) (dz_sc xs (dz_c (s1.1 + 1))) (dz_sc xs (dz_c (s1.1 + 2))) q53.2 (dz_pm (dz_bi H) (fun q54 H => ?_))
                        show mm_Wp (some xs) (D + 10) mm_rL 502 [some (.retAddr 0), some (.ref 0), some (.ref 114), some (dz_I s1.1)] [dz_I q54.1] (hz_0 q54.2) Q
                        refine wp_s (i := .pop) (n := 1) (pc' := 503) (st' := []) rfl rfl ?_
                        refine wp_s (i := .goto 807) (n := 3) (pc' := 1310) (st' := []) rfl rfl ?_
                        refine wq_inc (k := 3) (d := 5) (x := s1.1) (ls' := [some (.retAddr 0), some (.ref 0), some (.ref 114), some (dz_I (s1.1 + 5))]) (pc' := 1313) rfl rfl rfl rfl ?_
                        refine wp_s (i := .goto (-1295)) (n := 3) (pc' := 18) (st' := []) rfl rfl ?_
                        replace H := dz_back H
                        exact H
                      · replace H := dz_if c50 H
                        by_cases c55 : dz_c (dz_an (dz_sc xs (dz_c s1.1)) 63) = 10
                        · replace H := dz_it c55 H
                          refine wq_ts (x' := dz_c (dz_an (dz_sc xs (dz_c s1.1)) 63)) (tt := 506) rfl rfl (by rw [c55]; rfl) ?_
                          refine wp_s (i := .aload_n 1) (n := 1) (pc' := 507) (st' := [.ref 0]) rfl rfl ?_
                          refine wp_s (i := .aload_n 0) (n := 1) (pc' := 508) (st' := [.retAddr 0, .ref 0]) rfl rfl ?_
                          refine wp_s (i := .iload_n 3) (n := 1) (pc' := 509) (st' := [dz_I s1.1, .retAddr 0, .ref 0]) rfl rfl ?_
                          refine wp_s (i := .iconst 1) (n := 1) (pc' := 510) (st' := [dz_I 1, dz_I s1.1, .retAddr 0, .ref 0]) rfl rfl ?_
                          refine wq_2 (i := .iadd) (z := s1.1 + 1) (pc' := 511) rfl rfl (op_add _ _) rfl ?_
                          obtain ⟨k56, H⟩ := dz_ck H
                          refine wq_sx (j' := dz_c (s1.1 + 1)) (pc' := 512) rfl rfl k56.1 k56.2 rfl ?_
                          refine wq_cv (Dq := (D + 9)) (r' := mm_r75) (as0 := [dz_I (dz_sc xs (dz_c (s1.1 + 1)))]) (rest := []) (ls' := [some (.ref 0), some (dz_I (dz_sc xs (dz_c (s1.1 + 1)))), none]) (pc' := 515) rfl rfl rfl rfl ho_O rfl rfl rfl ?_
                          refine jw_O_settings (X := (some xs)) (D := D + 8) (dz_sc xs (dz_c (s1.1 + 1))) s1.2 (dz_pm (dz_bi H) (fun q57 H => ?_))
                          show mm_Wp (some xs) (D + 10) mm_rL 515 [some (.retAddr 0), some (.ref 0), some (.ref 114), some (dz_I s1.1)] [dz_I q57.1] (hz_0 q57.2) Q
                          refine wp_s (i := .pop) (n := 1) (pc' := 516) (st' := []) rfl rfl ?_
                          refine wp_s (i := .aload_n 2) (n := 1) (pc' := 517) (st' := [.ref 114]) rfl rfl ?_
                          refine wp_s (i := .aload_n 0) (n := 1) (pc' := 518) (st' := [.retAddr 0, .ref 114]) rfl rfl ?_
                          refine wp_s (i := .iload_n 3) (n := 1) (pc' := 519) (st' := [dz_I s1.1, .retAddr 0, .ref 114]) rfl rfl ?_
                          refine wp_s (i := .iconst 1) (n := 1) (pc' := 520) (st' := [dz_I 1, dz_I s1.1, .retAddr 0, .ref 114]) rfl rfl ?_
                          refine wq_2 (i := .iadd) (z := s1.1 + 1) (pc' := 521) rfl rfl (op_add _ _) rfl ?_
                          refine wq_sx (j' := dz_c (s1.1 + 1)) (pc' := 522) rfl rfl k56.1 k56.2 rfl ?_
                          refine wq_cv (Dq := (D + 9)) (r' := mm_r149) (as0 := [dz_I (dz_sc xs (dz_c (s1.1 + 1)))]) (rest := []) (ls' := [some (.ref 114), some (dz_I (dz_sc xs (dz_c (s1.1 + 1)))), none]) (pc' := 525) rfl rfl rfl rfl ho_M rfl rfl rfl ?_
                          refine jw_M_settings (X := (some xs)) (D := D + 8) (dz_sc xs (dz_c (s1.1 + 1))) q57.2 (dz_pm (dz_bi H) (fun q58 H => ?_))
                          show mm_Wp (some xs) (D + 10) mm_rL 525 [some (.retAddr 0), some (.ref 0), some (.ref 114), some (dz_I s1.1)] [dz_I q58.1] (hz_0 q58.2) Q
                          refine wp_s (i := .pop) (n := 1) (pc' := 526) (st' := []) rfl rfl ?_
                          refine wp_s (i := .goto 784) (n := 3) (pc' := 1310) (st' := []) rfl rfl ?_
                          refine wq_inc (k := 3) (d := 5) (x := s1.1) (ls' := [some (.retAddr 0), some (.ref 0), some (.ref 114), some (dz_I (s1.1 + 5))]) (pc' := 1313) rfl rfl rfl rfl ?_
                          refine wp_s (i := .goto (-1295)) (n := 3) (pc' := 18) (st' := []) rfl rfl ?_
                          replace H := dz_back H
                          exact H
                        · replace H := dz_if c55 H
                          by_cases c59 : dz_c (dz_an (dz_sc xs (dz_c s1.1)) 63) = 11
                          · replace H := dz_it c59 H
                            refine wq_ts (x' := dz_c (dz_an (dz_sc xs (dz_c s1.1)) 63)) (tt := 529) rfl rfl (by rw [c59]; rfl) ?_
                            refine wp_s (i := .aload_n 1) (n := 1) (pc' := 530) (st' := [.ref 0]) rfl rfl ?_
                            refine wp_s (i := .aload_n 0) (n := 1) (pc' := 531) (st' := [.retAddr 0, .ref 0]) rfl rfl ?_
                            refine wp_s (i := .iload_n 3) (n := 1) (pc' := 532) (st' := [dz_I s1.1, .retAddr 0, .ref 0]) rfl rfl ?_
                            refine wp_s (i := .iconst 1) (n := 1) (pc' := 533) (st' := [dz_I 1, dz_I s1.1, .retAddr 0, .ref 0]) rfl rfl ?_
                            refine wq_2 (i := .iadd) (z := s1.1 + 1) (pc' := 534) rfl rfl (op_add _ _) rfl ?_
                            obtain ⟨k60, H⟩ := dz_ck H
                            refine wq_sx (j' := dz_c (s1.1 + 1)) (pc' := 535) rfl rfl k60.1 k60.2 rfl ?_
                            refine wq_cv (Dq := (D + 9)) (r' := mm_r76) (as0 := [dz_I (dz_sc xs (dz_c (s1.1 + 1)))]) (rest := []) (ls' := [some (.ref 0), some (dz_I (dz_sc xs (dz_c (s1.1 + 1))))]) (pc' := 538) rfl rfl rfl rfl ho_O rfl rfl rfl ?_
                            refine jw_O_rain (X := (some xs)) (D := D + 5) (dz_sc xs (dz_c (s1.1 + 1))) s1.2 (dz_pm (dz_bi H) (fun q61 H => ?_))
                            show mm_Wp (some xs) (D + 10) mm_rL 538 [some (.retAddr 0), some (.ref 0), some (.ref 114), some (dz_I s1.1)] [dz_I q61.1] (hz_0 q61.2) Q
                            refine wp_s (i := .pop) (n := 1) (pc' := 539) (st' := []) rfl rfl ?_
                            refine wp_s (i := .aload_n 2) (n := 1) (pc' := 540) (st' := [.ref 114]) rfl rfl ?_
                            refine wp_s (i := .aload_n 0) (n := 1) (pc' := 541) (st' := [.retAddr 0, .ref 114]) rfl rfl ?_
                            refine wp_s (i := .iload_n 3) (n := 1) (pc' := 542) (st' := [dz_I s1.1, .retAddr 0, .ref 114]) rfl rfl ?_
                            refine wp_s (i := .iconst 1) (n := 1) (pc' := 543) (st' := [dz_I 1, dz_I s1.1, .retAddr 0, .ref 114]) rfl rfl ?_
                            refine wq_2 (i := .iadd) (z := s1.1 + 1) (pc' := 544) rfl rfl (op_add _ _) rfl ?_
                            refine wq_sx (j' := dz_c (s1.1 + 1)) (pc' := 545) rfl rfl k60.1 k60.2 rfl ?_
                            refine wq_cv (Dq := (D + 9)) (r' := mm_r156) (as0 := [dz_I (dz_sc xs (dz_c (s1.1 + 1)))]) (rest := []) (ls' := [some (.ref 114), some (dz_I (dz_sc xs (dz_c (s1.1 + 1))))]) (pc' := 548) rfl rfl rfl rfl ho_M rfl rfl rfl ?_
                            refine jw_M_rain (X := (some xs)) (D := D + 6) (dz_sc xs (dz_c (s1.1 + 1))) q61.2 (dz_pm (dz_bi H) (fun q62 H => ?_))
                            show mm_Wp (some xs) (D + 10) mm_rL 548 [some (.retAddr 0), some (.ref 0), some (.ref 114), some (dz_I s1.1)] [dz_I q62.1] (hz_0 q62.2) Q
                            refine wp_s (i := .pop) (n := 1) (pc' := 549) (st' := []) rfl rfl ?_
                            refine wp_s (i := .goto 761) (n := 3) (pc' := 1310) (st' := []) rfl rfl ?_
                            refine wq_inc (k := 3) (d := 5) (x := s1.1) (ls' := [some (.retAddr 0), some (.ref 0), some (.ref 114), some (dz_I (s1.1 + 5))]) (pc' := 1313) rfl rfl rfl rfl ?_
                            refine wp_s (i := .goto (-1295)) (n := 3) (pc' := 18) (st' := []) rfl rfl ?_
                            replace H := dz_back H
                            exact H
                          · replace H := dz_if c59 H
                            by_cases c63 : dz_c (dz_an (dz_sc xs (dz_c s1.1)) 63) = 12
                            · replace H := dz_it c63 H
                              refine wq_ts (x' := dz_c (dz_an (dz_sc xs (dz_c s1.1)) 63)) (tt := 552) rfl rfl (by rw [c63]; rfl) ?_
                              refine wp_s (i := .aload_n 1) (n := 1) (pc' := 553) (st' := [.ref 0]) rfl rfl ?_
                              refine wq_cv (Dq := (D + 9)) (r' := mm_r77) (as0 := []) (rest := []) (ls' := [some (.ref 0), none]) (pc' := 556) rfl rfl rfl rfl ho_O rfl rfl rfl ?_
                              refine jw_O_dry (X := (some xs)) (D := D + 7) s1.2 (dz_pm (dz_bi H) (fun q64 H => ?_))
                              show mm_Wp (some xs) (D + 10) mm_rL 556 [some (.retAddr 0), some (.ref 0), some (.ref 114), some (dz_I s1.1)] [dz_I q64.1] (hz_0 q64.2) Q
                              refine wp_s (i := .pop) (n := 1) (pc' := 557) (st' := []) rfl rfl ?_
                              refine wp_s (i := .aload_n 2) (n := 1) (pc' := 558) (st' := [.ref 114]) rfl rfl ?_
                              refine wq_cv (Dq := (D + 9)) (r' := mm_r157) (as0 := []) (rest := []) (ls' := [some (.ref 114), none]) (pc' := 561) rfl rfl rfl rfl ho_M rfl rfl rfl ?_
                              refine jw_M_dry (X := (some xs)) (D := D + 8) q64.2 (dz_pm (dz_bi H) (fun q65 H => ?_))
                              show mm_Wp (some xs) (D + 10) mm_rL 561 [some (.retAddr 0), some (.ref 0), some (.ref 114), some (dz_I s1.1)] [dz_I q65.1] (hz_0 q65.2) Q
                              refine wp_s (i := .pop) (n := 1) (pc' := 562) (st' := []) rfl rfl ?_
                              refine wp_s (i := .goto 748) (n := 3) (pc' := 1310) (st' := []) rfl rfl ?_
                              refine wq_inc (k := 3) (d := 5) (x := s1.1) (ls' := [some (.retAddr 0), some (.ref 0), some (.ref 114), some (dz_I (s1.1 + 5))]) (pc' := 1313) rfl rfl rfl rfl ?_
                              refine wp_s (i := .goto (-1295)) (n := 3) (pc' := 18) (st' := []) rfl rfl ?_
                              replace H := dz_back H
                              exact H
                            · replace H := dz_if c63 H
                              by_cases c66 : dz_c (dz_an (dz_sc xs (dz_c s1.1)) 63) = 13
                              · replace H := dz_it c66 H
                                refine wq_ts (x' := dz_c (dz_an (dz_sc xs (dz_c s1.1)) 63)) (tt := 565) rfl rfl (by rw [c66]; rfl) ?_
                                refine wp_s (i := .aload_n 1) (n := 1) (pc' := 566) (st' := [.ref 0]) rfl rfl ?_
                                refine wp_s (i := .aload_n 0) (n := 1) (pc' := 567) (st' := [.retAddr 0, .ref 0]) rfl rfl ?_
                                refine wp_s (i := .iload_n 3) (n := 1) (pc' := 568) (st' := [dz_I s1.1, .retAddr 0, .ref 0]) rfl rfl ?_
                                refine wp_s (i := .iconst 1) (n := 1) (pc' := 569) (st' := [dz_I 1, dz_I s1.1, .retAddr 0, .ref 0]) rfl rfl ?_
                                refine wq_2 (i := .iadd) (z := s1.1 + 1) (pc' := 570) rfl rfl (op_add _ _) rfl ?_
                                obtain ⟨k67, H⟩ := dz_ck H
                                refine wq_sx (j' := dz_c (s1.1 + 1)) (pc' := 571) rfl rfl k67.1 k67.2 rfl ?_
                                refine wq_cv (Dq := (D + 9)) (r' := mm_r78) (as0 := [dz_I (dz_sc xs (dz_c (s1.1 + 1)))]) (rest := []) (ls' := [some (.ref 0), some (dz_I (dz_sc xs (dz_c (s1.1 + 1))))]) (pc' := 574) rfl rfl rfl rfl ho_O rfl rfl rfl ?_
                                refine jw_O_water (X := (some xs)) (D := D + 8) (dz_sc xs (dz_c (s1.1 + 1))) s1.2 (dz_pm (dz_bi H) (fun q68 H => ?_))
                                show mm_Wp (some xs) (D + 10) mm_rL 574 [some (.retAddr 0), some (.ref 0), some (.ref 114), some (dz_I s1.1)] [dz_I q68] (hz_0 s1.2) Q
                                refine wp_s (i := .pop) (n := 1) (pc' := 575) (st' := []) rfl rfl ?_
                                refine wp_s (i := .aload_n 2) (n := 1) (pc' := 576) (st' := [.ref 114]) rfl rfl ?_
                                refine wp_s (i := .aload_n 0) (n := 1) (pc' := 577) (st' := [.retAddr 0, .ref 114]) rfl rfl ?_
                                refine wp_s (i := .iload_n 3) (n := 1) (pc' := 578) (st' := [dz_I s1.1, .retAddr 0, .ref 114]) rfl rfl ?_
                                refine wp_s (i := .iconst 1) (n := 1) (pc' := 579) (st' := [dz_I 1, dz_I s1.1, .retAddr 0, .ref 114]) rfl rfl ?_
                                refine wq_2 (i := .iadd) (z := s1.1 + 1) (pc' := 580) rfl rfl (op_add _ _) rfl ?_
                                refine wq_sx (j' := dz_c (s1.1 + 1)) (pc' := 581) rfl rfl k67.1 k67.2 rfl ?_
                                refine wq_cv (Dq := (D + 9)) (r' := mm_r158) (as0 := [dz_I (dz_sc xs (dz_c (s1.1 + 1)))]) (rest := []) (ls' := [some (.ref 114), some (dz_I (dz_sc xs (dz_c (s1.1 + 1))))]) (pc' := 584) rfl rfl rfl rfl ho_M rfl rfl rfl ?_
                                refine jw_M_water (X := (some xs)) (D := D + 8) (dz_sc xs (dz_c (s1.1 + 1))) s1.2 (dz_pm (dz_bi H) (fun q69 H => ?_))
                                show mm_Wp (some xs) (D + 10) mm_rL 584 [some (.retAddr 0), some (.ref 0), some (.ref 114), some (dz_I s1.1)] [dz_I q69] (hz_0 s1.2) Q
                                refine wp_s (i := .pop) (n := 1) (pc' := 585) (st' := []) rfl rfl ?_
                                refine wp_s (i := .goto 725) (n := 3) (pc' := 1310) (st' := []) rfl rfl ?_
                                refine wq_inc (k := 3) (d := 5) (x := s1.1) (ls' := [some (.retAddr 0), some (.ref 0), some (.ref 114), some (dz_I (s1.1 + 5))]) (pc' := 1313) rfl rfl rfl rfl ?_
                                refine wp_s (i := .goto (-1295)) (n := 3) (pc' := 18) (st' := []) rfl rfl ?_
                                replace H := dz_back H
                                exact H
                              · replace H := dz_if c66 H
                                by_cases c70 : dz_c (dz_an (dz_sc xs (dz_c s1.1)) 63) = 14
                                · replace H := dz_it c70 H
                                  refine wq_ts (x' := dz_c (dz_an (dz_sc xs (dz_c s1.1)) 63)) (tt := 588) rfl rfl (by rw [c70]; rfl) ?_
                                  refine wp_s (i := .aload_n 1) (n := 1) (pc' := 589) (st' := [.ref 0]) rfl rfl ?_
                                  refine wp_s (i := .aload_n 0) (n := 1) (pc' := 590) (st' := [.retAddr 0, .ref 0]) rfl rfl ?_
                                  refine wp_s (i := .iload_n 3) (n := 1) (pc' := 591) (st' := [dz_I s1.1, .retAddr 0, .ref 0]) rfl rfl ?_
                                  refine wp_s (i := .iconst 1) (n := 1) (pc' := 592) (st' := [dz_I 1, dz_I s1.1, .retAddr 0, .ref 0]) rfl rfl ?_
                                  refine wq_2 (i := .iadd) (z := s1.1 + 1) (pc' := 593) rfl rfl (op_add _ _) rfl ?_
                                  obtain ⟨k71, H⟩ := dz_ck H
                                  refine wq_sx (j' := dz_c (s1.1 + 1)) (pc' := 594) rfl rfl k71.1 k71.2 rfl ?_
                                  refine wq_cv (Dq := (D + 9)) (r' := mm_r79) (as0 := [dz_I (dz_sc xs (dz_c (s1.1 + 1)))]) (rest := []) (ls' := [some (.ref 0), some (dz_I (dz_sc xs (dz_c (s1.1 + 1))))]) (pc' := 597) rfl rfl rfl rfl ho_O rfl rfl rfl ?_
                                  refine jw_O_loud (X := (some xs)) (D := D + 8) (dz_sc xs (dz_c (s1.1 + 1))) s1.2 (dz_pm (dz_bi H) (fun q72 H => ?_))
                                  show mm_Wp (some xs) (D + 10) mm_rL 597 [some (.retAddr 0), some (.ref 0), some (.ref 114), some (dz_I s1.1)] [dz_I q72] (hz_0 s1.2) Q
                                  refine wp_s (i := .pop) (n := 1) (pc' := 598) (st' := []) rfl rfl ?_
                                  refine wp_s (i := .aload_n 2) (n := 1) (pc' := 599) (st' := [.ref 114]) rfl rfl ?_
                                  refine wp_s (i := .aload_n 0) (n := 1) (pc' := 600) (st' := [.retAddr 0, .ref 114]) rfl rfl ?_
                                  refine wp_s (i := .iload_n 3) (n := 1) (pc' := 601) (st' := [dz_I s1.1, .retAddr 0, .ref 114]) rfl rfl ?_
                                  refine wp_s (i := .iconst 1) (n := 1) (pc' := 602) (st' := [dz_I 1, dz_I s1.1, .retAddr 0, .ref 114]) rfl rfl ?_
                                  refine wq_2 (i := .iadd) (z := s1.1 + 1) (pc' := 603) rfl rfl (op_add _ _) rfl ?_
                                  refine wq_sx (j' := dz_c (s1.1 + 1)) (pc' := 604) rfl rfl k71.1 k71.2 rfl ?_
                                  refine wq_cv (Dq := (D + 9)) (r' := mm_r159) (as0 := [dz_I (dz_sc xs (dz_c (s1.1 + 1)))]) (rest := []) (ls' := [some (.ref 114), some (dz_I (dz_sc xs (dz_c (s1.1 + 1))))]) (pc' := 607) rfl rfl rfl rfl ho_M rfl rfl rfl ?_
                                  refine jw_M_loud (X := (some xs)) (D := D + 7) (dz_sc xs (dz_c (s1.1 + 1))) s1.2 (dz_pm (dz_bi H) (fun q73 H => ?_))
                                  show mm_Wp (some xs) (D + 10) mm_rL 607 [some (.retAddr 0), some (.ref 0), some (.ref 114), some (dz_I s1.1)] [dz_I q73] (hz_0 s1.2) Q
                                  refine wp_s (i := .pop) (n := 1) (pc' := 608) (st' := []) rfl rfl ?_
                                  refine wp_s (i := .goto 702) (n := 3) (pc' := 1310) (st' := []) rfl rfl ?_
                                  refine wq_inc (k := 3) (d := 5) (x := s1.1) (ls' := [some (.retAddr 0), some (.ref 0), some (.ref 114), some (dz_I (s1.1 + 5))]) (pc' := 1313) rfl rfl rfl rfl ?_
                                  refine wp_s (i := .goto (-1295)) (n := 3) (pc' := 18) (st' := []) rfl rfl ?_
                                  replace H := dz_back H
                                  exact H
                                · replace H := dz_if c70 H
                                  by_cases c74 : dz_c (dz_an (dz_sc xs (dz_c s1.1)) 63) = 15
                                  · replace H := dz_it c74 H
                                    refine wq_ts (x' := dz_c (dz_an (dz_sc xs (dz_c s1.1)) 63)) (tt := 611) rfl rfl (by rw [c74]; rfl) ?_
                                    refine wp_s (i := .aload_n 1) (n := 1) (pc' := 612) (st' := [.ref 0]) rfl rfl ?_
                                    refine wp_s (i := .aload_n 0) (n := 1) (pc' := 613) (st' := [.retAddr 0, .ref 0]) rfl rfl ?_
                                    refine wp_s (i := .iload_n 3) (n := 1) (pc' := 614) (st' := [dz_I s1.1, .retAddr 0, .ref 0]) rfl rfl ?_
                                    refine wp_s (i := .iconst 1) (n := 1) (pc' := 615) (st' := [dz_I 1, dz_I s1.1, .retAddr 0, .ref 0]) rfl rfl ?_
                                    refine wq_2 (i := .iadd) (z := s1.1 + 1) (pc' := 616) rfl rfl (op_add _ _) rfl ?_
                                    obtain ⟨k75, H⟩ := dz_ck H
                                    refine wq_sx (j' := dz_c (s1.1 + 1)) (pc' := 617) rfl rfl k75.1 k75.2 rfl ?_
                                    refine wp_s (i := .aload_n 0) (n := 1) (pc' := 618) (st' := [.retAddr 0, dz_I (dz_sc xs (dz_c (s1.1 + 1))), .ref 0]) rfl rfl ?_
                                    refine wp_s (i := .iload_n 3) (n := 1) (pc' := 619) (st' := [dz_I s1.1, .retAddr 0, dz_I (dz_sc xs (dz_c (s1.1 + 1))), .ref 0]) rfl rfl ?_
                                    refine wp_s (i := .iconst 2) (n := 1) (pc' := 620) (st' := [dz_I 2, dz_I s1.1, .retAddr 0, dz_I (dz_sc xs (dz_c (s1.1 + 1))), .ref 0]) rfl rfl ?_
                                    refine wq_2 (i := .iadd) (z := s1.1 + 2) (pc' := 621) rfl rfl (op_add _ _) rfl ?_
                                    obtain ⟨k76, H⟩ := dz_ck H
                                    refine wq_sx (j' := dz_c (s1.1 + 2)) (pc' := 622) rfl rfl k76.1 k76.2 rfl ?_
                                    refine wq_cv (Dq := (D + 9)) (r' := mm_r80) (as0 := [dz_I (dz_sc xs (dz_c (s1.1 + 1))), dz_I (dz_sc xs (dz_c (s1.1 + 2)))]) (rest := []) (ls' := [some (.ref 0), some (dz_I (dz_sc xs (dz_c (s1.1 + 1)))), some (dz_I (dz_sc xs (dz_c (s1.1 + 2))))]) (pc' := 625) rfl rfl rfl rfl ho_O rfl rfl rfl ?_
                                    refine jw_O_shower (X := (some xs)) (D := D + 8) (dz_sc xs (dz_c (s1.1 + 1))) (dz_sc xs (dz_c (s1.1 + 2))) s1.2 (dz_pm (dz_bi H) (fun q77 H => ?_))
                                    show mm_Wp (some xs) (D + 10) mm_rL 625 [some (.retAddr 0), some (.ref 0), some (.ref 114), some (dz_I s1.1)] [dz_I q77] (hz_0 s1.2) Q
                                    refine wp_s (i := .pop) (n := 1) (pc' := 626) (st' := []) rfl rfl ?_
                                    refine wp_s (i := .aload_n 2) (n := 1) (pc' := 627) (st' := [.ref 114]) rfl rfl ?_
                                    refine wp_s (i := .aload_n 0) (n := 1) (pc' := 628) (st' := [.retAddr 0, .ref 114]) rfl rfl ?_
                                    refine wp_s (i := .iload_n 3) (n := 1) (pc' := 629) (st' := [dz_I s1.1, .retAddr 0, .ref 114]) rfl rfl ?_
                                    refine wp_s (i := .iconst 1) (n := 1) (pc' := 630) (st' := [dz_I 1, dz_I s1.1, .retAddr 0, .ref 114]) rfl rfl ?_
                                    refine wq_2 (i := .iadd) (z := s1.1 + 1) (pc' := 631) rfl rfl (op_add _ _) rfl ?_
                                    refine wq_sx (j' := dz_c (s1.1 + 1)) (pc' := 632) rfl rfl k75.1 k75.2 rfl ?_
                                    refine wp_s (i := .aload_n 0) (n := 1) (pc' := 633) (st' := [.retAddr 0, dz_I (dz_sc xs (dz_c (s1.1 + 1))), .ref 114]) rfl rfl ?_
                                    refine wp_s (i := .iload_n 3) (n := 1) (pc' := 634) (st' := [dz_I s1.1, .retAddr 0, dz_I (dz_sc xs (dz_c (s1.1 + 1))), .ref 114]) rfl rfl ?_
                                    refine wp_s (i := .iconst 2) (n := 1) (pc' := 635) (st' := [dz_I 2, dz_I s1.1, .retAddr 0, dz_I (dz_sc xs (dz_c (s1.1 + 1))), .ref 114]) rfl rfl ?_
                                    refine wq_2 (i := .iadd) (z := s1.1 + 2) (pc' := 636) rfl rfl (op_add _ _) rfl ?_
                                    refine wq_sx (j' := dz_c (s1.1 + 2)) (pc' := 637) rfl rfl k76.1 k76.2 rfl ?_
                                    refine wq_cv (Dq := (D + 9)) (r' := mm_r163) (as0 := [dz_I (dz_sc xs (dz_c (s1.1 + 1))), dz_I (dz_sc xs (dz_c (s1.1 + 2)))]) (rest := []) (ls' := [some (.ref 114), some (dz_I (dz_sc xs (dz_c (s1.1 + 1)))), some (dz_I (dz_sc xs (dz_c (s1.1 + 2))))]) (pc' := 640) rfl rfl rfl rfl ho_M rfl rfl rfl ?_
                                    refine jw_M_shower (X := (some xs)) (D := D + 7) (dz_sc xs (dz_c (s1.1 + 1))) (dz_sc xs (dz_c (s1.1 + 2))) s1.2 (dz_pm (dz_bi H) (fun q78 H => ?_))
                                    show mm_Wp (some xs) (D + 10) mm_rL 640 [some (.retAddr 0), some (.ref 0), some (.ref 114), some (dz_I s1.1)] [dz_I q78] (hz_0 s1.2) Q
                                    refine wp_s (i := .pop) (n := 1) (pc' := 641) (st' := []) rfl rfl ?_
                                    refine wp_s (i := .goto 669) (n := 3) (pc' := 1310) (st' := []) rfl rfl ?_
                                    refine wq_inc (k := 3) (d := 5) (x := s1.1) (ls' := [some (.retAddr 0), some (.ref 0), some (.ref 114), some (dz_I (s1.1 + 5))]) (pc' := 1313) rfl rfl rfl rfl ?_
                                    refine wp_s (i := .goto (-1295)) (n := 3) (pc' := 18) (st' := []) rfl rfl ?_
                                    replace H := dz_back H
                                    exact H
                                  · replace H := dz_if c74 H
                                    by_cases c79 : dz_c (dz_an (dz_sc xs (dz_c s1.1)) 63) = 16
                                    · replace H := dz_it c79 H
                                      refine wq_ts (x' := dz_c (dz_an (dz_sc xs (dz_c s1.1)) 63)) (tt := 644) rfl rfl (by rw [c79]; rfl) ?_
                                      refine wp_s (i := .aload_n 1) (n := 1) (pc' := 645) (st' := [.ref 0]) rfl rfl ?_
                                      refine wp_s (i := .aload_n 0) (n := 1) (pc' := 646) (st' := [.retAddr 0, .ref 0]) rfl rfl ?_
                                      refine wp_s (i := .iload_n 3) (n := 1) (pc' := 647) (st' := [dz_I s1.1, .retAddr 0, .ref 0]) rfl rfl ?_
                                      refine wp_s (i := .iconst 1) (n := 1) (pc' := 648) (st' := [dz_I 1, dz_I s1.1, .retAddr 0, .ref 0]) rfl rfl ?_
                                      refine wq_2 (i := .iadd) (z := s1.1 + 1) (pc' := 649) rfl rfl (op_add _ _) rfl ?_
                                      obtain ⟨k80, H⟩ := dz_ck H
                                      refine wq_sx (j' := dz_c (s1.1 + 1)) (pc' := 650) rfl rfl k80.1 k80.2 rfl ?_
                                      refine wp_s (i := .aload_n 0) (n := 1) (pc' := 651) (st' := [.retAddr 0, dz_I (dz_sc xs (dz_c (s1.1 + 1))), .ref 0]) rfl rfl ?_
                                      refine wp_s (i := .iload_n 3) (n := 1) (pc' := 652) (st' := [dz_I s1.1, .retAddr 0, dz_I (dz_sc xs (dz_c (s1.1 + 1))), .ref 0]) rfl rfl ?_
                                      refine wp_s (i := .iconst 2) (n := 1) (pc' := 653) (st' := [dz_I 2, dz_I s1.1, .retAddr 0, dz_I (dz_sc xs (dz_c (s1.1 + 1))), .ref 0]) rfl rfl ?_
                                      refine wq_2 (i := .iadd) (z := s1.1 + 2) (pc' := 654) rfl rfl (op_add _ _) rfl ?_
                                      obtain ⟨k81, H⟩ := dz_ck H
                                      refine wq_sx (j' := dz_c (s1.1 + 2)) (pc' := 655) rfl rfl k81.1 k81.2 rfl ?_
                                      refine wq_cv (Dq := (D + 9)) (r' := mm_r81) (as0 := [dz_I (dz_sc xs (dz_c (s1.1 + 1))), dz_I (dz_sc xs (dz_c (s1.1 + 2)))]) (rest := []) (ls' := [some (.ref 0), some (dz_I (dz_sc xs (dz_c (s1.1 + 1)))), some (dz_I (dz_sc xs (dz_c (s1.1 + 2))))]) (pc' := 658) rfl rfl rfl rfl ho_O rfl rfl rfl ?_
                                      refine jw_O_plays (X := (some xs)) (D := D + 4) (dz_sc xs (dz_c (s1.1 + 1))) (dz_sc xs (dz_c (s1.1 + 2))) s1.2 (dz_pm (dz_bi H) (fun q82 H => ?_))
                                      show mm_Wp (some xs) (D + 10) mm_rL 658 [some (.retAddr 0), some (.ref 0), some (.ref 114), some (dz_I s1.1)] [dz_I q82.1] (hz_0 q82.2) Q
                                      refine wp_s (i := .pop) (n := 1) (pc' := 659) (st' := []) rfl rfl ?_
                                      refine wp_s (i := .aload_n 2) (n := 1) (pc' := 660) (st' := [.ref 114]) rfl rfl ?_
                                      refine wp_s (i := .aload_n 0) (n := 1) (pc' := 661) (st' := [.retAddr 0, .ref 114]) rfl rfl ?_
                                      refine wp_s (i := .iload_n 3) (n := 1) (pc' := 662) (st' := [dz_I s1.1, .retAddr 0, .ref 114]) rfl rfl ?_
                                      refine wp_s (i := .iconst 1) (n := 1) (pc' := 663) (st' := [dz_I 1, dz_I s1.1, .retAddr 0, .ref 114]) rfl rfl ?_
                                      refine wq_2 (i := .iadd) (z := s1.1 + 1) (pc' := 664) rfl rfl (op_add _ _) rfl ?_
                                      refine wq_sx (j' := dz_c (s1.1 + 1)) (pc' := 665) rfl rfl k80.1 k80.2 rfl ?_
                                      refine wp_s (i := .aload_n 0) (n := 1) (pc' := 666) (st' := [.retAddr 0, dz_I (dz_sc xs (dz_c (s1.1 + 1))), .ref 114]) rfl rfl ?_
                                      refine wp_s (i := .iload_n 3) (n := 1) (pc' := 667) (st' := [dz_I s1.1, .retAddr 0, dz_I (dz_sc xs (dz_c (s1.1 + 1))), .ref 114]) rfl rfl ?_
                                      refine wp_s (i := .iconst 2) (n := 1) (pc' := 668) (st' := [dz_I 2, dz_I s1.1, .retAddr 0, dz_I (dz_sc xs (dz_c (s1.1 + 1))), .ref 114]) rfl rfl ?_
                                      refine wq_2 (i := .iadd) (z := s1.1 + 2) (pc' := 669) rfl rfl (op_add _ _) rfl ?_
                                      refine wq_sx (j' := dz_c (s1.1 + 2)) (pc' := 670) rfl rfl k81.1 k81.2 rfl ?_
                                      refine wq_cv (Dq := (D + 9)) (r' := mm_r164) (as0 := [dz_I (dz_sc xs (dz_c (s1.1 + 1))), dz_I (dz_sc xs (dz_c (s1.1 + 2)))]) (rest := []) (ls' := [some (.ref 114), some (dz_I (dz_sc xs (dz_c (s1.1 + 1)))), some (dz_I (dz_sc xs (dz_c (s1.1 + 2))))]) (pc' := 673) rfl rfl rfl rfl ho_M rfl rfl rfl ?_
                                      refine jw_M_plays (X := (some xs)) (D := D + 4) (dz_sc xs (dz_c (s1.1 + 1))) (dz_sc xs (dz_c (s1.1 + 2))) q82.2 (dz_pm (dz_bi H) (fun q83 H => ?_))
                                      show mm_Wp (some xs) (D + 10) mm_rL 673 [some (.retAddr 0), some (.ref 0), some (.ref 114), some (dz_I s1.1)] [dz_I q83.1] (hz_0 q83.2) Q
                                      refine wp_s (i := .pop) (n := 1) (pc' := 674) (st' := []) rfl rfl ?_
                                      refine wp_s (i := .goto 636) (n := 3) (pc' := 1310) (st' := []) rfl rfl ?_
                                      refine wq_inc (k := 3) (d := 5) (x := s1.1) (ls' := [some (.retAddr 0), some (.ref 0), some (.ref 114), some (dz_I (s1.1 + 5))]) (pc' := 1313) rfl rfl rfl rfl ?_
                                      refine wp_s (i := .goto (-1295)) (n := 3) (pc' := 18) (st' := []) rfl rfl ?_
                                      replace H := dz_back H
                                      exact H
                                    · replace H := dz_if c79 H
                                      by_cases c84 : dz_c (dz_an (dz_sc xs (dz_c s1.1)) 63) = 17
                                      · replace H := dz_it c84 H
                                        refine wq_ts (x' := dz_c (dz_an (dz_sc xs (dz_c s1.1)) 63)) (tt := 677) rfl rfl (by rw [c84]; rfl) ?_
                                        refine wp_s (i := .aload_n 1) (n := 1) (pc' := 678) (st' := [.ref 0]) rfl rfl ?_
                                        refine wp_s (i := .aload_n 0) (n := 1) (pc' := 679) (st' := [.retAddr 0, .ref 0]) rfl rfl ?_
                                        refine wp_s (i := .iload_n 3) (n := 1) (pc' := 680) (st' := [dz_I s1.1, .retAddr 0, .ref 0]) rfl rfl ?_
                                        refine wp_s (i := .iconst 1) (n := 1) (pc' := 681) (st' := [dz_I 1, dz_I s1.1, .retAddr 0, .ref 0]) rfl rfl ?_
                                        refine wq_2 (i := .iadd) (z := s1.1 + 1) (pc' := 682) rfl rfl (op_add _ _) rfl ?_
                                        obtain ⟨k85, H⟩ := dz_ck H
                                        refine wq_sx (j' := dz_c (s1.1 + 1)) (pc' := 683) rfl rfl k85.1 k85.2 rfl ?_
                                        refine wp_s (i := .aload_n 0) (n := 1) (pc' := 684) (st' := [.retAddr 0, dz_I (dz_sc xs (dz_c (s1.1 + 1))), .ref 0]) rfl rfl ?_
                                        refine wp_s (i := .iload_n 3) (n := 1) (pc' := 685) (st' := [dz_I s1.1, .retAddr 0, dz_I (dz_sc xs (dz_c (s1.1 + 1))), .ref 0]) rfl rfl ?_
                                        refine wp_s (i := .iconst 2) (n := 1) (pc' := 686) (st' := [dz_I 2, dz_I s1.1, .retAddr 0, dz_I (dz_sc xs (dz_c (s1.1 + 1))), .ref 0]) rfl rfl ?_
                                        refine wq_2 (i := .iadd) (z := s1.1 + 2) (pc' := 687) rfl rfl (op_add _ _) rfl ?_
                                        obtain ⟨k86, H⟩ := dz_ck H
                                        refine wq_sx (j' := dz_c (s1.1 + 2)) (pc' := 688) rfl rfl k86.1 k86.2 rfl ?_
                                        refine wq_cv (Dq := (D + 9)) (r' := mm_r82) (as0 := [dz_I (dz_sc xs (dz_c (s1.1 + 1))), dz_I (dz_sc xs (dz_c (s1.1 + 2)))]) (rest := []) (ls' := [some (.ref 0), some (dz_I (dz_sc xs (dz_c (s1.1 + 1)))), some (dz_I (dz_sc xs (dz_c (s1.1 + 2)))), none]) (pc' := 691) rfl rfl rfl rfl ho_O rfl rfl rfl ?_
                                        refine jw_O_falls (X := (some xs)) (D := D + 4) (dz_sc xs (dz_c (s1.1 + 1))) (dz_sc xs (dz_c (s1.1 + 2))) s1.2 (dz_pm (dz_bi H) (fun q87 H => ?_))
                                        show mm_Wp (some xs) (D + 10) mm_rL 691 [some (.retAddr 0), some (.ref 0), some (.ref 114), some (dz_I s1.1)] [dz_I q87.1] (hz_0 q87.2) Q
                                        refine wp_s (i := .pop) (n := 1) (pc' := 692) (st' := []) rfl rfl ?_
                                        refine wp_s (i := .aload_n 2) (n := 1) (pc' := 693) (st' := [.ref 114]) rfl rfl ?_
                                        refine wp_s (i := .aload_n 0) (n := 1) (pc' := 694) (st' := [.retAddr 0, .ref 114]) rfl rfl ?_
                                        refine wp_s (i := .iload_n 3) (n := 1) (pc' := 695) (st' := [dz_I s1.1, .retAddr 0, .ref 114]) rfl rfl ?_
                                        refine wp_s (i := .iconst 1) (n := 1) (pc' := 696) (st' := [dz_I 1, dz_I s1.1, .retAddr 0, .ref 114]) rfl rfl ?_
                                        refine wq_2 (i := .iadd) (z := s1.1 + 1) (pc' := 697) rfl rfl (op_add _ _) rfl ?_
                                        refine wq_sx (j' := dz_c (s1.1 + 1)) (pc' := 698) rfl rfl k85.1 k85.2 rfl ?_
                                        refine wp_s (i := .aload_n 0) (n := 1) (pc' := 699) (st' := [.retAddr 0, dz_I (dz_sc xs (dz_c (s1.1 + 1))), .ref 114]) rfl rfl ?_
                                        refine wp_s (i := .iload_n 3) (n := 1) (pc' := 700) (st' := [dz_I s1.1, .retAddr 0, dz_I (dz_sc xs (dz_c (s1.1 + 1))), .ref 114]) rfl rfl ?_
                                        refine wp_s (i := .iconst 2) (n := 1) (pc' := 701) (st' := [dz_I 2, dz_I s1.1, .retAddr 0, dz_I (dz_sc xs (dz_c (s1.1 + 1))), .ref 114]) rfl rfl ?_
                                        refine wq_2 (i := .iadd) (z := s1.1 + 2) (pc' := 702) rfl rfl (op_add _ _) rfl ?_
                                        refine wq_sx (j' := dz_c (s1.1 + 2)) (pc' := 703) rfl rfl k86.1 k86.2 rfl ?_
                                        refine wq_cv (Dq := (D + 9)) (r' := mm_r165) (as0 := [dz_I (dz_sc xs (dz_c (s1.1 + 1))), dz_I (dz_sc xs (dz_c (s1.1 + 2)))]) (rest := []) (ls' := [some (.ref 114), some (dz_I (dz_sc xs (dz_c (s1.1 + 1)))), some (dz_I (dz_sc xs (dz_c (s1.1 + 2)))), none, none, none, none]) (pc' := 706) rfl rfl rfl rfl ho_M rfl rfl rfl ?_
                                        refine jw_M_falls (X := (some xs)) (D := D + 4) (dz_sc xs (dz_c (s1.1 + 1))) (dz_sc xs (dz_c (s1.1 + 2))) q87.2 (dz_pm (dz_bi H) (fun q88 H => ?_))
                                        show mm_Wp (some xs) (D + 10) mm_rL 706 [some (.retAddr 0), some (.ref 0), some (.ref 114), some (dz_I s1.1)] [dz_I q88.1] (hz_0 q88.2) Q
                                        refine wp_s (i := .pop) (n := 1) (pc' := 707) (st' := []) rfl rfl ?_
                                        refine wp_s (i := .goto 603) (n := 3) (pc' := 1310) (st' := []) rfl rfl ?_
                                        refine wq_inc (k := 3) (d := 5) (x := s1.1) (ls' := [some (.retAddr 0), some (.ref 0), some (.ref 114), some (dz_I (s1.1 + 5))]) (pc' := 1313) rfl rfl rfl rfl ?_
                                        refine wp_s (i := .goto (-1295)) (n := 3) (pc' := 18) (st' := []) rfl rfl ?_
                                        replace H := dz_back H
                                        exact H
                                      · replace H := dz_if c84 H
                                        by_cases c89 : dz_c (dz_an (dz_sc xs (dz_c s1.1)) 63) = 18
                                        · replace H := dz_it c89 H
                                          refine wq_ts (x' := dz_c (dz_an (dz_sc xs (dz_c s1.1)) 63)) (tt := 710) rfl rfl (by rw [c89]; rfl) ?_
                                          refine wp_s (i := .aload_n 1) (n := 1) (pc' := 711) (st' := [.ref 0]) rfl rfl ?_
                                          refine wp_s (i := .aload_n 0) (n := 1) (pc' := 712) (st' := [.retAddr 0, .ref 0]) rfl rfl ?_
                                          refine wp_s (i := .iload_n 3) (n := 1) (pc' := 713) (st' := [dz_I s1.1, .retAddr 0, .ref 0]) rfl rfl ?_
                                          refine wp_s (i := .iconst 1) (n := 1) (pc' := 714) (st' := [dz_I 1, dz_I s1.1, .retAddr 0, .ref 0]) rfl rfl ?_
                                          refine wq_2 (i := .iadd) (z := s1.1 + 1) (pc' := 715) rfl rfl (op_add _ _) rfl ?_
                                          obtain ⟨k90, H⟩ := dz_ck H
                                          refine wq_sx (j' := dz_c (s1.1 + 1)) (pc' := 716) rfl rfl k90.1 k90.2 rfl ?_
                                          refine wq_cv (Dq := (D + 9)) (r' := mm_r83) (as0 := [dz_I (dz_sc xs (dz_c (s1.1 + 1)))]) (rest := []) (ls' := [some (.ref 0), some (dz_I (dz_sc xs (dz_c (s1.1 + 1))))]) (pc' := 719) rfl rfl rfl rfl ho_O rfl rfl rfl ?_
                                          refine jw_O_tune (X := (some xs)) (D := D + 9) (dz_sc xs (dz_c (s1.1 + 1))) s1.2 (dz_pm (dz_bi H) (fun q91 H => ?_))
                                          show mm_Wp (some xs) (D + 10) mm_rL 719 [some (.retAddr 0), some (.ref 0), some (.ref 114), some (dz_I s1.1)] [dz_I q91] (hz_0 s1.2) Q
                                          refine wp_s (i := .pop) (n := 1) (pc' := 720) (st' := []) rfl rfl ?_
                                          refine wp_s (i := .aload_n 2) (n := 1) (pc' := 721) (st' := [.ref 114]) rfl rfl ?_
                                          refine wp_s (i := .aload_n 0) (n := 1) (pc' := 722) (st' := [.retAddr 0, .ref 114]) rfl rfl ?_
                                          refine wp_s (i := .iload_n 3) (n := 1) (pc' := 723) (st' := [dz_I s1.1, .retAddr 0, .ref 114]) rfl rfl ?_
                                          refine wp_s (i := .iconst 1) (n := 1) (pc' := 724) (st' := [dz_I 1, dz_I s1.1, .retAddr 0, .ref 114]) rfl rfl ?_
                                          refine wq_2 (i := .iadd) (z := s1.1 + 1) (pc' := 725) rfl rfl (op_add _ _) rfl ?_
                                          refine wq_sx (j' := dz_c (s1.1 + 1)) (pc' := 726) rfl rfl k90.1 k90.2 rfl ?_
                                          refine wq_cv (Dq := (D + 9)) (r' := mm_r166) (as0 := [dz_I (dz_sc xs (dz_c (s1.1 + 1)))]) (rest := []) (ls' := [some (.ref 114), some (dz_I (dz_sc xs (dz_c (s1.1 + 1))))]) (pc' := 729) rfl rfl rfl rfl ho_M rfl rfl rfl ?_
                                          refine jw_M_tune (X := (some xs)) (D := D + 8) (dz_sc xs (dz_c (s1.1 + 1))) s1.2 (dz_pm (dz_bi H) (fun q92 H => ?_))
                                          show mm_Wp (some xs) (D + 10) mm_rL 729 [some (.retAddr 0), some (.ref 0), some (.ref 114), some (dz_I s1.1)] [dz_I q92] (hz_0 s1.2) Q
                                          refine wp_s (i := .pop) (n := 1) (pc' := 730) (st' := []) rfl rfl ?_
                                          refine wp_s (i := .goto 580) (n := 3) (pc' := 1310) (st' := []) rfl rfl ?_
                                          refine wq_inc (k := 3) (d := 5) (x := s1.1) (ls' := [some (.retAddr 0), some (.ref 0), some (.ref 114), some (dz_I (s1.1 + 5))]) (pc' := 1313) rfl rfl rfl rfl ?_
                                          refine wp_s (i := .goto (-1295)) (n := 3) (pc' := 18) (st' := []) rfl rfl ?_
                                          replace H := dz_back H
                                          exact H
                                        · replace H := dz_if c89 H
                                          by_cases c93 : dz_c (dz_an (dz_sc xs (dz_c s1.1)) 63) = 19
                                          · replace H := dz_it c93 H
                                            refine wq_ts (x' := dz_c (dz_an (dz_sc xs (dz_c s1.1)) 63)) (tt := 733) rfl rfl (by rw [c93]; rfl) ?_
                                            refine wp_s (i := .aload_n 1) (n := 1) (pc' := 734) (st' := [.ref 0]) rfl rfl ?_
                                            refine wp_s (i := .aload_n 0) (n := 1) (pc' := 735) (st' := [.retAddr 0, .ref 0]) rfl rfl ?_
                                            refine wp_s (i := .iload_n 3) (n := 1) (pc' := 736) (st' := [dz_I s1.1, .retAddr 0, .ref 0]) rfl rfl ?_
                                            refine wp_s (i := .iconst 1) (n := 1) (pc' := 737) (st' := [dz_I 1, dz_I s1.1, .retAddr 0, .ref 0]) rfl rfl ?_
                                            refine wq_2 (i := .iadd) (z := s1.1 + 1) (pc' := 738) rfl rfl (op_add _ _) rfl ?_
                                            obtain ⟨k94, H⟩ := dz_ck H
                                            refine wq_sx (j' := dz_c (s1.1 + 1)) (pc' := 739) rfl rfl k94.1 k94.2 rfl ?_
                                            refine wp_s (i := .aload_n 0) (n := 1) (pc' := 740) (st' := [.retAddr 0, dz_I (dz_sc xs (dz_c (s1.1 + 1))), .ref 0]) rfl rfl ?_
                                            refine wp_s (i := .iload_n 3) (n := 1) (pc' := 741) (st' := [dz_I s1.1, .retAddr 0, dz_I (dz_sc xs (dz_c (s1.1 + 1))), .ref 0]) rfl rfl ?_
                                            refine wp_s (i := .iconst 2) (n := 1) (pc' := 742) (st' := [dz_I 2, dz_I s1.1, .retAddr 0, dz_I (dz_sc xs (dz_c (s1.1 + 1))), .ref 0]) rfl rfl ?_
                                            refine wq_2 (i := .iadd) (z := s1.1 + 2) (pc' := 743) rfl rfl (op_add _ _) rfl ?_
                                            obtain ⟨k95, H⟩ := dz_ck H
                                            refine wq_sx (j' := dz_c (s1.1 + 2)) (pc' := 744) rfl rfl k95.1 k95.2 rfl ?_
                                            refine wq_cv (Dq := (D + 9)) (r' := mm_r84) (as0 := [dz_I (dz_sc xs (dz_c (s1.1 + 1))), dz_I (dz_sc xs (dz_c (s1.1 + 2)))]) (rest := []) (ls' := [some (.ref 0), some (dz_I (dz_sc xs (dz_c (s1.1 + 1)))), some (dz_I (dz_sc xs (dz_c (s1.1 + 2))))]) (pc' := 747) rfl rfl rfl rfl ho_O rfl rfl rfl ?_
                                            refine jw_O_tells (X := (some xs)) (D := D + 9) (dz_sc xs (dz_c (s1.1 + 1))) (dz_sc xs (dz_c (s1.1 + 2))) s1.2 (dz_pm (dz_bi H) (fun q96 H => ?_))
                                            show mm_Wp (some xs) (D + 10) mm_rL 747 [some (.retAddr 0), some (.ref 0), some (.ref 114), some (dz_I s1.1)] [dz_I q96.1] (hz_0 q96.2) Q
                                            refine wp_s (i := .pop) (n := 1) (pc' := 748) (st' := []) rfl rfl ?_
                                            refine wp_s (i := .aload_n 2) (n := 1) (pc' := 749) (st' := [.ref 114]) rfl rfl ?_
                                            refine wp_s (i := .aload_n 0) (n := 1) (pc' := 750) (st' := [.retAddr 0, .ref 114]) rfl rfl ?_
                                            refine wp_s (i := .iload_n 3) (n := 1) (pc' := 751) (st' := [dz_I s1.1, .retAddr 0, .ref 114]) rfl rfl ?_
                                            refine wp_s (i := .iconst 1) (n := 1) (pc' := 752) (st' := [dz_I 1, dz_I s1.1, .retAddr 0, .ref 114]) rfl rfl ?_
                                            refine wq_2 (i := .iadd) (z := s1.1 + 1) (pc' := 753) rfl rfl (op_add _ _) rfl ?_
                                            refine wq_sx (j' := dz_c (s1.1 + 1)) (pc' := 754) rfl rfl k94.1 k94.2 rfl ?_
                                            refine wp_s (i := .aload_n 0) (n := 1) (pc' := 755) (st' := [.retAddr 0, dz_I (dz_sc xs (dz_c (s1.1 + 1))), .ref 114]) rfl rfl ?_
                                            refine wp_s (i := .iload_n 3) (n := 1) (pc' := 756) (st' := [dz_I s1.1, .retAddr 0, dz_I (dz_sc xs (dz_c (s1.1 + 1))), .ref 114]) rfl rfl ?_
                                            refine wp_s (i := .iconst 2) (n := 1) (pc' := 757) (st' := [dz_I 2, dz_I s1.1, .retAddr 0, dz_I (dz_sc xs (dz_c (s1.1 + 1))), .ref 114]) rfl rfl ?_
                                            refine wq_2 (i := .iadd) (z := s1.1 + 2) (pc' := 758) rfl rfl (op_add _ _) rfl ?_
                                            refine wq_sx (j' := dz_c (s1.1 + 2)) (pc' := 759) rfl rfl k95.1 k95.2 rfl ?_
                                            refine wq_cv (Dq := (D + 9)) (r' := mm_r167) (as0 := [dz_I (dz_sc xs (dz_c (s1.1 + 1))), dz_I (dz_sc xs (dz_c (s1.1 + 2)))]) (rest := []) (ls' := [some (.ref 114), some (dz_I (dz_sc xs (dz_c (s1.1 + 1)))), some (dz_I (dz_sc xs (dz_c (s1.1 + 2))))]) (pc' := 762) rfl rfl rfl rfl ho_M rfl rfl rfl ?_
                                            refine jw_M_tells (X := (some xs)) (D := D + 8) (dz_sc xs (dz_c (s1.1 + 1))) (dz_sc xs (dz_c (s1.1 + 2))) q96.2 (dz_pm (dz_bi H) (fun q97 H => ?_))
                                            show mm_Wp (some xs) (D + 10) mm_rL 762 [some (.retAddr 0), some (.ref 0), some (.ref 114), some (dz_I s1.1)] [dz_I q97.1] (hz_0 q97.2) Q
                                            refine wp_s (i := .pop) (n := 1) (pc' := 763) (st' := []) rfl rfl ?_
                                            refine wp_s (i := .goto 547) (n := 3) (pc' := 1310) (st' := []) rfl rfl ?_
                                            refine wq_inc (k := 3) (d := 5) (x := s1.1) (ls' := [some (.retAddr 0), some (.ref 0), some (.ref 114), some (dz_I (s1.1 + 5))]) (pc' := 1313) rfl rfl rfl rfl ?_
                                            refine wp_s (i := .goto (-1295)) (n := 3) (pc' := 18) (st' := []) rfl rfl ?_
                                            replace H := dz_back H
                                            exact H
                                          · replace H := dz_if c93 H
                                            by_cases c98 : dz_c (dz_an (dz_sc xs (dz_c s1.1)) 63) = 20
                                            · replace H := dz_it c98 H
                                              refine wq_ts (x' := dz_c (dz_an (dz_sc xs (dz_c s1.1)) 63)) (tt := 766) rfl rfl (by rw [c98]; rfl) ?_
                                              refine wp_s (i := .aload_n 1) (n := 1) (pc' := 767) (st' := [.ref 0]) rfl rfl ?_
                                              refine wp_s (i := .aload_n 0) (n := 1) (pc' := 768) (st' := [.retAddr 0, .ref 0]) rfl rfl ?_
                                              refine wp_s (i := .iload_n 3) (n := 1) (pc' := 769) (st' := [dz_I s1.1, .retAddr 0, .ref 0]) rfl rfl ?_
                                              refine wp_s (i := .iconst 1) (n := 1) (pc' := 770) (st' := [dz_I 1, dz_I s1.1, .retAddr 0, .ref 0]) rfl rfl ?_
                                              refine wq_2 (i := .iadd) (z := s1.1 + 1) (pc' := 771) rfl rfl (op_add _ _) rfl ?_
                                              obtain ⟨k99, H⟩ := dz_ck H
                                              refine wq_sx (j' := dz_c (s1.1 + 1)) (pc' := 772) rfl rfl k99.1 k99.2 rfl ?_
                                              refine wq_cv (Dq := (D + 9)) (r' := mm_r85) (as0 := [dz_I (dz_sc xs (dz_c (s1.1 + 1)))]) (rest := []) (ls' := [some (.ref 0), some (dz_I (dz_sc xs (dz_c (s1.1 + 1))))]) (pc' := 775) rfl rfl rfl rfl ho_O rfl rfl rfl ?_
                                              refine jw_O_far (X := (some xs)) (D := D + 3) (dz_sc xs (dz_c (s1.1 + 1))) s1.2 (dz_pm (dz_bi H) (fun q100 H => ?_))
                                              show mm_Wp (some xs) (D + 10) mm_rL 775 [some (.retAddr 0), some (.ref 0), some (.ref 114), some (dz_I s1.1)] [dz_I q100.1] (hz_0 q100.2) Q
                                              refine wp_s (i := .pop) (n := 1) (pc' := 776) (st' := []) rfl rfl ?_
                                              refine wp_s (i := .aload_n 2) (n := 1) (pc' := 777) (st' := [.ref 114]) rfl rfl ?_
                                              refine wp_s (i := .aload_n 0) (n := 1) (pc' := 778) (st' := [.retAddr 0, .ref 114]) rfl rfl ?_
                                              refine wp_s (i := .iload_n 3) (n := 1) (pc' := 779) (st' := [dz_I s1.1, .retAddr 0, .ref 114]) rfl rfl ?_
                                              refine wp_s (i := .iconst 1) (n := 1) (pc' := 780) (st' := [dz_I 1, dz_I s1.1, .retAddr 0, .ref 114]) rfl rfl ?_
                                              refine wq_2 (i := .iadd) (z := s1.1 + 1) (pc' := 781) rfl rfl (op_add _ _) rfl ?_
                                              refine wq_sx (j' := dz_c (s1.1 + 1)) (pc' := 782) rfl rfl k99.1 k99.2 rfl ?_
                                              refine wq_cv (Dq := (D + 9)) (r' := mm_r170) (as0 := [dz_I (dz_sc xs (dz_c (s1.1 + 1)))]) (rest := []) (ls' := [some (.ref 114), some (dz_I (dz_sc xs (dz_c (s1.1 + 1))))]) (pc' := 785) rfl rfl rfl rfl ho_M rfl rfl rfl ?_
                                              refine jw_M_far (X := (some xs)) (D := D + 3) (dz_sc xs (dz_c (s1.1 + 1))) q100.2 (dz_pm (dz_bi H) (fun q101 H => ?_))
                                              show mm_Wp (some xs) (D + 10) mm_rL 785 [some (.retAddr 0), some (.ref 0), some (.ref 114), some (dz_I s1.1)] [dz_I q101.1] (hz_0 q101.2) Q
                                              refine wp_s (i := .pop) (n := 1) (pc' := 786) (st' := []) rfl rfl ?_
                                              refine wp_s (i := .goto 524) (n := 3) (pc' := 1310) (st' := []) rfl rfl ?_
                                              refine wq_inc (k := 3) (d := 5) (x := s1.1) (ls' := [some (.retAddr 0), some (.ref 0), some (.ref 114), some (dz_I (s1.1 + 5))]) (pc' := 1313) rfl rfl rfl rfl ?_
                                              refine wp_s (i := .goto (-1295)) (n := 3) (pc' := 18) (st' := []) rfl rfl ?_
                                              replace H := dz_back H
                                              exact H
                                            · replace H := dz_if c98 H
                                              by_cases c102 : dz_c (dz_an (dz_sc xs (dz_c s1.1)) 63) = 21
                                              · replace H := dz_it c102 H
                                                refine wq_ts (x' := dz_c (dz_an (dz_sc xs (dz_c s1.1)) 63)) (tt := 789) rfl rfl (by rw [c102]; rfl) ?_
                                                refine wp_s (i := .aload_n 1) (n := 1) (pc' := 790) (st' := [.ref 0]) rfl rfl ?_
                                                refine wp_s (i := .aload_n 0) (n := 1) (pc' := 791) (st' := [.retAddr 0, .ref 0]) rfl rfl ?_
                                                refine wp_s (i := .iload_n 3) (n := 1) (pc' := 792) (st' := [dz_I s1.1, .retAddr 0, .ref 0]) rfl rfl ?_
                                                refine wp_s (i := .iconst 1) (n := 1) (pc' := 793) (st' := [dz_I 1, dz_I s1.1, .retAddr 0, .ref 0]) rfl rfl ?_
                                                refine wq_2 (i := .iadd) (z := s1.1 + 1) (pc' := 794) rfl rfl (op_add _ _) rfl ?_
                                                obtain ⟨k103, H⟩ := dz_ck H
                                                refine wq_sx (j' := dz_c (s1.1 + 1)) (pc' := 795) rfl rfl k103.1 k103.2 rfl ?_
                                                refine wp_s (i := .aload_n 0) (n := 1) (pc' := 796) (st' := [.retAddr 0, dz_I (dz_sc xs (dz_c (s1.1 + 1))), .ref 0]) rfl rfl ?_
                                                refine wp_s (i := .iload_n 3) (n := 1) (pc' := 797) (st' := [dz_I s1.1, .retAddr 0, dz_I (dz_sc xs (dz_c (s1.1 + 1))), .ref 0]) rfl rfl ?_
                                                refine wp_s (i := .iconst 2) (n := 1) (pc' := 798) (st' := [dz_I 2, dz_I s1.1, .retAddr 0, dz_I (dz_sc xs (dz_c (s1.1 + 1))), .ref 0]) rfl rfl ?_
                                                refine wq_2 (i := .iadd) (z := s1.1 + 2) (pc' := 799) rfl rfl (op_add _ _) rfl ?_
                                                obtain ⟨k104, H⟩ := dz_ck H
                                                refine wq_sx (j' := dz_c (s1.1 + 2)) (pc' := 800) rfl rfl k104.1 k104.2 rfl ?_
                                                refine wq_cv (Dq := (D + 9)) (r' := mm_r86) (as0 := [dz_I (dz_sc xs (dz_c (s1.1 + 1))), dz_I (dz_sc xs (dz_c (s1.1 + 2)))]) (rest := []) (ls' := [some (.ref 0), some (dz_I (dz_sc xs (dz_c (s1.1 + 1)))), some (dz_I (dz_sc xs (dz_c (s1.1 + 2))))]) (pc' := 803) rfl rfl rfl rfl ho_O rfl rfl rfl ?_
                                                refine jw_O_best (X := (some xs)) (D := D + 3) (dz_sc xs (dz_c (s1.1 + 1))) (dz_sc xs (dz_c (s1.1 + 2))) s1.2 (dz_pm (dz_bi H) (fun q105 H => ?_))
                                                show mm_Wp (some xs) (D + 10) mm_rL 803 [some (.retAddr 0), some (.ref 0), some (.ref 114), some (dz_I s1.1)] [dz_I q105.1] (hz_0 q105.2) Q
                                                refine wp_s (i := .pop) (n := 1) (pc' := 804) (st' := []) rfl rfl ?_
                                                refine wp_s (i := .aload_n 2) (n := 1) (pc' := 805) (st' := [.ref 114]) rfl rfl ?_
                                                refine wp_s (i := .aload_n 0) (n := 1) (pc' := 806) (st' := [.retAddr 0, .ref 114]) rfl rfl ?_
                                                refine wp_s (i := .iload_n 3) (n := 1) (pc' := 807) (st' := [dz_I s1.1, .retAddr 0, .ref 114]) rfl rfl ?_
                                                refine wp_s (i := .iconst 1) (n := 1) (pc' := 808) (st' := [dz_I 1, dz_I s1.1, .retAddr 0, .ref 114]) rfl rfl ?_
                                                refine wq_2 (i := .iadd) (z := s1.1 + 1) (pc' := 809) rfl rfl (op_add _ _) rfl ?_
                                                refine wq_sx (j' := dz_c (s1.1 + 1)) (pc' := 810) rfl rfl k103.1 k103.2 rfl ?_
                                                refine wp_s (i := .aload_n 0) (n := 1) (pc' := 811) (st' := [.retAddr 0, dz_I (dz_sc xs (dz_c (s1.1 + 1))), .ref 114]) rfl rfl ?_
                                                refine wp_s (i := .iload_n 3) (n := 1) (pc' := 812) (st' := [dz_I s1.1, .retAddr 0, dz_I (dz_sc xs (dz_c (s1.1 + 1))), .ref 114]) rfl rfl ?_
                                                refine wp_s (i := .iconst 2) (n := 1) (pc' := 813) (st' := [dz_I 2, dz_I s1.1, .retAddr 0, dz_I (dz_sc xs (dz_c (s1.1 + 1))), .ref 114]) rfl rfl ?_
                                                refine wq_2 (i := .iadd) (z := s1.1 + 2) (pc' := 814) rfl rfl (op_add _ _) rfl ?_
                                                refine wq_sx (j' := dz_c (s1.1 + 2)) (pc' := 815) rfl rfl k104.1 k104.2 rfl ?_
                                                refine wq_cv (Dq := (D + 9)) (r' := mm_r172) (as0 := [dz_I (dz_sc xs (dz_c (s1.1 + 1))), dz_I (dz_sc xs (dz_c (s1.1 + 2)))]) (rest := []) (ls' := [some (.ref 114), some (dz_I (dz_sc xs (dz_c (s1.1 + 1)))), some (dz_I (dz_sc xs (dz_c (s1.1 + 2))))]) (pc' := 818) rfl rfl rfl rfl ho_M rfl rfl rfl ?_
                                                refine jw_M_best (X := (some xs)) (D := D + 2) (dz_sc xs (dz_c (s1.1 + 1))) (dz_sc xs (dz_c (s1.1 + 2))) q105.2 (dz_pm (dz_bi H) (fun q106 H => ?_))
                                                show mm_Wp (some xs) (D + 10) mm_rL 818 [some (.retAddr 0), some (.ref 0), some (.ref 114), some (dz_I s1.1)] [dz_I q106.1] (hz_0 q106.2) Q
                                                refine wp_s (i := .pop) (n := 1) (pc' := 819) (st' := []) rfl rfl ?_
                                                refine wp_s (i := .goto 491) (n := 3) (pc' := 1310) (st' := []) rfl rfl ?_
                                                refine wq_inc (k := 3) (d := 5) (x := s1.1) (ls' := [some (.retAddr 0), some (.ref 0), some (.ref 114), some (dz_I (s1.1 + 5))]) (pc' := 1313) rfl rfl rfl rfl ?_
                                                refine wp_s (i := .goto (-1295)) (n := 3) (pc' := 18) (st' := []) rfl rfl ?_
                                                replace H := dz_back H
                                                exact H
                                              · replace H := dz_if c102 H
                                                by_cases c107 : dz_c (dz_an (dz_sc xs (dz_c s1.1)) 63) = 22
                                                · replace H := dz_it c107 H
                                                  refine wq_ts (x' := dz_c (dz_an (dz_sc xs (dz_c s1.1)) 63)) (tt := 822) rfl rfl (by rw [c107]; rfl) ?_
                                                  refine wp_s (i := .aload_n 1) (n := 1) (pc' := 823) (st' := [.ref 0]) rfl rfl ?_
                                                  refine wp_s (i := .aload_n 0) (n := 1) (pc' := 824) (st' := [.retAddr 0, .ref 0]) rfl rfl ?_
                                                  refine wp_s (i := .iload_n 3) (n := 1) (pc' := 825) (st' := [dz_I s1.1, .retAddr 0, .ref 0]) rfl rfl ?_
                                                  refine wp_s (i := .iconst 1) (n := 1) (pc' := 826) (st' := [dz_I 1, dz_I s1.1, .retAddr 0, .ref 0]) rfl rfl ?_
                                                  refine wq_2 (i := .iadd) (z := s1.1 + 1) (pc' := 827) rfl rfl (op_add _ _) rfl ?_
                                                  obtain ⟨k108, H⟩ := dz_ck H
                                                  refine wq_sx (j' := dz_c (s1.1 + 1)) (pc' := 828) rfl rfl k108.1 k108.2 rfl ?_
                                                  refine wp_s (i := .aload_n 0) (n := 1) (pc' := 829) (st' := [.retAddr 0, dz_I (dz_sc xs (dz_c (s1.1 + 1))), .ref 0]) rfl rfl ?_
                                                  refine wp_s (i := .iload_n 3) (n := 1) (pc' := 830) (st' := [dz_I s1.1, .retAddr 0, dz_I (dz_sc xs (dz_c (s1.1 + 1))), .ref 0]) rfl rfl ?_
                                                  refine wp_s (i := .iconst 2) (n := 1) (pc' := 831) (st' := [dz_I 2, dz_I s1.1, .retAddr 0, dz_I (dz_sc xs (dz_c (s1.1 + 1))), .ref 0]) rfl rfl ?_
                                                  refine wq_2 (i := .iadd) (z := s1.1 + 2) (pc' := 832) rfl rfl (op_add _ _) rfl ?_
                                                  obtain ⟨k109, H⟩ := dz_ck H
                                                  refine wq_sx (j' := dz_c (s1.1 + 2)) (pc' := 833) rfl rfl k109.1 k109.2 rfl ?_
                                                  refine wq_cv (Dq := (D + 9)) (r' := mm_r87) (as0 := [dz_I (dz_sc xs (dz_c (s1.1 + 1))), dz_I (dz_sc xs (dz_c (s1.1 + 2)))]) (rest := []) (ls' := [some (.ref 0), some (dz_I (dz_sc xs (dz_c (s1.1 + 1)))), some (dz_I (dz_sc xs (dz_c (s1.1 + 2))))]) (pc' := 836) rfl rfl rfl rfl ho_O rfl rfl rfl ?_
                                                  refine jw_O_fewest (X := (some xs)) (D := D + 3) (dz_sc xs (dz_c (s1.1 + 1))) (dz_sc xs (dz_c (s1.1 + 2))) s1.2 (dz_pm (dz_bi H) (fun q110 H => ?_))
                                                  show mm_Wp (some xs) (D + 10) mm_rL 836 [some (.retAddr 0), some (.ref 0), some (.ref 114), some (dz_I s1.1)] [dz_I q110.1] (hz_0 q110.2) Q
                                                  refine wp_s (i := .pop) (n := 1) (pc' := 837) (st' := []) rfl rfl ?_
                                                  refine wp_s (i := .aload_n 2) (n := 1) (pc' := 838) (st' := [.ref 114]) rfl rfl ?_
                                                  refine wp_s (i := .aload_n 0) (n := 1) (pc' := 839) (st' := [.retAddr 0, .ref 114]) rfl rfl ?_
                                                  refine wp_s (i := .iload_n 3) (n := 1) (pc' := 840) (st' := [dz_I s1.1, .retAddr 0, .ref 114]) rfl rfl ?_
                                                  refine wp_s (i := .iconst 1) (n := 1) (pc' := 841) (st' := [dz_I 1, dz_I s1.1, .retAddr 0, .ref 114]) rfl rfl ?_
                                                  refine wq_2 (i := .iadd) (z := s1.1 + 1) (pc' := 842) rfl rfl (op_add _ _) rfl ?_
                                                  refine wq_sx (j' := dz_c (s1.1 + 1)) (pc' := 843) rfl rfl k108.1 k108.2 rfl ?_
                                                  refine wp_s (i := .aload_n 0) (n := 1) (pc' := 844) (st' := [.retAddr 0, dz_I (dz_sc xs (dz_c (s1.1 + 1))), .ref 114]) rfl rfl ?_
                                                  refine wp_s (i := .iload_n 3) (n := 1) (pc' := 845) (st' := [dz_I s1.1, .retAddr 0, dz_I (dz_sc xs (dz_c (s1.1 + 1))), .ref 114]) rfl rfl ?_
                                                  refine wp_s (i := .iconst 2) (n := 1) (pc' := 846) (st' := [dz_I 2, dz_I s1.1, .retAddr 0, dz_I (dz_sc xs (dz_c (s1.1 + 1))), .ref 114]) rfl rfl ?_
                                                  refine wq_2 (i := .iadd) (z := s1.1 + 2) (pc' := 847) rfl rfl (op_add _ _) rfl ?_
                                                  refine wq_sx (j' := dz_c (s1.1 + 2)) (pc' := 848) rfl rfl k109.1 k109.2 rfl ?_
                                                  refine wq_cv (Dq := (D + 9)) (r' := mm_r174) (as0 := [dz_I (dz_sc xs (dz_c (s1.1 + 1))), dz_I (dz_sc xs (dz_c (s1.1 + 2)))]) (rest := []) (ls' := [some (.ref 114), some (dz_I (dz_sc xs (dz_c (s1.1 + 1)))), some (dz_I (dz_sc xs (dz_c (s1.1 + 2)))), none, none, none, none, none]) (pc' := 851) rfl rfl rfl rfl ho_M rfl rfl rfl ?_
                                                  refine jw_M_fewest (X := (some xs)) (D := D + 2) (dz_sc xs (dz_c (s1.1 + 1))) (dz_sc xs (dz_c (s1.1 + 2))) q110.2 (dz_pm (dz_bi H) (fun q111 H => ?_))
                                                  show mm_Wp (some xs) (D + 10) mm_rL 851 [some (.retAddr 0), some (.ref 0), some (.ref 114), some (dz_I s1.1)] [dz_I q111.1] (hz_0 q111.2) Q
                                                  refine wp_s (i := .pop) (n := 1) (pc' := 852) (st' := []) rfl rfl ?_
                                                  refine wp_s (i := .goto 458) (n := 3) (pc' := 1310) (st' := []) rfl rfl ?_
                                                  refine wq_inc (k := 3) (d := 5) (x := s1.1) (ls' := [some (.retAddr 0), some (.ref 0), some (.ref 114), some (dz_I (s1.1 + 5))]) (pc' := 1313) rfl rfl rfl rfl ?_
                                                  refine wp_s (i := .goto (-1295)) (n := 3) (pc' := 18) (st' := []) rfl rfl ?_
                                                  replace H := dz_back H
                                                  exact H
                                                · replace H := dz_if c107 H
                                                  by_cases c112 : dz_c (dz_an (dz_sc xs (dz_c s1.1)) 63) = 23
                                                  · replace H := dz_it c112 H
                                                    refine wq_ts (x' := dz_c (dz_an (dz_sc xs (dz_c s1.1)) 63)) (tt := 855) rfl rfl (by rw [c112]; rfl) ?_
                                                    refine wp_s (i := .aload_n 1) (n := 1) (pc' := 856) (st' := [.ref 0]) rfl rfl ?_
                                                    refine wp_s (i := .aload_n 0) (n := 1) (pc' := 857) (st' := [.retAddr 0, .ref 0]) rfl rfl ?_
                                                    refine wp_s (i := .iload_n 3) (n := 1) (pc' := 858) (st' := [dz_I s1.1, .retAddr 0, .ref 0]) rfl rfl ?_
                                                    refine wp_s (i := .iconst 1) (n := 1) (pc' := 859) (st' := [dz_I 1, dz_I s1.1, .retAddr 0, .ref 0]) rfl rfl ?_
                                                    refine wq_2 (i := .iadd) (z := s1.1 + 1) (pc' := 860) rfl rfl (op_add _ _) rfl ?_
                                                    obtain ⟨k113, H⟩ := dz_ck H
                                                    refine wq_sx (j' := dz_c (s1.1 + 1)) (pc' := 861) rfl rfl k113.1 k113.2 rfl ?_
                                                    refine wq_cv (Dq := (D + 9)) (r' := mm_r88) (as0 := [dz_I (dz_sc xs (dz_c (s1.1 + 1)))]) (rest := []) (ls' := [some (.ref 0), some (dz_I (dz_sc xs (dz_c (s1.1 + 1))))]) (pc' := 864) rfl rfl rfl rfl ho_O rfl rfl rfl ?_
                                                    refine jw_O_all (X := (some xs)) (D := D + 3) (dz_sc xs (dz_c (s1.1 + 1))) s1.2 (dz_pm (dz_bi H) (fun q114 H => ?_))
                                                    show mm_Wp (some xs) (D + 10) mm_rL 864 [some (.retAddr 0), some (.ref 0), some (.ref 114), some (dz_I s1.1)] [dz_I q114.1] (hz_0 q114.2) Q
                                                    refine wp_s (i := .pop) (n := 1) (pc' := 865) (st' := []) rfl rfl ?_
                                                    refine wp_s (i := .aload_n 2) (n := 1) (pc' := 866) (st' := [.ref 114]) rfl rfl ?_
                                                    refine wp_s (i := .aload_n 0) (n := 1) (pc' := 867) (st' := [.retAddr 0, .ref 114]) rfl rfl ?_
                                                    refine wp_s (i := .iload_n 3) (n := 1) (pc' := 868) (st' := [dz_I s1.1, .retAddr 0, .ref 114]) rfl rfl ?_
                                                    refine wp_s (i := .iconst 1) (n := 1) (pc' := 869) (st' := [dz_I 1, dz_I s1.1, .retAddr 0, .ref 114]) rfl rfl ?_
                                                    refine wq_2 (i := .iadd) (z := s1.1 + 1) (pc' := 870) rfl rfl (op_add _ _) rfl ?_
                                                    refine wq_sx (j' := dz_c (s1.1 + 1)) (pc' := 871) rfl rfl k113.1 k113.2 rfl ?_
                                                    refine wq_cv (Dq := (D + 9)) (r' := mm_r175) (as0 := [dz_I (dz_sc xs (dz_c (s1.1 + 1)))]) (rest := []) (ls' := [some (.ref 114), some (dz_I (dz_sc xs (dz_c (s1.1 + 1)))), none, none, none, none, none, none]) (pc' := 874) rfl rfl rfl rfl ho_M rfl rfl rfl ?_
                                                    refine jw_M_all (X := (some xs)) (D := D + 3) (dz_sc xs (dz_c (s1.1 + 1))) q114.2 (dz_pm (dz_bi H) (fun q115 H => ?_))
                                                    show mm_Wp (some xs) (D + 10) mm_rL 874 [some (.retAddr 0), some (.ref 0), some (.ref 114), some (dz_I s1.1)] [dz_I q115.1] (hz_0 q115.2) Q
                                                    refine wp_s (i := .pop) (n := 1) (pc' := 875) (st' := []) rfl rfl ?_
                                                    refine wp_s (i := .goto 435) (n := 3) (pc' := 1310) (st' := []) rfl rfl ?_
                                                    refine wq_inc (k := 3) (d := 5) (x := s1.1) (ls' := [some (.retAddr 0), some (.ref 0), some (.ref 114), some (dz_I (s1.1 + 5))]) (pc' := 1313) rfl rfl rfl rfl ?_
                                                    refine wp_s (i := .goto (-1295)) (n := 3) (pc' := 18) (st' := []) rfl rfl ?_
                                                    replace H := dz_back H
                                                    exact H
                                                  · replace H := dz_if c112 H
                                                    by_cases c116 : dz_c (dz_an (dz_sc xs (dz_c s1.1)) 63) = 24
                                                    · replace H := dz_it c116 H
                                                      refine wq_ts (x' := dz_c (dz_an (dz_sc xs (dz_c s1.1)) 63)) (tt := 878) rfl rfl (by rw [c116]; rfl) ?_
                                                      refine wp_s (i := .aload_n 1) (n := 1) (pc' := 879) (st' := [.ref 0]) rfl rfl ?_
                                                      refine wp_s (i := .aload_n 0) (n := 1) (pc' := 880) (st' := [.retAddr 0, .ref 0]) rfl rfl ?_
                                                      refine wp_s (i := .iload_n 3) (n := 1) (pc' := 881) (st' := [dz_I s1.1, .retAddr 0, .ref 0]) rfl rfl ?_
                                                      refine wp_s (i := .iconst 1) (n := 1) (pc' := 882) (st' := [dz_I 1, dz_I s1.1, .retAddr 0, .ref 0]) rfl rfl ?_
                                                      refine wq_2 (i := .iadd) (z := s1.1 + 1) (pc' := 883) rfl rfl (op_add _ _) rfl ?_
                                                      obtain ⟨k117, H⟩ := dz_ck H
                                                      refine wq_sx (j' := dz_c (s1.1 + 1)) (pc' := 884) rfl rfl k117.1 k117.2 rfl ?_
                                                      refine wp_s (i := .aload_n 0) (n := 1) (pc' := 885) (st' := [.retAddr 0, dz_I (dz_sc xs (dz_c (s1.1 + 1))), .ref 0]) rfl rfl ?_
                                                      refine wp_s (i := .iload_n 3) (n := 1) (pc' := 886) (st' := [dz_I s1.1, .retAddr 0, dz_I (dz_sc xs (dz_c (s1.1 + 1))), .ref 0]) rfl rfl ?_
                                                      refine wp_s (i := .iconst 2) (n := 1) (pc' := 887) (st' := [dz_I 2, dz_I s1.1, .retAddr 0, dz_I (dz_sc xs (dz_c (s1.1 + 1))), .ref 0]) rfl rfl ?_
                                                      refine wq_2 (i := .iadd) (z := s1.1 + 2) (pc' := 888) rfl rfl (op_add _ _) rfl ?_
                                                      obtain ⟨k118, H⟩ := dz_ck H
                                                      refine wq_sx (j' := dz_c (s1.1 + 2)) (pc' := 889) rfl rfl k118.1 k118.2 rfl ?_
                                                      refine wq_cv (Dq := (D + 9)) (r' := mm_r89) (as0 := [dz_I (dz_sc xs (dz_c (s1.1 + 1))), dz_I (dz_sc xs (dz_c (s1.1 + 2)))]) (rest := []) (ls' := [some (.ref 0), some (dz_I (dz_sc xs (dz_c (s1.1 + 1)))), some (dz_I (dz_sc xs (dz_c (s1.1 + 2))))]) (pc' := 892) rfl rfl rfl rfl ho_O rfl rfl rfl ?_
                                                      refine jw_O_quiet (X := (some xs)) (D := D + 3) (dz_sc xs (dz_c (s1.1 + 1))) (dz_sc xs (dz_c (s1.1 + 2))) s1.2 (dz_pm (dz_bi H) (fun q119 H => ?_))
                                                      show mm_Wp (some xs) (D + 10) mm_rL 892 [some (.retAddr 0), some (.ref 0), some (.ref 114), some (dz_I s1.1)] [dz_I q119.1] (hz_0 q119.2) Q
                                                      refine wp_s (i := .pop) (n := 1) (pc' := 893) (st' := []) rfl rfl ?_
                                                      refine wp_s (i := .aload_n 2) (n := 1) (pc' := 894) (st' := [.ref 114]) rfl rfl ?_
                                                      refine wp_s (i := .aload_n 0) (n := 1) (pc' := 895) (st' := [.retAddr 0, .ref 114]) rfl rfl ?_
                                                      refine wp_s (i := .iload_n 3) (n := 1) (pc' := 896) (st' := [dz_I s1.1, .retAddr 0, .ref 114]) rfl rfl ?_
                                                      refine wp_s (i := .iconst 1) (n := 1) (pc' := 897) (st' := [dz_I 1, dz_I s1.1, .retAddr 0, .ref 114]) rfl rfl ?_
                                                      refine wq_2 (i := .iadd) (z := s1.1 + 1) (pc' := 898) rfl rfl (op_add _ _) rfl ?_
                                                      refine wq_sx (j' := dz_c (s1.1 + 1)) (pc' := 899) rfl rfl k117.1 k117.2 rfl ?_
                                                      refine wp_s (i := .aload_n 0) (n := 1) (pc' := 900) (st' := [.retAddr 0, dz_I (dz_sc xs (dz_c (s1.1 + 1))), .ref 114]) rfl rfl ?_
                                                      refine wp_s (i := .iload_n 3) (n := 1) (pc' := 901) (st' := [dz_I s1.1, .retAddr 0, dz_I (dz_sc xs (dz_c (s1.1 + 1))), .ref 114]) rfl rfl ?_
                                                      refine wp_s (i := .iconst 2) (n := 1) (pc' := 902) (st' := [dz_I 2, dz_I s1.1, .retAddr 0, dz_I (dz_sc xs (dz_c (s1.1 + 1))), .ref 114]) rfl rfl ?_
                                                      refine wq_2 (i := .iadd) (z := s1.1 + 2) (pc' := 903) rfl rfl (op_add _ _) rfl ?_
                                                      refine wq_sx (j' := dz_c (s1.1 + 2)) (pc' := 904) rfl rfl k118.1 k118.2 rfl ?_
                                                      refine wq_cv (Dq := (D + 9)) (r' := mm_r177) (as0 := [dz_I (dz_sc xs (dz_c (s1.1 + 1))), dz_I (dz_sc xs (dz_c (s1.1 + 2)))]) (rest := []) (ls' := [some (.ref 114), some (dz_I (dz_sc xs (dz_c (s1.1 + 1)))), some (dz_I (dz_sc xs (dz_c (s1.1 + 2)))), none, none, none, none, none, none, none, none]) (pc' := 907) rfl rfl rfl rfl ho_M rfl rfl rfl ?_
                                                      refine jw_M_quiet (X := (some xs)) (D := D + 3) (dz_sc xs (dz_c (s1.1 + 1))) (dz_sc xs (dz_c (s1.1 + 2))) q119.2 (dz_pm (dz_bi H) (fun q120 H => ?_))
                                                      show mm_Wp (some xs) (D + 10) mm_rL 907 [some (.retAddr 0), some (.ref 0), some (.ref 114), some (dz_I s1.1)] [dz_I q120.1] (hz_0 q120.2) Q
                                                      refine wp_s (i := .pop) (n := 1) (pc' := 908) (st' := []) rfl rfl ?_
                                                      refine wp_s (i := .goto 402) (n := 3) (pc' := 1310) (st' := []) rfl rfl ?_
                                                      refine wq_inc (k := 3) (d := 5) (x := s1.1) (ls' := [some (.retAddr 0), some (.ref 0), some (.ref 114), some (dz_I (s1.1 + 5))]) (pc' := 1313) rfl rfl rfl rfl ?_
                                                      refine wp_s (i := .goto (-1295)) (n := 3) (pc' := 18) (st' := []) rfl rfl ?_
                                                      replace H := dz_back H
                                                      exact H
                                                    · replace H := dz_if c116 H
                                                      by_cases c121 : dz_c (dz_an (dz_sc xs (dz_c s1.1)) 63) = 25
                                                      · replace H := dz_it c121 H
                                                        refine wq_ts (x' := dz_c (dz_an (dz_sc xs (dz_c s1.1)) 63)) (tt := 911) rfl rfl (by rw [c121]; rfl) ?_
                                                        refine wp_s (i := .aload_n 1) (n := 1) (pc' := 912) (st' := [.ref 0]) rfl rfl ?_
                                                        refine wp_s (i := .aload_n 0) (n := 1) (pc' := 913) (st' := [.retAddr 0, .ref 0]) rfl rfl ?_
                                                        refine wp_s (i := .iload_n 3) (n := 1) (pc' := 914) (st' := [dz_I s1.1, .retAddr 0, .ref 0]) rfl rfl ?_
                                                        refine wp_s (i := .iconst 1) (n := 1) (pc' := 915) (st' := [dz_I 1, dz_I s1.1, .retAddr 0, .ref 0]) rfl rfl ?_
                                                        refine wq_2 (i := .iadd) (z := s1.1 + 1) (pc' := 916) rfl rfl (op_add _ _) rfl ?_
                                                        obtain ⟨k122, H⟩ := dz_ck H
                                                        refine wq_sx (j' := dz_c (s1.1 + 1)) (pc' := 917) rfl rfl k122.1 k122.2 rfl ?_
                                                        refine wq_cv (Dq := (D + 9)) (r' := mm_r90) (as0 := [dz_I (dz_sc xs (dz_c (s1.1 + 1)))]) (rest := []) (ls' := [some (.ref 0), some (dz_I (dz_sc xs (dz_c (s1.1 + 1))))]) (pc' := 920) rfl rfl rfl rfl ho_O rfl rfl rfl ?_
                                                        refine jw_O_woken (X := (some xs)) (D := D + 4) (dz_sc xs (dz_c (s1.1 + 1))) s1.2 (dz_pm (dz_bi H) (fun q123 H => ?_))
                                                        show mm_Wp (some xs) (D + 10) mm_rL 920 [some (.retAddr 0), some (.ref 0), some (.ref 114), some (dz_I s1.1)] [dz_I q123.1] (hz_0 q123.2) Q
                                                        refine wp_s (i := .pop) (n := 1) (pc' := 921) (st' := []) rfl rfl ?_
                                                        refine wp_s (i := .aload_n 2) (n := 1) (pc' := 922) (st' := [.ref 114]) rfl rfl ?_
                                                        refine wp_s (i := .aload_n 0) (n := 1) (pc' := 923) (st' := [.retAddr 0, .ref 114]) rfl rfl ?_
                                                        refine wp_s (i := .iload_n 3) (n := 1) (pc' := 924) (st' := [dz_I s1.1, .retAddr 0, .ref 114]) rfl rfl ?_
                                                        refine wp_s (i := .iconst 1) (n := 1) (pc' := 925) (st' := [dz_I 1, dz_I s1.1, .retAddr 0, .ref 114]) rfl rfl ?_
                                                        refine wq_2 (i := .iadd) (z := s1.1 + 1) (pc' := 926) rfl rfl (op_add _ _) rfl ?_
                                                        refine wq_sx (j' := dz_c (s1.1 + 1)) (pc' := 927) rfl rfl k122.1 k122.2 rfl ?_
                                                        refine wq_cv (Dq := (D + 9)) (r' := mm_r178) (as0 := [dz_I (dz_sc xs (dz_c (s1.1 + 1)))]) (rest := []) (ls' := [some (.ref 114), some (dz_I (dz_sc xs (dz_c (s1.1 + 1))))]) (pc' := 930) rfl rfl rfl rfl ho_M rfl rfl rfl ?_
                                                        refine jw_M_woken (X := (some xs)) (D := D + 3) (dz_sc xs (dz_c (s1.1 + 1))) q123.2 (dz_pm (dz_bi H) (fun q124 H => ?_))
                                                        show mm_Wp (some xs) (D + 10) mm_rL 930 [some (.retAddr 0), some (.ref 0), some (.ref 114), some (dz_I s1.1)] [dz_I q124.1] (hz_0 q124.2) Q
                                                        refine wp_s (i := .pop) (n := 1) (pc' := 931) (st' := []) rfl rfl ?_
                                                        refine wp_s (i := .goto 379) (n := 3) (pc' := 1310) (st' := []) rfl rfl ?_
                                                        refine wq_inc (k := 3) (d := 5) (x := s1.1) (ls' := [some (.retAddr 0), some (.ref 0), some (.ref 114), some (dz_I (s1.1 + 5))]) (pc' := 1313) rfl rfl rfl rfl ?_
                                                        refine wp_s (i := .goto (-1295)) (n := 3) (pc' := 18) (st' := []) rfl rfl ?_
                                                        replace H := dz_back H
                                                        exact H
                                                      · replace H := dz_if c121 H
                                                        by_cases c125 : dz_c (dz_an (dz_sc xs (dz_c s1.1)) 63) = 26
                                                        · replace H := dz_it c125 H
                                                          refine wq_ts (x' := dz_c (dz_an (dz_sc xs (dz_c s1.1)) 63)) (tt := 934) rfl rfl (by rw [c125]; rfl) ?_
                                                          refine wp_s (i := .aload_n 1) (n := 1) (pc' := 935) (st' := [.ref 0]) rfl rfl ?_
                                                          refine wp_s (i := .aload_n 0) (n := 1) (pc' := 936) (st' := [.retAddr 0, .ref 0]) rfl rfl ?_
                                                          refine wp_s (i := .iload_n 3) (n := 1) (pc' := 937) (st' := [dz_I s1.1, .retAddr 0, .ref 0]) rfl rfl ?_
                                                          refine wp_s (i := .iconst 1) (n := 1) (pc' := 938) (st' := [dz_I 1, dz_I s1.1, .retAddr 0, .ref 0]) rfl rfl ?_
                                                          refine wq_2 (i := .iadd) (z := s1.1 + 1) (pc' := 939) rfl rfl (op_add _ _) rfl ?_
                                                          obtain ⟨k126, H⟩ := dz_ck H
                                                          refine wq_sx (j' := dz_c (s1.1 + 1)) (pc' := 940) rfl rfl k126.1 k126.2 rfl ?_
                                                          refine wq_cv (Dq := (D + 9)) (r' := mm_r91) (as0 := [dz_I (dz_sc xs (dz_c (s1.1 + 1)))]) (rest := []) (ls' := [some (.ref 0), some (dz_I (dz_sc xs (dz_c (s1.1 + 1)))), none, none, none, none, none]) (pc' := 943) rfl rfl rfl rfl ho_O rfl rfl rfl ?_
                                                          refine jw_O_heard (X := (some xs)) (D := D + 4) (dz_sc xs (dz_c (s1.1 + 1))) s1.2 (dz_pm (dz_bi H) (fun q127 H => ?_))
                                                          show mm_Wp (some xs) (D + 10) mm_rL 943 [some (.retAddr 0), some (.ref 0), some (.ref 114), some (dz_I s1.1)] [dz_I q127.1] (hz_0 q127.2) Q
                                                          refine wp_s (i := .pop) (n := 1) (pc' := 944) (st' := []) rfl rfl ?_
                                                          refine wp_s (i := .aload_n 2) (n := 1) (pc' := 945) (st' := [.ref 114]) rfl rfl ?_
                                                          refine wp_s (i := .aload_n 0) (n := 1) (pc' := 946) (st' := [.retAddr 0, .ref 114]) rfl rfl ?_
                                                          refine wp_s (i := .iload_n 3) (n := 1) (pc' := 947) (st' := [dz_I s1.1, .retAddr 0, .ref 114]) rfl rfl ?_
                                                          refine wp_s (i := .iconst 1) (n := 1) (pc' := 948) (st' := [dz_I 1, dz_I s1.1, .retAddr 0, .ref 114]) rfl rfl ?_
                                                          refine wq_2 (i := .iadd) (z := s1.1 + 1) (pc' := 949) rfl rfl (op_add _ _) rfl ?_
                                                          refine wq_sx (j' := dz_c (s1.1 + 1)) (pc' := 950) rfl rfl k126.1 k126.2 rfl ?_
                                                          refine wq_cv (Dq := (D + 9)) (r' := mm_r179) (as0 := [dz_I (dz_sc xs (dz_c (s1.1 + 1)))]) (rest := []) (ls' := [some (.ref 114), some (dz_I (dz_sc xs (dz_c (s1.1 + 1)))), none, none, none, none, none, none]) (pc' := 953) rfl rfl rfl rfl ho_M rfl rfl rfl ?_
                                                          refine jw_M_heard (X := (some xs)) (D := D + 6) (dz_sc xs (dz_c (s1.1 + 1))) q127.2 (dz_pm (dz_bi H) (fun q128 H => ?_))
                                                          show mm_Wp (some xs) (D + 10) mm_rL 953 [some (.retAddr 0), some (.ref 0), some (.ref 114), some (dz_I s1.1)] [dz_I q128.1] (hz_0 q128.2) Q
                                                          refine wp_s (i := .pop) (n := 1) (pc' := 954) (st' := []) rfl rfl ?_
                                                          refine wp_s (i := .goto 356) (n := 3) (pc' := 1310) (st' := []) rfl rfl ?_
                                                          refine wq_inc (k := 3) (d := 5) (x := s1.1) (ls' := [some (.retAddr 0), some (.ref 0), some (.ref 114), some (dz_I (s1.1 + 5))]) (pc' := 1313) rfl rfl rfl rfl ?_
                                                          refine wp_s (i := .goto (-1295)) (n := 3) (pc' := 18) (st' := []) rfl rfl ?_
                                                          replace H := dz_back H
                                                          exact H
                                                        · replace H := dz_if c125 H
                                                          by_cases c129 : dz_c (dz_an (dz_sc xs (dz_c s1.1)) 63) = 27
                                                          · replace H := dz_it c129 H
                                                            refine wq_ts (x' := dz_c (dz_an (dz_sc xs (dz_c s1.1)) 63)) (tt := 957) rfl rfl (by rw [c129]; rfl) ?_
                                                            refine wp_s (i := .aload_n 1) (n := 1) (pc' := 958) (st' := [.ref 0]) rfl rfl ?_
                                                            refine wp_s (i := .aload_n 0) (n := 1) (pc' := 959) (st' := [.retAddr 0, .ref 0]) rfl rfl ?_
                                                            refine wp_s (i := .iload_n 3) (n := 1) (pc' := 960) (st' := [dz_I s1.1, .retAddr 0, .ref 0]) rfl rfl ?_
                                                            refine wp_s (i := .iconst 1) (n := 1) (pc' := 961) (st' := [dz_I 1, dz_I s1.1, .retAddr 0, .ref 0]) rfl rfl ?_
                                                            refine wq_2 (i := .iadd) (z := s1.1 + 1) (pc' := 962) rfl rfl (op_add _ _) rfl ?_
                                                            obtain ⟨k130, H⟩ := dz_ck H
                                                            refine wq_sx (j' := dz_c (s1.1 + 1)) (pc' := 963) rfl rfl k130.1 k130.2 rfl ?_
                                                            refine wq_cv (Dq := (D + 9)) (r' := mm_r92) (as0 := [dz_I (dz_sc xs (dz_c (s1.1 + 1)))]) (rest := []) (ls' := [some (.ref 0), some (dz_I (dz_sc xs (dz_c (s1.1 + 1)))), none, none]) (pc' := 966) rfl rfl rfl rfl ho_O rfl rfl rfl ?_
                                                            refine jw_O_blocked (X := (some xs)) (D := D + 3) (dz_sc xs (dz_c (s1.1 + 1))) s1.2 (dz_pm (dz_bi H) (fun q131 H => ?_))
                                                            show mm_Wp (some xs) (D + 10) mm_rL 966 [some (.retAddr 0), some (.ref 0), some (.ref 114), some (dz_I s1.1)] [dz_I q131.1] (hz_0 q131.2) Q
                                                            refine wp_s (i := .pop) (n := 1) (pc' := 967) (st' := []) rfl rfl ?_
                                                            refine wp_s (i := .aload_n 2) (n := 1) (pc' := 968) (st' := [.ref 114]) rfl rfl ?_
                                                            refine wp_s (i := .aload_n 0) (n := 1) (pc' := 969) (st' := [.retAddr 0, .ref 114]) rfl rfl ?_
                                                            refine wp_s (i := .iload_n 3) (n := 1) (pc' := 970) (st' := [dz_I s1.1, .retAddr 0, .ref 114]) rfl rfl ?_
                                                            refine wp_s (i := .iconst 1) (n := 1) (pc' := 971) (st' := [dz_I 1, dz_I s1.1, .retAddr 0, .ref 114]) rfl rfl ?_
                                                            refine wq_2 (i := .iadd) (z := s1.1 + 1) (pc' := 972) rfl rfl (op_add _ _) rfl ?_
                                                            refine wq_sx (j' := dz_c (s1.1 + 1)) (pc' := 973) rfl rfl k130.1 k130.2 rfl ?_
                                                            refine wq_cv (Dq := (D + 9)) (r' := mm_r180) (as0 := [dz_I (dz_sc xs (dz_c (s1.1 + 1)))]) (rest := []) (ls' := [some (.ref 114), some (dz_I (dz_sc xs (dz_c (s1.1 + 1)))), none, none]) (pc' := 976) rfl rfl rfl rfl ho_M rfl rfl rfl ?_
                                                            refine jw_M_blocked (X := (some xs)) (D := D + 3) (dz_sc xs (dz_c (s1.1 + 1))) q131.2 (dz_pm (dz_bi H) (fun q132 H => ?_))
                                                            show mm_Wp (some xs) (D + 10) mm_rL 976 [some (.retAddr 0), some (.ref 0), some (.ref 114), some (dz_I s1.1)] [dz_I q132.1] (hz_0 q132.2) Q
                                                            refine wp_s (i := .pop) (n := 1) (pc' := 977) (st' := []) rfl rfl ?_
                                                            refine wp_s (i := .goto 333) (n := 3) (pc' := 1310) (st' := []) rfl rfl ?_
                                                            refine wq_inc (k := 3) (d := 5) (x := s1.1) (ls' := [some (.retAddr 0), some (.ref 0), some (.ref 114), some (dz_I (s1.1 + 5))]) (pc' := 1313) rfl rfl rfl rfl ?_
                                                            refine wp_s (i := .goto (-1295)) (n := 3) (pc' := 18) (st' := []) rfl rfl ?_
                                                            replace H := dz_back H
                                                            exact H
                                                          · replace H := dz_if c129 H
                                                            by_cases c133 : dz_c (dz_an (dz_sc xs (dz_c s1.1)) 63) = 28
                                                            · replace H := dz_it c133 H
                                                              refine wq_ts (x' := dz_c (dz_an (dz_sc xs (dz_c s1.1)) 63)) (tt := 980) rfl rfl (by rw [c133]; rfl) ?_
                                                              refine wp_s (i := .aload_n 1) (n := 1) (pc' := 981) (st' := [.ref 0]) rfl rfl ?_
                                                              refine wp_s (i := .aload_n 0) (n := 1) (pc' := 982) (st' := [.retAddr 0, .ref 0]) rfl rfl ?_
                                                              refine wp_s (i := .iload_n 3) (n := 1) (pc' := 983) (st' := [dz_I s1.1, .retAddr 0, .ref 0]) rfl rfl ?_
                                                              refine wp_s (i := .iconst 1) (n := 1) (pc' := 984) (st' := [dz_I 1, dz_I s1.1, .retAddr 0, .ref 0]) rfl rfl ?_
                                                              refine wq_2 (i := .iadd) (z := s1.1 + 1) (pc' := 985) rfl rfl (op_add _ _) rfl ?_
                                                              obtain ⟨k134, H⟩ := dz_ck H
                                                              refine wq_sx (j' := dz_c (s1.1 + 1)) (pc' := 986) rfl rfl k134.1 k134.2 rfl ?_
                                                              refine wq_cv (Dq := (D + 9)) (r' := mm_r93) (as0 := [dz_I (dz_sc xs (dz_c (s1.1 + 1)))]) (rest := []) (ls' := [some (.ref 0), some (dz_I (dz_sc xs (dz_c (s1.1 + 1)))), none, none, none]) (pc' := 989) rfl rfl rfl rfl ho_O rfl rfl rfl ?_
                                                              refine jw_O_frozen (X := (some xs)) (D := D + 3) (dz_sc xs (dz_c (s1.1 + 1))) s1.2 (dz_pm (dz_bi H) (fun q135 H => ?_))
                                                              show mm_Wp (some xs) (D + 10) mm_rL 989 [some (.retAddr 0), some (.ref 0), some (.ref 114), some (dz_I s1.1)] [dz_I q135.1] (hz_0 q135.2) Q
                                                              refine wp_s (i := .pop) (n := 1) (pc' := 990) (st' := []) rfl rfl ?_
                                                              refine wp_s (i := .aload_n 2) (n := 1) (pc' := 991) (st' := [.ref 114]) rfl rfl ?_
                                                              refine wp_s (i := .aload_n 0) (n := 1) (pc' := 992) (st' := [.retAddr 0, .ref 114]) rfl rfl ?_
                                                              refine wp_s (i := .iload_n 3) (n := 1) (pc' := 993) (st' := [dz_I s1.1, .retAddr 0, .ref 114]) rfl rfl ?_
                                                              refine wp_s (i := .iconst 1) (n := 1) (pc' := 994) (st' := [dz_I 1, dz_I s1.1, .retAddr 0, .ref 114]) rfl rfl ?_
                                                              refine wq_2 (i := .iadd) (z := s1.1 + 1) (pc' := 995) rfl rfl (op_add _ _) rfl ?_
                                                              refine wq_sx (j' := dz_c (s1.1 + 1)) (pc' := 996) rfl rfl k134.1 k134.2 rfl ?_
                                                              refine wq_cv (Dq := (D + 9)) (r' := mm_r181) (as0 := [dz_I (dz_sc xs (dz_c (s1.1 + 1)))]) (rest := []) (ls' := [some (.ref 114), some (dz_I (dz_sc xs (dz_c (s1.1 + 1)))), none, none, none]) (pc' := 999) rfl rfl rfl rfl ho_M rfl rfl rfl ?_
                                                              refine jw_M_frozen (X := (some xs)) (D := D + 3) (dz_sc xs (dz_c (s1.1 + 1))) q135.2 (dz_pm (dz_bi H) (fun q136 H => ?_))
                                                              show mm_Wp (some xs) (D + 10) mm_rL 999 [some (.retAddr 0), some (.ref 0), some (.ref 114), some (dz_I s1.1)] [dz_I q136.1] (hz_0 q136.2) Q
                                                              refine wp_s (i := .pop) (n := 1) (pc' := 1000) (st' := []) rfl rfl ?_
                                                              refine wp_s (i := .goto 310) (n := 3) (pc' := 1310) (st' := []) rfl rfl ?_
                                                              refine wq_inc (k := 3) (d := 5) (x := s1.1) (ls' := [some (.retAddr 0), some (.ref 0), some (.ref 114), some (dz_I (s1.1 + 5))]) (pc' := 1313) rfl rfl rfl rfl ?_
                                                              refine wp_s (i := .goto (-1295)) (n := 3) (pc' := 18) (st' := []) rfl rfl ?_
                                                              replace H := dz_back H
                                                              exact H
                                                            · replace H := dz_if c133 H
                                                              by_cases c137 : dz_c (dz_an (dz_sc xs (dz_c s1.1)) 63) = 29
                                                              · replace H := dz_it c137 H
                                                                refine wq_ts (x' := dz_c (dz_an (dz_sc xs (dz_c s1.1)) 63)) (tt := 1003) rfl rfl (by rw [c137]; rfl) ?_
                                                                refine wp_s (i := .aload_n 1) (n := 1) (pc' := 1004) (st' := [.ref 0]) rfl rfl ?_
                                                                refine wp_s (i := .aload_n 0) (n := 1) (pc' := 1005) (st' := [.retAddr 0, .ref 0]) rfl rfl ?_
                                                                refine wp_s (i := .iload_n 3) (n := 1) (pc' := 1006) (st' := [dz_I s1.1, .retAddr 0, .ref 0]) rfl rfl ?_
                                                                refine wp_s (i := .iconst 1) (n := 1) (pc' := 1007) (st' := [dz_I 1, dz_I s1.1, .retAddr 0, .ref 0]) rfl rfl ?_
                                                                refine wq_2 (i := .iadd) (z := s1.1 + 1) (pc' := 1008) rfl rfl (op_add _ _) rfl ?_
                                                                obtain ⟨k138, H⟩ := dz_ck H
                                                                refine wq_sx (j' := dz_c (s1.1 + 1)) (pc' := 1009) rfl rfl k138.1 k138.2 rfl ?_
                                                                refine wp_s (i := .aload_n 0) (n := 1) (pc' := 1010) (st' := [.retAddr 0, dz_I (dz_sc xs (dz_c (s1.1 + 1))), .ref 0]) rfl rfl ?_
                                                                refine wp_s (i := .iload_n 3) (n := 1) (pc' := 1011) (st' := [dz_I s1.1, .retAddr 0, dz_I (dz_sc xs (dz_c (s1.1 + 1))), .ref 0]) rfl rfl ?_
                                                                refine wp_s (i := .iconst 2) (n := 1) (pc' := 1012) (st' := [dz_I 2, dz_I s1.1, .retAddr 0, dz_I (dz_sc xs (dz_c (s1.1 + 1))), .ref 0]) rfl rfl ?_
                                                                refine wq_2 (i := .iadd) (z := s1.1 + 2) (pc' := 1013) rfl rfl (op_add _ _) rfl ?_
                                                                obtain ⟨k139, H⟩ := dz_ck H
                                                                refine wq_sx (j' := dz_c (s1.1 + 2)) (pc' := 1014) rfl rfl k139.1 k139.2 rfl ?_
                                                                refine wq_cv (Dq := (D + 9)) (r' := mm_r94) (as0 := [dz_I (dz_sc xs (dz_c (s1.1 + 1))), dz_I (dz_sc xs (dz_c (s1.1 + 2)))]) (rest := []) (ls' := [some (.ref 0), some (dz_I (dz_sc xs (dz_c (s1.1 + 1)))), some (dz_I (dz_sc xs (dz_c (s1.1 + 2)))), none, none, none]) (pc' := 1017) rfl rfl rfl rfl ho_O rfl rfl rfl ?_
                                                                refine jw_O_lasts (X := (some xs)) (D := D + 5) (dz_sc xs (dz_c (s1.1 + 1))) (dz_sc xs (dz_c (s1.1 + 2))) s1.2 (dz_pm (dz_bi H) (fun q140 H => ?_))
                                                                show mm_Wp (some xs) (D + 10) mm_rL 1017 [some (.retAddr 0), some (.ref 0), some (.ref 114), some (dz_I s1.1)] [dz_I q140.1] (hz_0 q140.2) Q
                                                                refine wp_s (i := .pop) (n := 1) (pc' := 1018) (st' := []) rfl rfl ?_
                                                                refine wp_s (i := .aload_n 2) (n := 1) (pc' := 1019) (st' := [.ref 114]) rfl rfl ?_
                                                                refine wp_s (i := .aload_n 0) (n := 1) (pc' := 1020) (st' := [.retAddr 0, .ref 114]) rfl rfl ?_
                                                                refine wp_s (i := .iload_n 3) (n := 1) (pc' := 1021) (st' := [dz_I s1.1, .retAddr 0, .ref 114]) rfl rfl ?_
                                                                refine wp_s (i := .iconst 1) (n := 1) (pc' := 1022) (st' := [dz_I 1, dz_I s1.1, .retAddr 0, .ref 114]) rfl rfl ?_
                                                                refine wq_2 (i := .iadd) (z := s1.1 + 1) (pc' := 1023) rfl rfl (op_add _ _) rfl ?_
                                                                refine wq_sx (j' := dz_c (s1.1 + 1)) (pc' := 1024) rfl rfl k138.1 k138.2 rfl ?_
                                                                refine wp_s (i := .aload_n 0) (n := 1) (pc' := 1025) (st' := [.retAddr 0, dz_I (dz_sc xs (dz_c (s1.1 + 1))), .ref 114]) rfl rfl ?_
                                                                refine wp_s (i := .iload_n 3) (n := 1) (pc' := 1026) (st' := [dz_I s1.1, .retAddr 0, dz_I (dz_sc xs (dz_c (s1.1 + 1))), .ref 114]) rfl rfl ?_
                                                                refine wp_s (i := .iconst 2) (n := 1) (pc' := 1027) (st' := [dz_I 2, dz_I s1.1, .retAddr 0, dz_I (dz_sc xs (dz_c (s1.1 + 1))), .ref 114]) rfl rfl ?_
                                                                refine wq_2 (i := .iadd) (z := s1.1 + 2) (pc' := 1028) rfl rfl (op_add _ _) rfl ?_
                                                                refine wq_sx (j' := dz_c (s1.1 + 2)) (pc' := 1029) rfl rfl k139.1 k139.2 rfl ?_
                                                                refine wq_cv (Dq := (D + 9)) (r' := mm_r182) (as0 := [dz_I (dz_sc xs (dz_c (s1.1 + 1))), dz_I (dz_sc xs (dz_c (s1.1 + 2)))]) (rest := []) (ls' := [some (.ref 114), some (dz_I (dz_sc xs (dz_c (s1.1 + 1)))), some (dz_I (dz_sc xs (dz_c (s1.1 + 2)))), none]) (pc' := 1032) rfl rfl rfl rfl ho_M rfl rfl rfl ?_
                                                                refine jw_M_lasts (X := (some xs)) (D := D + 5) (dz_sc xs (dz_c (s1.1 + 1))) (dz_sc xs (dz_c (s1.1 + 2))) q140.2 (dz_pm (dz_bi H) (fun q141 H => ?_))
                                                                show mm_Wp (some xs) (D + 10) mm_rL 1032 [some (.retAddr 0), some (.ref 0), some (.ref 114), some (dz_I s1.1)] [dz_I q141.1] (hz_0 q141.2) Q
                                                                refine wp_s (i := .pop) (n := 1) (pc' := 1033) (st' := []) rfl rfl ?_
                                                                refine wp_s (i := .goto 277) (n := 3) (pc' := 1310) (st' := []) rfl rfl ?_
                                                                refine wq_inc (k := 3) (d := 5) (x := s1.1) (ls' := [some (.retAddr 0), some (.ref 0), some (.ref 114), some (dz_I (s1.1 + 5))]) (pc' := 1313) rfl rfl rfl rfl ?_
                                                                refine wp_s (i := .goto (-1295)) (n := 3) (pc' := 18) (st' := []) rfl rfl ?_
                                                                replace H := dz_back H
                                                                exact H
                                                              · replace H := dz_if c137 H
                                                                by_cases c142 : dz_c (dz_an (dz_sc xs (dz_c s1.1)) 63) = 30
                                                                · replace H := dz_it c142 H
                                                                  refine wq_ts (x' := dz_c (dz_an (dz_sc xs (dz_c s1.1)) 63)) (tt := 1036) rfl rfl (by rw [c142]; rfl) ?_
                                                                  refine wp_s (i := .aload_n 1) (n := 1) (pc' := 1037) (st' := [.ref 0]) rfl rfl ?_
                                                                  refine wp_s (i := .aload_n 0) (n := 1) (pc' := 1038) (st' := [.retAddr 0, .ref 0]) rfl rfl ?_
                                                                  refine wp_s (i := .iload_n 3) (n := 1) (pc' := 1039) (st' := [dz_I s1.1, .retAddr 0, .ref 0]) rfl rfl ?_
                                                                  refine wp_s (i := .iconst 1) (n := 1) (pc' := 1040) (st' := [dz_I 1, dz_I s1.1, .retAddr 0, .ref 0]) rfl rfl ?_
                                                                  refine wq_2 (i := .iadd) (z := s1.1 + 1) (pc' := 1041) rfl rfl (op_add _ _) rfl ?_
                                                                  obtain ⟨k143, H⟩ := dz_ck H
                                                                  refine wq_sx (j' := dz_c (s1.1 + 1)) (pc' := 1042) rfl rfl k143.1 k143.2 rfl ?_
                                                                  refine wp_s (i := .aload_n 0) (n := 1) (pc' := 1043) (st' := [.retAddr 0, dz_I (dz_sc xs (dz_c (s1.1 + 1))), .ref 0]) rfl rfl ?_
                                                                  refine wp_s (i := .iload_n 3) (n := 1) (pc' := 1044) (st' := [dz_I s1.1, .retAddr 0, dz_I (dz_sc xs (dz_c (s1.1 + 1))), .ref 0]) rfl rfl ?_
                                                                  refine wp_s (i := .iconst 2) (n := 1) (pc' := 1045) (st' := [dz_I 2, dz_I s1.1, .retAddr 0, dz_I (dz_sc xs (dz_c (s1.1 + 1))), .ref 0]) rfl rfl ?_
                                                                  refine wq_2 (i := .iadd) (z := s1.1 + 2) (pc' := 1046) rfl rfl (op_add _ _) rfl ?_
                                                                  obtain ⟨k144, H⟩ := dz_ck H
                                                                  refine wq_sx (j' := dz_c (s1.1 + 2)) (pc' := 1047) rfl rfl k144.1 k144.2 rfl ?_
                                                                  refine wp_s (i := .aload_n 0) (n := 1) (pc' := 1048) (st' := [.retAddr 0, dz_I (dz_sc xs (dz_c (s1.1 + 2))), dz_I (dz_sc xs (dz_c (s1.1 + 1))), .ref 0]) rfl rfl ?_
                                                                  refine wp_s (i := .iload_n 3) (n := 1) (pc' := 1049) (st' := [dz_I s1.1, .retAddr 0, dz_I (dz_sc xs (dz_c (s1.1 + 2))), dz_I (dz_sc xs (dz_c (s1.1 + 1))), .ref 0]) rfl rfl ?_
                                                                  refine wp_s (i := .iconst 3) (n := 1) (pc' := 1050) (st' := [dz_I 3, dz_I s1.1, .retAddr 0, dz_I (dz_sc xs (dz_c (s1.1 + 2))), dz_I (dz_sc xs (dz_c (s1.1 + 1))), .ref 0]) rfl rfl ?_
                                                                  refine wq_2 (i := .iadd) (z := s1.1 + 3) (pc' := 1051) rfl rfl (op_add _ _) rfl ?_
                                                                  obtain ⟨k145, H⟩ := dz_ck H
                                                                  refine wq_sx (j' := dz_c (s1.1 + 3)) (pc' := 1052) rfl rfl k145.1 k145.2 rfl ?_
                                                                  refine wp_s (i := .aload_n 0) (n := 1) (pc' := 1053) (st' := [.retAddr 0, dz_I (dz_sc xs (dz_c (s1.1 + 3))), dz_I (dz_sc xs (dz_c (s1.1 + 2))), dz_I (dz_sc xs (dz_c (s1.1 + 1))), .ref 0]) rfl rfl ?_
                                                                  refine wp_s (i := .iload_n 3) (n := 1) (pc' := 1054) (st' := [dz_I s1.1, .retAddr 0, dz_I (dz_sc xs (dz_c (s1.1 + 3))), dz_I (dz_sc xs (dz_c (s1.1 + 2))), dz_I (dz_sc xs (dz_c (s1.1 + 1))), .ref 0]) rfl rfl ?_
                                                                  refine wp_s (i := .iconst 4) (n := 1) (pc' := 1055) (st' := [dz_I 4, dz_I s1.1, .retAddr 0, dz_I (dz_sc xs (dz_c (s1.1 + 3))), dz_I (dz_sc xs (dz_c (s1.1 + 2))), dz_I (dz_sc xs (dz_c (s1.1 + 1))), .ref 0]) rfl rfl ?_
                                                                  refine wq_2 (i := .iadd) (z := s1.1 + 4) (pc' := 1056) rfl rfl (op_add _ _) rfl ?_
                                                                  obtain ⟨k146, H⟩ := dz_ck H
                                                                  refine wq_sx (j' := dz_c (s1.1 + 4)) (pc' := 1057) rfl rfl k146.1 k146.2 rfl ?_
                                                                  refine wq_cv (Dq := (D + 9)) (r' := mm_r95) (as0 := [dz_I (dz_sc xs (dz_c (s1.1 + 1))), dz_I (dz_sc xs (dz_c (s1.1 + 2))), dz_I (dz_sc xs (dz_c (s1.1 + 3))), dz_I (dz_sc xs (dz_c (s1.1 + 4)))]) (rest := []) (ls' := [some (.ref 0), some (dz_I (dz_sc xs (dz_c (s1.1 + 1)))), some (dz_I (dz_sc xs (dz_c (s1.1 + 2)))), some (dz_I (dz_sc xs (dz_c (s1.1 + 3)))), some (dz_I (dz_sc xs (dz_c (s1.1 + 4)))), none, none, none, none]) (pc' := 1060) rfl rfl rfl rfl ho_O rfl rfl rfl ?_
                                                                  refine jw_O_draws (X := (some xs)) (D := D + 8) (dz_sc xs (dz_c (s1.1 + 1))) (dz_sc xs (dz_c (s1.1 + 2))) (dz_sc xs (dz_c (s1.1 + 3))) (dz_sc xs (dz_c (s1.1 + 4))) s1.2 (dz_pm (dz_bi H) (fun q147 H => ?_))
                                                                  show mm_Wp (some xs) (D + 10) mm_rL 1060 [some (.retAddr 0), some (.ref 0), some (.ref 114), some (dz_I s1.1)] [dz_I q147.1] (hz_0 q147.2) Q
                                                                  refine wp_s (i := .pop) (n := 1) (pc' := 1061) (st' := []) rfl rfl ?_
                                                                  refine wp_s (i := .aload_n 2) (n := 1) (pc' := 1062) (st' := [.ref 114]) rfl rfl ?_
                                                                  refine wp_s (i := .aload_n 0) (n := 1) (pc' := 1063) (st' := [.retAddr 0, .ref 114]) rfl rfl ?_
                                                                  refine wp_s (i := .iload_n 3) (n := 1) (pc' := 1064) (st' := [dz_I s1.1, .retAddr 0, .ref 114]) rfl rfl ?_
                                                                  refine wp_s (i := .iconst 1) (n := 1) (pc' := 1065) (st' := [dz_I 1, dz_I s1.1, .retAddr 0, .ref 114]) rfl rfl ?_
                                                                  refine wq_2 (i := .iadd) (z := s1.1 + 1) (pc' := 1066) rfl rfl (op_add _ _) rfl ?_
                                                                  refine wq_sx (j' := dz_c (s1.1 + 1)) (pc' := 1067) rfl rfl k143.1 k143.2 rfl ?_
                                                                  refine wp_s (i := .aload_n 0) (n := 1) (pc' := 1068) (st' := [.retAddr 0, dz_I (dz_sc xs (dz_c (s1.1 + 1))), .ref 114]) rfl rfl ?_
                                                                  refine wp_s (i := .iload_n 3) (n := 1) (pc' := 1069) (st' := [dz_I s1.1, .retAddr 0, dz_I (dz_sc xs (dz_c (s1.1 + 1))), .ref 114]) rfl rfl ?_
                                                                  refine wp_s (i := .iconst 2) (n := 1) (pc' := 1070) (st' := [dz_I 2, dz_I s1.1, .retAddr 0, dz_I (dz_sc xs (dz_c (s1.1 + 1))), .ref 114]) rfl rfl ?_
                                                                  refine wq_2 (i := .iadd) (z := s1.1 + 2) (pc' := 1071) rfl rfl (op_add _ _) rfl ?_
                                                                  refine wq_sx (j' := dz_c (s1.1 + 2)) (pc' := 1072) rfl rfl k144.1 k144.2 rfl ?_
                                                                  refine wp_s (i := .aload_n 0) (n := 1) (pc' := 1073) (st' := [.retAddr 0, dz_I (dz_sc xs (dz_c (s1.1 + 2))), dz_I (dz_sc xs (dz_c (s1.1 + 1))), .ref 114]) rfl rfl ?_
                                                                  refine wp_s (i := .iload_n 3) (n := 1) (pc' := 1074) (st' := [dz_I s1.1, .retAddr 0, dz_I (dz_sc xs (dz_c (s1.1 + 2))), dz_I (dz_sc xs (dz_c (s1.1 + 1))), .ref 114]) rfl rfl ?_
                                                                  refine wp_s (i := .iconst 3) (n := 1) (pc' := 1075) (st' := [dz_I 3, dz_I s1.1, .retAddr 0, dz_I (dz_sc xs (dz_c (s1.1 + 2))), dz_I (dz_sc xs (dz_c (s1.1 + 1))), .ref 114]) rfl rfl ?_
                                                                  refine wq_2 (i := .iadd) (z := s1.1 + 3) (pc' := 1076) rfl rfl (op_add _ _) rfl ?_
                                                                  refine wq_sx (j' := dz_c (s1.1 + 3)) (pc' := 1077) rfl rfl k145.1 k145.2 rfl ?_
                                                                  refine wp_s (i := .aload_n 0) (n := 1) (pc' := 1078) (st' := [.retAddr 0, dz_I (dz_sc xs (dz_c (s1.1 + 3))), dz_I (dz_sc xs (dz_c (s1.1 + 2))), dz_I (dz_sc xs (dz_c (s1.1 + 1))), .ref 114]) rfl rfl ?_
                                                                  refine wp_s (i := .iload_n 3) (n := 1) (pc' := 1079) (st' := [dz_I s1.1, .retAddr 0, dz_I (dz_sc xs (dz_c (s1.1 + 3))), dz_I (dz_sc xs (dz_c (s1.1 + 2))), dz_I (dz_sc xs (dz_c (s1.1 + 1))), .ref 114]) rfl rfl ?_
                                                                  refine wp_s (i := .iconst 4) (n := 1) (pc' := 1080) (st' := [dz_I 4, dz_I s1.1, .retAddr 0, dz_I (dz_sc xs (dz_c (s1.1 + 3))), dz_I (dz_sc xs (dz_c (s1.1 + 2))), dz_I (dz_sc xs (dz_c (s1.1 + 1))), .ref 114]) rfl rfl ?_
                                                                  refine wq_2 (i := .iadd) (z := s1.1 + 4) (pc' := 1081) rfl rfl (op_add _ _) rfl ?_
                                                                  refine wq_sx (j' := dz_c (s1.1 + 4)) (pc' := 1082) rfl rfl k146.1 k146.2 rfl ?_
                                                                  refine wq_cv (Dq := (D + 9)) (r' := mm_r183) (as0 := [dz_I (dz_sc xs (dz_c (s1.1 + 1))), dz_I (dz_sc xs (dz_c (s1.1 + 2))), dz_I (dz_sc xs (dz_c (s1.1 + 3))), dz_I (dz_sc xs (dz_c (s1.1 + 4)))]) (rest := []) (ls' := [some (.ref 114), some (dz_I (dz_sc xs (dz_c (s1.1 + 1)))), some (dz_I (dz_sc xs (dz_c (s1.1 + 2)))), some (dz_I (dz_sc xs (dz_c (s1.1 + 3)))), some (dz_I (dz_sc xs (dz_c (s1.1 + 4)))), none, none, none, none]) (pc' := 1085) rfl rfl rfl rfl ho_M rfl rfl rfl ?_
                                                                  refine jw_M_draws (X := (some xs)) (D := D + 7) (dz_sc xs (dz_c (s1.1 + 1))) (dz_sc xs (dz_c (s1.1 + 2))) (dz_sc xs (dz_c (s1.1 + 3))) (dz_sc xs (dz_c (s1.1 + 4))) q147.2 (dz_pm (dz_bi H) (fun q148 H => ?_))
                                                                  show mm_Wp (some xs) (D + 10) mm_rL 1085 [some (.retAddr 0), some (.ref 0), some (.ref 114), some (dz_I s1.1)] [dz_I q148.1] (hz_0 q148.2) Q
                                                                  refine wp_s (i := .pop) (n := 1) (pc' := 1086) (st' := []) rfl rfl ?_
                                                                  refine wp_s (i := .goto 224) (n := 3) (pc' := 1310) (st' := []) rfl rfl ?_
                                                                  refine wq_inc (k := 3) (d := 5) (x := s1.1) (ls' := [some (.retAddr 0), some (.ref 0), some (.ref 114), some (dz_I (s1.1 + 5))]) (pc' := 1313) rfl rfl rfl rfl ?_
                                                                  refine wp_s (i := .goto (-1295)) (n := 3) (pc' := 18) (st' := []) rfl rfl ?_
                                                                  replace H := dz_back H
                                                                  exact H
                                                                · replace H := dz_if c142 H
                                                                  by_cases c149 : dz_c (dz_an (dz_sc xs (dz_c s1.1)) 63) = 31
                                                                  · replace H := dz_it c149 H
                                                                    refine wq_ts (x' := dz_c (dz_an (dz_sc xs (dz_c s1.1)) 63)) (tt := 1089) rfl rfl (by rw [c149]; rfl) ?_
                                                                    refine wp_s (i := .aload_n 1) (n := 1) (pc' := 1090) (st' := [.ref 0]) rfl rfl ?_
                                                                    refine wp_s (i := .aload_n 0) (n := 1) (pc' := 1091) (st' := [.retAddr 0, .ref 0]) rfl rfl ?_
                                                                    refine wp_s (i := .iload_n 3) (n := 1) (pc' := 1092) (st' := [dz_I s1.1, .retAddr 0, .ref 0]) rfl rfl ?_
                                                                    refine wp_s (i := .iconst 1) (n := 1) (pc' := 1093) (st' := [dz_I 1, dz_I s1.1, .retAddr 0, .ref 0]) rfl rfl ?_
                                                                    refine wq_2 (i := .iadd) (z := s1.1 + 1) (pc' := 1094) rfl rfl (op_add _ _) rfl ?_
                                                                    obtain ⟨k150, H⟩ := dz_ck H
                                                                    refine wq_sx (j' := dz_c (s1.1 + 1)) (pc' := 1095) rfl rfl k150.1 k150.2 rfl ?_
                                                                    refine wq_cv (Dq := (D + 9)) (r' := mm_r96) (as0 := [dz_I (dz_sc xs (dz_c (s1.1 + 1)))]) (rest := []) (ls' := [some (.ref 0), some (dz_I (dz_sc xs (dz_c (s1.1 + 1)))), none, none]) (pc' := 1098) rfl rfl rfl rfl ho_O rfl rfl rfl ?_
                                                                    refine jw_O_keep (X := (some xs)) (D := D + 7) (dz_sc xs (dz_c (s1.1 + 1))) s1.2 (dz_pm (dz_bi H) (fun q151 H => ?_))
                                                                    show mm_Wp (some xs) (D + 10) mm_rL 1098 [some (.retAddr 0), some (.ref 0), some (.ref 114), some (dz_I s1.1)] [dz_I q151.1] (hz_0 q151.2) Q
                                                                    refine wp_s (i := .pop) (n := 1) (pc' := 1099) (st' := []) rfl rfl ?_
                                                                    refine wp_s (i := .aload_n 2) (n := 1) (pc' := 1100) (st' := [.ref 114]) rfl rfl ?_
                                                                    refine wp_s (i := .aload_n 0) (n := 1) (pc' := 1101) (st' := [.retAddr 0, .ref 114]) rfl rfl ?_
                                                                    refine wp_s (i := .iload_n 3) (n := 1) (pc' := 1102) (st' := [dz_I s1.1, .retAddr 0, .ref 114]) rfl rfl ?_
                                                                    refine wp_s (i := .iconst 1) (n := 1) (pc' := 1103) (st' := [dz_I 1, dz_I s1.1, .retAddr 0, .ref 114]) rfl rfl ?_
                                                                    refine wq_2 (i := .iadd) (z := s1.1 + 1) (pc' := 1104) rfl rfl (op_add _ _) rfl ?_
                                                                    refine wq_sx (j' := dz_c (s1.1 + 1)) (pc' := 1105) rfl rfl k150.1 k150.2 rfl ?_
                                                                    refine wq_cv (Dq := (D + 9)) (r' := mm_r185) (as0 := [dz_I (dz_sc xs (dz_c (s1.1 + 1)))]) (rest := []) (ls' := [some (.ref 114), some (dz_I (dz_sc xs (dz_c (s1.1 + 1)))), none]) (pc' := 1108) rfl rfl rfl rfl ho_M rfl rfl rfl ?_
                                                                    refine jw_M_keep (X := (some xs)) (D := D + 8) (dz_sc xs (dz_c (s1.1 + 1))) q151.2 (dz_pm (dz_bi H) (fun q152 H => ?_))
                                                                    show mm_Wp (some xs) (D + 10) mm_rL 1108 [some (.retAddr 0), some (.ref 0), some (.ref 114), some (dz_I s1.1)] [dz_I q152.1] (hz_0 q152.2) Q
                                                                    refine wp_s (i := .pop) (n := 1) (pc' := 1109) (st' := []) rfl rfl ?_
                                                                    refine wp_s (i := .goto 201) (n := 3) (pc' := 1310) (st' := []) rfl rfl ?_
                                                                    refine wq_inc (k := 3) (d := 5) (x := s1.1) (ls' := [some (.retAddr 0), some (.ref 0), some (.ref 114), some (dz_I (s1.1 + 5))]) (pc' := 1313) rfl rfl rfl rfl ?_
                                                                    refine wp_s (i := .goto (-1295)) (n := 3) (pc' := 18) (st' := []) rfl rfl ?_
                                                                    replace H := dz_back H
                                                                    exact H
                                                                  · replace H := dz_if c149 H
                                                                    by_cases c153 : dz_c (dz_an (dz_sc xs (dz_c s1.1)) 63) = 32
                                                                    · replace H := dz_it c153 H
                                                                      refine wq_ts (x' := dz_c (dz_an (dz_sc xs (dz_c s1.1)) 63)) (tt := 1112) rfl rfl (by rw [c153]; rfl) ?_
                                                                      refine wp_s (i := .aload_n 1) (n := 1) (pc' := 1113) (st' := [.ref 0]) rfl rfl ?_
                                                                      refine wp_s (i := .aload_n 0) (n := 1) (pc' := 1114) (st' := [.retAddr 0, .ref 0]) rfl rfl ?_
                                                                      refine wp_s (i := .iload_n 3) (n := 1) (pc' := 1115) (st' := [dz_I s1.1, .retAddr 0, .ref 0]) rfl rfl ?_
                                                                      refine wp_s (i := .iconst 1) (n := 1) (pc' := 1116) (st' := [dz_I 1, dz_I s1.1, .retAddr 0, .ref 0]) rfl rfl ?_
                                                                      refine wq_2 (i := .iadd) (z := s1.1 + 1) (pc' := 1117) rfl rfl (op_add _ _) rfl ?_
                                                                      obtain ⟨k154, H⟩ := dz_ck H
                                                                      refine wq_sx (j' := dz_c (s1.1 + 1)) (pc' := 1118) rfl rfl k154.1 k154.2 rfl ?_
                                                                      refine wq_cv (Dq := (D + 9)) (r' := mm_r97) (as0 := [dz_I (dz_sc xs (dz_c (s1.1 + 1)))]) (rest := []) (ls' := [some (.ref 0), some (dz_I (dz_sc xs (dz_c (s1.1 + 1)))), none]) (pc' := 1121) rfl rfl rfl rfl ho_O rfl rfl rfl ?_
                                                                      refine jw_O_back (X := (some xs)) (D := D + 7) (dz_sc xs (dz_c (s1.1 + 1))) s1.2 (dz_pm (dz_bi H) (fun q155 H => ?_))
                                                                      show mm_Wp (some xs) (D + 10) mm_rL 1121 [some (.retAddr 0), some (.ref 0), some (.ref 114), some (dz_I s1.1)] [dz_I q155.1] (hz_0 q155.2) Q
                                                                      refine wp_s (i := .pop) (n := 1) (pc' := 1122) (st' := []) rfl rfl ?_
                                                                      refine wp_s (i := .aload_n 2) (n := 1) (pc' := 1123) (st' := [.ref 114]) rfl rfl ?_
                                                                      refine wp_s (i := .aload_n 0) (n := 1) (pc' := 1124) (st' := [.retAddr 0, .ref 114]) rfl rfl ?_
                                                                      refine wp_s (i := .iload_n 3) (n := 1) (pc' := 1125) (st' := [dz_I s1.1, .retAddr 0, .ref 114]) rfl rfl ?_
                                                                      refine wp_s (i := .iconst 1) (n := 1) (pc' := 1126) (st' := [dz_I 1, dz_I s1.1, .retAddr 0, .ref 114]) rfl rfl ?_
                                                                      refine wq_2 (i := .iadd) (z := s1.1 + 1) (pc' := 1127) rfl rfl (op_add _ _) rfl ?_
                                                                      refine wq_sx (j' := dz_c (s1.1 + 1)) (pc' := 1128) rfl rfl k154.1 k154.2 rfl ?_
                                                                      refine wq_cv (Dq := (D + 9)) (r' := mm_r186) (as0 := [dz_I (dz_sc xs (dz_c (s1.1 + 1)))]) (rest := []) (ls' := [some (.ref 114), some (dz_I (dz_sc xs (dz_c (s1.1 + 1))))]) (pc' := 1131) rfl rfl rfl rfl ho_M rfl rfl rfl ?_
                                                                      refine jw_M_back (X := (some xs)) (D := D + 8) (dz_sc xs (dz_c (s1.1 + 1))) q155.2 (dz_pm (dz_bi H) (fun q156 H => ?_))
                                                                      show mm_Wp (some xs) (D + 10) mm_rL 1131 [some (.retAddr 0), some (.ref 0), some (.ref 114), some (dz_I s1.1)] [dz_I q156.1] (hz_0 q156.2) Q
                                                                      refine wp_s (i := .pop) (n := 1) (pc' := 1132) (st' := []) rfl rfl ?_
                                                                      refine wp_s (i := .goto 178) (n := 3) (pc' := 1310) (st' := []) rfl rfl ?_
                                                                      refine wq_inc (k := 3) (d := 5) (x := s1.1) (ls' := [some (.retAddr 0), some (.ref 0), some (.ref 114), some (dz_I (s1.1 + 5))]) (pc' := 1313) rfl rfl rfl rfl ?_
                                                                      refine wp_s (i := .goto (-1295)) (n := 3) (pc' := 18) (st' := []) rfl rfl ?_
                                                                      replace H := dz_back H
                                                                      exact H
                                                                    · replace H := dz_if c153 H
                                                                      by_cases c157 : dz_c (dz_an (dz_sc xs (dz_c s1.1)) 63) = 33
                                                                      · replace H := dz_it c157 H
                                                                        refine wq_ts (x' := dz_c (dz_an (dz_sc xs (dz_c s1.1)) 63)) (tt := 1135) rfl rfl (by rw [c157]; rfl) ?_
                                                                        refine wp_s (i := .aload_n 1) (n := 1) (pc' := 1136) (st' := [.ref 0]) rfl rfl ?_
                                                                        refine wp_s (i := .aload_n 0) (n := 1) (pc' := 1137) (st' := [.retAddr 0, .ref 0]) rfl rfl ?_
                                                                        refine wp_s (i := .iload_n 3) (n := 1) (pc' := 1138) (st' := [dz_I s1.1, .retAddr 0, .ref 0]) rfl rfl ?_
                                                                        refine wp_s (i := .iconst 1) (n := 1) (pc' := 1139) (st' := [dz_I 1, dz_I s1.1, .retAddr 0, .ref 0]) rfl rfl ?_
                                                                        refine wq_2 (i := .iadd) (z := s1.1 + 1) (pc' := 1140) rfl rfl (op_add _ _) rfl ?_
                                                                        obtain ⟨k158, H⟩ := dz_ck H
                                                                        refine wq_sx (j' := dz_c (s1.1 + 1)) (pc' := 1141) rfl rfl k158.1 k158.2 rfl ?_
                                                                        refine wp_s (i := .aload_n 0) (n := 1) (pc' := 1142) (st' := [.retAddr 0, dz_I (dz_sc xs (dz_c (s1.1 + 1))), .ref 0]) rfl rfl ?_
                                                                        refine wp_s (i := .iload_n 3) (n := 1) (pc' := 1143) (st' := [dz_I s1.1, .retAddr 0, dz_I (dz_sc xs (dz_c (s1.1 + 1))), .ref 0]) rfl rfl ?_
                                                                        refine wp_s (i := .iconst 2) (n := 1) (pc' := 1144) (st' := [dz_I 2, dz_I s1.1, .retAddr 0, dz_I (dz_sc xs (dz_c (s1.1 + 1))), .ref 0]) rfl rfl ?_
                                                                        refine wq_2 (i := .iadd) (z := s1.1 + 2) (pc' := 1145) rfl rfl (op_add _ _) rfl ?_
                                                                        obtain ⟨k159, H⟩ := dz_ck H
                                                                        refine wq_sx (j' := dz_c (s1.1 + 2)) (pc' := 1146) rfl rfl k159.1 k159.2 rfl ?_
                                                                        refine wp_s (i := .aload_n 0) (n := 1) (pc' := 1147) (st' := [.retAddr 0, dz_I (dz_sc xs (dz_c (s1.1 + 2))), dz_I (dz_sc xs (dz_c (s1.1 + 1))), .ref 0]) rfl rfl ?_
                                                                        refine wp_s (i := .iload_n 3) (n := 1) (pc' := 1148) (st' := [dz_I s1.1, .retAddr 0, dz_I (dz_sc xs (dz_c (s1.1 + 2))), dz_I (dz_sc xs (dz_c (s1.1 + 1))), .ref 0]) rfl rfl ?_
                                                                        refine wp_s (i := .iconst 3) (n := 1) (pc' := 1149) (st' := [dz_I 3, dz_I s1.1, .retAddr 0, dz_I (dz_sc xs (dz_c (s1.1 + 2))), dz_I (dz_sc xs (dz_c (s1.1 + 1))), .ref 0]) rfl rfl ?_
                                                                        refine wq_2 (i := .iadd) (z := s1.1 + 3) (pc' := 1150) rfl rfl (op_add _ _) rfl ?_
                                                                        obtain ⟨k160, H⟩ := dz_ck H
                                                                        refine wq_sx (j' := dz_c (s1.1 + 3)) (pc' := 1151) rfl rfl k160.1 k160.2 rfl ?_
                                                                        refine wq_cv (Dq := (D + 9)) (r' := mm_r98) (as0 := [dz_I (dz_sc xs (dz_c (s1.1 + 1))), dz_I (dz_sc xs (dz_c (s1.1 + 2))), dz_I (dz_sc xs (dz_c (s1.1 + 3)))]) (rest := []) (ls' := [some (.ref 0), some (dz_I (dz_sc xs (dz_c (s1.1 + 1)))), some (dz_I (dz_sc xs (dz_c (s1.1 + 2)))), some (dz_I (dz_sc xs (dz_c (s1.1 + 3))))]) (pc' := 1154) rfl rfl rfl rfl ho_O rfl rfl rfl ?_
                                                                        refine jw_O_sheet (X := (some xs)) (D := D + 7) (dz_sc xs (dz_c (s1.1 + 1))) (dz_sc xs (dz_c (s1.1 + 2))) (dz_sc xs (dz_c (s1.1 + 3))) s1.2 (dz_pm (dz_bi H) (fun q161 H => ?_))
                                                                        show mm_Wp (some xs) (D + 10) mm_rL 1154 [some (.retAddr 0), some (.ref 0), some (.ref 114), some (dz_I s1.1)] [dz_I q161.1] (hz_0 q161.2) Q
                                                                        refine wp_s (i := .pop) (n := 1) (pc' := 1155) (st' := []) rfl rfl ?_
                                                                        refine wp_s (i := .aload_n 2) (n := 1) (pc' := 1156) (st' := [.ref 114]) rfl rfl ?_
                                                                        refine wp_s (i := .aload_n 0) (n := 1) (pc' := 1157) (st' := [.retAddr 0, .ref 114]) rfl rfl ?_
                                                                        refine wp_s (i := .iload_n 3) (n := 1) (pc' := 1158) (st' := [dz_I s1.1, .retAddr 0, .ref 114]) rfl rfl ?_
                                                                        refine wp_s (i := .iconst 1) (n := 1) (pc' := 1159) (st' := [dz_I 1, dz_I s1.1, .retAddr 0, .ref 114]) rfl rfl ?_
                                                                        refine wq_2 (i := .iadd) (z := s1.1 + 1) (pc' := 1160) rfl rfl (op_add _ _) rfl ?_
                                                                        refine wq_sx (j' := dz_c (s1.1 + 1)) (pc' := 1161) rfl rfl k158.1 k158.2 rfl ?_
                                                                        refine wp_s (i := .aload_n 0) (n := 1) (pc' := 1162) (st' := [.retAddr 0, dz_I (dz_sc xs (dz_c (s1.1 + 1))), .ref 114]) rfl rfl ?_
                                                                        refine wp_s (i := .iload_n 3) (n := 1) (pc' := 1163) (st' := [dz_I s1.1, .retAddr 0, dz_I (dz_sc xs (dz_c (s1.1 + 1))), .ref 114]) rfl rfl ?_
                                                                        refine wp_s (i := .iconst 2) (n := 1) (pc' := 1164) (st' := [dz_I 2, dz_I s1.1, .retAddr 0, dz_I (dz_sc xs (dz_c (s1.1 + 1))), .ref 114]) rfl rfl ?_
                                                                        refine wq_2 (i := .iadd) (z := s1.1 + 2) (pc' := 1165) rfl rfl (op_add _ _) rfl ?_
                                                                        refine wq_sx (j' := dz_c (s1.1 + 2)) (pc' := 1166) rfl rfl k159.1 k159.2 rfl ?_
                                                                        refine wp_s (i := .aload_n 0) (n := 1) (pc' := 1167) (st' := [.retAddr 0, dz_I (dz_sc xs (dz_c (s1.1 + 2))), dz_I (dz_sc xs (dz_c (s1.1 + 1))), .ref 114]) rfl rfl ?_
                                                                        refine wp_s (i := .iload_n 3) (n := 1) (pc' := 1168) (st' := [dz_I s1.1, .retAddr 0, dz_I (dz_sc xs (dz_c (s1.1 + 2))), dz_I (dz_sc xs (dz_c (s1.1 + 1))), .ref 114]) rfl rfl ?_
                                                                        refine wp_s (i := .iconst 3) (n := 1) (pc' := 1169) (st' := [dz_I 3, dz_I s1.1, .retAddr 0, dz_I (dz_sc xs (dz_c (s1.1 + 2))), dz_I (dz_sc xs (dz_c (s1.1 + 1))), .ref 114]) rfl rfl ?_
                                                                        refine wq_2 (i := .iadd) (z := s1.1 + 3) (pc' := 1170) rfl rfl (op_add _ _) rfl ?_
                                                                        refine wq_sx (j' := dz_c (s1.1 + 3)) (pc' := 1171) rfl rfl k160.1 k160.2 rfl ?_
                                                                        refine wq_cv (Dq := (D + 9)) (r' := mm_r187) (as0 := [dz_I (dz_sc xs (dz_c (s1.1 + 1))), dz_I (dz_sc xs (dz_c (s1.1 + 2))), dz_I (dz_sc xs (dz_c (s1.1 + 3)))]) (rest := []) (ls' := [some (.ref 114), some (dz_I (dz_sc xs (dz_c (s1.1 + 1)))), some (dz_I (dz_sc xs (dz_c (s1.1 + 2)))), some (dz_I (dz_sc xs (dz_c (s1.1 + 3)))), none]) (pc' := 1174) rfl rfl rfl rfl ho_M rfl rfl rfl ?_
                                                                        refine jw_M_sheet (X := (some xs)) (D := D + 8) (dz_sc xs (dz_c (s1.1 + 1))) (dz_sc xs (dz_c (s1.1 + 2))) (dz_sc xs (dz_c (s1.1 + 3))) q161.2 (dz_pm (dz_bi H) (fun q162 H => ?_))
                                                                        show mm_Wp (some xs) (D + 10) mm_rL 1174 [some (.retAddr 0), some (.ref 0), some (.ref 114), some (dz_I s1.1)] [dz_I q162.1] (hz_0 q162.2) Q
                                                                        refine wp_s (i := .pop) (n := 1) (pc' := 1175) (st' := []) rfl rfl ?_
                                                                        refine wp_s (i := .goto 135) (n := 3) (pc' := 1310) (st' := []) rfl rfl ?_
                                                                        refine wq_inc (k := 3) (d := 5) (x := s1.1) (ls' := [some (.retAddr 0), some (.ref 0), some (.ref 114), some (dz_I (s1.1 + 5))]) (pc' := 1313) rfl rfl rfl rfl ?_
                                                                        refine wp_s (i := .goto (-1295)) (n := 3) (pc' := 18) (st' := []) rfl rfl ?_
                                                                        replace H := dz_back H
                                                                        exact H
                                                                      · replace H := dz_if c157 H
                                                                        by_cases c163 : dz_c (dz_an (dz_sc xs (dz_c s1.1)) 63) = 34
                                                                        · replace H := dz_it c163 H
                                                                          refine wq_ts (x' := dz_c (dz_an (dz_sc xs (dz_c s1.1)) 63)) (tt := 1178) rfl rfl (by rw [c163]; rfl) ?_
                                                                          refine wp_s (i := .aload_n 1) (n := 1) (pc' := 1179) (st' := [.ref 0]) rfl rfl ?_
                                                                          refine wp_s (i := .aload_n 0) (n := 1) (pc' := 1180) (st' := [.retAddr 0, .ref 0]) rfl rfl ?_
                                                                          refine wp_s (i := .iload_n 3) (n := 1) (pc' := 1181) (st' := [dz_I s1.1, .retAddr 0, .ref 0]) rfl rfl ?_
                                                                          refine wp_s (i := .iconst 1) (n := 1) (pc' := 1182) (st' := [dz_I 1, dz_I s1.1, .retAddr 0, .ref 0]) rfl rfl ?_
                                                                          refine wq_2 (i := .iadd) (z := s1.1 + 1) (pc' := 1183) rfl rfl (op_add _ _) rfl ?_
                                                                          obtain ⟨k164, H⟩ := dz_ck H
                                                                          refine wq_sx (j' := dz_c (s1.1 + 1)) (pc' := 1184) rfl rfl k164.1 k164.2 rfl ?_
                                                                          refine wp_s (i := .aload_n 0) (n := 1) (pc' := 1185) (st' := [.retAddr 0, dz_I (dz_sc xs (dz_c (s1.1 + 1))), .ref 0]) rfl rfl ?_
                                                                          refine wp_s (i := .iload_n 3) (n := 1) (pc' := 1186) (st' := [dz_I s1.1, .retAddr 0, dz_I (dz_sc xs (dz_c (s1.1 + 1))), .ref 0]) rfl rfl ?_
                                                                          refine wp_s (i := .iconst 2) (n := 1) (pc' := 1187) (st' := [dz_I 2, dz_I s1.1, .retAddr 0, dz_I (dz_sc xs (dz_c (s1.1 + 1))), .ref 0]) rfl rfl ?_
                                                                          refine wq_2 (i := .iadd) (z := s1.1 + 2) (pc' := 1188) rfl rfl (op_add _ _) rfl ?_
                                                                          obtain ⟨k165, H⟩ := dz_ck H
                                                                          refine wq_sx (j' := dz_c (s1.1 + 2)) (pc' := 1189) rfl rfl k165.1 k165.2 rfl ?_
                                                                          refine wp_s (i := .aload_n 0) (n := 1) (pc' := 1190) (st' := [.retAddr 0, dz_I (dz_sc xs (dz_c (s1.1 + 2))), dz_I (dz_sc xs (dz_c (s1.1 + 1))), .ref 0]) rfl rfl ?_
                                                                          refine wp_s (i := .iload_n 3) (n := 1) (pc' := 1191) (st' := [dz_I s1.1, .retAddr 0, dz_I (dz_sc xs (dz_c (s1.1 + 2))), dz_I (dz_sc xs (dz_c (s1.1 + 1))), .ref 0]) rfl rfl ?_
                                                                          refine wp_s (i := .iconst 3) (n := 1) (pc' := 1192) (st' := [dz_I 3, dz_I s1.1, .retAddr 0, dz_I (dz_sc xs (dz_c (s1.1 + 2))), dz_I (dz_sc xs (dz_c (s1.1 + 1))), .ref 0]) rfl rfl ?_
                                                                          refine wq_2 (i := .iadd) (z := s1.1 + 3) (pc' := 1193) rfl rfl (op_add _ _) rfl ?_
                                                                          obtain ⟨k166, H⟩ := dz_ck H
                                                                          refine wq_sx (j' := dz_c (s1.1 + 3)) (pc' := 1194) rfl rfl k166.1 k166.2 rfl ?_
                                                                          refine wq_cv (Dq := (D + 9)) (r' := mm_r99) (as0 := [dz_I (dz_sc xs (dz_c (s1.1 + 1))), dz_I (dz_sc xs (dz_c (s1.1 + 2))), dz_I (dz_sc xs (dz_c (s1.1 + 3)))]) (rest := []) (ls' := [some (.ref 0), some (dz_I (dz_sc xs (dz_c (s1.1 + 1)))), some (dz_I (dz_sc xs (dz_c (s1.1 + 2)))), some (dz_I (dz_sc xs (dz_c (s1.1 + 3)))), none, none]) (pc' := 1197) rfl rfl rfl rfl ho_O rfl rfl rfl ?_
                                                                          refine jw_O_lay (X := (some xs)) (D := D + 7) (dz_sc xs (dz_c (s1.1 + 1))) (dz_sc xs (dz_c (s1.1 + 2))) (dz_sc xs (dz_c (s1.1 + 3))) s1.2 (dz_pm (dz_bi H) (fun q167 H => ?_))
                                                                          show mm_Wp (some xs) (D + 10) mm_rL 1197 [some (.retAddr 0), some (.ref 0), some (.ref 114), some (dz_I s1.1)] [dz_I q167.1] (hz_0 q167.2) Q
                                                                          refine wp_s (i := .pop) (n := 1) (pc' := 1198) (st' := []) rfl rfl ?_
                                                                          refine wp_s (i := .aload_n 2) (n := 1) (pc' := 1199) (st' := [.ref 114]) rfl rfl ?_
                                                                          refine wp_s (i := .aload_n 0) (n := 1) (pc' := 1200) (st' := [.retAddr 0, .ref 114]) rfl rfl ?_
                                                                          refine wp_s (i := .iload_n 3) (n := 1) (pc' := 1201) (st' := [dz_I s1.1, .retAddr 0, .ref 114]) rfl rfl ?_
                                                                          refine wp_s (i := .iconst 1) (n := 1) (pc' := 1202) (st' := [dz_I 1, dz_I s1.1, .retAddr 0, .ref 114]) rfl rfl ?_
                                                                          refine wq_2 (i := .iadd) (z := s1.1 + 1) (pc' := 1203) rfl rfl (op_add _ _) rfl ?_
                                                                          refine wq_sx (j' := dz_c (s1.1 + 1)) (pc' := 1204) rfl rfl k164.1 k164.2 rfl ?_
                                                                          refine wp_s (i := .aload_n 0) (n := 1) (pc' := 1205) (st' := [.retAddr 0, dz_I (dz_sc xs (dz_c (s1.1 + 1))), .ref 114]) rfl rfl ?_
                                                                          refine wp_s (i := .iload_n 3) (n := 1) (pc' := 1206) (st' := [dz_I s1.1, .retAddr 0, dz_I (dz_sc xs (dz_c (s1.1 + 1))), .ref 114]) rfl rfl ?_
                                                                          refine wp_s (i := .iconst 2) (n := 1) (pc' := 1207) (st' := [dz_I 2, dz_I s1.1, .retAddr 0, dz_I (dz_sc xs (dz_c (s1.1 + 1))), .ref 114]) rfl rfl ?_
                                                                          refine wq_2 (i := .iadd) (z := s1.1 + 2) (pc' := 1208) rfl rfl (op_add _ _) rfl ?_
                                                                          refine wq_sx (j' := dz_c (s1.1 + 2)) (pc' := 1209) rfl rfl k165.1 k165.2 rfl ?_
                                                                          refine wp_s (i := .aload_n 0) (n := 1) (pc' := 1210) (st' := [.retAddr 0, dz_I (dz_sc xs (dz_c (s1.1 + 2))), dz_I (dz_sc xs (dz_c (s1.1 + 1))), .ref 114]) rfl rfl ?_
                                                                          refine wp_s (i := .iload_n 3) (n := 1) (pc' := 1211) (st' := [dz_I s1.1, .retAddr 0, dz_I (dz_sc xs (dz_c (s1.1 + 2))), dz_I (dz_sc xs (dz_c (s1.1 + 1))), .ref 114]) rfl rfl ?_
                                                                          refine wp_s (i := .iconst 3) (n := 1) (pc' := 1212) (st' := [dz_I 3, dz_I s1.1, .retAddr 0, dz_I (dz_sc xs (dz_c (s1.1 + 2))), dz_I (dz_sc xs (dz_c (s1.1 + 1))), .ref 114]) rfl rfl ?_
                                                                          refine wq_2 (i := .iadd) (z := s1.1 + 3) (pc' := 1213) rfl rfl (op_add _ _) rfl ?_
                                                                          refine wq_sx (j' := dz_c (s1.1 + 3)) (pc' := 1214) rfl rfl k166.1 k166.2 rfl ?_
                                                                          refine wq_cv (Dq := (D + 9)) (r' := mm_r188) (as0 := [dz_I (dz_sc xs (dz_c (s1.1 + 1))), dz_I (dz_sc xs (dz_c (s1.1 + 2))), dz_I (dz_sc xs (dz_c (s1.1 + 3)))]) (rest := []) (ls' := [some (.ref 114), some (dz_I (dz_sc xs (dz_c (s1.1 + 1)))), some (dz_I (dz_sc xs (dz_c (s1.1 + 2)))), some (dz_I (dz_sc xs (dz_c (s1.1 + 3))))]) (pc' := 1217) rfl rfl rfl rfl ho_M rfl rfl rfl ?_
                                                                          refine jw_M_lay (X := (some xs)) (D := D + 8) (dz_sc xs (dz_c (s1.1 + 1))) (dz_sc xs (dz_c (s1.1 + 2))) (dz_sc xs (dz_c (s1.1 + 3))) q167.2 (dz_pm (dz_bi H) (fun q168 H => ?_))
                                                                          show mm_Wp (some xs) (D + 10) mm_rL 1217 [some (.retAddr 0), some (.ref 0), some (.ref 114), some (dz_I s1.1)] [dz_I q168.1] (hz_0 q168.2) Q
                                                                          refine wp_s (i := .pop) (n := 1) (pc' := 1218) (st' := []) rfl rfl ?_
                                                                          refine wp_s (i := .goto 92) (n := 3) (pc' := 1310) (st' := []) rfl rfl ?_
                                                                          refine wq_inc (k := 3) (d := 5) (x := s1.1) (ls' := [some (.retAddr 0), some (.ref 0), some (.ref 114), some (dz_I (s1.1 + 5))]) (pc' := 1313) rfl rfl rfl rfl ?_
                                                                          refine wp_s (i := .goto (-1295)) (n := 3) (pc' := 18) (st' := []) rfl rfl ?_
                                                                          replace H := dz_back H
                                                                          exact H
                                                                        · replace H := dz_if c163 H
                                                                          by_cases c169 : dz_c (dz_an (dz_sc xs (dz_c s1.1)) 63) = 35
                                                                          · replace H := dz_it c169 H
                                                                            refine wq_ts (x' := dz_c (dz_an (dz_sc xs (dz_c s1.1)) 63)) (tt := 1221) rfl rfl (by rw [c169]; rfl) ?_
                                                                            refine wp_s (i := .aload_n 1) (n := 1) (pc' := 1222) (st' := [.ref 0]) rfl rfl ?_
                                                                            refine wp_s (i := .aload_n 0) (n := 1) (pc' := 1223) (st' := [.retAddr 0, .ref 0]) rfl rfl ?_
                                                                            refine wp_s (i := .iload_n 3) (n := 1) (pc' := 1224) (st' := [dz_I s1.1, .retAddr 0, .ref 0]) rfl rfl ?_
                                                                            refine wp_s (i := .iconst 1) (n := 1) (pc' := 1225) (st' := [dz_I 1, dz_I s1.1, .retAddr 0, .ref 0]) rfl rfl ?_
                                                                            refine wq_2 (i := .iadd) (z := s1.1 + 1) (pc' := 1226) rfl rfl (op_add _ _) rfl ?_
                                                                            obtain ⟨k170, H⟩ := dz_ck H
                                                                            refine wq_sx (j' := dz_c (s1.1 + 1)) (pc' := 1227) rfl rfl k170.1 k170.2 rfl ?_
                                                                            refine wp_s (i := .aload_n 0) (n := 1) (pc' := 1228) (st' := [.retAddr 0, dz_I (dz_sc xs (dz_c (s1.1 + 1))), .ref 0]) rfl rfl ?_
                                                                            refine wp_s (i := .iload_n 3) (n := 1) (pc' := 1229) (st' := [dz_I s1.1, .retAddr 0, dz_I (dz_sc xs (dz_c (s1.1 + 1))), .ref 0]) rfl rfl ?_
                                                                            refine wp_s (i := .iconst 2) (n := 1) (pc' := 1230) (st' := [dz_I 2, dz_I s1.1, .retAddr 0, dz_I (dz_sc xs (dz_c (s1.1 + 1))), .ref 0]) rfl rfl ?_
                                                                            refine wq_2 (i := .iadd) (z := s1.1 + 2) (pc' := 1231) rfl rfl (op_add _ _) rfl ?_
                                                                            obtain ⟨k171, H⟩ := dz_ck H
                                                                            refine wq_sx (j' := dz_c (s1.1 + 2)) (pc' := 1232) rfl rfl k171.1 k171.2 rfl ?_
                                                                            refine wp_s (i := .aload_n 0) (n := 1) (pc' := 1233) (st' := [.retAddr 0, dz_I (dz_sc xs (dz_c (s1.1 + 2))), dz_I (dz_sc xs (dz_c (s1.1 + 1))), .ref 0]) rfl rfl ?_
                                                                            refine wp_s (i := .iload_n 3) (n := 1) (pc' := 1234) (st' := [dz_I s1.1, .retAddr 0, dz_I (dz_sc xs (dz_c (s1.1 + 2))), dz_I (dz_sc xs (dz_c (s1.1 + 1))), .ref 0]) rfl rfl ?_
                                                                            refine wp_s (i := .iconst 3) (n := 1) (pc' := 1235) (st' := [dz_I 3, dz_I s1.1, .retAddr 0, dz_I (dz_sc xs (dz_c (s1.1 + 2))), dz_I (dz_sc xs (dz_c (s1.1 + 1))), .ref 0]) rfl rfl ?_
                                                                            refine wq_2 (i := .iadd) (z := s1.1 + 3) (pc' := 1236) rfl rfl (op_add _ _) rfl ?_
                                                                            obtain ⟨k172, H⟩ := dz_ck H
                                                                            refine wq_sx (j' := dz_c (s1.1 + 3)) (pc' := 1237) rfl rfl k172.1 k172.2 rfl ?_
                                                                            refine wp_s (i := .aload_n 0) (n := 1) (pc' := 1238) (st' := [.retAddr 0, dz_I (dz_sc xs (dz_c (s1.1 + 3))), dz_I (dz_sc xs (dz_c (s1.1 + 2))), dz_I (dz_sc xs (dz_c (s1.1 + 1))), .ref 0]) rfl rfl ?_
                                                                            refine wp_s (i := .iload_n 3) (n := 1) (pc' := 1239) (st' := [dz_I s1.1, .retAddr 0, dz_I (dz_sc xs (dz_c (s1.1 + 3))), dz_I (dz_sc xs (dz_c (s1.1 + 2))), dz_I (dz_sc xs (dz_c (s1.1 + 1))), .ref 0]) rfl rfl ?_
                                                                            refine wp_s (i := .iconst 4) (n := 1) (pc' := 1240) (st' := [dz_I 4, dz_I s1.1, .retAddr 0, dz_I (dz_sc xs (dz_c (s1.1 + 3))), dz_I (dz_sc xs (dz_c (s1.1 + 2))), dz_I (dz_sc xs (dz_c (s1.1 + 1))), .ref 0]) rfl rfl ?_
                                                                            refine wq_2 (i := .iadd) (z := s1.1 + 4) (pc' := 1241) rfl rfl (op_add _ _) rfl ?_
                                                                            obtain ⟨k173, H⟩ := dz_ck H
                                                                            refine wq_sx (j' := dz_c (s1.1 + 4)) (pc' := 1242) rfl rfl k173.1 k173.2 rfl ?_
                                                                            refine wq_cv (Dq := (D + 9)) (r' := mm_r100) (as0 := [dz_I (dz_sc xs (dz_c (s1.1 + 1))), dz_I (dz_sc xs (dz_c (s1.1 + 2))), dz_I (dz_sc xs (dz_c (s1.1 + 3))), dz_I (dz_sc xs (dz_c (s1.1 + 4)))]) (rest := []) (ls' := [some (.ref 0), some (dz_I (dz_sc xs (dz_c (s1.1 + 1)))), some (dz_I (dz_sc xs (dz_c (s1.1 + 2)))), some (dz_I (dz_sc xs (dz_c (s1.1 + 3)))), some (dz_I (dz_sc xs (dz_c (s1.1 + 4)))), none, none, none, none]) (pc' := 1245) rfl rfl rfl rfl ho_O rfl rfl rfl ?_
                                                                            refine jw_O_read (X := (some xs)) (D := D + 5) (dz_sc xs (dz_c (s1.1 + 1))) (dz_sc xs (dz_c (s1.1 + 2))) (dz_sc xs (dz_c (s1.1 + 3))) (dz_sc xs (dz_c (s1.1 + 4))) s1.2 (dz_pm (dz_bi H) (fun q174 H => ?_))
                                                                            show mm_Wp (some xs) (D + 10) mm_rL 1245 [some (.retAddr 0), some (.ref 0), some (.ref 114), some (dz_I s1.1)] [dz_I q174.1] (hz_0 q174.2) Q
                                                                            refine wp_s (i := .pop) (n := 1) (pc' := 1246) (st' := []) rfl rfl ?_
                                                                            refine wp_s (i := .aload_n 2) (n := 1) (pc' := 1247) (st' := [.ref 114]) rfl rfl ?_
                                                                            refine wp_s (i := .aload_n 0) (n := 1) (pc' := 1248) (st' := [.retAddr 0, .ref 114]) rfl rfl ?_
                                                                            refine wp_s (i := .iload_n 3) (n := 1) (pc' := 1249) (st' := [dz_I s1.1, .retAddr 0, .ref 114]) rfl rfl ?_
                                                                            refine wp_s (i := .iconst 1) (n := 1) (pc' := 1250) (st' := [dz_I 1, dz_I s1.1, .retAddr 0, .ref 114]) rfl rfl ?_
                                                                            refine wq_2 (i := .iadd) (z := s1.1 + 1) (pc' := 1251) rfl rfl (op_add _ _) rfl ?_
                                                                            refine wq_sx (j' := dz_c (s1.1 + 1)) (pc' := 1252) rfl rfl k170.1 k170.2 rfl ?_
                                                                            refine wp_s (i := .aload_n 0) (n := 1) (pc' := 1253) (st' := [.retAddr 0, dz_I (dz_sc xs (dz_c (s1.1 + 1))), .ref 114]) rfl rfl ?_
                                                                            refine wp_s (i := .iload_n 3) (n := 1) (pc' := 1254) (st' := [dz_I s1.1, .retAddr 0, dz_I (dz_sc xs (dz_c (s1.1 + 1))), .ref 114]) rfl rfl ?_
                                                                            refine wp_s (i := .iconst 2) (n := 1) (pc' := 1255) (st' := [dz_I 2, dz_I s1.1, .retAddr 0, dz_I (dz_sc xs (dz_c (s1.1 + 1))), .ref 114]) rfl rfl ?_
                                                                            refine wq_2 (i := .iadd) (z := s1.1 + 2) (pc' := 1256) rfl rfl (op_add _ _) rfl ?_
                                                                            refine wq_sx (j' := dz_c (s1.1 + 2)) (pc' := 1257) rfl rfl k171.1 k171.2 rfl ?_
                                                                            refine wp_s (i := .aload_n 0) (n := 1) (pc' := 1258) (st' := [.retAddr 0, dz_I (dz_sc xs (dz_c (s1.1 + 2))), dz_I (dz_sc xs (dz_c (s1.1 + 1))), .ref 114]) rfl rfl ?_
                                                                            refine wp_s (i := .iload_n 3) (n := 1) (pc' := 1259) (st' := [dz_I s1.1, .retAddr 0, dz_I (dz_sc xs (dz_c (s1.1 + 2))), dz_I (dz_sc xs (dz_c (s1.1 + 1))), .ref 114]) rfl rfl ?_
                                                                            refine wp_s (i := .iconst 3) (n := 1) (pc' := 1260) (st' := [dz_I 3, dz_I s1.1, .retAddr 0, dz_I (dz_sc xs (dz_c (s1.1 + 2))), dz_I (dz_sc xs (dz_c (s1.1 + 1))), .ref 114]) rfl rfl ?_
                                                                            refine wq_2 (i := .iadd) (z := s1.1 + 3) (pc' := 1261) rfl rfl (op_add _ _) rfl ?_
                                                                            refine wq_sx (j' := dz_c (s1.1 + 3)) (pc' := 1262) rfl rfl k172.1 k172.2 rfl ?_
                                                                            refine wp_s (i := .aload_n 0) (n := 1) (pc' := 1263) (st' := [.retAddr 0, dz_I (dz_sc xs (dz_c (s1.1 + 3))), dz_I (dz_sc xs (dz_c (s1.1 + 2))), dz_I (dz_sc xs (dz_c (s1.1 + 1))), .ref 114]) rfl rfl ?_
                                                                            refine wp_s (i := .iload_n 3) (n := 1) (pc' := 1264) (st' := [dz_I s1.1, .retAddr 0, dz_I (dz_sc xs (dz_c (s1.1 + 3))), dz_I (dz_sc xs (dz_c (s1.1 + 2))), dz_I (dz_sc xs (dz_c (s1.1 + 1))), .ref 114]) rfl rfl ?_
                                                                            refine wp_s (i := .iconst 4) (n := 1) (pc' := 1265) (st' := [dz_I 4, dz_I s1.1, .retAddr 0, dz_I (dz_sc xs (dz_c (s1.1 + 3))), dz_I (dz_sc xs (dz_c (s1.1 + 2))), dz_I (dz_sc xs (dz_c (s1.1 + 1))), .ref 114]) rfl rfl ?_
                                                                            refine wq_2 (i := .iadd) (z := s1.1 + 4) (pc' := 1266) rfl rfl (op_add _ _) rfl ?_
                                                                            refine wq_sx (j' := dz_c (s1.1 + 4)) (pc' := 1267) rfl rfl k173.1 k173.2 rfl ?_
                                                                            refine wq_cv (Dq := (D + 9)) (r' := mm_r189) (as0 := [dz_I (dz_sc xs (dz_c (s1.1 + 1))), dz_I (dz_sc xs (dz_c (s1.1 + 2))), dz_I (dz_sc xs (dz_c (s1.1 + 3))), dz_I (dz_sc xs (dz_c (s1.1 + 4)))]) (rest := []) (ls' := [some (.ref 114), some (dz_I (dz_sc xs (dz_c (s1.1 + 1)))), some (dz_I (dz_sc xs (dz_c (s1.1 + 2)))), some (dz_I (dz_sc xs (dz_c (s1.1 + 3)))), some (dz_I (dz_sc xs (dz_c (s1.1 + 4)))), none, none, none]) (pc' := 1270) rfl rfl rfl rfl ho_M rfl rfl rfl ?_
                                                                            refine jw_M_read (X := (some xs)) (D := D + 6) (dz_sc xs (dz_c (s1.1 + 1))) (dz_sc xs (dz_c (s1.1 + 2))) (dz_sc xs (dz_c (s1.1 + 3))) (dz_sc xs (dz_c (s1.1 + 4))) q174.2 (dz_pm (dz_bi H) (fun q175 H => ?_))
                                                                            show mm_Wp (some xs) (D + 10) mm_rL 1270 [some (.retAddr 0), some (.ref 0), some (.ref 114), some (dz_I s1.1)] [dz_I q175.1] (hz_0 q175.2) Q
                                                                            refine wp_s (i := .pop) (n := 1) (pc' := 1271) (st' := []) rfl rfl ?_
                                                                            refine wp_s (i := .goto 39) (n := 3) (pc' := 1310) (st' := []) rfl rfl ?_
                                                                            refine wq_inc (k := 3) (d := 5) (x := s1.1) (ls' := [some (.retAddr 0), some (.ref 0), some (.ref 114), some (dz_I (s1.1 + 5))]) (pc' := 1313) rfl rfl rfl rfl ?_
                                                                            refine wp_s (i := .goto (-1295)) (n := 3) (pc' := 18) (st' := []) rfl rfl ?_
                                                                            replace H := dz_back H
                                                                            exact H
                                                                          · replace H := dz_if c169 H
                                                                            by_cases c176 : dz_c (dz_an (dz_sc xs (dz_c s1.1)) 63) = 36
                                                                            · replace H := dz_it c176 H
                                                                              refine wq_ts (x' := dz_c (dz_an (dz_sc xs (dz_c s1.1)) 63)) (tt := 1274) rfl rfl (by rw [c176]; rfl) ?_
                                                                              refine wp_s (i := .aload_n 1) (n := 1) (pc' := 1275) (st' := [.ref 0]) rfl rfl ?_
                                                                              refine wq_cv (Dq := (D + 9)) (r' := mm_r101) (as0 := []) (rest := []) (ls' := [some (.ref 0)]) (pc' := 1278) rfl rfl rfl rfl ho_O rfl rfl rfl ?_
                                                                              refine jw_O_torn (X := (some xs)) (D := D + 9) s1.2 (dz_pm (dz_bi H) (fun q177 H => ?_))
                                                                              show mm_Wp (some xs) (D + 10) mm_rL 1278 [some (.retAddr 0), some (.ref 0), some (.ref 114), some (dz_I s1.1)] [dz_I q177] (hz_0 s1.2) Q
                                                                              refine wp_s (i := .pop) (n := 1) (pc' := 1279) (st' := []) rfl rfl ?_
                                                                              refine wp_s (i := .aload_n 2) (n := 1) (pc' := 1280) (st' := [.ref 114]) rfl rfl ?_
                                                                              refine wq_cv (Dq := (D + 9)) (r' := mm_r190) (as0 := []) (rest := []) (ls' := [some (.ref 114)]) (pc' := 1283) rfl rfl rfl rfl ho_M rfl rfl rfl ?_
                                                                              refine jw_M_torn (X := (some xs)) (D := D + 9) s1.2 (dz_pm (dz_bi H) (fun q178 H => ?_))
                                                                              show mm_Wp (some xs) (D + 10) mm_rL 1283 [some (.retAddr 0), some (.ref 0), some (.ref 114), some (dz_I s1.1)] [dz_I q178] (hz_0 s1.2) Q
                                                                              refine wp_s (i := .pop) (n := 1) (pc' := 1284) (st' := []) rfl rfl ?_
                                                                              refine wp_s (i := .goto 26) (n := 3) (pc' := 1310) (st' := []) rfl rfl ?_
                                                                              refine wq_inc (k := 3) (d := 5) (x := s1.1) (ls' := [some (.retAddr 0), some (.ref 0), some (.ref 114), some (dz_I (s1.1 + 5))]) (pc' := 1313) rfl rfl rfl rfl ?_
                                                                              refine wp_s (i := .goto (-1295)) (n := 3) (pc' := 18) (st' := []) rfl rfl ?_
                                                                              replace H := dz_back H
                                                                              exact H
                                                                            · replace H := dz_if c176 H
                                                                              by_cases c179 : dz_c (dz_an (dz_sc xs (dz_c s1.1)) 63) = 37
                                                                              · replace H := dz_it c179 H
                                                                                refine wq_ts (x' := dz_c (dz_an (dz_sc xs (dz_c s1.1)) 63)) (tt := 1287) rfl rfl (by rw [c179]; rfl) ?_
                                                                                refine wp_s (i := .aload_n 1) (n := 1) (pc' := 1288) (st' := [.ref 0]) rfl rfl ?_
                                                                                refine wp_s (i := .aload_n 0) (n := 1) (pc' := 1289) (st' := [.retAddr 0, .ref 0]) rfl rfl ?_
                                                                                refine wp_s (i := .iload_n 3) (n := 1) (pc' := 1290) (st' := [dz_I s1.1, .retAddr 0, .ref 0]) rfl rfl ?_
                                                                                refine wp_s (i := .iconst 1) (n := 1) (pc' := 1291) (st' := [dz_I 1, dz_I s1.1, .retAddr 0, .ref 0]) rfl rfl ?_
                                                                                refine wq_2 (i := .iadd) (z := s1.1 + 1) (pc' := 1292) rfl rfl (op_add _ _) rfl ?_
                                                                                obtain ⟨k180, H⟩ := dz_ck H
                                                                                refine wq_sx (j' := dz_c (s1.1 + 1)) (pc' := 1293) rfl rfl k180.1 k180.2 rfl ?_
                                                                                refine wq_cv (Dq := (D + 9)) (r' := mm_r102) (as0 := [dz_I (dz_sc xs (dz_c (s1.1 + 1)))]) (rest := []) (ls' := [some (.ref 0), some (dz_I (dz_sc xs (dz_c (s1.1 + 1))))]) (pc' := 1296) rfl rfl rfl rfl ho_O rfl rfl rfl ?_
                                                                                refine jw_O_count (X := (some xs)) (D := D + 7) (dz_sc xs (dz_c (s1.1 + 1))) s1.2 (dz_pm (dz_bi H) (fun q181 H => ?_))
                                                                                show mm_Wp (some xs) (D + 10) mm_rL 1296 [some (.retAddr 0), some (.ref 0), some (.ref 114), some (dz_I s1.1)] [dz_I q181] (hz_0 s1.2) Q
                                                                                refine wp_s (i := .pop) (n := 1) (pc' := 1297) (st' := []) rfl rfl ?_
                                                                                refine wp_s (i := .aload_n 2) (n := 1) (pc' := 1298) (st' := [.ref 114]) rfl rfl ?_
                                                                                refine wp_s (i := .aload_n 0) (n := 1) (pc' := 1299) (st' := [.retAddr 0, .ref 114]) rfl rfl ?_
                                                                                refine wp_s (i := .iload_n 3) (n := 1) (pc' := 1300) (st' := [dz_I s1.1, .retAddr 0, .ref 114]) rfl rfl ?_
                                                                                refine wp_s (i := .iconst 1) (n := 1) (pc' := 1301) (st' := [dz_I 1, dz_I s1.1, .retAddr 0, .ref 114]) rfl rfl ?_
                                                                                refine wq_2 (i := .iadd) (z := s1.1 + 1) (pc' := 1302) rfl rfl (op_add _ _) rfl ?_
                                                                                refine wq_sx (j' := dz_c (s1.1 + 1)) (pc' := 1303) rfl rfl k180.1 k180.2 rfl ?_
                                                                                refine wq_cv (Dq := (D + 9)) (r' := mm_r191) (as0 := [dz_I (dz_sc xs (dz_c (s1.1 + 1)))]) (rest := []) (ls' := [some (.ref 114), some (dz_I (dz_sc xs (dz_c (s1.1 + 1)))), none, none]) (pc' := 1306) rfl rfl rfl rfl ho_M rfl rfl rfl ?_
                                                                                refine jw_M_count (X := (some xs)) (D := D + 8) (dz_sc xs (dz_c (s1.1 + 1))) s1.2 (dz_pm (dz_bi H) (fun q182 H => ?_))
                                                                                show mm_Wp (some xs) (D + 10) mm_rL 1306 [some (.retAddr 0), some (.ref 0), some (.ref 114), some (dz_I s1.1)] [dz_I q182] (hz_0 s1.2) Q
                                                                                refine wp_s (i := .pop) (n := 1) (pc' := 1307) (st' := []) rfl rfl ?_
                                                                                refine wp_s (i := .goto 3) (n := 3) (pc' := 1310) (st' := []) rfl rfl ?_
                                                                                refine wq_inc (k := 3) (d := 5) (x := s1.1) (ls' := [some (.retAddr 0), some (.ref 0), some (.ref 114), some (dz_I (s1.1 + 5))]) (pc' := 1313) rfl rfl rfl rfl ?_
                                                                                refine wp_s (i := .goto (-1295)) (n := 3) (pc' := 18) (st' := []) rfl rfl ?_
                                                                                replace H := dz_back H
                                                                                exact H
                                                                              · replace H := dz_if c179 H
                                                                                refine wq_ts (x' := dz_c (dz_an (dz_sc xs (dz_c s1.1)) 63)) (tt := 1310) rfl rfl (by unfold mm_sw; rw [if_pos (by omega)]; rfl) ?_
                                                                                refine wq_inc (k := 3) (d := 5) (x := s1.1) (ls' := [some (.retAddr 0), some (.ref 0), some (.ref 114), some (dz_I (s1.1 + 5))]) (pc' := 1313) rfl rfl rfl rfl ?_
                                                                                refine wp_s (i := .goto (-1295)) (n := 3) (pc' := 18) (st' := []) rfl rfl ?_
                                                                                replace H := dz_back H
                                                                                exact H
def dz_n : List (Nat × Nat × List Int) := [(0, 2, [25]), (0, 3, [36]), (1, 1, [4]), (1, 2, [15]), (106, 2, [(-1)]), (108, 2, [(-1)]), (110, 2, [(-1)]), (112, 2, [(-1)]), (114, 30, [0, 4, 7, 12, 16, 21, 25, 29, 35, 41, 46, 49, 53, 57, 61, 67]), (114, 31, [114, 111, 111, 102, 112, 101, 103, 115, 112, 111, 117, 116, 114, 97, 105, 110, 115, 108, 101, 101, 112, 116, 117, 110, 101, 119, 101, 97, 114, 103, 117, 116, 116, 101, 114, 103, 114, 111, 117, 110, 100, 115, 108, 97, 116, 101, 116, 105, 112, 108, 101, 97, 107, 101, 97, 99, 104, 106, 111, 105, 110, 102, 114, 111, 122, 101, 110]), (114, 42, [(-4), (-4), (-4), (-4)])]
def dz_lk (b f : Nat) : List (Nat × Nat × List Int) → List Int
  | [] => []
  | q :: t => bif Nat.beq q.1 b && Nat.beq q.2.1 f then q.2.2 else dz_lk b f t
/-- the numbers behind both constructors -/
def dz_0 : dz_Z := fun b f i => if i < 0 then 0 else (dz_lk b f dz_n).getD i.toNat 0
set_option maxRecDepth 20000 in
theorem hz_st : hp_0 = hz_0 dz_0 := @of_decide_eq_true _ (mm_dH _ _) (by decide +kernel)
theorem hz_len (Z : dz_Z) : (hz_0 Z).length = 137 := by unfold hz_0; rw [List.length_map]; rfl
def hz_sp (s : hz_S) : Nat := mm_cs (hz_c dz_0 s)
theorem hz_cs (Z : dz_Z) (s : hz_S) : mm_cs (hz_c Z s) = hz_sp s := by
  unfold hz_sp
  rcases s with ⟨t, b, f, n⟩ | ⟨c, b, fs⟩ | ⟨t, l⟩
  · rcases t with _ | _ | t
    · simp only [hz_c, mm_cs, mm_al, dz_wn]
    · simp only [hz_c, mm_cs, mm_al, dz_xn]
    · simp only [hz_c, mm_cs, mm_al, dz_wn]
  · simp only [hz_c, mm_cs, List.length_map]
  · rfl
set_option maxRecDepth 20000 in
theorem hz_sz0 : mm_sz (hz_0 dz_0) ≤ 7302250 := by decide +kernel
theorem hz_sz (Z : dz_Z) : mm_sz (hz_0 Z) ≤ 7302250 := by
  have e : mm_sz (hz_0 Z) = mm_sz (hz_0 dz_0) := by
    unfold mm_sz hz_0
    rw [List.map_map, List.map_map]
    have e2 : hz_t.map (mm_cs ∘ hz_c Z) = hz_t.map (mm_cs ∘ hz_c dz_0) := List.map_congr_left (fun s _ => by simp only [Function.comp, hz_cs])
    rw [e2]
  rw [e]
  exact hz_sz0
def pk_Q (v : Option Value) (h : mm_H) : Prop := v = some (.int 1) ∧ h.length ≤ 600000 ∧ mm_sz h ≤ 7302250
set_option maxRecDepth 20000 in
theorem pm_all (xs : List Int32) (hx : dz_p (jf_L xs dz_0) (fun q => q.1 = true)) : mm_Wp (some xs) 13 mm_rL 0 mm_L0 [] [] pk_Q := by
  show mm_Wp (some xs) 13 mm_rL 0 [some (.retAddr 0), none, none, none] [] [] pk_Q
  refine wp_s (i := .new 7) (n := 3) (pc' := 3) (st' := [.ref 0]) (h' := [.inr (9, mm_dfs 9)]) rfl rfl ?_
  refine wp_s (i := .dup) (n := 1) (pc' := 4) (st' := [.ref 0, .ref 0]) rfl rfl ?_
  refine wp_c (i := .invokespecial 9) (n := 3) (Dq := 12) (r' := mm_r63) (as := [.ref 0]) (rest := [.ref 0]) rfl rfl rfl ?_
  refine wp_x 2000 hp_ia ?_
  show mm_Wp (some xs) 13 mm_rL 7 [some (.retAddr 0), none, none, none] [.ref 0] hp_a pk_Q
  refine wp_s (i := .astore_n 1) (n := 1) (pc' := 8) (ls' := [some (.retAddr 0), some (.ref 0), none, none]) (st' := []) rfl rfl ?_
  refine wp_s (i := .new 10) (n := 3) (pc' := 11) (st' := [.ref 114]) (h' := hp_a ++ [.inr (10, mm_dfs 10)]) rfl rfl ?_
  refine wp_s (i := .dup) (n := 1) (pc' := 12) (st' := [.ref 114, .ref 114]) rfl rfl ?_
  refine wp_c (i := .invokespecial 12) (n := 3) (Dq := 12) (r' := mm_r119) (as := [.ref 114]) (rest := [.ref 114]) rfl rfl rfl ?_
  refine wp_x 2000 hp_ib ?_
  show mm_Wp (some xs) 13 mm_rL 15 [some (.retAddr 0), some (.ref 0), none, none] [.ref 114] hp_0 pk_Q
  refine wp_s (i := .astore_n 2) (n := 1) (pc' := 16) (ls' := [some (.retAddr 0), some (.ref 0), some (.ref 114), none]) (st' := []) rfl rfl ?_
  refine wp_s (i := .iconst 0) (n := 1) (pc' := 17) (st' := [dz_I 0]) rfl rfl ?_
  refine wp_s (i := .istore_n 3) (n := 1) (pc' := 18) (ls' := [some (.retAddr 0), some (.ref 0), some (.ref 114), some (dz_I 0)]) (st' := []) rfl rfl ?_
  rw [hz_st]
  refine jw_L (D := 3) xs dz_0 (dz_pm hx (fun q hq => ⟨?_, ?_, ?_⟩))
  · rw [hq]; rfl
  · rw [hz_len]; omega
  · exact hz_sz _
/-- all that is left: the law's program answers true on every script -/
theorem mq_all (hp : ∀ xs : List Int32, xs.length ≤ 2560 → dz_p (jf_L xs dz_0) (fun q => q.1 = true)) : mm_Want 2560 := by
  intro xs hx
  obtain ⟨f, v, h', h1, rfl, h2, h3⟩ := pm_all xs (hp xs hx)
  exact ⟨f, h', h1, h2, h3⟩
