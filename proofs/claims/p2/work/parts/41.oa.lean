/-! calls that look, and those that set pegs, blocks, cups -/
section oa
variable {n : Nat} {Z Y : dz_Z} {m : ob_O} {a1 a2 : Int}
theorem oi_e (x N : Int) (h : 0 ≤ N ∧ N ≤ 100) (hx : dz_c x = x) : (decide (0 ≤ x ∧ x ≤ dz_c (N - 1)) : Bool) = decide (0 ≤ x ∧ x < N) := by
  rw [dz_ci (x := N - 1) (by omega) (by omega)]
  exact decide_eq_decide.mpr (by omega)
theorem oi_gO (h : iv n Z m) (c1 : dz_c a1 = a1) : jf_O_isGutter a1 Z = some (decide (0 ≤ a1 ∧ a1 < Z (iv_p Z) 3 0)) := by
  have hr := h.2.1.2.2.1
  unfold jf_O_isGutter
  rw [show (Z 0 2 0).toNat = iv_p Z from rfl, c1, dc_ir hr.1 (by omega)]
  by_cases a : a1 < 0
  · rw [if_pos a, decide_eq_false (by omega)]
  · rw [if_neg a, if_pos (iv_isP h.1)]
    by_cases b : Z (iv_p Z) 3 0 ≤ a1
    · rw [if_pos b, decide_eq_false (by omega)]
    · rw [if_neg b, decide_eq_true (by omega)]
theorem oi_sO (h : iv n Z m) (c1 : dz_c a1 = a1) : jf_O_isSpout a1 Z = some (decide (0 ≤ a1 ∧ a1 < Z (iv_p Z) 6 0)) := by
  have hr := h.2.1.2.2.2.2.1
  unfold jf_O_isSpout
  rw [show (Z 0 2 0).toNat = iv_p Z from rfl, c1, dc_ir hr.1 (by omega)]
  by_cases a : a1 < 0
  · rw [if_pos a, decide_eq_false (by omega)]
  · rw [if_neg a, if_pos (iv_isP h.1)]
    by_cases b : Z (iv_p Z) 6 0 ≤ a1
    · rw [if_pos b, decide_eq_false (by omega)]
    · rw [if_neg b, decide_eq_true (by omega)]
theorem oi_wO (h : iv n Z m) (c1 : dz_c a1 = a1) : jf_O_isShower a1 Z = some (decide (0 ≤ a1 ∧ a1 < Z (iv_p Z) 10 0)) := by
  have hr := h.2.1.2.2.2.2.2.2.1
  unfold jf_O_isShower
  rw [show (Z 0 2 0).toNat = iv_p Z from rfl, c1, dc_ir hr.1 (by omega)]
  by_cases a : a1 < 0
  · rw [if_pos a, decide_eq_false (by omega)]
  · rw [if_neg a, if_pos (iv_isP h.1)]
    by_cases b : Z (iv_p Z) 10 0 ≤ a1
    · rw [if_pos b, decide_eq_false (by omega)]
    · rw [if_neg b, decide_eq_true (by omega)]
theorem oi_gM {P : ob_O} (hP : so_P P) (rP : mr_P P m) (hY : Y 114 = m) (c1 : dz_c a1 = a1) : jf_M_isGutter a1 Y = some (decide (0 ≤ a1 ∧ a1 < P 3 0)) := by
  have hr := hP.2.2.1
  unfold jf_M_isGutter
  rw [hY, rP.2.2.1, c1, oi_e _ _ (by omega) c1]
theorem oi_sM {P : ob_O} (hP : so_P P) (rP : mr_P P m) (hY : Y 114 = m) (c1 : dz_c a1 = a1) : jf_M_isSpout a1 Y = some (decide (0 ≤ a1 ∧ a1 < P 6 0)) := by
  have hr := hP.2.2.2.2.1
  unfold jf_M_isSpout
  rw [hY, rP.2.2.2.2.1, c1, oi_e _ _ (by omega) c1]
theorem oi_wM {P : ob_O} (hP : so_P P) (rP : mr_P P m) (hY : Y 114 = m) (c1 : dz_c a1 = a1) : jf_M_isShower a1 Y = some (decide (0 ≤ a1 ∧ a1 < P 10 0)) := by
  have hr := hP.2.2.2.2.2.2.1
  unfold jf_M_isShower
  rw [hY, rP.2.2.2.2.2.2.1, c1, oi_e _ _ (by omega) c1]
theorem op_fault : dz_p (jf_O_fault Z) (fun _ => dz_p (jf_M_fault Z) (fun _ => True)) := ⟨_, rfl, _, rfl, trivial⟩
theorem op_torn (h : iv_Z n Z) : dz_p (jf_O_torn Z) (fun q => dz_p (jf_M_torn Z) (fun q' => dz_c q = dz_c q')) := ⟨_, rfl, _, rfl, by rw [show Z 0 10 0 = Z 114 45 0 from h.2.2.2.2.2.2.2.1]⟩
theorem op_rule (h : iv_Z n Z) (c1 : dz_c a1 = a1) : dz_p (jf_O_rule a1 Z) (fun q => dz_p (jf_M_rule a1 Z) (fun q' => dz_c q = dz_c q')) := by
  have rP := h.2.2.1
  have rS := h.2.2.2.1.2.1.2.2.2.1
  rw [Int.zero_add] at rS
  have hp := iv_isP h.1
  have hs := iv_isS h.1
  unfold jf_O_rule jf_M_rule
  simp only [show (Z 0 2 0).toNat = iv_p Z from rfl, show (Z 0 3 0).toNat = iv_s Z from rfl, c1]
  refine dp_br (fun a => dp_ck hp (dp_sm (dp_ck a (dp_sm ?_)))) (fun a => ?_)
  · rw [rP.1]
  refine dp_br (fun b => dp_ck hp (dp_sm (dp_no a (dp_ck b (dp_sm ?_))))) (fun b => ?_)
  · rw [rP.2.2.1]
  refine dp_br (fun c => dp_ck hp (dp_sm (dp_no a (dp_no b (dp_ck c (dp_sm ?_)))))) (fun c => ?_)
  · rw [rP.2.2.2.2.1]
  refine dp_br (fun d => dp_ck hp (dp_sm (dp_no a (dp_no b (dp_no c (dp_ck d (dp_sm ?_))))))) (fun d => ?_)
  · rw [rP.2.2.2.2.2.2.1]
  refine dp_br (fun e => dp_ck hs (dp_sm (dp_no a (dp_no b (dp_no c (dp_no d (dp_ck e (dp_sm ?_)))))))) (fun e => ?_)
  · rw [rS]
  refine dp_br (fun f => dp_ck hp (dp_sm (dp_no a (dp_no b (dp_no c (dp_no d (dp_no e (dp_ck f (dp_sm ?_))))))))) (fun f => ?_)
  · rw [rP.2.2.2.2.2.2.2.1]
  refine dp_br (fun g => dp_ck hp (dp_sm (dp_no a (dp_no b (dp_no c (dp_no d (dp_no e (dp_no f (dp_ck g (dp_sm ?_)))))))))) (fun g => ?_)
  · rw [rP.2.2.2.2.2.2.2.2.2]
  exact dp_sm (dp_no a (dp_no b (dp_no c (dp_no d (dp_no e (dp_no f (dp_no g (dp_sm rfl))))))))
theorem op_gutter (h : iv_Z n Z) (c1 : dz_c a1 = a1) (c2 : dz_c a2 = a2) : dz_p (jf_O_gutter a1 a2 Z) (fun q => dz_p (jf_M_gutter a1 a2 Z) (fun q' => dz_c q = dz_c q')) := by
  have hp := iv_isP h.1
  have hs := iv_isS h.1
  have h3 := h.2.1.2.2.1
  have rP := h.2.2.1
  have rW := h.2.2.2.1.2.1.1
  unfold jf_O_gutter jf_M_gutter
  refine dp_bi (dp_eq (oi_gO h c1) ?_)
  simp only [oi_gM h.2.1 rP rfl c1, Option.bind_some, show (Z 0 2 0).toNat = iv_p Z from rfl, show (Z 0 3 0).toNat = iv_s Z from rfl, c1, c2, decide_eq_true_eq]
  refine dp_br (fun hg => ?_) (fun hg => dp_sm (dp_no hg (dp_sm rfl)))
  have e5 : dz_c (5 + a1) = 5 + a1 := dc_ir (by omega) (by omega)
  have e0 : dz_c (0 + a1) = a1 := by rw [Int.zero_add]; exact c1
  have hgg := rP.2.2.2.1 a1 hg.1 hg.2
  have hw0 := rW.1 a1 hg.1 hg.2
  have hw1 := rW.2.1 a1 hg.1 (by omega)
  rw [Int.zero_add] at hw0 hw1
  rw [e5, e0]
  refine dp_br (fun a => dp_ck hp (dp_ck (by omega) (dp_sm (dp_ck hg (dp_no (by omega) ?_))))) (fun a => ?_)
  · rw [a, show 2 * a1 + 0 = 2 * a1 by omega, dc_ir (x := 2 * a1) (by omega) (by omega)]
    exact dp_ck (by omega) (dp_sm (by rw [hgg.1]))
  refine dp_br (fun b => dp_ck hp (dp_ck (by omega) (dp_sm (dp_ck hg (dp_no (by omega) ?_))))) (fun b => ?_)
  · rw [b, dc_ir (x := 2 * a1 + 1) (by omega) (by omega)]
    exact dp_ck (by omega) (dp_sm (by rw [hgg.2]))
  refine dp_br (fun c => dp_ck hs (dp_ck (by omega) (dp_sm (dp_ck hg (dp_ck (by omega) (dp_no (by omega) (dp_ck (by omega) (dp_sm (by rw [hw0])))))))))  (fun c => ?_)
  refine dp_br (fun d => dp_ck hs (dp_ck (by omega) (dp_sm (dp_ck hg (dp_ck (by omega) (dp_ck c (dp_no (by omega) (dp_ck (by omega) (dp_sm (by rw [hw1]))))))))))  (fun d => ?_)
  exact dp_sm (dp_ck hg (dp_ck (by omega) (dp_ck c (dp_ck d (dp_sm rfl)))))
theorem op_spout (h : iv_Z n Z) (hn : n ≤ 512) (c1 : dz_c a1 = a1) (c2 : dz_c a2 = a2) : dz_p (jf_O_spout a1 a2 Z) (fun q => dz_p (jf_M_spout a1 a2 Z) (fun q' => dz_c q = dz_c q')) := by
  have hp := iv_isP h.1
  have hs := iv_isS h.1
  have h6 := h.2.1.2.2.2.2.1
  have hwr := h.2.1.2.2.2.2.2.2.2.2.2
  have rP := h.2.2.1
  obtain ⟨hS, rS, hB, rF⟩ := h.2.2.2.1
  unfold jf_O_spout jf_M_spout
  refine dp_bi (dp_eq (oi_sO h c1) ?_)
  simp only [oi_sM h.2.1 rP rfl c1, Option.bind_some, show (Z 0 2 0).toNat = iv_p Z from rfl, show (Z 0 3 0).toNat = iv_s Z from rfl, c1, c2, decide_eq_true_eq]
  refine dp_br (fun hg => ?_) (fun hg => dp_sm (dp_no hg (dp_sm rfl)))
  have hk := hS.2.2.1 a1 hg.1 hg.2
  have rk := rS.1.2.2 a1 hg.1 hg.2
  have rn := rS.2.1 a1 hg.1 hg.2
  have rf := rF.1 a1 hg.1 (by omega)
  have hb := hB.1 a1 hg.1 (by omega)
  simp only [Int.zero_add] at rk rn rf
  have e10 : dz_c (10 + a1) = 10 + a1 := dc_ir (by omega) (by omega)
  have e18 : dz_c (18 + a1) = 18 + a1 := dc_ir (by omega) (by omega)
  have e26 : dz_c (26 + a1) = 26 + a1 := dc_ir (by omega) (by omega)
  have e86 : dz_c (86 + a1) = 86 + a1 := dc_ir (by omega) (by omega)
  have e102 : dz_c (102 + a1) = 102 + a1 := dc_ir (by omega) (by omega)
  have e118 : dz_c (118 + a1) = 118 + a1 := dc_ir (by omega) (by omega)
  have e110 : dz_c (110 + a1) = 110 + a1 := dc_ir (by omega) (by omega)
  have ek : dz_c (Z (iv_s Z) 2 a1) = Z (iv_s Z) 2 a1 := dc_ir hk.1.1 (by omega)
  rw [e10, e18, e26, e86, e102, e118, e110]
  refine dp_ck hs (dp_ck (by omega) ?_)
  refine dp_br (fun a => dp_ck hp (dp_sm (dp_ck hg (dp_ck a (dp_ck (by omega) (dp_sm ?_)))))) (fun a => ?_)
  · rw [rP.2.2.2.2.2.1 a1 hg.1 hg.2]
  refine dp_br (fun b => dp_sm (dp_ck hg (dp_no a (dp_ck b (dp_ck (by omega) (dp_sm ?_)))))) (fun b => ?_)
  · rw [rk.1]
  refine dp_br (fun c => ?_) (fun c => ?_)
  · have hz : jf_O_hasSize (Z (iv_s Z) 2 a1) = some (decide (Z (iv_s Z) 2 a1 ≠ 0 ∧ Z (iv_s Z) 2 a1 ≠ 5)) := by
      unfold jf_O_hasSize
      rw [ek]
      by_cases x0 : Z (iv_s Z) 2 a1 = 0
      · rw [if_pos x0, decide_eq_false (by omega)]
      · rw [if_neg x0]
        by_cases x5 : Z (iv_s Z) 2 a1 = 5
        · rw [if_pos x5, decide_eq_false (by omega)]
        · rw [if_neg x5, decide_eq_true (by omega)]
    refine dp_bi (dp_eq hz ?_)
    simp only [decide_eq_false_iff_not]
    refine dp_br (fun x => dp_sm (dp_ck hg (dp_no a (dp_no b (dp_ck c (dp_ck (by omega) (dp_sm ?_))))))) (fun x => dp_ck hp (dp_sm (dp_ck hg (dp_no a (dp_no b (dp_ck c (dp_ck (by omega) (dp_sm ?_))))))))
    · rw [rn.1 (by omega)]
    · rw [rk.2.1 (by omega)]
  refine dp_br (fun d => ?_) (fun d => ?_)
  · rw [ek]
    refine dp_br (fun x => dp_sm (dp_ck hg (dp_no a (dp_no b (dp_no c (dp_ck d (dp_ck (by omega) (dp_sm ?_)))))))) (fun x => dp_ck hp (dp_sm (dp_ck hg (dp_no a (dp_no b (dp_no c (dp_ck d (dp_ck (by omega) (dp_sm ?_)))))))))
    · rw [rn.2 x]
    · rw [rk.2.2 (by omega)]
  refine dp_br (fun e => dp_sm (dp_ck hg (dp_no a (dp_no b (dp_no c (dp_no d (dp_ck e (dp_ck (by omega) (dp_sm ?_))))))))) (fun e => ?_)
  · rw [rf.1]
  refine dp_br (fun f => dp_sm (dp_ck hg (dp_no a (dp_no b (dp_no c (dp_no d (dp_no e (dp_ck f (dp_ck (by omega) (dp_sm ?_)))))))))) (fun f => ?_)
  · rw [rf.2.2.1]
    have hl := dz_li' (x := Z 46 2 a1) (by omega) (by omega)
    unfold dz_li dz_c
    rw [Int32.ofInt_toInt]
    congr 1
    apply Int32.toInt_inj.mp
    rw [Int64.toInt_toInt32, Int32.toInt_ofInt]
    show (dz_l (Z 46 2 a1)).bmod _ = _
    rw [hl]
  refine dp_br (fun g => dp_ck hp ?_) (fun g => ?_)
  · have hbk : jf_F_isBroken 46 (iv_p Z) a1 Z = some (so_brk (Z (iv_p Z)) (Z 46) a1) := by
      have := cf_brk (F := 46) (p := iv_p Z) (Z := Z) (o := Z 46) (s := a1) (ne_FP (Or.inl rfl) hp) (by omega) hwr
      rw [oz_i] at this
      exact this
    refine dp_bi (dp_eq hbk ?_)
    have hf := rf.2.2.2.2.2.1
    unfold so_brk
    rw [dz_li' (by omega) (by omega)]
    simp only [decide_eq_false_iff_not]
    refine dp_br (fun x => dp_sm (dp_ck hg (dp_no a (dp_no b (dp_no c (dp_no d (dp_no e (dp_no f (dp_ck g (dp_ck (by omega) (dp_sm ?_))))))))))) (fun x => dp_sm (dp_ck hg (dp_no a (dp_no b (dp_no c (dp_no d (dp_no e (dp_no f (dp_ck g (dp_ck (by omega) (dp_sm ?_)))))))))))
    · rw [hf, if_neg (fun q => x q.2)]
    · rw [hf, if_pos ⟨hg.2, by omega⟩]
  refine dp_br (fun i => dp_sm (dp_ck hg (dp_no a (dp_no b (dp_no c (dp_no d (dp_no e (dp_no f (dp_no g (dp_ck i (dp_ck (by omega) (dp_sm ?_)))))))))))) (fun i => ?_)
  · rw [rf.2.2.2.1]
  exact dp_sm (dp_ck hg (dp_no a (dp_no b (dp_no c (dp_no d (dp_no e (dp_no f (dp_no g (dp_no i (dp_sm rfl))))))))))
theorem op_loud (h : iv_Z n Z) (c1 : dz_c a1 = a1) : dz_p (jf_O_loud a1 Z) (fun q => dz_p (jf_M_loud a1 Z) (fun q' => dz_c q = dz_c q')) := by
  have h6 := h.2.1.2.2.2.2.1
  have rP := h.2.2.1
  have rF := h.2.2.2.1.2.2.2
  unfold jf_O_loud jf_M_loud
  refine dp_bi (dp_eq (oi_sO h c1) ?_)
  simp only [oi_sM h.2.1 rP rfl c1, Option.bind_some, c1, decide_eq_false_iff_not]
  refine dp_br (fun hg => dp_sm (dp_ck hg (dp_sm rfl))) (fun hg => ?_)
  have hg' : 0 ≤ a1 ∧ a1 < Z (iv_p Z) 6 0 := by omega
  have rf := rF.1 a1 hg'.1 (by omega)
  simp only [Int.zero_add] at rf
  rw [dc_ir (x := 126 + a1) (by omega) (by omega)]
  exact dp_ck (by omega) (dp_sm (dp_no hg (dp_ck (by omega) (dp_sm (by rw [rf.2.2.2.2.1])))))
theorem op_shower (h : iv_Z n Z) (c1 : dz_c a1 = a1) (c2 : dz_c a2 = a2) : dz_p (jf_O_shower a1 a2 Z) (fun q => dz_p (jf_M_shower a1 a2 Z) (fun q' => dz_c q = dz_c q')) := by
  have hs := iv_isS h.1
  have h10 := h.2.1.2.2.2.2.2.2.1
  have rP := h.2.2.1
  obtain ⟨hS, rS, -⟩ := h.2.2.2.1
  unfold jf_O_shower jf_M_shower
  refine dp_bi (dp_eq (oi_wO h c1) ?_)
  simp only [oi_wM h.2.1 rP rfl c1, Option.bind_some, show (Z 0 3 0).toNat = iv_s Z from rfl, c1, c2, decide_eq_false_iff_not, decide_eq_true_eq]
  refine dp_br (fun hg => dp_sm (dp_no hg (dp_sm rfl))) (fun hg => ?_)
  have hg' : 0 ≤ a1 ∧ a1 < Z (iv_p Z) 10 0 := by omega
  have hl := hS.2.2.2.1 a1 hg'.1 hg'.2
  have rl := rS.2.2.1 a1 hg'.1 hg'.2
  simp only [Int.zero_add] at rl
  have e34 : dz_c (34 + 13 * a1) = 34 + 13 * a1 := dc_ir (by omega) (by omega)
  have elen : jf_M_lengthOf a1 Z = some (Z (iv_s Z) 3 a1) := by
    unfold jf_M_lengthOf
    rw [e34, if_pos (by omega), rl.1]
  have e1 : dz_c (Z (iv_s Z) 3 a1) = Z (iv_s Z) 3 a1 := dc_ir (by omega) (by omega)
  have e2 : dz_c (Z (iv_s Z) 3 a1 - 1) = Z (iv_s Z) 3 a1 - 1 := dz_ci (by omega) (by omega)
  simp only [elen, Option.bind_some, e1, e2]
  refine dp_br (fun a => dp_sm (dp_ck hg' (dp_ck (by omega) (dp_ck (by omega) (dp_sm rfl))))) (fun a => dp_ck hs (dp_ck (by omega) ?_))
  refine dp_br (fun b => ?_) (fun b => dp_sm (dp_ck hg' (dp_ck (by omega) (dp_ck (by omega) (dp_sm rfl)))))
  refine dp_br (fun c => ?_) (fun c => dp_sm (dp_ck hg' (dp_no c (dp_sm rfl))))
  refine dp_ck (by omega) (dp_sm (dp_ck hg' (dp_ck c (dp_no (by omega) ?_))))
  rw [dc_ir (x := 34 + 13 * a1 + 1 + a2) (by omega) (by omega)]
  exact dp_ck (by omega) (dp_sm (by rw [rl.2 a2 (by omega) b]))
theorem op_tune (h : iv_Z n Z) (c1 : dz_c a1 = a1) : dz_p (jf_O_tune a1 Z) (fun q => dz_p (jf_M_tune a1 Z) (fun q' => dz_c q = dz_c q')) := by
  have hs := iv_isS h.1
  obtain ⟨hS, rS, -⟩ := h.2.2.2.1
  have h6 := hS.2.2.2.2.1
  have r73 := rS.2.2.2.1
  rw [Int.zero_add] at r73
  unfold jf_O_tune jf_M_tune
  have e1 : dz_c (Z (iv_s Z) 6 0) = Z (iv_s Z) 6 0 := dc_ir h6.1 (by omega)
  have e2 : dz_c (Z (iv_s Z) 6 0 - 1) = Z (iv_s Z) 6 0 - 1 := dz_ci (by omega) (by omega)
  simp only [show (Z 0 3 0).toNat = iv_s Z from rfl, c1, r73, e1, e2]
  refine dp_br (fun a => dp_sm (dp_ck (by omega) (dp_sm rfl))) (fun a => dp_ck hs ?_)
  refine dp_br (fun b => dp_sm (dp_ck (by omega) (dp_sm rfl))) (fun b => ?_)
  refine dp_ck (by omega) (dp_sm (dp_no (by omega) ?_))
  rw [dc_ir (x := 74 + a1) (by omega) (by omega)]
  have := rS.2.2.2.2 a1 (by omega) (by omega)
  rw [Int.zero_add] at this
  exact dp_ck (by omega) (dp_sm (by rw [this]))
end oa
