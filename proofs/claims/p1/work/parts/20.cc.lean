theorem mc_t_lt {x y : Int32} (h : mm_cc .lt x y = true) : x.toInt < y.toInt := Int32.lt_iff_toInt_lt.mp (of_decide_eq_true h)
theorem mc_f_lt {x y : Int32} (h : mm_cc .lt x y = false) : x.toInt ≥ y.toInt := Int32.le_iff_toInt_le.mp (Int32.not_lt.mp (of_decide_eq_false h))
theorem mc_t_ge {x y : Int32} (h : mm_cc .ge x y = true) : x.toInt ≥ y.toInt := Int32.le_iff_toInt_le.mp (of_decide_eq_true h)
theorem mc_f_ge {x y : Int32} (h : mm_cc .ge x y = false) : x.toInt < y.toInt := Int32.lt_iff_toInt_lt.mp (Int32.not_le.mp (of_decide_eq_false h))
theorem mc_t_gt {x y : Int32} (h : mm_cc .gt x y = true) : x.toInt > y.toInt := Int32.lt_iff_toInt_lt.mp (of_decide_eq_true h)
theorem mc_f_gt {x y : Int32} (h : mm_cc .gt x y = false) : x.toInt ≤ y.toInt := Int32.le_iff_toInt_le.mp (Int32.not_lt.mp (of_decide_eq_false h))
theorem mc_t_le {x y : Int32} (h : mm_cc .le x y = true) : x.toInt ≤ y.toInt := Int32.le_iff_toInt_le.mp (of_decide_eq_true h)
theorem mc_f_le {x y : Int32} (h : mm_cc .le x y = false) : x.toInt > y.toInt := Int32.lt_iff_toInt_lt.mp (Int32.not_le.mp (of_decide_eq_false h))
theorem mc_t_eq {x y : Int32} (h : mm_cc .eq x y = true) : x.toInt = y.toInt := by rw [of_decide_eq_true h]
theorem mc_f_eq {x y : Int32} (h : mm_cc .eq x y = false) : x.toInt ≠ y.toInt := fun e => of_decide_eq_false h (Int32.toInt_inj.mp e)
theorem mc_t_ne {x y : Int32} (h : mm_cc .ne x y = true) : x.toInt ≠ y.toInt := mc_f_eq (by simpa [mm_cc] using h)
theorem mc_f_ne {x y : Int32} (h : mm_cc .ne x y = false) : x.toInt = y.toInt := mc_t_eq (by simpa [mm_cc] using h)
theorem lc_v (x y : Int64) : (lg_cmp x y).toInt = if y.toInt < x.toInt then 1 else if x.toInt = y.toInt then 0 else -1 := by
  unfold lg_cmp
  simp only [gt_iff_lt, Int64.lt_iff_toInt_lt, ← Int64.toInt_inj]
  split
  · rfl
  · split <;> rfl
theorem lc_t_lt {x : Int32} {y : Int64} (h : mm_cc .lt (lg_cmp x.toInt64 y) 0 = true) : x.toInt < y.toInt := by
  have h1 := mc_t_lt h
  rw [lc_v, Int32.toInt_toInt64] at h1
  simp only [Int32.toInt_zero] at h1
  split at h1
  · omega
  · split at h1 <;> omega
theorem lc_f_lt {x : Int32} {y : Int64} (h : mm_cc .lt (lg_cmp x.toInt64 y) 0 = false) : x.toInt ≥ y.toInt := by
  have h1 := mc_f_lt h
  rw [lc_v, Int32.toInt_toInt64] at h1
  simp only [Int32.toInt_zero] at h1
  split at h1
  · omega
  · split at h1 <;> omega
theorem lc_t_gt {x : Int32} {y : Int64} (h : mm_cc .gt (lg_cmp x.toInt64 y) 0 = true) : x.toInt > y.toInt := by
  have h1 := mc_t_gt h
  rw [lc_v, Int32.toInt_toInt64] at h1
  simp only [Int32.toInt_zero] at h1
  split at h1
  · omega
  · split at h1 <;> omega
theorem lc_f_gt {x : Int32} {y : Int64} (h : mm_cc .gt (lg_cmp x.toInt64 y) 0 = false) : x.toInt ≤ y.toInt := by
  have h1 := mc_f_gt h
  rw [lc_v, Int32.toInt_toInt64] at h1
  simp only [Int32.toInt_zero] at h1
  split at h1
  · omega
  · split at h1 <;> omega

def pk_ok (h : mm_H) : Prop := h.length = 137 ∧ mm_sz h = 2856
set_option maxRecDepth 20000 in
theorem pk_ok0 : pk_ok hp_0 := ⟨by decide +kernel, by decide +kernel⟩
theorem pk_okS {h : mm_H} {a : Nat} {e e' : mm_E} (k : pk_ok h) (ha : h[a]? = some e) (hc : mm_cs e' = mm_cs e) : pk_ok (h.set a e') := ⟨by rw [List.length_set]; exact k.1, by rw [mm_sz_set ha hc]; exact k.2⟩
set_option maxRecDepth 20000 in
theorem hb_0 : hp_0[0]? = some (.inr (9, [.ref 1, .ref 2, .ref 25, .ref 36, .ref 46, .ref 54, .ref 65, .ref 66, .ref 67, .int 0, .int 0])) := rfl
set_option maxRecDepth 20000 in
theorem hb_1 : hp_0[1]? = some (.inr (5, [.ref 2, .ref 4, .ref 15, .int 0, .int 0, .int 0, .int 0, .int 0, .int 0, .int 0])) := rfl
set_option maxRecDepth 20000 in
theorem hb_2 : hp_0[2]? = some (.inr (8, [.ref 3, .int 0])) := rfl
set_option maxRecDepth 20000 in
theorem hb_3 : hp_0[3]? = some (.inl (2, .inl (List.replicate 320 0))) := rfl
set_option maxRecDepth 20000 in
theorem hb_4 : hp_0[4]? = some (.inr (4, [.int 0, .ref 5, .ref 6, .int 0, .ref 7, .ref 8, .int 0, .ref 9, .ref 10, .ref 11, .int 0, .int 0, .ref 12, .ref 13, .ref 14, .int 0])) := rfl
set_option maxRecDepth 20000 in
theorem hb_5 : hp_0[5]? = some (.inl (0, .inl [0, 0, 0, 0])) := rfl
set_option maxRecDepth 20000 in
theorem hb_6 : hp_0[6]? = some (.inl (0, .inl [0, 0, 0, 0])) := rfl
set_option maxRecDepth 20000 in
theorem hb_7 : hp_0[7]? = some (.inl (0, .inl [0, 0, 0, 0, 0])) := rfl
set_option maxRecDepth 20000 in
theorem hb_8 : hp_0[8]? = some (.inl (0, .inl [0, 0, 0, 0, 0])) := rfl
set_option maxRecDepth 20000 in
theorem hb_9 : hp_0[9]? = some (.inl (0, .inl [0, 0, 0, 0, 0, 0, 0, 0])) := rfl
set_option maxRecDepth 20000 in
theorem hb_10 : hp_0[10]? = some (.inl (0, .inl [0, 0, 0, 0, 0, 0, 0, 0])) := rfl
set_option maxRecDepth 20000 in
theorem hb_11 : hp_0[11]? = some (.inl (0, .inl [0, 0, 0, 0, 0, 0, 0, 0])) := rfl
set_option maxRecDepth 20000 in
theorem hb_12 : hp_0[12]? = some (.inl (0, .inl [0, 0, 0, 0])) := rfl
set_option maxRecDepth 20000 in
theorem hb_13 : hp_0[13]? = some (.inl (0, .inl [0, 0, 0, 0])) := rfl
set_option maxRecDepth 20000 in
theorem hb_14 : hp_0[14]? = some (.inl (0, .inl [0, 0, 0, 0])) := rfl
set_option maxRecDepth 20000 in
theorem hb_15 : hp_0[15]? = some (.inr (6, [.ref 16, .ref 17, .ref 18, .ref 19, .ref 20, .ref 24, .int 0])) := rfl
set_option maxRecDepth 20000 in
theorem hb_16 : hp_0[16]? = some (.inl (0, .inl [0, 0, 0, 0, 0])) := rfl
set_option maxRecDepth 20000 in
theorem hb_17 : hp_0[17]? = some (.inl (0, .inl [0, 0, 0, 0, 0])) := rfl
set_option maxRecDepth 20000 in
theorem hb_18 : hp_0[18]? = some (.inl (0, .inl [0, 0, 0, 0, 0, 0, 0, 0])) := rfl
set_option maxRecDepth 20000 in
theorem hb_19 : hp_0[19]? = some (.inl (0, .inl [0, 0, 0])) := rfl
set_option maxRecDepth 20000 in
theorem hb_20 : hp_0[20]? = some (.inl (4, .inr (.inr [(some 21), (some 22), (some 23)]))) := rfl
set_option maxRecDepth 20000 in
theorem hb_21 : hp_0[21]? = some (.inl (0, .inl (List.replicate 12 0))) := rfl
set_option maxRecDepth 20000 in
theorem hb_22 : hp_0[22]? = some (.inl (0, .inl (List.replicate 12 0))) := rfl
set_option maxRecDepth 20000 in
theorem hb_23 : hp_0[23]? = some (.inl (0, .inl (List.replicate 12 0))) := rfl
set_option maxRecDepth 20000 in
theorem hb_24 : hp_0[24]? = some (.inl (0, .inl (List.replicate 12 0))) := rfl
set_option maxRecDepth 20000 in
theorem hb_25 : hp_0[25]? = some (.inr (4, [.int 0, .ref 26, .ref 27, .int 0, .ref 28, .ref 29, .int 0, .ref 30, .ref 31, .ref 32, .int 0, .int 0, .ref 33, .ref 34, .ref 35, .int 0])) := rfl
set_option maxRecDepth 20000 in
theorem hb_26 : hp_0[26]? = some (.inl (0, .inl [0, 0, 0, 0])) := rfl
set_option maxRecDepth 20000 in
theorem hb_27 : hp_0[27]? = some (.inl (0, .inl [0, 0, 0, 0])) := rfl
set_option maxRecDepth 20000 in
theorem hb_28 : hp_0[28]? = some (.inl (0, .inl [0, 0, 0, 0, 0])) := rfl
set_option maxRecDepth 20000 in
theorem hb_29 : hp_0[29]? = some (.inl (0, .inl [0, 0, 0, 0, 0])) := rfl
set_option maxRecDepth 20000 in
theorem hb_30 : hp_0[30]? = some (.inl (0, .inl [0, 0, 0, 0, 0, 0, 0, 0])) := rfl
set_option maxRecDepth 20000 in
theorem hb_31 : hp_0[31]? = some (.inl (0, .inl [0, 0, 0, 0, 0, 0, 0, 0])) := rfl
set_option maxRecDepth 20000 in
theorem hb_32 : hp_0[32]? = some (.inl (0, .inl [0, 0, 0, 0, 0, 0, 0, 0])) := rfl
set_option maxRecDepth 20000 in
theorem hb_33 : hp_0[33]? = some (.inl (0, .inl [0, 0, 0, 0])) := rfl
set_option maxRecDepth 20000 in
theorem hb_34 : hp_0[34]? = some (.inl (0, .inl [0, 0, 0, 0])) := rfl
set_option maxRecDepth 20000 in
theorem hb_35 : hp_0[35]? = some (.inl (0, .inl [0, 0, 0, 0])) := rfl
set_option maxRecDepth 20000 in
theorem hb_36 : hp_0[36]? = some (.inr (6, [.ref 37, .ref 38, .ref 39, .ref 40, .ref 41, .ref 45, .int 0])) := rfl
set_option maxRecDepth 20000 in
theorem hb_37 : hp_0[37]? = some (.inl (0, .inl [0, 0, 0, 0, 0])) := rfl
set_option maxRecDepth 20000 in
theorem hb_38 : hp_0[38]? = some (.inl (0, .inl [0, 0, 0, 0, 0])) := rfl
set_option maxRecDepth 20000 in
theorem hb_39 : hp_0[39]? = some (.inl (0, .inl [0, 0, 0, 0, 0, 0, 0, 0])) := rfl
set_option maxRecDepth 20000 in
theorem hb_40 : hp_0[40]? = some (.inl (0, .inl [0, 0, 0])) := rfl
set_option maxRecDepth 20000 in
theorem hb_41 : hp_0[41]? = some (.inl (4, .inr (.inr [(some 42), (some 43), (some 44)]))) := rfl
set_option maxRecDepth 20000 in
theorem hb_42 : hp_0[42]? = some (.inl (0, .inl (List.replicate 12 0))) := rfl
set_option maxRecDepth 20000 in
theorem hb_43 : hp_0[43]? = some (.inl (0, .inl (List.replicate 12 0))) := rfl
set_option maxRecDepth 20000 in
theorem hb_44 : hp_0[44]? = some (.inl (0, .inl (List.replicate 12 0))) := rfl
set_option maxRecDepth 20000 in
theorem hb_45 : hp_0[45]? = some (.inl (0, .inl (List.replicate 12 0))) := rfl
set_option maxRecDepth 20000 in
theorem hb_46 : hp_0[46]? = some (.inr (2, [.ref 47, .ref 48, .ref 49, .ref 50, .ref 51, .int 0, .int 0, .int 0, .int 0, .int 0, .ref 52, .ref 53])) := rfl
set_option maxRecDepth 20000 in
theorem hb_47 : hp_0[47]? = some (.inl (0, .inl [0, 0, 0, 0, 0, 0, 0, 0])) := rfl
set_option maxRecDepth 20000 in
theorem hb_48 : hp_0[48]? = some (.inl (0, .inl [0, 0, 0, 0, 0, 0, 0, 0])) := rfl
set_option maxRecDepth 20000 in
theorem hb_49 : hp_0[49]? = some (.inl (1, .inr (.inl [0, 0, 0, 0, 0, 0, 0, 0]))) := rfl
set_option maxRecDepth 20000 in
theorem hb_50 : hp_0[50]? = some (.inl (0, .inl [0, 0, 0, 0, 0, 0, 0, 0])) := rfl
set_option maxRecDepth 20000 in
theorem hb_51 : hp_0[51]? = some (.inl (0, .inl [0, 0, 0, 0, 0, 0, 0, 0])) := rfl
set_option maxRecDepth 20000 in
theorem hb_52 : hp_0[52]? = some (.inl (0, .inl [0, 0, 0, 0, 0])) := rfl
set_option maxRecDepth 20000 in
theorem hb_53 : hp_0[53]? = some (.inl (0, .inl [0, 0, 0, 0, 0, 0, 0, 0])) := rfl
set_option maxRecDepth 20000 in
theorem hb_54 : hp_0[54]? = some (.inr (1, [.ref 55, .ref 63, .ref 64, .int 0])) := rfl
set_option maxRecDepth 20000 in
theorem hb_55 : hp_0[55]? = some (.inr (2, [.ref 56, .ref 57, .ref 58, .ref 59, .ref 60, .int 0, .int 0, .int 0, .int 0, .int 0, .ref 61, .ref 62])) := rfl
set_option maxRecDepth 20000 in
theorem hb_56 : hp_0[56]? = some (.inl (0, .inl [0, 0, 0, 0, 0, 0, 0, 0])) := rfl
set_option maxRecDepth 20000 in
theorem hb_57 : hp_0[57]? = some (.inl (0, .inl [0, 0, 0, 0, 0, 0, 0, 0])) := rfl
set_option maxRecDepth 20000 in
theorem hb_58 : hp_0[58]? = some (.inl (1, .inr (.inl [0, 0, 0, 0, 0, 0, 0, 0]))) := rfl
set_option maxRecDepth 20000 in
theorem hb_59 : hp_0[59]? = some (.inl (0, .inl [0, 0, 0, 0, 0, 0, 0, 0])) := rfl
set_option maxRecDepth 20000 in
theorem hb_60 : hp_0[60]? = some (.inl (0, .inl [0, 0, 0, 0, 0, 0, 0, 0])) := rfl
set_option maxRecDepth 20000 in
theorem hb_61 : hp_0[61]? = some (.inl (0, .inl [0, 0, 0, 0, 0])) := rfl
set_option maxRecDepth 20000 in
theorem hb_62 : hp_0[62]? = some (.inl (0, .inl [0, 0, 0, 0, 0, 0, 0, 0])) := rfl
set_option maxRecDepth 20000 in
theorem hb_63 : hp_0[63]? = some (.inl (0, .inl (List.replicate 12 0))) := rfl
set_option maxRecDepth 20000 in
theorem hb_64 : hp_0[64]? = some (.inl (0, .inl (List.replicate 12 0))) := rfl
set_option maxRecDepth 20000 in
theorem hb_65 : hp_0[65]? = some (.inr (0, [.int 0, .int 0, .int 0, .int 0, .int 0, .int 0, .int 0, .int 0])) := rfl
set_option maxRecDepth 20000 in
theorem hb_66 : hp_0[66]? = some (.inl (5, .inr (.inr [(some 68), (some 87)]))) := rfl
set_option maxRecDepth 20000 in
theorem hb_67 : hp_0[67]? = some (.inl (6, .inr (.inr [(some 106), (some 108), (some 110), (some 112)]))) := rfl
set_option maxRecDepth 20000 in
theorem hb_68 : hp_0[68]? = some (.inr (3, [.ref 69, .ref 79, .int 0])) := rfl
set_option maxRecDepth 20000 in
theorem hb_69 : hp_0[69]? = some (.inr (6, [.ref 70, .ref 71, .ref 72, .ref 73, .ref 74, .ref 78, .int 0])) := rfl
set_option maxRecDepth 20000 in
theorem hb_70 : hp_0[70]? = some (.inl (0, .inl [0, 0, 0, 0, 0])) := rfl
set_option maxRecDepth 20000 in
theorem hb_71 : hp_0[71]? = some (.inl (0, .inl [0, 0, 0, 0, 0])) := rfl
set_option maxRecDepth 20000 in
theorem hb_72 : hp_0[72]? = some (.inl (0, .inl [0, 0, 0, 0, 0, 0, 0, 0])) := rfl
set_option maxRecDepth 20000 in
theorem hb_73 : hp_0[73]? = some (.inl (0, .inl [0, 0, 0])) := rfl
set_option maxRecDepth 20000 in
theorem hb_74 : hp_0[74]? = some (.inl (4, .inr (.inr [(some 75), (some 76), (some 77)]))) := rfl
set_option maxRecDepth 20000 in
theorem hb_75 : hp_0[75]? = some (.inl (0, .inl (List.replicate 12 0))) := rfl
set_option maxRecDepth 20000 in
theorem hb_76 : hp_0[76]? = some (.inl (0, .inl (List.replicate 12 0))) := rfl
set_option maxRecDepth 20000 in
theorem hb_77 : hp_0[77]? = some (.inl (0, .inl (List.replicate 12 0))) := rfl
set_option maxRecDepth 20000 in
theorem hb_78 : hp_0[78]? = some (.inl (0, .inl (List.replicate 12 0))) := rfl
set_option maxRecDepth 20000 in
theorem hb_79 : hp_0[79]? = some (.inr (2, [.ref 80, .ref 81, .ref 82, .ref 83, .ref 84, .int 0, .int 0, .int 0, .int 0, .int 0, .ref 85, .ref 86])) := rfl
set_option maxRecDepth 20000 in
theorem hb_80 : hp_0[80]? = some (.inl (0, .inl [0, 0, 0, 0, 0, 0, 0, 0])) := rfl
set_option maxRecDepth 20000 in
theorem hb_81 : hp_0[81]? = some (.inl (0, .inl [0, 0, 0, 0, 0, 0, 0, 0])) := rfl
set_option maxRecDepth 20000 in
theorem hb_82 : hp_0[82]? = some (.inl (1, .inr (.inl [0, 0, 0, 0, 0, 0, 0, 0]))) := rfl
set_option maxRecDepth 20000 in
theorem hb_83 : hp_0[83]? = some (.inl (0, .inl [0, 0, 0, 0, 0, 0, 0, 0])) := rfl
set_option maxRecDepth 20000 in
theorem hb_84 : hp_0[84]? = some (.inl (0, .inl [0, 0, 0, 0, 0, 0, 0, 0])) := rfl
set_option maxRecDepth 20000 in
theorem hb_85 : hp_0[85]? = some (.inl (0, .inl [0, 0, 0, 0, 0])) := rfl
set_option maxRecDepth 20000 in
theorem hb_86 : hp_0[86]? = some (.inl (0, .inl [0, 0, 0, 0, 0, 0, 0, 0])) := rfl
set_option maxRecDepth 20000 in
theorem hb_87 : hp_0[87]? = some (.inr (3, [.ref 88, .ref 98, .int 0])) := rfl
set_option maxRecDepth 20000 in
theorem hb_88 : hp_0[88]? = some (.inr (6, [.ref 89, .ref 90, .ref 91, .ref 92, .ref 93, .ref 97, .int 0])) := rfl
set_option maxRecDepth 20000 in
theorem hb_89 : hp_0[89]? = some (.inl (0, .inl [0, 0, 0, 0, 0])) := rfl
set_option maxRecDepth 20000 in
theorem hb_90 : hp_0[90]? = some (.inl (0, .inl [0, 0, 0, 0, 0])) := rfl
set_option maxRecDepth 20000 in
theorem hb_91 : hp_0[91]? = some (.inl (0, .inl [0, 0, 0, 0, 0, 0, 0, 0])) := rfl
set_option maxRecDepth 20000 in
theorem hb_92 : hp_0[92]? = some (.inl (0, .inl [0, 0, 0])) := rfl
set_option maxRecDepth 20000 in
theorem hb_93 : hp_0[93]? = some (.inl (4, .inr (.inr [(some 94), (some 95), (some 96)]))) := rfl
set_option maxRecDepth 20000 in
theorem hb_94 : hp_0[94]? = some (.inl (0, .inl (List.replicate 12 0))) := rfl
set_option maxRecDepth 20000 in
theorem hb_95 : hp_0[95]? = some (.inl (0, .inl (List.replicate 12 0))) := rfl
set_option maxRecDepth 20000 in
theorem hb_96 : hp_0[96]? = some (.inl (0, .inl (List.replicate 12 0))) := rfl
set_option maxRecDepth 20000 in
theorem hb_97 : hp_0[97]? = some (.inl (0, .inl (List.replicate 12 0))) := rfl
set_option maxRecDepth 20000 in
theorem hb_98 : hp_0[98]? = some (.inr (2, [.ref 99, .ref 100, .ref 101, .ref 102, .ref 103, .int 0, .int 0, .int 0, .int 0, .int 0, .ref 104, .ref 105])) := rfl
set_option maxRecDepth 20000 in
theorem hb_99 : hp_0[99]? = some (.inl (0, .inl [0, 0, 0, 0, 0, 0, 0, 0])) := rfl
set_option maxRecDepth 20000 in
theorem hb_100 : hp_0[100]? = some (.inl (0, .inl [0, 0, 0, 0, 0, 0, 0, 0])) := rfl
set_option maxRecDepth 20000 in
theorem hb_101 : hp_0[101]? = some (.inl (1, .inr (.inl [0, 0, 0, 0, 0, 0, 0, 0]))) := rfl
set_option maxRecDepth 20000 in
theorem hb_102 : hp_0[102]? = some (.inl (0, .inl [0, 0, 0, 0, 0, 0, 0, 0])) := rfl
set_option maxRecDepth 20000 in
theorem hb_103 : hp_0[103]? = some (.inl (0, .inl [0, 0, 0, 0, 0, 0, 0, 0])) := rfl
set_option maxRecDepth 20000 in
theorem hb_104 : hp_0[104]? = some (.inl (0, .inl [0, 0, 0, 0, 0])) := rfl
set_option maxRecDepth 20000 in
theorem hb_105 : hp_0[105]? = some (.inl (0, .inl [0, 0, 0, 0, 0, 0, 0, 0])) := rfl
set_option maxRecDepth 20000 in
theorem hb_106 : hp_0[106]? = some (.inr (7, [.ref 107, .int 0, .int (-1)])) := rfl
set_option maxRecDepth 20000 in
theorem hb_107 : hp_0[107]? = some (.inl (0, .inl (List.replicate 40 0))) := rfl
set_option maxRecDepth 20000 in
theorem hb_108 : hp_0[108]? = some (.inr (7, [.ref 109, .int 0, .int (-1)])) := rfl
set_option maxRecDepth 20000 in
theorem hb_109 : hp_0[109]? = some (.inl (0, .inl (List.replicate 40 0))) := rfl
set_option maxRecDepth 20000 in
theorem hb_110 : hp_0[110]? = some (.inr (7, [.ref 111, .int 0, .int (-1)])) := rfl
set_option maxRecDepth 20000 in
theorem hb_111 : hp_0[111]? = some (.inl (0, .inl (List.replicate 40 0))) := rfl
set_option maxRecDepth 20000 in
theorem hb_112 : hp_0[112]? = some (.inr (7, [.ref 113, .int 0, .int (-1)])) := rfl
set_option maxRecDepth 20000 in
theorem hb_113 : hp_0[113]? = some (.inl (0, .inl (List.replicate 40 0))) := rfl
set_option maxRecDepth 20000 in
theorem hb_114 : hp_0[114]? = some (.inr (10, [.ref 115, .int 0, .int 0, .int 0, .int 0, .int 0, .int 0, .ref 116, .ref 117, .ref 118, .ref 119, .ref 120, .ref 121, .ref 122, .ref 123, .ref 124, .ref 125, .int 0, .int 0, .int 0, .int 0, .ref 126, .int 0, .int 0, .int 0, .int 0, .int 0, .int 0, .int 0, .int 0, .ref 127, .ref 128, .ref 129, .ref 130, .int 0, .ref 131, .ref 132, .int 0, .int 0, .int 0, .int 0, .ref 133, .ref 134, .ref 135, .ref 136, .int 0])) := rfl
set_option maxRecDepth 20000 in
theorem hb_115 : hp_0[115]? = some (.inl (0, .inl (List.replicate 700 0))) := rfl
set_option maxRecDepth 20000 in
theorem hb_116 : hp_0[116]? = some (.inl (0, .inl [0, 0, 0, 0, 0, 0, 0, 0])) := rfl
set_option maxRecDepth 20000 in
theorem hb_117 : hp_0[117]? = some (.inl (0, .inl (List.replicate 10 0))) := rfl
set_option maxRecDepth 20000 in
theorem hb_118 : hp_0[118]? = some (.inl (0, .inl [0, 0, 0, 0, 0, 0, 0, 0])) := rfl
set_option maxRecDepth 20000 in
theorem hb_119 : hp_0[119]? = some (.inl (0, .inl (List.replicate 12 0))) := rfl
set_option maxRecDepth 20000 in
theorem hb_120 : hp_0[120]? = some (.inl (0, .inl (List.replicate 140 0))) := rfl
set_option maxRecDepth 20000 in
theorem hb_121 : hp_0[121]? = some (.inl (0, .inl [0, 0, 0, 0, 0, 0, 0, 0])) := rfl
set_option maxRecDepth 20000 in
theorem hb_122 : hp_0[122]? = some (.inl (0, .inl (List.replicate 10 0))) := rfl
set_option maxRecDepth 20000 in
theorem hb_123 : hp_0[123]? = some (.inl (0, .inl [0, 0, 0, 0, 0, 0, 0, 0])) := rfl
set_option maxRecDepth 20000 in
theorem hb_124 : hp_0[124]? = some (.inl (0, .inl (List.replicate 12 0))) := rfl
set_option maxRecDepth 20000 in
theorem hb_125 : hp_0[125]? = some (.inl (0, .inl [0, 0, 0, 0, 0])) := rfl
set_option maxRecDepth 20000 in
theorem hb_126 : hp_0[126]? = some (.inl (0, .inl (List.replicate 320 0))) := rfl
set_option maxRecDepth 20000 in
theorem hb_127 : hp_0[127]? = some (.inl (0, .inl [0, 4, 7, 12, 16, 21, 25, 29, 35, 41, 46, 49, 53, 57, 61, 67])) := rfl
set_option maxRecDepth 20000 in
theorem hb_128 : hp_0[128]? = some (.inl (0, .inl [114, 111, 111, 102, 112, 101, 103, 115, 112, 111, 117, 116, 114, 97, 105, 110, 115, 108, 101, 101, 112, 116, 117, 110, 101, 119, 101, 97, 114, 103, 117, 116, 116, 101, 114, 103, 114, 111, 117, 110, 100, 115, 108, 97, 116, 101, 116, 105, 112, 108, 101, 97, 107, 101, 97, 99, 104, 106, 111, 105, 110, 102, 114, 111, 122, 101, 110])) := rfl
set_option maxRecDepth 20000 in
theorem hb_129 : hp_0[129]? = some (.inl (0, .inl [0, 0, 0, 0, 0])) := rfl
set_option maxRecDepth 20000 in
theorem hb_130 : hp_0[130]? = some (.inl (0, .inl [0, 0, 0, 0, 0, 0, 0, 0])) := rfl
set_option maxRecDepth 20000 in
theorem hb_131 : hp_0[131]? = some (.inl (0, .inl (List.replicate 12 0))) := rfl
set_option maxRecDepth 20000 in
theorem hb_132 : hp_0[132]? = some (.inl (0, .inl (List.replicate 12 0))) := rfl
set_option maxRecDepth 20000 in
theorem hb_133 : hp_0[133]? = some (.inl (3, .inl [0, 0])) := rfl
set_option maxRecDepth 20000 in
theorem hb_134 : hp_0[134]? = some (.inl (0, .inl [(-4), (-4), (-4), (-4)])) := rfl
set_option maxRecDepth 20000 in
theorem hb_135 : hp_0[135]? = some (.inl (0, .inl [0, 0, 0, 0])) := rfl
set_option maxRecDepth 20000 in
theorem hb_136 : hp_0[136]? = some (.inl (0, .inl (List.replicate 160 0))) := rfl
