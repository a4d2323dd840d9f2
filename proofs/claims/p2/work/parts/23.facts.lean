abbrev hz_isF (c : Nat) : Prop := c = 46 ∨ c = 55 ∨ c = 79 ∨ c = 98
abbrev hz_isI (c : Nat) : Prop := c = 68 ∨ c = 87
abbrev hz_isP (c : Nat) : Prop := c = 4 ∨ c = 25
abbrev hz_isS (c : Nat) : Prop := c = 15 ∨ c = 36 ∨ c = 69 ∨ c = 88
abbrev hz_isH (c : Nat) : Prop := c = 106 ∨ c = 108 ∨ c = 110 ∨ c = 112
theorem ho_K : hz_t[65]? = some (.inr (.inl (0, 65, [(0, 0), (0, 1), (0, 2), (0, 3), (0, 4), (0, 5), (0, 6), (0, 7)]))) := rfl
theorem ho_C : hz_t[54]? = some (.inr (.inl (1, 54, [(1, 55), (1, 63), (1, 64), (0, 3)]))) := rfl
theorem ha_C_1 : hz_t[63]? = some (.inl (0, 54, 1, 12)) := rfl
theorem ha_C_2 : hz_t[64]? = some (.inl (0, 54, 2, 12)) := rfl
theorem ho_F {c : Nat} (h : hz_isF c) : hz_t[c]? = some (.inr (.inl (2, c, [(1, c + 1), (1, c + 2), (1, c + 3), (1, c + 4), (1, c + 5), (0, 5), (0, 6), (0, 7), (0, 8), (0, 9), (1, c + 6), (1, c + 7)]))) := by rcases h with rfl | rfl | rfl | rfl <;> rfl
theorem ha_F_0 {c : Nat} (h : hz_isF c) : hz_t[c + 1]? = some (.inl (0, c, 0, 8)) := by rcases h with rfl | rfl | rfl | rfl <;> rfl
theorem ha_F_1 {c : Nat} (h : hz_isF c) : hz_t[c + 2]? = some (.inl (0, c, 1, 8)) := by rcases h with rfl | rfl | rfl | rfl <;> rfl
theorem ha_F_2 {c : Nat} (h : hz_isF c) : hz_t[c + 3]? = some (.inl (1, c, 2, 8)) := by rcases h with rfl | rfl | rfl | rfl <;> rfl
theorem ha_F_3 {c : Nat} (h : hz_isF c) : hz_t[c + 4]? = some (.inl (0, c, 3, 8)) := by rcases h with rfl | rfl | rfl | rfl <;> rfl
theorem ha_F_4 {c : Nat} (h : hz_isF c) : hz_t[c + 5]? = some (.inl (0, c, 4, 8)) := by rcases h with rfl | rfl | rfl | rfl <;> rfl
theorem ha_F_10 {c : Nat} (h : hz_isF c) : hz_t[c + 6]? = some (.inl (0, c, 10, 5)) := by rcases h with rfl | rfl | rfl | rfl <;> rfl
theorem ha_F_11 {c : Nat} (h : hz_isF c) : hz_t[c + 7]? = some (.inl (0, c, 11, 8)) := by rcases h with rfl | rfl | rfl | rfl <;> rfl
theorem ho_I {c : Nat} (h : hz_isI c) : hz_t[c]? = some (.inr (.inl (3, c, [(1, c + 1), (1, c + 11), (0, 2)]))) := by rcases h with rfl | rfl <;> rfl
theorem ho_P {c : Nat} (h : hz_isP c) : hz_t[c]? = some (.inr (.inl (4, c, [(0, 0), (1, c + 1), (1, c + 2), (0, 3), (1, c + 3), (1, c + 4), (0, 6), (1, c + 5), (1, c + 6), (1, c + 7), (0, 10), (0, 11), (1, c + 8), (1, c + 9), (1, c + 10), (0, 15)]))) := by rcases h with rfl | rfl <;> rfl
theorem ha_P_1 {c : Nat} (h : hz_isP c) : hz_t[c + 1]? = some (.inl (0, c, 1, 4)) := by rcases h with rfl | rfl <;> rfl
theorem ha_P_2 {c : Nat} (h : hz_isP c) : hz_t[c + 2]? = some (.inl (0, c, 2, 4)) := by rcases h with rfl | rfl <;> rfl
theorem ha_P_4 {c : Nat} (h : hz_isP c) : hz_t[c + 3]? = some (.inl (0, c, 4, 5)) := by rcases h with rfl | rfl <;> rfl
theorem ha_P_5 {c : Nat} (h : hz_isP c) : hz_t[c + 4]? = some (.inl (0, c, 5, 5)) := by rcases h with rfl | rfl <;> rfl
theorem ha_P_7 {c : Nat} (h : hz_isP c) : hz_t[c + 5]? = some (.inl (0, c, 7, 8)) := by rcases h with rfl | rfl <;> rfl
theorem ha_P_8 {c : Nat} (h : hz_isP c) : hz_t[c + 6]? = some (.inl (0, c, 8, 8)) := by rcases h with rfl | rfl <;> rfl
theorem ha_P_9 {c : Nat} (h : hz_isP c) : hz_t[c + 7]? = some (.inl (0, c, 9, 8)) := by rcases h with rfl | rfl <;> rfl
theorem ha_P_12 {c : Nat} (h : hz_isP c) : hz_t[c + 8]? = some (.inl (0, c, 12, 4)) := by rcases h with rfl | rfl <;> rfl
theorem ha_P_13 {c : Nat} (h : hz_isP c) : hz_t[c + 9]? = some (.inl (0, c, 13, 4)) := by rcases h with rfl | rfl <;> rfl
theorem ha_P_14 {c : Nat} (h : hz_isP c) : hz_t[c + 10]? = some (.inl (0, c, 14, 4)) := by rcases h with rfl | rfl <;> rfl
theorem ho_R : hz_t[1]? = some (.inr (.inl (5, 1, [(1, 2), (2, 1), (2, 2), (0, 3), (0, 4), (0, 5), (0, 6), (0, 7), (0, 8), (0, 9)]))) := rfl
theorem ho_S {c : Nat} (h : hz_isS c) : hz_t[c]? = some (.inr (.inl (6, c, [(1, c + 1), (1, c + 2), (1, c + 3), (1, c + 4), (1, c + 5), (1, c + 9), (0, 6)]))) := by rcases h with rfl | rfl | rfl | rfl <;> rfl
theorem ha_S_0 {c : Nat} (h : hz_isS c) : hz_t[c + 1]? = some (.inl (0, c, 0, 5)) := by rcases h with rfl | rfl | rfl | rfl <;> rfl
theorem ha_S_1 {c : Nat} (h : hz_isS c) : hz_t[c + 2]? = some (.inl (0, c, 1, 5)) := by rcases h with rfl | rfl | rfl | rfl <;> rfl
theorem ha_S_2 {c : Nat} (h : hz_isS c) : hz_t[c + 3]? = some (.inl (0, c, 2, 8)) := by rcases h with rfl | rfl | rfl | rfl <;> rfl
theorem ha_S_3 {c : Nat} (h : hz_isS c) : hz_t[c + 4]? = some (.inl (0, c, 3, 3)) := by rcases h with rfl | rfl | rfl | rfl <;> rfl
theorem ha_S_4 {c : Nat} (h : hz_isS c) : hz_t[c + 5]? = some (.inr (.inr (4, [c + 6, c + 7, c + 8]))) := by rcases h with rfl | rfl | rfl | rfl <;> rfl
theorem ha_S_5 {c : Nat} (h : hz_isS c) : hz_t[c + 9]? = some (.inl (0, c, 5, 12)) := by rcases h with rfl | rfl | rfl | rfl <;> rfl
theorem ho_H {c : Nat} (h : hz_isH c) : hz_t[c]? = some (.inr (.inl (7, c, [(1, c + 1), (0, 1), (0, 2)]))) := by rcases h with rfl | rfl | rfl | rfl <;> rfl
theorem ha_H_0 {c : Nat} (h : hz_isH c) : hz_t[c + 1]? = some (.inl (0, c, 0, 40)) := by rcases h with rfl | rfl | rfl | rfl <;> rfl
theorem ho_T : hz_t[2]? = some (.inr (.inl (8, 2, [(1, 3), (0, 1)]))) := rfl
theorem ha_T_0 : hz_t[3]? = some (.inl (2, 2, 0, 320)) := rfl
theorem ho_O : hz_t[0]? = some (.inr (.inl (9, 0, [(1, 1), (1, 2), (2, 2), (2, 3), (1, 46), (1, 54), (1, 65), (1, 66), (1, 67), (0, 9), (0, 10)]))) := rfl
theorem ha_O_7 : hz_t[66]? = some (.inr (.inr (5, [68, 87]))) := rfl
theorem ha_O_8 : hz_t[67]? = some (.inr (.inr (6, [106, 108, 110, 112]))) := rfl
theorem ho_M : hz_t[114]? = some (.inr (.inl (10, 114, [(1, 115), (0, 1), (0, 2), (0, 3), (0, 4), (0, 5), (0, 6), (1, 116), (1, 117), (1, 118), (1, 119), (1, 120), (1, 121), (1, 122), (1, 123), (1, 124), (1, 125), (0, 17), (0, 18), (0, 19), (0, 20), (1, 126), (0, 22), (0, 23), (0, 24), (0, 25), (0, 26), (0, 27), (0, 28), (0, 29), (1, 127), (1, 128), (1, 129), (1, 130), (0, 34), (1, 131), (1, 132), (0, 37), (0, 38), (0, 39), (0, 40), (1, 133), (1, 134), (1, 135), (1, 136), (0, 45)]))) := rfl
theorem ha_M_0 : hz_t[115]? = some (.inl (0, 114, 0, 700)) := rfl
theorem ha_M_7 : hz_t[116]? = some (.inl (0, 114, 7, 8)) := rfl
theorem ha_M_8 : hz_t[117]? = some (.inl (0, 114, 8, 10)) := rfl
theorem ha_M_9 : hz_t[118]? = some (.inl (0, 114, 9, 8)) := rfl
theorem ha_M_10 : hz_t[119]? = some (.inl (0, 114, 10, 12)) := rfl
theorem ha_M_11 : hz_t[120]? = some (.inl (0, 114, 11, 140)) := rfl
theorem ha_M_12 : hz_t[121]? = some (.inl (0, 114, 12, 8)) := rfl
theorem ha_M_13 : hz_t[122]? = some (.inl (0, 114, 13, 10)) := rfl
theorem ha_M_14 : hz_t[123]? = some (.inl (0, 114, 14, 8)) := rfl
theorem ha_M_15 : hz_t[124]? = some (.inl (0, 114, 15, 12)) := rfl
theorem ha_M_16 : hz_t[125]? = some (.inl (0, 114, 16, 5)) := rfl
theorem ha_M_21 : hz_t[126]? = some (.inl (0, 114, 21, 320)) := rfl
theorem ha_M_30 : hz_t[127]? = some (.inl (0, 114, 30, 16)) := rfl
theorem ha_M_31 : hz_t[128]? = some (.inl (0, 114, 31, 67)) := rfl
theorem ha_M_32 : hz_t[129]? = some (.inl (0, 114, 32, 5)) := rfl
theorem ha_M_33 : hz_t[130]? = some (.inl (0, 114, 33, 8)) := rfl
theorem ha_M_35 : hz_t[131]? = some (.inl (0, 114, 35, 12)) := rfl
theorem ha_M_36 : hz_t[132]? = some (.inl (0, 114, 36, 12)) := rfl
theorem ha_M_41 : hz_t[133]? = some (.inl (3, 114, 41, 2)) := rfl
theorem ha_M_42 : hz_t[134]? = some (.inl (0, 114, 42, 4)) := rfl
theorem ha_M_43 : hz_t[135]? = some (.inl (0, 114, 43, 4)) := rfl
theorem ha_M_44 : hz_t[136]? = some (.inl (0, 114, 44, 160)) := rfl
theorem ha_Sr {c : Nat} (h : hz_isS c) {j : Int} (h0 : 0 ≤ j) (h1 : j < 3) : hz_t[c + 6 + j.toNat]? = some (.inl (0, c, 20 + j.toNat, 12)) := by
  have hj : j = 0 ∨ j = 1 ∨ j = 2 := by omega
  rcases hj with rfl | rfl | rfl <;> rcases h with rfl | rfl | rfl | rfl <;> rfl
theorem hr_S {c : Nat} {j : Int} (h0 : 0 ≤ j) (h1 : j < 3) : [c + 6, c + 7, c + 8][j.toNat]? = some (c + 6 + j.toNat) := by
  have hj : j = 0 ∨ j = 1 ∨ j = 2 := by omega
  rcases hj with rfl | rfl | rfl <;> rfl
theorem hr_I {j : Int} (h0 : 0 ≤ j) (h1 : j < 2) : [68, 87][j.toNat]? = some (68 + 19 * j.toNat) := by
  have hj : j = 0 ∨ j = 1 := by omega
  rcases hj with rfl | rfl <;> rfl
theorem hr_H {j : Int} (h0 : 0 ≤ j) (h1 : j < 4) : [106, 108, 110, 112][j.toNat]? = some (106 + 2 * j.toNat) := by
  have hj : j = 0 ∨ j = 1 ∨ j = 2 ∨ j = 3 := by omega
  rcases hj with rfl | rfl | rfl | rfl <;> rfl
theorem hi_I {j : Int} (h0 : 0 ≤ j) (h1 : j < 2) : hz_isI (68 + 19 * j.toNat) := by unfold hz_isI; omega
theorem hi_H {j : Int} (h0 : 0 ≤ j) (h1 : j < 4) : hz_isH (106 + 2 * j.toNat) := by unfold hz_isH; omega
theorem hi_IS {c : Nat} (h : hz_isI c) : hz_isS (c + 1) := by unfold hz_isI at h; unfold hz_isS; omega
theorem hi_IF {c : Nat} (h : hz_isI c) : hz_isF (c + 11) := by unfold hz_isI at h; unfold hz_isF; omega
theorem dz_back {S R : Type} {P : S → Prop} {K : R → Prop} {s : S} (H : dz_p (some (Sum.inl s)) (Sum.elim P K)) : P s := by have := dz_sm H; exact this
theorem dz_out {S R : Type} {P : S → Prop} {K : R → Prop} {r : R} (H : dz_p (some (Sum.inr r)) (Sum.elim P K)) : dz_p (some r) K := ⟨r, rfl, by have := dz_sm H; exact this⟩
theorem dz_jn {β : Type} {x : Option β} {K' : β → Prop} {G : Prop} (P : β → Prop) (H : dz_p x K') (hj : ∀ q, K' q → P q) (hb : dz_p x P → G) : G := hb (dz_pm H hj)
theorem dk_m4 : dz_c (-4) = (-4) := by decide
theorem dk_m1 : dz_c (-1) = (-1) := by decide
theorem dk_0 : dz_c 0 = 0 := by decide
theorem dk_1 : dz_c 1 = 1 := by decide
theorem dk_2 : dz_c 2 = 2 := by decide
theorem dk_3 : dz_c 3 = 3 := by decide
theorem dk_4 : dz_c 4 = 4 := by decide
theorem dk_5 : dz_c 5 = 5 := by decide
theorem dk_7 : dz_c 7 = 7 := by decide
theorem dk_8 : dz_c 8 = 8 := by decide
theorem dk_9 : dz_c 9 = 9 := by decide
theorem dk_10 : dz_c 10 = 10 := by decide
theorem dk_12 : dz_c 12 = 12 := by decide
theorem dk_15 : dz_c 15 = 15 := by decide
theorem dk_18 : dz_c 18 = 18 := by decide
theorem dk_20 : dz_c 20 = 20 := by decide
theorem dk_32 : dz_c 32 = 32 := by decide
theorem dk_40 : dz_c 40 = 40 := by decide
theorem dk_48 : dz_c 48 = 48 := by decide
theorem dk_57 : dz_c 57 = 57 := by decide
theorem dk_59 : dz_c 59 = 59 := by decide
theorem dk_73 : dz_c 73 = 73 := by decide
theorem dk_97 : dz_c 97 = 97 := by decide
theorem dk_99 : dz_c 99 = 99 := by decide
theorem dk_122 : dz_c 122 = 122 := by decide
theorem dk_134 : dz_c 134 = 134 := by decide
theorem dk_135 : dz_c 135 = 135 := by decide
theorem dk_136 : dz_c 136 = 136 := by decide
theorem dk_137 : dz_c 137 = 137 := by decide
theorem dk_140 : dz_c 140 = 140 := by decide
theorem dk_255 : dz_c 255 = 255 := by decide
theorem dk_320 : dz_c 320 = 320 := by decide
theorem dk_555 : dz_c 555 = 555 := by decide
theorem dk_556 : dz_c 556 = 556 := by decide
theorem dk_557 : dz_c 557 = 557 := by decide
section sw
variable {X : Option (List Int32)} {Dp : Nat} {r : mm_R} {pc n : Nat} {ls : mm_L} {t : List Value} {h : mm_H} {Q : Option Value → mm_H → Prop} {x x' : Int}
theorem wq_ts {d lo hi : Int} {offs : Array Int} {tt : Nat} (hat : mm_at r pc = some (.tableswitch d lo hi offs, n)) (hx : dz_c x = x') (ht : mm_sw pc d lo hi offs x' = some tt) (kk : mm_Wp X Dp r tt ls t h Q) : mm_Wp X Dp r pc ls (dz_I x :: t) h Q := by
  subst hx
  exact wp_ts hat ht kk
theorem wq_lk {d : Int} {ps : Array (Int × Int)} {tt : Nat} (hat : mm_at r pc = some (.lookupswitch d ps, n)) (hs : (ps.toList.zip (ps.toList.drop 1)).all (fun (a, next) => a.1 < next.1) = true) (hx : dz_c x = x') (ht : mm_tg pc (Op.lookupswitch.offset ps.toList d x') = some tt) (kk : mm_Wp X Dp r tt ls t h Q) : mm_Wp X Dp r pc ls (dz_I x :: t) h Q := by
  subst hx
  refine wp_s hat (pc' := tt) (ls' := ls) (st' := t) (h' := h) ?_ kk
  show (Sum.inl (((bif (ps.toList.zip (ps.toList.drop 1)).all (fun (a, next) => a.1 < next.1) then (mm_tg pc (Op.lookupswitch.offset ps.toList d (Int32.ofInt x).toInt)).map (fun a => (a, t)) else none)).map (fun q => (q.1, ls, q.2, h))) : mm_O) = _
  rw [hs]
  have ht' : mm_tg pc (Op.lookupswitch.offset ps.toList d (Int32.ofInt x).toInt) = some tt := ht
  rw [ht']
  rfl
end sw
