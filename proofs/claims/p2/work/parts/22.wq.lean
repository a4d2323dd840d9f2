/-! the heap as a table over Z: lookups, writes, and the machine's steps over it -/
theorem hz_g {Z : dz_Z} {c : Nat} {s : hz_S} (h : hz_t[c]? = some s) : (hz_0 Z)[c]? = some (hz_c Z s) := by
  unfold hz_0
  rw [List.getElem?_map, h]
  rfl
theorem hz_pwl {s s' : hz_S} : ∀ (l : List hz_S) (i j : Nat), hz_pw l = true → i < j → l[i]? = some s → l[j]? = some s' → hz_dis s s' = true
  | [], i, j, _, _, hi, _ => by simp at hi
  | a :: t, 0, 0, _, hl, _, _ => by omega
  | a :: t, 0, j + 1, hp, _, hi, hj => by
    simp only [List.getElem?_cons_zero, Option.some.injEq] at hi
    simp only [List.getElem?_cons_succ] at hj
    subst hi
    unfold hz_pw at hp
    rw [Bool.and_eq_true, List.all_eq_true] at hp
    exact hp.1 _ (List.mem_of_getElem? hj)
  | a :: t, i + 1, 0, _, hl, _, _ => by omega
  | a :: t, i + 1, j + 1, hp, hl, hi, hj => by
    simp only [List.getElem?_cons_succ] at hi hj
    unfold hz_pw at hp
    rw [Bool.and_eq_true] at hp
    exact hz_pwl t i j hp.2 (by omega) hi hj
theorem hz_bs {b f : Nat} {s : hz_S} (h : hz_m b f s = true) : hz_bo s = some b := by
  unfold hz_m hz_l at h
  unfold hz_bo
  split at h
  · simp only [List.any_cons, List.any_nil, Bool.or_false, Bool.and_eq_true] at h
    rw [Nat.eq_of_beq_eq_true h.1]
  · rw [List.any_eq_true] at h
    obtain ⟨p, hp, hq⟩ := h
    obtain ⟨q, -, rfl⟩ := List.mem_map.mp hp
    rw [Bool.and_eq_true] at hq
    exact congrArg some (Nat.eq_of_beq_eq_true hq.1)
  · simp at h
theorem hz_dm {b f : Nat} {s s' : hz_S} (h : hz_m b f s = true) (h' : hz_m b f s' = true) (hd : hz_dis s s' = true) : False := by
  have e1 := hz_bs h
  have e2 := hz_bs h'
  unfold hz_dis at hd
  rw [e1, e2] at hd
  simp only [Nat.beq_refl, cond_true] at hd
  unfold hz_m at h
  rw [List.any_eq_true] at h
  obtain ⟨p, hp, hq⟩ := h
  rw [Bool.and_eq_true] at hq
  rw [List.all_eq_true] at hd
  have := hd p hp
  rw [Nat.eq_of_beq_eq_true hq.1, Nat.eq_of_beq_eq_true hq.2, h'] at this
  cases this
theorem hz_one {b f c c' : Nat} {s s' : hz_S} (h : hz_t[c]? = some s) (h' : hz_t[c']? = some s') (hn : c' ≠ c) (hm : hz_m b f s = true) : hz_m b f s' = false := by
  cases hm' : hz_m b f s' with
  | false => rfl
  | true =>
    exfalso
    rcases Nat.lt_or_gt_of_ne hn with hl | hl
    · exact hz_dm hm' hm (hz_pwl hz_t c' c hz_ok hl h' h)
    · exact hz_dm hm hm' (hz_pwl hz_t c c' hz_ok hl h h')
theorem hz_cm {Z Z' : dz_Z} {b f : Nat} (hz : ∀ b' f', ¬(b' = b ∧ f' = f) → Z' b' f' = Z b' f') {s : hz_S} (hm : hz_m b f s = false) : hz_c Z' s = hz_c Z s := by
  unfold hz_m hz_l at hm
  have hk : ∀ b' f', (Nat.beq b' b && Nat.beq f' f) = false → Z' b' f' = Z b' f' := by
    intro b' f' h
    apply hz
    rintro ⟨rfl, rfl⟩
    simp [Nat.beq_refl] at h
  unfold hz_c
  split
  · simp only [List.any_cons, List.any_nil, Bool.or_false] at hm
    rw [hk _ _ hm]
  · simp only [List.any_cons, List.any_nil, Bool.or_false] at hm
    rw [hk _ _ hm]
  · next b1 fs =>
    congr 2
    apply List.map_congr_left
    intro q hq
    rw [List.any_eq_false] at hm
    unfold hz_v
    split
    · next h0 => rw [hk _ _ (by have := hm (b1, q.2) (List.mem_map.mpr ⟨q, List.mem_filter.mpr ⟨hq, by rw [h0]; rfl⟩, rfl⟩); exact Bool.eq_false_iff.mpr this)]
    · rfl
    · next h0 h1 => rw [hk _ _ (by have := hm (b1, q.2) (List.mem_map.mpr ⟨q, List.mem_filter.mpr ⟨hq, by cases hb : Nat.beq q.1 1 with | false => rfl | true => exact absurd (Nat.eq_of_beq_eq_true hb) h1⟩, rfl⟩); exact Bool.eq_false_iff.mpr this)]
  · rfl
theorem hz_s {Z Z' : dz_Z} {b f c : Nat} {s : hz_S} (hc : hz_t[c]? = some s) (hm : hz_m b f s = true) (hz : ∀ b' f', ¬(b' = b ∧ f' = f) → Z' b' f' = Z b' f') : (hz_0 Z).set c (hz_c Z' s) = hz_0 Z' := by
  apply List.ext_getElem?
  intro k
  by_cases hk : k = c
  · subst hk
    rw [List.getElem?_set_self (mm_lt (hz_g hc)), hz_g hc]
  · rw [List.getElem?_set_ne (Ne.symm hk)]
    unfold hz_0
    rw [List.getElem?_map, List.getElem?_map]
    cases h : hz_t[k]? with
    | none => rfl
    | some s' => simp only [Option.map_some]; rw [hz_cm hz (hz_one hc h hk hm)]
theorem dz_uo {Z : dz_Z} {b f : Nat} {i v : Int} : ∀ b' f', ¬(b' = b ∧ f' = f) → dz_u Z b f i v b' f' = Z b' f' := by
  intro b' f' h
  funext i'
  unfold dz_u
  rw [if_neg (fun q => h ⟨q.1, q.2.1⟩)]
theorem dz_fo {Z : dz_Z} {b f : Nat} {g : Int → Int} : ∀ b' f', ¬(b' = b ∧ f' = f) → dz_f Z b f g b' f' = Z b' f' := by
  intro b' f' h
  funext i'
  unfold dz_f
  rw [if_neg h]
theorem dz_ws {Z : dz_Z} {b f n : Nat} {j v : Int} (h0 : 0 ≤ j) : (dz_w n (Z b f)).set j.toNat (Int32.ofInt v) = dz_w n (dz_u Z b f j v b f) := by
  apply List.ext_getElem?
  intro k
  unfold dz_w dz_u
  rw [List.getElem?_set]
  simp only [List.length_map, List.length_range, List.getElem?_map]
  by_cases hk : j.toNat = k
  · subst hk
    rw [if_pos rfl]
    by_cases hl : j.toNat < n
    · rw [if_pos hl, List.getElem?_range hl]
      simp only [Option.map_some, true_and]
      rw [if_pos (by omega)]
    · rw [if_neg hl, List.getElem?_eq_none (by simp; omega)]
      rfl
  · rw [if_neg hk]
    cases h : (List.range n)[k]? with
    | none => rfl
    | some k' =>
      have : k' = k := by have := List.getElem?_eq_some_iff.mp h; obtain ⟨h1, h2⟩ := this; simpa using h2.symm
      subst this
      simp only [Option.map_some, true_and]
      rw [if_neg (by omega)]
theorem dz_xs {Z : dz_Z} {b f n : Nat} {j v : Int} (h0 : 0 ≤ j) : (dz_x n (Z b f)).set j.toNat (Int64.ofInt v) = dz_x n (dz_u Z b f j v b f) := by
  apply List.ext_getElem?
  intro k
  unfold dz_x dz_u
  rw [List.getElem?_set]
  simp only [List.length_map, List.length_range, List.getElem?_map]
  by_cases hk : j.toNat = k
  · subst hk
    rw [if_pos rfl]
    by_cases hl : j.toNat < n
    · rw [if_pos hl, List.getElem?_range hl]
      simp only [Option.map_some, true_and]
      rw [if_pos (by omega)]
    · rw [if_neg hl, List.getElem?_eq_none (by simp; omega)]
      rfl
  · rw [if_neg hk]
    cases h : (List.range n)[k]? with
    | none => rfl
    | some k' =>
      have : k' = k := by have := List.getElem?_eq_some_iff.mp h; obtain ⟨h1, h2⟩ := this; simpa using h2.symm
      subst this
      simp only [Option.map_some, true_and]
      rw [if_neg (by omega)]
theorem dz_wn (n : Nat) (g : Int → Int) : (dz_w n g).length = n := by unfold dz_w; simp
theorem dz_xn (n : Nat) (g : Int → Int) : (dz_x n g).length = n := by unfold dz_x; simp
theorem dz_wg {n : Nat} {g : Int → Int} {j : Int} (h0 : 0 ≤ j) (h1 : j < n) : (dz_w n g).getD j.toNat 0 = Int32.ofInt (g j) := by
  unfold dz_w
  rw [List.getD_eq_getElem?_getD, List.getElem?_map, List.getElem?_range (by omega)]
  simp only [Option.map_some, Option.getD_some]
  rw [Int.toNat_of_nonneg h0]
theorem dz_xg {n : Nat} {g : Int → Int} {j : Int} (h0 : 0 ≤ j) (h1 : j < n) : (dz_x n g).getD j.toNat 0 = Int64.ofInt (g j) := by
  unfold dz_x
  rw [List.getD_eq_getElem?_getD, List.getElem?_map, List.getElem?_range (by omega)]
  simp only [Option.map_some, Option.getD_some]
  rw [Int.toNat_of_nonneg h0]
theorem dz_tn (j : Int) : (Int32.ofInt j).toNatClampNeg = (dz_c j).toNat := rfl
theorem dz_in {j j' : Int} {n : Nat} (hj : dz_c j = j') (h0 : 0 ≤ j') (h1 : j' < n) : mm_in (Int32.ofInt j) n = true := by
  subst hj
  unfold mm_in
  rw [dz_tn, Bool.and_eq_true, Bool.not_eq_true', decide_eq_false_iff_not]
  refine ⟨fun h => ?_, by rw [Nat.blt_eq]; omega⟩
  have : dz_c j < (0 : Int32).toInt := Int32.lt_iff_toInt_lt.mp h
  simp only [Int32.toInt_zero] at this
  omega
section wq
variable {X : Option (List Int32)} {Dp : Nat} {r : mm_R} {pc pc' n : Nat} {ls ls' : mm_L} {t : List Value} {h h' : mm_H} {Q : Option Value → mm_H → Prop} {i : Instr} {Z : dz_Z} {idx ci c b f k : Nat} {x y z j j' : Int} {fs : List (Nat × Nat)} {w : Int × List (Nat × Nat)}
theorem wq_2 (hat : mm_at r pc = some (i, 1)) (hk : mm_kd i = 1) (hop : mm_s2 i (Int32.ofInt x) (Int32.ofInt y) = some (Int32.ofInt z)) (hp : pc + 1 = pc') (kk : mm_Wp X Dp r pc' ls (dz_I z :: t) h Q) : mm_Wp X Dp r pc ls (dz_I y :: dz_I x :: t) h Q := by
  subst hp
  refine wp_s hat (ls' := ls) (st' := dz_I z :: t) (h' := h) ?_ kk
  unfold mm_go
  rw [hk]
  simp only [hop, Option.map_some]
theorem wq_3 {v v' : Value} (hat : mm_at r pc = some (i, 1)) (hk : mm_kd i = 2) (hop : mm_s3 i v = some v') (hp : pc + 1 = pc') (kk : mm_Wp X Dp r pc' ls (v' :: t) h Q) : mm_Wp X Dp r pc ls (v :: t) h Q := by
  subst hp
  refine wp_s hat (ls' := ls) (st' := v' :: t) (h' := h) ?_ kk
  unfold mm_go
  rw [hk]
  simp only [hop, Option.map_some]
theorem wq_4 {v v' u : Value} (hat : mm_at r pc = some (i, 1)) (hk : mm_kd i = 3) (hop : mm_s4 i v u = some v') (hp : pc + 1 = pc') (kk : mm_Wp X Dp r pc' ls (v' :: t) h Q) : mm_Wp X Dp r pc ls (u :: v :: t) h Q := by
  subst hp
  refine wp_s hat (ls' := ls) (st' := v' :: t) (h' := h) ?_ kk
  unfold mm_go
  rw [hk]
  simp only [hop, Option.map_some]
theorem wq_inc {d : Int} (hat : mm_at r pc = some (.iinc k d, 3)) (hl : mm_ld ls k = some (dz_I x)) (hs : mm_sv ls k (dz_I (x + d)) = some ls') (hp : pc + 3 = pc') (kk : mm_Wp X Dp r pc' ls' t h Q) : mm_Wp X Dp r pc ls t h Q := by
  subst hp
  refine wp_s hat (ls' := ls') (st' := t) (h' := h) ?_ kk
  show (Sum.inl ((mm_s7 (.iinc k d) 3 ls t).map (fun q : mm_L × List Value => (pc + 3, q.1, q.2, h))) : mm_O) = _
  unfold mm_s7
  simp only [hl]
  rw [← Int32.ofInt_add, hs]
  rfl
theorem wq_st (hat : mm_at r pc = some (i, n)) {v : Int32} (hk : mm_kd i = 6) (hi : mm_s7 i n ls (.int v :: t) = (mm_sv ls k (.int v)).map (fun q => (q, t))) (hs : mm_sv ls k (.int v) = some ls') (hp : pc + n = pc') (kk : mm_Wp X Dp r pc' ls' t h Q) : mm_Wp X Dp r pc ls (.int v :: t) h Q := by
  subst hp
  refine wp_s hat (ls' := ls') (st' := t) (h' := h) ?_ kk
  unfold mm_go
  rw [hk]
  simp only [hi, hs, Option.map_some]
theorem wq_sa {F : Int → mm_L} (hat : mm_at r pc = some (i, n)) (hk : mm_kd i = 6) (hi : ∀ z, mm_s7 i n ls (dz_I z :: t) = (mm_sv ls k (dz_I z)).map (fun q => (q, t))) (hs : ∀ z, mm_sv ls k (dz_I z) = some (F z)) (hp : pc + n = pc') (kk : ∀ z, z = x → mm_Wp X Dp r pc' (F z) t h Q) : mm_Wp X Dp r pc ls (dz_I x :: t) h Q := wq_st hat hk (hi x) (hs x) hp (kk x rfl)
theorem wq_if {q : ClassFile.Cond} {off : Int} {v : Int32} {tt : Nat} {p : Prop} [Decidable p] (hat : mm_at r pc = some (.ifCond q off, 3)) (ht : mm_tg pc off = some tt) (hc : mm_cc q v 0 = decide p) (hp : pc + 3 = pc') (kt : p → mm_Wp X Dp r tt ls t h Q) (kf : ¬p → mm_Wp X Dp r pc' ls t h Q) : mm_Wp X Dp r pc ls (.int v :: t) h Q := by
  subst hp
  exact wp_if hat ht (fun e => kt (of_decide_eq_true (hc ▸ e))) (fun e => kf (of_decide_eq_false (hc ▸ e)))
theorem wq_ic {q : ClassFile.Cond} {off : Int} {u v : Int32} {tt : Nat} {p : Prop} [Decidable p] (hat : mm_at r pc = some (.if_icmp q off, 3)) (ht : mm_tg pc off = some tt) (hc : mm_cc q u v = decide p) (hp : pc + 3 = pc') (kt : p → mm_Wp X Dp r tt ls t h Q) (kf : ¬p → mm_Wp X Dp r pc' ls t h Q) : mm_Wp X Dp r pc ls (.int v :: .int u :: t) h Q := by
  subst hp
  exact wp_ic hat ht (fun e => kt (of_decide_eq_true (hc ▸ e))) (fun e => kf (of_decide_eq_false (hc ▸ e)))
-- fields
theorem wq_gi (hat : mm_at r pc = some (.getfield idx, 3)) (hrk : mm_rk r.2.2.2 idx = some (idx, 0, ci, k, w)) (hc : hz_t[c]? = some (.inr (.inl (ci, b, fs)))) (hv : fs[k]? = some (0, k)) (hp : pc + 3 = pc') (kk : mm_Wp X Dp r pc' ls (dz_I (Z b k 0) :: t) (hz_0 Z) Q) : mm_Wp X Dp r pc ls (.ref c :: t) (hz_0 Z) Q :=
  wp_gf hat hrk (hz_g hc) (by show (fs.map (hz_v Z b))[k]? = _; rw [List.getElem?_map, hv]; rfl) hp kk
theorem wq_gr {a : Nat} (hat : mm_at r pc = some (.getfield idx, 3)) (hrk : mm_rk r.2.2.2 idx = some (idx, 0, ci, k, w)) (hc : hz_t[c]? = some (.inr (.inl (ci, b, fs)))) (hv : fs[k]? = some (1, a)) (hp : pc + 3 = pc') (kk : mm_Wp X Dp r pc' ls (.ref a :: t) (hz_0 Z) Q) : mm_Wp X Dp r pc ls (.ref c :: t) (hz_0 Z) Q :=
  wp_gf hat hrk (hz_g hc) (by show (fs.map (hz_v Z b))[k]? = _; rw [List.getElem?_map, hv]; rfl) hp kk
theorem wq_gd (hat : mm_at r pc = some (.getfield idx, 3)) (hrk : mm_rk r.2.2.2 idx = some (idx, 0, ci, k, w)) (hc : hz_t[c]? = some (.inr (.inl (ci, b, fs)))) (hv : fs[k]? = some (2, k)) (hp : pc + 3 = pc') (kk : mm_Wp X Dp r pc' ls (.ref (Z b k 0).toNat :: t) (hz_0 Z) Q) : mm_Wp X Dp r pc ls (.ref c :: t) (hz_0 Z) Q :=
  wp_gf hat hrk (hz_g hc) (by show (fs.map (hz_v Z b))[k]? = _; rw [List.getElem?_map, hv]; rfl) hp kk
theorem hz_ob {v : Value} {u : Nat} (hu : u ≠ 1) (hnd : ∀ (j : Nat) (p : Nat × Nat), fs[j]? = some p → p.1 ≠ 1 → p.2 = j) (hv : fs[k]? = some (u, k)) (hx : hz_v (dz_u Z b k 0 x) b (u, k) = v) : (fs.map (hz_v Z b)).set k v = fs.map (hz_v (dz_u Z b k 0 x) b) := by
  apply List.ext_getElem?
  intro j
  rw [List.getElem?_set]
  by_cases hj : k = j
  · subst hj
    rw [if_pos rfl, List.getElem?_map, hv, if_pos (by rw [List.length_map]; exact (List.getElem?_eq_some_iff.mp hv).1)]
    simp only [Option.map_some, hx]
  · rw [if_neg hj, List.getElem?_map, List.getElem?_map]
    cases hq : fs[j]? with
    | none => rfl
    | some p =>
      simp only [Option.map_some, Option.some.injEq]
      by_cases h1 : p.1 = 1
      · unfold hz_v; rw [h1]; rfl
      · have e := hnd j p hq h1
        unfold hz_v
        rw [dz_uo b p.2 (fun q => hj (by omega))]
theorem hz_mo {u : Nat} (hu : u ≠ 1) (hv : fs[k]? = some (u, k)) : hz_m b k (.inr (.inl (ci, b, fs))) = true := by
  unfold hz_m hz_l
  rw [List.any_eq_true]
  refine ⟨(b, k), List.mem_map.mpr ⟨(u, k), List.mem_filter.mpr ⟨List.mem_of_getElem? hv, ?_⟩, rfl⟩, by simp [Nat.beq_refl]⟩
  cases hb : Nat.beq u 1 with
  | false => rfl
  | true => exact absurd (Nat.eq_of_beq_eq_true hb) hu
def hz_nd (fs : List (Nat × Nat)) : Bool := (List.range fs.length).all (fun j => match fs[j]? with
  | some p => Nat.beq p.1 1 || Nat.beq p.2 j
  | none => true)
theorem hz_ndp (hb : hz_nd fs = true) : ∀ (j : Nat) (p : Nat × Nat), fs[j]? = some p → p.1 ≠ 1 → p.2 = j := by
  intro j p hj hp
  unfold hz_nd at hb
  rw [List.all_eq_true] at hb
  have := hb j (List.mem_range.mpr (List.getElem?_eq_some_iff.mp hj).1)
  rw [hj] at this
  simp only [Bool.or_eq_true] at this
  rcases this with h1 | h1
  · exact absurd (Nat.eq_of_beq_eq_true h1) hp
  · exact Nat.eq_of_beq_eq_true h1
theorem wq_pi {fin : Nat} {ps : List (Nat × Nat)} (hat : mm_at r pc = some (.putfield idx, 3)) (hrk : mm_rk r.2.2.2 idx = some (idx, 0, ci, k, .ofNat fin, ps)) (hfin : Nat.ble 2 fin = false) (hc : hz_t[c]? = some (.inr (.inl (ci, b, fs)))) (hfit : mm_fit (mm_ft ci k) (dz_I x) = true) (hv : fs[k]? = some (0, k)) (hb : hz_nd fs = true) (hp : pc + 3 = pc') (kk : ∀ Z', Z' = dz_u Z b k 0 x → mm_Wp X Dp r pc' ls t (hz_0 Z') Q) : mm_Wp X Dp r pc ls (dz_I x :: .ref c :: t) (hz_0 Z) Q := by
  refine wp_pf hat hrk hfin (hz_g hc) ?_ hfit (hz_ob (by decide) (hz_ndp hb) hv (by unfold hz_v dz_u; simp)) (hz_s (Z' := dz_u Z b k 0 x) hc (hz_mo (by decide) hv) dz_uo) hp (kk _ rfl)
  rw [Nat.blt_eq, List.length_map]
  exact (List.getElem?_eq_some_iff.mp hv).1
theorem wq_pr {a : Nat} {fin : Nat} {ps : List (Nat × Nat)} (hat : mm_at r pc = some (.putfield idx, 3)) (hrk : mm_rk r.2.2.2 idx = some (idx, 0, ci, k, .ofNat fin, ps)) (hfin : Nat.ble 2 fin = false) (hc : hz_t[c]? = some (.inr (.inl (ci, b, fs)))) (hfit : mm_fit (mm_ft ci k) (.ref a) = true) (hv : fs[k]? = some (2, k)) (hb : hz_nd fs = true) (hp : pc + 3 = pc') (kk : ∀ Z', Z' = dz_u Z b k 0 (a : Int) → mm_Wp X Dp r pc' ls t (hz_0 Z') Q) : mm_Wp X Dp r pc ls (.ref a :: .ref c :: t) (hz_0 Z) Q := by
  refine wp_pf hat hrk hfin (hz_g hc) ?_ hfit (hz_ob (by decide) (hz_ndp hb) hv (by unfold hz_v dz_u; simp)) (hz_s (Z' := dz_u Z b k 0 (a : Int)) hc (hz_mo (by decide) hv) dz_uo) hp (kk _ rfl)
  rw [Nat.blt_eq, List.length_map]
  exact (List.getElem?_eq_some_iff.mp hv).1
-- arrays
theorem hz_ma {tag n : Nat} : hz_m b f (.inl (tag, b, f, n)) = true := by unfold hz_m hz_l; simp [Nat.beq_refl]
theorem wq_ia (hat : mm_at r pc = some (.iaload, 1)) (hc : hz_t[c]? = some (.inl (0, b, f, n))) (hj : dz_c j = j') (h0 : 0 ≤ j') (h1 : j' < (n : Int)) (hp : pc + 1 = pc') (kk : mm_Wp X Dp r pc' ls (dz_I (Z b f j') :: t) (hz_0 Z) Q) : mm_Wp X Dp r pc ls (dz_I j :: .ref c :: t) (hz_0 Z) Q :=
  wp_ia hat (hz_g hc) (by rw [dz_wn]; exact dz_in hj h0 h1) (by rw [dz_tn, hj]; exact dz_wg h0 h1) hp kk
theorem wq_ba {tag : Nat} (hat : mm_at r pc = some (.baload, 1)) (htg : tag = 2 ∨ tag = 3) (hc : hz_t[c]? = some (.inl (tag, b, f, n))) (hj : dz_c j = j') (h0 : 0 ≤ j') (h1 : j' < (n : Int)) (hp : pc + 1 = pc') (kk : mm_Wp X Dp r pc' ls (dz_I (Z b f j') :: t) (hz_0 Z) Q) : mm_Wp X Dp r pc ls (dz_I j :: .ref c :: t) (hz_0 Z) Q := by
  refine wp_ba (l := dz_w n (Z b f)) hat ?_ (by rw [dz_wn]; exact dz_in hj h0 h1) (by rw [dz_tn, hj]; exact dz_wg h0 h1) hp kk
  rcases htg with rfl | rfl
  · exact Or.inl (hz_g hc)
  · exact Or.inr (hz_g hc)
theorem wq_la (hat : mm_at r pc = some (.laload, 1)) (hc : hz_t[c]? = some (.inl (1, b, f, n))) (hj : dz_c j = j') (h0 : 0 ≤ j') (h1 : j' < (n : Int)) (hp : pc + 1 = pc') (kk : mm_Wp X Dp r pc' ls (dz_J (Z b f j') :: t) (hz_0 Z) Q) : mm_Wp X Dp r pc ls (dz_I j :: .ref c :: t) (hz_0 Z) Q :=
  wp_la hat (hz_g hc) (by rw [dz_xn]; exact dz_in hj h0 h1) (by rw [dz_tn, hj]; exact dz_xg h0 h1) hp kk
theorem wq_aa {tag a : Nat} {l : List Nat} (hat : mm_at r pc = some (.aaload, 1)) (htg : tag = 4 ∨ tag = 5 ∨ tag = 6) (hc : hz_t[c]? = some (.inr (.inr (tag, l)))) (hj : dz_c j = j') (h0 : 0 ≤ j') (h1 : j' < (l.length : Int)) (ha : l[j'.toNat]? = some a) (hp : pc + 1 = pc') (kk : mm_Wp X Dp r pc' ls (.ref a :: t) (hz_0 Z) Q) : mm_Wp X Dp r pc ls (dz_I j :: .ref c :: t) (hz_0 Z) Q :=
  wp_aa hat htg (hz_g hc) (by rw [List.length_map]; exact dz_in hj h0 h1) (by rw [dz_tn, hj, List.getD_eq_getElem?_getD, List.getElem?_map, ha]; rfl) hp kk
theorem wq_is (hat : mm_at r pc = some (.iastore, 1)) (hc : hz_t[c]? = some (.inl (0, b, f, n))) (hj : dz_c j = j') (h0 : 0 ≤ j') (h1 : j' < (n : Int)) (hp : pc + 1 = pc') (kk : ∀ Z', Z' = dz_u Z b f j' x → mm_Wp X Dp r pc' ls t (hz_0 Z') Q) : mm_Wp X Dp r pc ls (dz_I x :: dz_I j :: .ref c :: t) (hz_0 Z) Q :=
  wp_is hat (hz_g hc) (by rw [dz_wn]; exact dz_in hj h0 h1) (by rw [dz_tn, hj]; exact dz_ws h0) (hz_s (Z' := dz_u Z b f j' x) hc hz_ma dz_uo) hp (kk _ rfl)
theorem wq_bs (hat : mm_at r pc = some (.bastore, 1)) (hc : hz_t[c]? = some (.inl (2, b, f, n))) (hj : dz_c j = j') (h0 : 0 ≤ j') (h1 : j' < (n : Int)) (hp : pc + 1 = pc') (kk : ∀ Z', Z' = dz_u Z b f j' (dz_b x) → mm_Wp X Dp r pc' ls t (hz_0 Z') Q) : mm_Wp X Dp r pc ls (dz_I x :: dz_I j :: .ref c :: t) (hz_0 Z) Q :=
  wp_bs hat (hz_g hc) (by rw [dz_wn]; exact dz_in hj h0 h1) (by rw [dz_tn, hj, ← dz_oc (Int32.ofInt x).toInt8.toInt32]; exact dz_ws h0) (hz_s (Z' := dz_u Z b f j' (dz_b x)) hc hz_ma dz_uo) hp (kk _ rfl)
theorem wq_zs (hat : mm_at r pc = some (.bastore, 1)) (hc : hz_t[c]? = some (.inl (3, b, f, n))) (hx : Int32.ofInt x &&& 1 = Int32.ofInt x) (hj : dz_c j = j') (h0 : 0 ≤ j') (h1 : j' < (n : Int)) (hp : pc + 1 = pc') (kk : ∀ Z', Z' = dz_u Z b f j' x → mm_Wp X Dp r pc' ls t (hz_0 Z') Q) : mm_Wp X Dp r pc ls (dz_I x :: dz_I j :: .ref c :: t) (hz_0 Z) Q :=
  wp_zs hat (hz_g hc) (by rw [dz_wn]; exact dz_in hj h0 h1) (by rw [dz_tn, hj, hx]; exact dz_ws h0) (hz_s (Z' := dz_u Z b f j' x) hc hz_ma dz_uo) hp (kk _ rfl)
theorem wq_ls (hat : mm_at r pc = some (.lastore, 1)) (hc : hz_t[c]? = some (.inl (1, b, f, n))) (hj : dz_c j = j') (h0 : 0 ≤ j') (h1 : j' < (n : Int)) (hp : pc + 1 = pc') (kk : ∀ Z', Z' = dz_u Z b f j' x → mm_Wp X Dp r pc' ls t (hz_0 Z') Q) : mm_Wp X Dp r pc ls (dz_J x :: dz_I j :: .ref c :: t) (hz_0 Z) Q :=
  wp_lst hat (hz_g hc) (by rw [dz_xn]; exact dz_in hj h0 h1) (by rw [dz_tn, hj]; exact dz_xs h0) (hz_s (Z' := dz_u Z b f j' x) hc hz_ma dz_uo) hp (kk _ rfl)
theorem wq_al (hat : mm_at r pc = some (.arraylength, 1)) {tag : Nat} (htg : tag = 0 ∨ tag = 1) (hc : hz_t[c]? = some (.inl (tag, b, f, n))) (hp : pc + 1 = pc') (kk : mm_Wp X Dp r pc' ls (dz_I (n : Int) :: t) (hz_0 Z) Q) : mm_Wp X Dp r pc ls (.ref c :: t) (hz_0 Z) Q := by
  subst hp
  refine wp_s hat (ls' := ls) (st' := dz_I (n : Int) :: t) (h' := hz_0 Z) ?_ kk
  have e : mm_g1 X .arraylength (.ref c :: t) (hz_0 Z) = some (dz_I (n : Int) :: t) := by
    unfold mm_g1
    rcases htg with rfl | rfl
    · have := hz_g (Z := Z) hc
      simp only [this, hz_c, dz_wn]
      rfl
    · have := hz_g (Z := Z) hc
      simp only [this, hz_c, dz_xn]
      rfl
  show (match mm_g1 X .arraylength (.ref c :: t) (hz_0 Z) with | some t => (.inl (some (pc + 1, ls, t, hz_0 Z)) : mm_O) | none => .inl ((mm_g2 .arraylength (.ref c :: t) (hz_0 Z)).map (fun q : List Value × mm_H => (pc + 1, ls, q.1, q.2)))) = _
  rw [e]
theorem hz_cpw {n : Nat} {g g' : Int → Int} : mm_cp (dz_w n g) (dz_w n g') 0 0 n = dz_w n g := by
  unfold mm_cp
  rw [List.take_zero, List.nil_append, List.drop_zero, List.take_of_length_le (by rw [dz_wn]; exact Nat.le_refl _), Nat.zero_add, List.drop_of_length_le (by rw [dz_wn]; exact Nat.le_refl _), List.append_nil]
theorem hz_cpx {n : Nat} {g g' : Int → Int} : mm_cp (dz_x n g) (dz_x n g') 0 0 n = dz_x n g := by
  unfold mm_cp
  rw [List.take_zero, List.nil_append, List.drop_zero, List.take_of_length_le (by rw [dz_xn]; exact Nat.le_refl _), Nat.zero_add, List.drop_of_length_le (by rw [dz_xn]; exact Nat.le_refl _), List.append_nil]
theorem dz_fe {g : Int → Int} : dz_f Z b f g b f = g := by funext i'; unfold dz_f; simp
theorem wq_cp {c2 b2 f2 tag : Nat} {y2 : Nat} (hat : mm_at r pc = some (.invokestatic idx, 3)) (hrk : mm_rk r.2.2.2 idx = some (idx, 12, y2, k, w)) (htg : tag = 0 ∨ tag = 1) (hc : hz_t[c]? = some (.inl (tag, b, f, n))) (hc2 : hz_t[c2]? = some (.inl (tag, b2, f2, n))) (hn : dz_c (n : Int) = (n : Int)) (hw : Nat.ble (mm_wt t) 8 = true) (hp : pc + 3 = pc') (kk : ∀ Z', Z' = dz_f Z b2 f2 (Z b f) → mm_Wp X (Dp + 1) r pc' ls t (hz_0 Z') Q) : mm_Wp X (Dp + 1) r pc ls (dz_I (n : Int) :: dz_I 0 :: .ref c2 :: dz_I 0 :: .ref c :: t) (hz_0 Z) Q := by
  subst hp
  refine wp_s hat (ls' := ls) (st' := t) (h' := hz_0 (dz_f Z b2 f2 (Z b f))) ?_ (kk _ rfl)
  have e : mm_ac (dz_I (n : Int) :: dz_I 0 :: .ref c2 :: dz_I 0 :: .ref c :: t) (hz_0 Z) = some (t, hz_0 (dz_f Z b2 f2 (Z b f))) := by
    unfold mm_ac
    have h0 : decide (Int32.ofInt 0 < 0) = false := by decide
    have hn0 : decide (Int32.ofInt (n : Int) < 0) = false := by
      rw [decide_eq_false_iff_not]
      intro hlt
      have : dz_c (n : Int) < (0 : Int32).toInt := Int32.lt_iff_toInt_lt.mp hlt
      rw [hn, Int32.toInt_zero] at this
      omega
    have e1 := hz_g (Z := Z) hc
    have e2 := hz_g (Z := Z) hc2
    have ez : (Int32.ofInt 0).toNatClampNeg = 0 := rfl
    have eb : Nat.ble n n = true := Nat.ble_eq.mpr (Nat.le_refl n)
    have en : (Int32.ofInt (n : Int)).toNatClampNeg = n := by rw [dz_tn, hn]; omega
    rcases htg with rfl | rfl
    · simp only [hz_c] at e1 e2
      simp only [h0, hn0, hw, Bool.not_false, Bool.and_true, cond_true, e1, e2, ez, en, Nat.zero_add, dz_wn, eb, hz_cpw]
      rw [← hz_s (Z := Z) (Z' := dz_f Z b2 f2 (Z b f)) hc2 hz_ma dz_fo]
      simp only [hz_c, dz_fe]
    · simp only [hz_c] at e1 e2
      simp only [h0, hn0, hw, Bool.not_false, Bool.and_true, cond_true, e1, e2, ez, en, Nat.zero_add, dz_xn, eb, hz_cpx]
      rw [← hz_s (Z := Z) (Z' := dz_f Z b2 f2 (Z b f)) hc2 hz_ma dz_fo]
      simp only [hz_c, dz_fe]
  show mm_iv (Dp + 1) r (.invokestatic idx) pc ls _ _ = _
  unfold mm_iv
  simp only [hrk, e, Option.map_some]
-- calls
theorem wq_cv {r' : mm_R} {Dq mj : Nat} {as0 rest : List Value} {ls' : mm_L} (hat : mm_at r pc = some (.invokevirtual idx, 3)) (hrk : mm_rk r.2.2.2 idx = some (idx, 1, mj, ci, w)) (hmr : mm_rs[mj]? = some r') (htk : mm_tk r'.1.2.2.2.2.1 [] t = some (as0, .ref c :: rest)) (hc : hz_t[c]? = some (.inr (.inl (ci, b, fs)))) (hmk : mm_mk Dq r' (.ref c :: as0) rest = .inr (.inr (Dq, r', .ref c :: as0, rest))) (he : mm_en r' (.ref c :: as0) = ls') (hp : pc + 3 = pc') (kk : mm_Wp X Dq r' 0 ls' [] (hz_0 Z) (fun v1 h1 => mm_Wp X (Dq + 1) r pc' ls (v1.toList ++ rest) h1 Q)) : mm_Wp X (Dq + 1) r pc ls t (hz_0 Z) Q :=
  wp_cv hat hrk hmr htk (hz_g hc) hmk he hp kk
theorem wq_cs {r' : mm_R} {Dq mj kd z : Nat} {as0 rest : List Value} {ls' : mm_L} (hat : mm_at r pc = some (.invokestatic idx, 3)) (hrk : mm_rk r.2.2.2 idx = some (idx, kd, mj, z, w)) (hkd : kd = 2 ∨ kd = 5) (hmr : mm_rs[mj]? = some r') (htk : mm_tk r'.1.2.2.2.2.1 [] t = some (as0, rest)) (hmk : mm_mk Dq r' as0 rest = .inr (.inr (Dq, r', as0, rest))) (he : mm_en r' as0 = ls') (hp : pc + 3 = pc') (kk : mm_Wp X Dq r' 0 ls' [] h (fun v1 h1 => mm_Wp X (Dq + 1) r pc' ls (v1.toList ++ rest) h1 Q)) : mm_Wp X (Dq + 1) r pc ls t h Q := by
  subst hp
  refine wp_c hat (Dq := Dq) (r' := r') (as := as0) (rest := rest) ?_ he kk
  show mm_iv (Dq + 1) r (.invokestatic idx) pc ls t h = _
  unfold mm_iv mm_cl
  rcases hkd with rfl | rfl
  · simp only [hrk, hmr, htk, Nat.beq_refl, Bool.true_or, cond_true, cond_false]
    exact hmk
  · simp only [hrk, hmr, htk, Nat.beq_refl, Bool.or_true, cond_true, cond_false]
    exact hmk
/-- a call on a text -/
theorem wq_ct {r' : mm_R} {Dq mj a : Nat} {as0 rest : List Value} {ls' : mm_L} (hat : mm_at r pc = some (.invokevirtual idx, 3)) (hrk : mm_rk r.2.2.2 idx = some (idx, 1, mj, 1000, w)) (hmr : mm_rs[mj]? = some r') (htk : mm_tk r'.1.2.2.2.2.1 [] t = some (as0, .retAddr a :: rest)) (hx : mm_tx a = true) (hmk : mm_mk Dq r' (.retAddr a :: as0) rest = .inr (.inr (Dq, r', .retAddr a :: as0, rest))) (he : mm_en r' (.retAddr a :: as0) = ls') (hp : pc + 3 = pc') (kk : mm_Wp X Dq r' 0 ls' [] h (fun v1 h1 => mm_Wp X (Dq + 1) r pc' ls (v1.toList ++ rest) h1 Q)) : mm_Wp X (Dq + 1) r pc ls t h Q := by
  subst hp
  refine wp_c hat (Dq := Dq) (r' := r') (as := .retAddr a :: as0) (rest := rest) ?_ he kk
  show mm_cl (Dq + 1) r idx t (fun k => Nat.beq k 1) true h = _
  unfold mm_cl
  simp only [hrk, hmr, htk, hx, Nat.beq_refl, Bool.and_true, cond_true]
  exact hmk
-- answers
theorem wq_ri (hat : mm_at r pc = some (.ireturn, 1)) (hty : r.1.2.2.2.1 = some .int) (kk : Q (some (dz_I x)) h) : mm_Wp X Dp r pc ls [dz_I x] h Q := by
  refine wp_r hat (v := some (dz_I x)) ?_ kk
  show (match 1, mm_rt r.1.2.2.2.1 .ireturn [dz_I x] with | 1, some v => (.inr (.inl v) : mm_O) | _, _ => .inl none) = _
  rw [hty]
  rfl
theorem wq_rb {e : Bool} (hat : mm_at r pc = some (.ireturn, 1)) (hty : r.1.2.2.2.1 = some .boolean) (kk : Q (some (dz_B e)) h) : mm_Wp X Dp r pc ls [dz_B e] h Q := by
  refine wp_r hat (v := some (dz_B e)) ?_ kk
  show (match 1, mm_rt r.1.2.2.2.1 .ireturn [dz_B e] with | 1, some v => (.inr (.inl v) : mm_O) | _, _ => .inl none) = _
  rw [hty]
  cases e <;> rfl
theorem wq_rt (hat : mm_at r pc = some (.ireturn, 1)) (hty : r.1.2.2.2.1 = some .boolean) (kk : Q (some (dz_B true)) h) : mm_Wp X Dp r pc ls [dz_I 1] h Q := wq_rb (e := true) hat hty kk
theorem wq_rf (hat : mm_at r pc = some (.ireturn, 1)) (hty : r.1.2.2.2.1 = some .boolean) (kk : Q (some (dz_B false)) h) : mm_Wp X Dp r pc ls [dz_I 0] h Q := wq_rb (e := false) hat hty kk
theorem wq_rv (hat : mm_at r pc = some (.return_, 1)) (hty : r.1.2.2.2.1 = none) (kk : Q none h) : mm_Wp X Dp r pc ls [] h Q := by
  refine wp_r hat (v := none) ?_ kk
  show (match 1, mm_rt r.1.2.2.2.1 .return_ [] with | 1, some v => (.inr (.inl v) : mm_O) | _, _ => .inl none) = _
  rw [hty]
  rfl
end wq
