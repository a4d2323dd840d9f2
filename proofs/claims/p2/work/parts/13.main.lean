/-! the runs -/
section mmK
variable {l : Launch} {D : va_G} {dA : Nat → ClassId} {B : Nat} {b0 : mm_X} {H0 : Heap} {X : Option (List Int32)}
theorem mm_run (hall : ∀ (mj : Nat) (r' : mm_R), mm_rs[mj]? = some r' → mm_GoodC r') : ∀ (f Dp : Nat) (r : mm_R) (pc : Nat) (ls : mm_L) (st : List Value) (h : mm_H) (v : Option Value) (h' : mm_H), mm_Good r → mm_x X f Dp r pc ls st h = some (v, h') → mm_OK l D dA B b0 H0 X Dp r pc ls st h v h'
  | 0, _, _, _, _, _, _, _, _, _, hx => by cases hx
  | f + 1, Dp, r, pc, ls, st, h, v, h', hg, hx => by
    unfold mm_x at hx
    split at hx
    · cases hx
    · next i n hat =>
      split at hx
      · cases hx
      · next pc' ls' st' h1 hgo =>
        intro p e R s m args below meth c Q n0 s0 H locs cells slots real C hfr hlo S hl hls hc1 hc2 K
        have hmono := mm_x_mono f _ _ _ _ _ _ _ _ hx
        exact mm_step_ok hg C hat hgo hfr hlo S hl hls (by omega) (by omega) (fun H' locs' cells' slots' real' S' hl' hls' => mm_run hall f Dp r pc' ls' st' h1 v h' hg hx p e R s m args below meth c Q n0 s0 H' locs' cells' slots' real' C hfr hlo S' hl' hls' hc1 hc2 K)
      · next v0 hgo =>
        cases hx
        obtain ⟨rfl, hrt⟩ := mm_go_ret hgo
        intro p e R s m args below meth c Q n0 s0 H locs cells slots real C hfr hlo S hl hls hc1 hc2 K
        exact K _ _ _ _ _ _ _ _ hat hrt S
      · next Dq r' as rest hgo =>
        split at hx
        · cases hx
        · next v1 h1 hc =>
          intro p e R s m args below meth c Q n0 s0 H locs cells slots real C hfr hlo S hl hls hc1 hc2 K
          obtain ⟨rfl, idx, hcase⟩ := mm_go_call hgo
          have hmono1 := mm_x_mono f _ _ _ _ _ _ _ _ hc
          have hmono2 := mm_x_mono f _ _ _ _ _ _ _ _ hx
          have hS1 := S.2.2.1
          have hS2 := S.2.2.2
          have hf : cells + (h1.length - h.length) ≤ R.cells ∧ slots + (mm_sz h1 - mm_sz h) ≤ R.slots := ⟨by omega, by omega⟩
          have hnext := fun H' locs' cells' slots' (S' : mm_CF D dA B b0 H0 n0 s0 H' locs' cells' slots' h1) => mm_run hall f Dp r (pc + 3) ls (v1.toList ++ rest) h1 v h' hg hx p e R s m args below meth c Q n0 s0 H' locs' cells' slots' real C hfr hlo S' hl hls hc1 hc2 K
          obtain ⟨hxx, hb, hml, hret, hlocks, hnm, hown, hts, hG⟩ := C
          have hd := hg.1 _ _ _ hat
          have hfix : CallFix p m c r.1.2.1 r.1.2.2.1 s args mm_W r.2.1 := ⟨hxx, hb, hml, hown, hts⟩
          have hsize : real.size = r.1.2.2.1 := by rw [← hls]; exact hl.1
          have hPc : ∀ (as' : List Value) (U : State), U.heap = H → s.WarmedH U.vm → mm_Pc D dA B b0 H0 X as' h (as'.map (mm_mv B b0)).toArray U := fun as' U hU hW => ⟨rfl, by rw [hU]; exact S.1, hG.warm hW⟩
          rcases hcase with ⟨rfl, hcall⟩ | ⟨rfl, hcall⟩ | ⟨rfl, hcall⟩
          · obtain ⟨k, mj, b, vv, ps, hmem, hwant, hr0, hDp, m1, m2, hargs⟩ := hcall
            have hgC := hall mj r' hr0
            have hM := mm_met (l := l) (D := D) (dA := dA) (B := B) (b0 := b0) (H0 := H0) (X := X) hgC m1 hmono1 (mm_run hall f Dq r' 0 (mm_en r' as) [] h v1 h1 hgC.1 hc)
            have hk := Nat.eq_of_beq_eq_true hwant
            subst hk
            have hek : mm_e1 r idx mj b ps = true := hg.2 _ hmem
            unfold mm_e1 at hek
            rw [hr0] at hek
            rcases hargs with ⟨-, a, xs, cj, fs, rfl, rfl, hxl, ha, hcj⟩ | ⟨-, a, xs, rfl, rfl, hxl, htx, -, rfl⟩ | ⟨h0, -⟩
            · have := hcj rfl
              subst this
              split at hek
              · next y q0 hy hq0 =>
                cases hy
                obtain ⟨q, hq, hqn⟩ : ∃ q, vwCl[cj]? = some q ∧ q.1 = q0 := by
                  have hcj2 : cj < 11 := by
                    obtain ⟨r9, h9, -⟩ := S.1.2.1 _ _ ha
                    have := mm_lt h9
                    simpa [vwCl] using this
                  unfold mm_cn at hq0
                  split at hq0
                  · omega
                  · exact mm_map_s hq0
                subst hqn
                simp only [Bool.and_eq_true, decide_eq_true_eq, Bool.not_eq_true', decide_eq_false_iff_not] at hek
                obtain ⟨⟨⟨hw, hcls⟩, hst⟩, hni⟩ := hek
                have hlink := hts _ (mm_one hw (by first | rfl | simp [goodWord, Cond.onTables, Cond.keeps, Cond.steady]))
                have hinst := hgC.2.2.2.2.2.2.2.2 hst
                have hrecv := va_recv (q0 := 0) (a := B + a) (fs := fs.map (mm_mv B b0)) hG.1 (mm_P1 (S.1.2.1 _ _ ha)) hq rfl
                rw [hcls] at hrecv
                have cb : CallB R s args r.2.1 idx r'.1.1 r'.1.2.1 r'.1.2.2.1 r'.1.2.2.2.1 (mm_ws r') (mm_rm Dq (h1.length - h.length) (mm_sz h1 - mm_sz h)) (h1.length - h.length) (mm_sz h1 - mm_sz h) r'.1.2.2.2.2.1 :=
                  callB_of _ hts (mm_goodIn hgC) rfl rfl rfl (hts _ hgC.2.2.2.2.2.2.1) hlink hgC.2.2.1 ⟨by show Dq + 1 ≤ _; omega, by have := hgC.2.2.2.1; show 8 + (_ + 11) + 35 * Dq ≤ _; omega⟩
                refine mm_after S hmono1 (rest := rest) (va_runV (b := B + a) (As := xs.map (mm_mv B b0)) hfix hM ⟨cb, hts _ hinst.1, hts _ (hinst.2 hni)⟩ ⟨mm_blind, hrecv, fun U hU hW => hPc (.ref a :: xs) U hU hW⟩ rfl (by rw [List.length_map]; exact hxl) hsize ?_ ?_ hd hf) hnext
                · show List.map (mm_mv B b0) _ = _
                  rw [List.map_append, List.map_reverse]
                  rfl
                · exact lv_room (by rw [mm_wt_s]; exact m2)
              · cases hek
            · split at hek
              · next y q0 hy hq0 =>
                cases hy
                cases hq0
                simp only [Bool.and_eq_true, decide_eq_true_eq, Bool.not_eq_true', decide_eq_false_iff_not] at hek
                obtain ⟨⟨⟨hw, hcls⟩, hst⟩, hni⟩ := hek
                have hlink := hts _ (mm_one hw (by first | rfl | simp [goodWord, Cond.onTables, Cond.keeps, Cond.steady]))
                have hinst := hgC.2.2.2.2.2.2.2.2 hst
                obtain ⟨i1, q, l0, rfl, hq, hl0⟩ := mm_tx_s htx
                obtain ⟨⟨cell, z1, z2, z3, z4⟩, -⟩ := hG.2.2.1.2.2.2.1 i1 q l0 hq hl0
                have hrecv : ∃ cell : Cell, H[b0.1 (1 + i1)]? = some cell ∧ cell.vm.isStatics = false ∧ s.vm.findClass r'.1.1.cls = some cell.cls := ⟨cell, by rw [S.1.2.2 _ (Nat.not_le.mp z4)]; exact z1, z2, by rw [← hcls]; exact z3⟩
                have cb : CallB R s args r.2.1 idx r'.1.1 r'.1.2.1 r'.1.2.2.1 r'.1.2.2.2.1 (mm_ws r') (mm_rm Dq (h1.length - h.length) (mm_sz h1 - mm_sz h)) (h1.length - h.length) (mm_sz h1 - mm_sz h) r'.1.2.2.2.2.1 :=
                  callB_of _ hts (mm_goodIn hgC) rfl rfl rfl (hts _ hgC.2.2.2.2.2.2.1) hlink hgC.2.2.1 ⟨by show Dq + 1 ≤ _; omega, by have := hgC.2.2.2.1; show 8 + (_ + 11) + 35 * Dq ≤ _; omega⟩
                refine mm_after S hmono1 (rest := rest) (va_runV (b := b0.1 (1 + i1)) (As := xs.map (mm_mv B b0)) hfix hM ⟨cb, hts _ hinst.1, hts _ (hinst.2 hni)⟩ ⟨mm_blind, hrecv, fun U hU hW => hPc (.retAddr (1 + i1) :: xs) U hU hW⟩ rfl (by rw [List.length_map]; exact hxl) hsize ?_ ?_ hd hf) hnext
                · show List.map (mm_mv B b0) _ = _
                  rw [List.map_append, List.map_reverse]
                  rfl
                · exact lv_room (by rw [mm_wt_s]; exact m2)
              · cases hek
            · cases h0
          · obtain ⟨k, mj, b, vv, ps, hmem, hwant, hr0, hDp, m1, m2, hargs⟩ := hcall
            have hgC := hall mj r' hr0
            have hM := mm_met (l := l) (D := D) (dA := dA) (B := B) (b0 := b0) (H0 := H0) (X := X) hgC m1 hmono1 (mm_run hall f Dq r' 0 (mm_en r' as) [] h v1 h1 hgC.1 hc)
            rcases hargs with ⟨-, a, xs, cj, fs, rfl, rfl, hxl, ha, -⟩ | ⟨-, a, xs, rfl, rfl, hxl, htx, hk1, -⟩ | ⟨h0, -⟩
            · simp only [Bool.or_eq_true] at hwant
              have hroom : (mm_rm Dq (h1.length - h.length) (mm_sz h1 - mm_sz h)).frames + 1 ≤ R.frames ∧ 8 + (r'.1.2.2.1 + 11) + (mm_rm Dq (h1.length - h.length) (mm_sz h1 - mm_sz h)).locals ≤ R.locals := ⟨by show Dq + 1 ≤ _; omega, by have := hgC.2.2.2.1; show 8 + (_ + 11) + 35 * Dq ≤ _; omega⟩
              have hstk : (List.map (mm_mv B b0) (xs.reverse ++ .ref a :: rest)) = (xs.map (mm_mv B b0)).reverse ++ .ref (B + a) :: rest.map (mm_mv B b0) := by
                rw [List.map_append, List.map_reverse]
                rfl
              rcases hwant with hk | hk
              · have hk := Nat.eq_of_beq_eq_true hk
                subst hk
                have hek : mm_e3 r idx mj ps = true := hg.2 _ hmem
                unfold mm_e3 at hek
                rw [hr0] at hek
                simp only [Bool.and_eq_true, decide_eq_true_eq, Bool.not_eq_true'] at hek
                obtain ⟨⟨⟨hw, hst⟩, hni⟩, hno⟩ := hek
                have hrn : r'.1.2.2.2.1 = none := by simpa using hno
                have hlink := hts _ (mm_one hw (by first | rfl | simp [goodWord, Cond.onTables, Cond.keeps, Cond.steady]))
                have hinst := hgC.2.2.2.2.2.2.2.2 hst
                have cb : CallB R s args r.2.1 idx r'.1.1 r'.1.2.1 r'.1.2.2.1 none (mm_ws r') (mm_rm Dq (h1.length - h.length) (mm_sz h1 - mm_sz h)) (h1.length - h.length) (mm_sz h1 - mm_sz h) r'.1.2.2.2.2.1 :=
                  callB_of (ws' := mm_W) _ hts (mm_goodIn hgC) (by unfold mm_ws; rw [hrn]) rfl rfl (hts _ hgC.2.2.2.2.2.2.1) hlink hgC.2.2.1 hroom
                exact mm_after S hmono1 (rest := rest) (va_runI (b := B + a) (As := xs.map (mm_mv B b0)) hfix hM ⟨cb, hni, hts _ hinst.1⟩ ⟨mm_blind, fun U hU hW => hPc (.ref a :: xs) U hU hW⟩ rfl (by rw [List.length_map]; exact hxl) hsize hstk (lv_room (by rw [mm_wt_s]; exact m2)) hd hf) hnext
              · have hk := Nat.eq_of_beq_eq_true hk
                subst hk
                have hek : mm_e4 r idx mj vv = true := hg.2 _ hmem
                unfold mm_e4 at hek
                rw [hr0] at hek
                simp only [Bool.and_eq_true, decide_eq_true_eq, Bool.not_eq_true'] at hek
                obtain ⟨⟨⟨hw, hst⟩, hni⟩, hno⟩ := hek
                have hrn : r'.1.2.2.2.1 = none := by simpa using hno
                have hlink := hG.2.1 _ (List.mem_of_getElem? hw)
                have hinst := hgC.2.2.2.2.2.2.2.2 hst
                have cn := va_cnB (args := args) (R := R) (maxL := r'.1.2.2.1) (bytes := r'.1.2.1) (ret := none) (ws' := mm_W) r'.1.2.2.2.2.1 hts (mm_goodIn hgC) (by unfold mm_ws; rw [hrn]) (rm := mm_rm Dq (h1.length - h.length) (mm_sz h1 - mm_sz h)) rfl rfl hlink (hts _ hgC.2.2.2.2.2.2.1) hgC.2.2.1 hroom
                exact mm_after S hmono1 (rest := rest) (va_runIN (b := B + a) (As := xs.map (mm_mv B b0)) hfix hM ⟨cn, hni, hts _ hinst.1⟩ ⟨mm_blind, fun U hU hW => hPc (.ref a :: xs) U hU hW⟩ rfl (by rw [List.length_map]; exact hxl) hsize hstk (lv_room (by rw [mm_wt_s]; exact m2)) hd hf) hnext
            · subst hk1; cases hwant
            · cases h0
          · obtain ⟨k, mj, b, vv, ps, hmem, hwant, hr0, hDp, m1, m2, hargs⟩ := hcall
            have hgC := hall mj r' hr0
            have hM := mm_met (l := l) (D := D) (dA := dA) (B := B) (b0 := b0) (H0 := H0) (X := X) hgC m1 hmono1 (mm_run hall f Dq r' 0 (mm_en r' as) [] h v1 h1 hgC.1 hc)
            rcases hargs with ⟨h0, -⟩ | ⟨h0, -⟩ | ⟨-, rfl, hxl⟩
            · cases h0
            · cases h0
            · simp only [Bool.or_eq_true] at hwant
              have hroom : (mm_rm Dq (h1.length - h.length) (mm_sz h1 - mm_sz h)).frames + 1 ≤ R.frames ∧ 8 + (r'.1.2.2.1 + 11) + (mm_rm Dq (h1.length - h.length) (mm_sz h1 - mm_sz h)).locals ≤ R.locals := ⟨by show Dq + 1 ≤ _; omega, by have := hgC.2.2.2.1; show 8 + (_ + 11) + 35 * Dq ≤ _; omega⟩
              have hstk : (List.map (mm_mv B b0) (as.reverse ++ rest)) = (as.map (mm_mv B b0)).reverse ++ rest.map (mm_mv B b0) := by
                rw [List.map_append, List.map_reverse]
              rcases hwant with hk | hk
              · have hk := Nat.eq_of_beq_eq_true hk
                subst hk
                have hek : mm_e2 r idx mj ps = true := hg.2 _ hmem
                unfold mm_e2 at hek
                rw [hr0] at hek
                simp only [Bool.and_eq_true] at hek
                obtain ⟨hw, hst⟩ := hek
                have hlink := hts _ (mm_one hw (by first | rfl | simp [goodWord, Cond.onTables, Cond.keeps, Cond.steady]))
                have cb : CallB R s args r.2.1 idx r'.1.1 r'.1.2.1 r'.1.2.2.1 r'.1.2.2.2.1 (mm_ws r') (mm_rm Dq (h1.length - h.length) (mm_sz h1 - mm_sz h)) (h1.length - h.length) (mm_sz h1 - mm_sz h) r'.1.2.2.2.2.1 :=
                  callB_of _ hts (mm_goodIn hgC) rfl rfl rfl (hts _ hgC.2.2.2.2.2.2.1) hlink hgC.2.2.1 hroom
                exact mm_after S hmono1 (rest := rest) (va_runS (As := as.map (mm_mv B b0)) hfix hM ⟨cb, hts _ (hgC.2.2.2.2.2.2.2.1 hst)⟩ ⟨mm_blind, fun U hU hW => hPc as U hU hW⟩ rfl (by rw [List.length_map]; exact hxl) hsize hstk (lv_room (by rw [mm_wt_s]; exact m2)) hd hf) hnext
              · have hk := Nat.eq_of_beq_eq_true hk
                subst hk
                have hek : mm_e5 r idx mj vv = true := hg.2 _ hmem
                unfold mm_e5 at hek
                rw [hr0] at hek
                simp only [Bool.and_eq_true, decide_eq_true_eq] at hek
                obtain ⟨hw, hst⟩ := hek
                have hlink := hG.2.1 _ (List.mem_of_getElem? hw)
                have cn := va_cnB (args := args) (R := R) r'.1.2.2.2.2.1 hts (mm_goodIn hgC) rfl (rm := mm_rm Dq (h1.length - h.length) (mm_sz h1 - mm_sz h)) rfl rfl hlink (hts _ hgC.2.2.2.2.2.2.1) hgC.2.2.1 hroom
                exact mm_after S hmono1 (rest := rest) (va_runSN (As := as.map (mm_mv B b0)) hfix hM ⟨cn, hts _ (hgC.2.2.2.2.2.2.2.1 hst), trivial⟩ ⟨mm_blind, fun U hU hW => hPc as U hU hW⟩ rfl (by rw [List.length_map]; exact hxl) hsize hstk (lv_room (by rw [mm_wt_s]; exact m2)) hd hf) hnext
end mmK
