/-! settings of pegs as numbers -/
def so_rest (v : Int) : Nat → Int
  | 0 => v
  | g + 1 => Int.tdiv (dz_c (so_rest v g)) 3
def so_dig (v : Int) (g : Nat) : Int := Int.tmod (dz_c (so_rest v g)) 3
def so_sets (v : Int) : Nat → ob_O → ob_O
  | 0, o => o
  | g + 1, o => ob_u (so_sets v g o) 0 g (so_dig v g)
def so_num (S : ob_O) : Nat → Int → Int
  | 0, a => a
  | k + 1, a => so_num S k (a * 3 + S 0 k)
def so_pw : Nat → Int
  | 0 => 1
  | k + 1 => so_pw k * 3
section oc
variable {n G : Nat} {Z Y : dz_Z} {P S F m o : ob_O} {v : Int} {c : Nat}
theorem st_r (hv : 0 ≤ v ∧ v ≤ 2147483647) : ∀ g : Nat, 0 ≤ so_rest v g ∧ so_rest v g ≤ 2147483647
  | 0 => hv
  | g + 1 => by
    have := st_r hv g
    show 0 ≤ Int.tdiv (dz_c (so_rest v g)) 3 ∧ Int.tdiv (dz_c (so_rest v g)) 3 ≤ 2147483647
    rw [dc_ir this.1 this.2, Int.tdiv_eq_ediv_of_nonneg this.1]
    omega
theorem st_e (hv : 0 ≤ v ∧ v ≤ 2147483647) (g : Nat) : so_rest v (g + 1) = so_rest v g / 3 ∧ so_dig v g = so_rest v g % 3 := by
  have := st_r hv g
  refine ⟨?_, ?_⟩
  · show Int.tdiv (dz_c (so_rest v g)) 3 = _
    rw [dc_ir this.1 this.2, Int.tdiv_eq_ediv_of_nonneg this.1]
  · unfold so_dig
    rw [dc_ir this.1 this.2, Int.tmod_eq_emod_of_nonneg this.1]
theorem st_d (hv : 0 ≤ v ∧ v ≤ 2147483647) (g : Nat) : 0 ≤ so_dig v g ∧ so_dig v g ≤ 2 := by
  rw [(st_e hv g).2]
  omega
theorem st_i {i : Int} : ∀ G : Nat, so_sets v G o 0 i = if 0 ≤ i ∧ i < G then so_dig v i.toNat else o 0 i
  | 0 => by rw [if_neg (by omega)]; rfl
  | G + 1 => by
    show ob_u (so_sets v G o) 0 G (so_dig v G) 0 i = _
    rw [ou_a]
    by_cases h : i = G
    · subst h
      rw [if_pos rfl, if_pos (by omega)]
      rfl
    · rw [if_neg h, st_i G]
      by_cases h2 : 0 ≤ i ∧ i < G
      · rw [if_pos h2, if_pos (by omega)]
      · rw [if_neg h2, if_neg (by omega)]
theorem st_f {f : Nat} (h : f ≠ 0) : ∀ G : Nat, so_sets v G o f = o f
  | 0 => rfl
  | G + 1 => by
    show ob_u (so_sets v G o) 0 G (so_dig v G) f = _
    rw [ou_ff h]
    exact st_f h G
theorem st_cls (hc : dz_c (P 3 0) = P 3 0) (hG : 0 ≤ P 3 0 ∧ P 3 0 ≤ 5) : jf_S_setPegs c (P 3 0) v Z = some (ob_z Z c (so_sets v (P 3 0).toNat (Z c))) := by
  apply dp_is
  unfold jf_S_setPegs
  refine dp_lp (fun k s => ∃ r : Nat, r + k = (P 3 0).toNat ∧ s = (so_rest v r, (r : Int), ob_z Z c (so_sets v r (Z c)))) ?_ 5000 (P 3 0).toNat (v, 0, Z) (by omega) ⟨0, by omega, by rw [show ob_z Z c (so_sets v 0 (Z c)) = Z from oz_i]; rfl⟩
  rintro k _ ⟨r, hr, rfl⟩
  have e2 : dz_c (r : Int) = r := dc_ir (by omega) (by omega)
  simp only [hc, e2]
  by_cases hk : r = (P 3 0).toNat
  · refine dp_ck (by omega) (dp_sm ?_)
    rw [← hk]
    rfl
  · refine dp_no (by omega) (dp_ck (by omega) (dp_le (dp_sm ⟨k - 1, by omega, r + 1, by omega, ?_⟩)))
    rw [oz_uz]
    rfl
theorem st_ref (hm : m 2 0 = P 3 0) (hG : 0 ≤ P 3 0 ∧ P 3 0 ≤ 5) : jf_M_sets v (ob_z Y 114 m) = some (ob_z Y 114 (so_sets v (P 3 0).toNat m)) := by
  have hc : dz_c (P 3 0) = P 3 0 := dc_ir hG.1 (by omega)
  apply dp_is
  unfold jf_M_sets
  refine dp_lp (fun k s => ∃ r : Nat, r + k = (P 3 0).toNat ∧ s = (so_rest v r, (r : Int), ob_z Y 114 (so_sets v r m))) ?_ 5000 (P 3 0).toNat (v, 0, ob_z Y 114 m) (by omega) ⟨0, by omega, rfl⟩
  rintro k _ ⟨r, hr, rfl⟩
  have e2 : dz_c (r : Int) = r := dc_ir (by omega) (by omega)
  have e3 : so_sets v r m 2 0 = P 3 0 := by rw [st_f (by decide)]; exact hm
  simp only [oz_s, e3, hc, e2, Int.zero_add]
  by_cases hk : r = (P 3 0).toNat
  · refine dp_ck (by omega) (dp_sm ?_)
    rw [← hk]
    rfl
  · refine dp_no (by omega) (dp_ck (by omega) (dp_le (dp_sm ⟨k - 1, by omega, r + 1, by omega, ?_⟩)))
    rw [oz_uz]
    rfl
theorem st_ncls (hG : 0 ≤ P 3 0 ∧ P 3 0 ≤ 5) : jf_S_pegsAsNumber c (P 3 0) Z = some (so_num (Z c) (P 3 0).toNat 0) := by
  apply dp_is
  unfold jf_S_pegsAsNumber
  refine dp_lp (fun k s => ∃ a : Int, s = (a, (k : Int) - 1) ∧ k ≤ 5 ∧ so_num (Z c) k a = so_num (Z c) (P 3 0).toNat 0) ?_ 5000 (P 3 0).toNat (0, P 3 0 - 1) (by omega) ⟨0, by rw [Int.toNat_of_nonneg hG.1], by omega, rfl⟩
  rintro k _ ⟨a, rfl, hk5, ha⟩
  have e2 : dz_c ((k : Int) - 1) = (k : Int) - 1 := dz_ci (by omega) (by omega)
  simp only [e2]
  rcases k with _ | k
  · refine dp_ck (by omega) (dp_sm ?_)
    exact ha
  · refine dp_no (by omega) (dp_ck (by omega) (dp_sm ⟨k, by omega, a * 3 + Z c 0 (((k + 1 : Nat) : Int) - 1), by rw [show ((k + 1 : Nat) : Int) - 1 + -1 = (k : Int) - 1 by omega], by omega, ?_⟩))
    rw [← ha]
    show so_num (Z c) k (a * 3 + Z c 0 (((k + 1 : Nat) : Int) - 1)) = so_num (Z c) k (a * 3 + Z c 0 k)
    rw [show ((k + 1 : Nat) : Int) - 1 = k by omega]
theorem st_nref (hm : m 2 0 = P 3 0) (hG : 0 ≤ P 3 0 ∧ P 3 0 ≤ 5) (hp : ∀ g : Int, 0 ≤ g → g < P 3 0 → m 0 g = S 0 g) : jf_M_settingsNow (ob_z Y 114 m) = some (so_num S (P 3 0).toNat 0) := by
  apply dp_is
  unfold jf_M_settingsNow
  refine dp_lp (fun k s => ∃ a : Int, s = (a, (k : Int) - 1) ∧ (k : Int) ≤ P 3 0 ∧ so_num S k a = so_num S (P 3 0).toNat 0) ?_ 5000 (P 3 0).toNat (0, ob_z Y 114 m 114 2 0 - 1) (by omega) ⟨0, by rw [oz_s, hm, Int.toNat_of_nonneg hG.1], by omega, rfl⟩
  rintro k _ ⟨a, rfl, hk5, ha⟩
  have e2 : dz_c ((k : Int) - 1) = (k : Int) - 1 := dz_ci (by omega) (by omega)
  simp only [e2, oz_s, Int.zero_add]
  rcases k with _ | k
  · refine dp_ck (by omega) (dp_sm ?_)
    exact ha
  · refine dp_no (by omega) (dp_ck (by omega) (dp_sm ⟨k, by omega, 3 * a + m 0 (((k + 1 : Nat) : Int) - 1), by rw [show ((k + 1 : Nat) : Int) - 1 + -1 = (k : Int) - 1 by omega], by omega, ?_⟩))
    rw [← ha, hp _ (by omega) (by omega)]
    show so_num S k (3 * a + S 0 (((k + 1 : Nat) : Int) - 1)) = so_num S k (a * 3 + S 0 k)
    rw [show ((k + 1 : Nat) : Int) - 1 = k by omega, Int.mul_comm]
theorem st_mcls (h : iv n Z m) : jf_O_manySettings Z = some (so_pw (Z (iv_p Z) 3 0).toNat) := by
  have hG := h.2.1.2.2.1
  have hc : dz_c (Z (iv_p Z) 3 0) = Z (iv_p Z) 3 0 := dc_ir hG.1 (by omega)
  apply dp_is
  unfold jf_O_manySettings
  refine dp_lp (fun k s => ∃ r : Nat, r + k = (Z (iv_p Z) 3 0).toNat ∧ s = (so_pw r, (r : Int))) ?_ 5000 (Z (iv_p Z) 3 0).toNat (1, 0) (by omega) ⟨0, by omega, rfl⟩
  rintro k _ ⟨r, hr, rfl⟩
  have e2 : dz_c (r : Int) = r := dc_ir (by omega) (by omega)
  simp only [show (Z 0 2 0).toNat = iv_p Z from rfl, hc, e2]
  refine dp_ck (iv_isP h.1) ?_
  by_cases hk : r = (Z (iv_p Z) 3 0).toNat
  · refine dp_ck (by omega) (dp_sm ?_)
    rw [← hk]
    rfl
  · exact dp_no (by omega) (dp_sm ⟨k - 1, by omega, r + 1, by omega, rfl⟩)
theorem st_mref (hm : m 2 0 = P 3 0) (hG : 0 ≤ P 3 0 ∧ P 3 0 ≤ 5) (hY : Y 114 = m) : jf_M_settingMany Y = some (so_pw (P 3 0).toNat) := by
  have hc : dz_c (P 3 0) = P 3 0 := dc_ir hG.1 (by omega)
  apply dp_is
  unfold jf_M_settingMany
  refine dp_lp (fun k s => ∃ r : Nat, r + k = (P 3 0).toNat ∧ s = (so_pw r, (r : Int))) ?_ 5000 (P 3 0).toNat (1, 0) (by omega) ⟨0, by omega, rfl⟩
  rintro k _ ⟨r, hr, rfl⟩
  have e2 : dz_c (r : Int) = r := dc_ir (by omega) (by omega)
  simp only [hY, hm, hc, e2]
  by_cases hk : r = (P 3 0).toNat
  · refine dp_ck (by omega) (dp_sm ?_)
    rw [← hk]
    rfl
  · exact dp_no (by omega) (dp_sm ⟨k - 1, by omega, r + 1, by omega, rfl⟩)
theorem so_pw_b {G : Nat} (h : G ≤ 5) : 1 ≤ so_pw G ∧ so_pw G ≤ 243 := by
  have : G = 0 ∨ G = 1 ∨ G = 2 ∨ G = 3 ∨ G = 4 ∨ G = 5 := by omega
  rcases this with rfl | rfl | rfl | rfl | rfl | rfl <;> decide
/-- the number of the pegs as they stand is their digits -/
theorem st_inv {G : Nat} (h : G ≤ 5) (hp : ∀ g : Int, 0 ≤ g → g < G → 0 ≤ S 0 g ∧ S 0 g ≤ 2) : (0 ≤ so_num S G 0 ∧ so_num S G 0 ≤ 242) ∧ ∀ g : Nat, g < G → so_dig (so_num S G 0) g = S 0 g := by
  have h0 : 0 < G → 0 ≤ S 0 0 ∧ S 0 0 ≤ 2 := fun q => hp 0 (by omega) (by omega)
  have h1 : 1 < G → 0 ≤ S 0 1 ∧ S 0 1 ≤ 2 := fun q => hp 1 (by omega) (by omega)
  have h2 : 2 < G → 0 ≤ S 0 2 ∧ S 0 2 ≤ 2 := fun q => hp 2 (by omega) (by omega)
  have h3 : 3 < G → 0 ≤ S 0 3 ∧ S 0 3 ≤ 2 := fun q => hp 3 (by omega) (by omega)
  have h4 : 4 < G → 0 ≤ S 0 4 ∧ S 0 4 ≤ 2 := fun q => hp 4 (by omega) (by omega)
  have hb : 0 ≤ so_num S G 0 ∧ so_num S G 0 ≤ 242 := by
    have : G = 0 ∨ G = 1 ∨ G = 2 ∨ G = 3 ∨ G = 4 ∨ G = 5 := by omega
    rcases this with rfl | rfl | rfl | rfl | rfl | rfl <;> simp only [so_num] <;> simp at h0 h1 h2 h3 h4 <;> simp <;> omega
  refine ⟨hb, fun g hg => ?_⟩
  have r1 := (st_e (v := so_num S G 0) (by omega) 0).1
  have r2 := (st_e (v := so_num S G 0) (by omega) 1).1
  have r3 := (st_e (v := so_num S G 0) (by omega) 2).1
  have r4 := (st_e (v := so_num S G 0) (by omega) 3).1
  have r0 : so_rest (so_num S G 0) 0 = so_num S G 0 := rfl
  rw [(st_e (by omega) g).2]
  have hg5 : g = 0 ∨ g = 1 ∨ g = 2 ∨ g = 3 ∨ g = 4 := by omega
  have hG : G = 0 ∨ G = 1 ∨ G = 2 ∨ G = 3 ∨ G = 4 ∨ G = 5 := by omega
  have hnum : so_num S G 0 = (if 0 < G then S 0 0 else 0) + 3 * (if 1 < G then S 0 1 else 0) + 9 * (if 2 < G then S 0 2 else 0) + 27 * (if 3 < G then S 0 3 else 0) + 81 * (if 4 < G then S 0 4 else 0) := by
    rcases hG with rfl | rfl | rfl | rfl | rfl | rfl <;> simp only [so_num] <;> simp <;> omega
  have i0 : (if 0 < G then S 0 0 else 0) = (if 0 < G then S 0 0 else 0) ∧ 0 ≤ (if 0 < G then S 0 0 else 0) ∧ (if 0 < G then S 0 0 else 0) ≤ 2 := by split <;> simp_all
  have i1 : 0 ≤ (if 1 < G then S 0 1 else 0) ∧ (if 1 < G then S 0 1 else 0) ≤ 2 := by split <;> simp_all
  have i2 : 0 ≤ (if 2 < G then S 0 2 else 0) ∧ (if 2 < G then S 0 2 else 0) ≤ 2 := by split <;> simp_all
  have i3 : 0 ≤ (if 3 < G then S 0 3 else 0) ∧ (if 3 < G then S 0 3 else 0) ≤ 2 := by split <;> simp_all
  have i4 : 0 ≤ (if 4 < G then S 0 4 else 0) ∧ (if 4 < G then S 0 4 else 0) ≤ 2 := by split <;> simp_all
  have e : ∀ k : Nat, (hk : k < G) → True := fun _ _ => trivial
  rcases hg5 with rfl | rfl | rfl | rfl | rfl
  · rw [r0]
    rw [if_pos hg] at hnum
    show _ = S 0 0
    have := h0 hg
    omega
  · rw [r1, r0]
    rw [if_pos hg] at hnum
    show _ = S 0 1
    have := h1 hg
    omega
  · rw [r2, r1, r0]
    rw [if_pos hg] at hnum
    show _ = S 0 2
    have := h2 hg
    omega
  · rw [r3, r2, r1, r0]
    rw [if_pos hg] at hnum
    show _ = S 0 3
    have := h3 hg
    omega
  · rw [r4, r3, r2, r1, r0]
    rw [if_pos hg] at hnum
    show _ = S 0 4
    have := h4 hg
    omega
/-- pegs set otherwise, then as they were -/
theorem st_bk {G : Nat} (h : G ≤ 5) (hp : ∀ g : Int, 0 ≤ g → g < G → 0 ≤ S 0 g ∧ S 0 g ≤ 2) (ho : ∀ g : Int, 0 ≤ g → g < G → o 0 g = S 0 g) {o' : ob_O} (hf : ∀ f : Nat, f ≠ 0 → o' f = o f) (hi : ∀ i : Int, (i < 0 ∨ G ≤ i) → o' 0 i = o 0 i) : so_sets (so_num S G 0) G o' = o := by
  funext f i
  by_cases h0 : f = 0
  · subst h0
    rw [st_i]
    by_cases c : 0 ≤ i ∧ i < G
    · rw [if_pos c, (st_inv h hp).2 _ (by omega), Int.toNat_of_nonneg c.1, ho i c.1 c.2]
    · rw [if_neg c, hi i (by omega)]
  · rw [st_f h0, hf f h0]
theorem st_S (hP : so_P P) (hS : so_S P S) (hv : 0 ≤ v ∧ v ≤ 2147483647) : so_S P (so_sets v (P 3 0).toNat S) := by
  refine ⟨fun i a b => ?_, ?_, ?_, ?_, ?_, ?_⟩
  · have := hP.2.2.1
    rw [st_i, if_pos (by omega)]
    exact st_d hv _
  · rw [st_f (by decide)]; exact hS.2.1
  · rw [st_f (by decide)]; exact hS.2.2.1
  · intro w a b
    rw [st_f (by decide), st_f (by omega)]; exact hS.2.2.2.1 w a b
  · rw [st_f (by decide)]; exact hS.2.2.2.2.1
  · rw [st_f (by decide), st_f (by decide)]; exact hS.2.2.2.2.2
theorem st_W (hP : so_P P) (rW : mr_W 0 P S m) : mr_W 0 P (so_sets v (P 3 0).toNat S) (so_sets v (P 3 0).toNat m) := by
  have h3 := hP.2.2.1
  have h6 := hP.2.2.2.2.1
  refine ⟨fun i a b => ?_, fun i a b => ?_, fun i a b => ?_⟩
  · rw [Int.zero_add, st_i, st_i, if_pos (by omega), if_pos (by omega)]
  · rw [st_i, if_neg (by omega), st_f (by decide)]; exact rW.2.1 i a b
  · rw [st_i, if_neg (by omega), st_i, if_neg (by omega), st_i, if_neg (by omega), st_f (by decide)]; exact rW.2.2 i a b
theorem st_R (hP : so_P P) (hS : so_S P S) (rS : mr_S 0 P S m) : mr_S 0 P (so_sets v (P 3 0).toNat S) (so_sets v (P 3 0).toNat m) := by
  have h3 := hP.2.2.1
  have h6 := hP.2.2.2.2.1
  have h10 := hP.2.2.2.2.2.2.1
  have hs6 := hS.2.2.2.2.1
  refine ⟨st_W hP rS.1, fun i a b => ?_, fun w a b => ?_, ?_, fun i a b => ?_⟩
  · rw [st_i, if_neg (by omega), st_i, if_neg (by omega), st_f (by decide)]; exact rS.2.1 i a b
  · have hl := (hS.2.2.2.1 w a b).1
    rw [st_i, if_neg (by omega), st_f (by decide)]
    refine ⟨(rS.2.2.1 w a b).1, fun i c d => ?_⟩
    rw [st_i, if_neg (by omega), st_f (by omega)]; exact (rS.2.2.1 w a b).2 i c d
  · rw [st_i, if_neg (by omega), st_f (by decide)]; exact rS.2.2.2.1
  · rw [st_f (by decide)] at b
    rw [st_i, if_neg (by omega), st_f (by decide)]; exact rS.2.2.2.2 i a b
theorem op_settings (h : iv_Z n Z) {a1 : Int} (c1 : dz_c a1 = a1) : dz_p (jf_O_settings a1 Z) (fun q => dz_p (jf_M_settings a1 q.2) (fun q' => iv_Z (n + 1) q'.2 ∧ dz_c q.1 = dz_c q'.1)) := by
  have hp := iv_isP h.1
  have hs := iv_isS h.1
  have hs2 := iv_s2 h.1
  have hP := h.2.1
  have h3 := h.2.1.2.2.1
  have rP := h.2.2.1
  obtain ⟨hS, rS, hB, rF⟩ := h.2.2.2.1
  have hpw := so_pw_b (G := (Z (iv_p Z) 3 0).toNat) (by omega)
  have e1 : dz_c (so_pw (Z (iv_p Z) 3 0).toNat) = so_pw (Z (iv_p Z) 3 0).toNat := dc_ir (by omega) (by omega)
  have e2 : dz_c (so_pw (Z (iv_p Z) 3 0).toNat - 1) = so_pw (Z (iv_p Z) 3 0).toNat - 1 := dc_ir (by omega) (by omega)
  have bad : ¬(0 ≤ a1 ∧ a1 < so_pw (Z (iv_p Z) 3 0).toNat) → dz_p (jf_M_settings a1 Z) (fun q' => iv_Z (n + 1) q'.2 ∧ dz_c (-1) = dz_c q'.1) := by
    intro hv
    unfold jf_M_settings
    refine dp_bi (dp_eq (st_mref rP.2.2.1 h3 rfl) ?_)
    rw [c1, e2]
    exact dp_no (by omega) (dp_sm ⟨iv_nx h, rfl⟩)
  unfold jf_O_settings
  rw [c1]
  refine dp_br (fun a => dp_sm (bad (by omega))) (fun a => ?_)
  refine dp_bi (dp_eq (st_mcls h) ?_)
  rw [e1]
  simp only [show (Z 0 3 0).toNat = iv_s Z from rfl, show (Z 0 2 0).toNat = iv_p Z from rfl]
  refine dp_br (fun b => ?_) (fun b => dp_sm (bad (by omega)))
  refine dp_ck hs (dp_ck hp (dp_bi (dp_eq (st_ncls h3) (dp_bi (dp_eq (st_cls (dc_ir h3.1 (by omega)) h3) (dp_sm ?_))))))
  have y114 : ob_z Z (iv_s Z) (so_sets a1 (Z (iv_p Z) 3 0).toNat (Z (iv_s Z))) 114 = Z 114 := oz_n (by omega)
  have ey : ob_z Z (iv_s Z) (so_sets a1 (Z (iv_p Z) 3 0).toNat (Z (iv_s Z))) = ob_z (ob_z Z (iv_s Z) (so_sets a1 (Z (iv_p Z) 3 0).toNat (Z (iv_s Z)))) 114 (Z 114) := by rw [← y114]; exact oz_i.symm
  dsimp only
  rw [ey]
  unfold jf_M_settings
  refine dp_bi (dp_eq (st_mref (m := Z 114) rP.2.2.1 h3 oz_s) ?_)
  rw [c1, e2]
  refine dp_ck (by omega) (dp_bi (dp_eq (st_nref (S := Z (iv_s Z)) rP.2.2.1 h3 (fun g c d => by have := rS.1.1 g c d; rw [Int.zero_add] at this; exact this)) (dp_bi (dp_eq (st_ref rP.2.2.1 h3) (dp_sm ⟨?_, rfl⟩)))))
  obtain ⟨w1, w2, w3, w4⟩ := W_s (Z := Z) (S := so_sets a1 (Z (iv_p Z) 3 0).toNat (Z (iv_s Z))) (m := so_sets a1 (Z (iv_p Z) 3 0).toNat (Z 114)) hs2
  dsimp only
  refine iv_fin h w4 ?_ ?_ ?_
  · rw [w1, w2, w3]
    exact ⟨st_S hP hS (by omega), st_R hP hS rS, sB_m hB (by omega) (by omega), mrF_m rF (fun j _ _ => by rw [st_i, if_neg (by omega)])⟩
  · intro f a _; rw [w3, st_f a]
  · intro j a b; rw [w3, st_i, if_neg (by omega)]
end oc
