section mg_43oc
/-! settings of pegs as numbers -/
def so_rest (v : Int) : Nat → Int
  | 0 => v
  | g + 1 => Int.tdiv (dz_c (so_rest v g)) 3
def so_dig (v : Int) (g : Nat) : Int := Int.tmod (dz_c (so_rest v g)) 3
def so_sets (v : Int) : Nat → ob_O → ob_O
  | 0, o => o
  | g + 1, o => ob_u (so_sets v g o) 0 g (so_dig v g)
def so_num (S : ob_O) : Nat → Int → Int
  | 0, a => a
  | k + 1, a => so_num S k (a * 3 + S 0 k)
def so_pw : Nat → Int
  | 0 => 1
  | k + 1 => so_pw k * 3
section oc
variable {n G : Nat} {Z Y : dz_Z} {P S F m o : ob_O} {v : Int} {c : Nat}
theorem st_r (hv : 0 ≤ v ∧ v ≤ 2147483647) : ∀ g : Nat, 0 ≤ so_rest v g ∧ so_rest v g ≤ 2147483647
  | 0 => hv
  | g + 1 => by
    have := st_r hv g
    show 0 ≤ Int.tdiv (dz_c (so_rest v g)) 3 ∧ Int.tdiv (dz_c (so_rest v g)) 3 ≤ 2147483647
    rw [dc_ir this.1 this.2, Int.tdiv_eq_ediv_of_nonneg this.1]
    omega
theorem st_e (hv : 0 ≤ v ∧ v ≤ 2147483647) (g : Nat) : so_rest v (g + 1) = so_rest v g / 3 ∧ so_dig v g = so_rest v g % 3 := by
  have := st_r hv g
  refine ⟨?_, ?_⟩
  · show Int.tdiv (dz_c (so_rest v g)) 3 = _
    rw [dc_ir this.1 this.2, Int.tdiv_eq_ediv_of_nonneg this.1]
  · unfold so_dig
    rw [dc_ir this.1 this.2, Int.tmod_eq_emod_of_nonneg this.1]
theorem st_d (hv : 0 ≤ v ∧ v ≤ 2147483647) (g : Nat) : 0 ≤ so_dig v g ∧ so_dig v g ≤ 2 := by
  rw [(st_e hv g).2]
  omega
theorem st_i {i : Int} : ∀ G : Nat, so_sets v G o 0 i = if 0 ≤ i ∧ i < G then so_dig v i.toNat else o 0 i
  | 0 => by rw [if_neg (by omega)]; rfl
  | G + 1 => by
    show ob_u (so_sets v G o) 0 G (so_dig v G) 0 i = _
    rw [ou_a]
    by_cases h : i = G
    · subst h
      rw [if_pos rfl, if_pos (by omega)]
      rfl
    · rw [if_neg h, st_i G]
      by_cases h2 : 0 ≤ i ∧ i < G
      · rw [if_pos h2, if_pos (by omega)]
      · rw [if_neg h2, if_neg (by omega)]
theorem st_f {f : Nat} (h : f ≠ 0) : ∀ G : Nat, so_sets v G o f = o f
  | 0 => rfl
  | G + 1 => by
    show ob_u (so_sets v G o) 0 G (so_dig v G) f = _
    rw [ou_ff h]
    exact st_f h G
theorem st_cls (hc : dz_c (P 3 0) = P 3 0) (hG : 0 ≤ P 3 0 ∧ P 3 0 ≤ 5) : jf_S_setPegs c (P 3 0) v Z = some (ob_z Z c (so_sets v (P 3 0).toNat (Z c))) := by
  apply dp_is
  unfold jf_S_setPegs
  refine dp_lp (fun k s => ∃ r : Nat, r + k = (P 3 0).toNat ∧ s = (so_rest v r, (r : Int), ob_z Z c (so_sets v r (Z c)))) ?_ 5000 (P 3 0).toNat (v, 0, Z) (by omega) ⟨0, by omega, by rw [show ob_z Z c (so_sets v 0 (Z c)) = Z from oz_i]; rfl⟩
  rintro k _ ⟨r, hr, rfl⟩
  have e2 : dz_c (r : Int) = r := dc_ir (by omega) (by omega)
  simp only [hc, e2]
  by_cases hk : r = (P 3 0).toNat
  · refine dp_ck (by omega) (dp_sm ?_)
    rw [← hk]
    rfl
  · refine dp_no (by omega) (dp_ck (by omega) (dp_le (dp_sm ⟨k - 1, by omega, r + 1, by omega, ?_⟩)))
    rw [oz_uz]
    rfl
theorem st_ref (hm : m 2 0 = P 3 0) (hG : 0 ≤ P 3 0 ∧ P 3 0 ≤ 5) : jf_M_sets v (ob_z Y 114 m) = some (ob_z Y 114 (so_sets v (P 3 0).toNat m)) := by
  have hc : dz_c (P 3 0) = P 3 0 := dc_ir hG.1 (by omega)
  apply dp_is
  unfold jf_M_sets
  refine dp_lp (fun k s => ∃ r : Nat, r + k = (P 3 0).toNat ∧ s = (so_rest v r, (r : Int), ob_z Y 114 (so_sets v r m))) ?_ 5000 (P 3 0).toNat (v, 0, ob_z Y 114 m) (by omega) ⟨0, by omega, rfl⟩
  rintro k _ ⟨r, hr, rfl⟩
  have e2 : dz_c (r : Int) = r := dc_ir (by omega) (by omega)
  have e3 : so_sets v r m 2 0 = P 3 0 := by rw [st_f (by decide)]; exact hm
  simp only [oz_s, e3, hc, e2, Int.zero_add]
  by_cases hk : r = (P 3 0).toNat
  · refine dp_ck (by omega) (dp_sm ?_)
    rw [← hk]
    rfl
  · refine dp_no (by omega) (dp_ck (by omega) (dp_le (dp_sm ⟨k - 1, by omega, r + 1, by omega, ?_⟩)))
    rw [oz_uz]
    rfl
theorem st_ncls (hG : 0 ≤ P 3 0 ∧ P 3 0 ≤ 5) : jf_S_pegsAsNumber c (P 3 0) Z = some (so_num (Z c) (P 3 0).toNat 0) := by
  apply dp_is
  unfold jf_S_pegsAsNumber
  refine dp_lp (fun k s => ∃ a : Int, s = (a, (k : Int) - 1) ∧ k ≤ 5 ∧ so_num (Z c) k a = so_num (Z c) (P 3 0).toNat 0) ?_ 5000 (P 3 0).toNat (0, P 3 0 - 1) (by omega) ⟨0, by rw [Int.toNat_of_nonneg hG.1], by omega, rfl⟩
  rintro k _ ⟨a, rfl, hk5, ha⟩
  have e2 : dz_c ((k : Int) - 1) = (k : Int) - 1 := dz_ci (by omega) (by omega)
  simp only [e2]
  rcases k with _ | k
  · refine dp_ck (by omega) (dp_sm ?_)
    exact ha
  · refine dp_no (by omega) (dp_ck (by omega) (dp_sm ⟨k, by omega, a * 3 + Z c 0 (((k + 1 : Nat) : Int) - 1), by rw [show ((k + 1 : Nat) : Int) - 1 + -1 = (k : Int) - 1 by omega], by omega, ?_⟩))
    rw [← ha]
    show so_num (Z c) k (a * 3 + Z c 0 (((k + 1 : Nat) : Int) - 1)) = so_num (Z c) k (a * 3 + Z c 0 k)
    rw [show ((k + 1 : Nat) : Int) - 1 = k by omega]
theorem st_nref (hm : m 2 0 = P 3 0) (hG : 0 ≤ P 3 0 ∧ P 3 0 ≤ 5) (hp : ∀ g : Int, 0 ≤ g → g < P 3 0 → m 0 g = S 0 g) : jf_M_settingsNow (ob_z Y 114 m) = some (so_num S (P 3 0).toNat 0) := by
  apply dp_is
  unfold jf_M_settingsNow
  refine dp_lp (fun k s => ∃ a : Int, s = (a, (k : Int) - 1) ∧ (k : Int) ≤ P 3 0 ∧ so_num S k a = so_num S (P 3 0).toNat 0) ?_ 5000 (P 3 0).toNat (0, ob_z Y 114 m 114 2 0 - 1) (by omega) ⟨0, by rw [oz_s, hm, Int.toNat_of_nonneg hG.1], by omega, rfl⟩
  rintro k _ ⟨a, rfl, hk5, ha⟩
  have e2 : dz_c ((k : Int) - 1) = (k : Int) - 1 := dz_ci (by omega) (by omega)
  simp only [e2, oz_s, Int.zero_add]
  rcases k with _ | k
  · refine dp_ck (by omega) (dp_sm ?_)
    exact ha
  · refine dp_no (by omega) (dp_ck (by omega) (dp_sm ⟨k, by omega, 3 * a + m 0 (((k + 1 : Nat) : Int) - 1), by rw [show ((k + 1 : Nat) : Int) - 1 + -1 = (k : Int) - 1 by omega], by omega, ?_⟩))
    rw [← ha, hp _ (by omega) (by omega)]
    show so_num S k (3 * a + S 0 (((k + 1 : Nat) : Int) - 1)) = so_num S k (a * 3 + S 0 k)
    rw [show ((k + 1 : Nat) : Int) - 1 = k by omega, Int.mul_comm]
theorem st_mcls (h : iv n Z m) : jf_O_manySettings Z = some (so_pw (Z (iv_p Z) 3 0).toNat) := by
  have hG := h.2.1.2.2.1
  have hc : dz_c (Z (iv_p Z) 3 0) = Z (iv_p Z) 3 0 := dc_ir hG.1 (by omega)
  apply dp_is
  unfold jf_O_manySettings
  refine dp_lp (fun k s => ∃ r : Nat, r + k = (Z (iv_p Z) 3 0).toNat ∧ s = (so_pw r, (r : Int))) ?_ 5000 (Z (iv_p Z) 3 0).toNat (1, 0) (by omega) ⟨0, by omega, rfl⟩
  rintro k _ ⟨r, hr, rfl⟩
  have e2 : dz_c (r : Int) = r := dc_ir (by omega) (by omega)
  simp only [show (Z 0 2 0).toNat = iv_p Z from rfl, hc, e2]
  refine dp_ck (iv_isP h.1) ?_
  by_cases hk : r = (Z (iv_p Z) 3 0).toNat
  · refine dp_ck (by omega) (dp_sm ?_)
    rw [← hk]
    rfl
  · exact dp_no (by omega) (dp_sm ⟨k - 1, by omega, r + 1, by omega, rfl⟩)
theorem st_mref (hm : m 2 0 = P 3 0) (hG : 0 ≤ P 3 0 ∧ P 3 0 ≤ 5) (hY : Y 114 = m) : jf_M_settingMany Y = some (so_pw (P 3 0).toNat) := by
  have hc : dz_c (P 3 0) = P 3 0 := dc_ir hG.1 (by omega)
  apply dp_is
  unfold jf_M_settingMany
  refine dp_lp (fun k s => ∃ r : Nat, r + k = (P 3 0).toNat ∧ s = (so_pw r, (r : Int))) ?_ 5000 (P 3 0).toNat (1, 0) (by omega) ⟨0, by omega, rfl⟩
  rintro k _ ⟨r, hr, rfl⟩
  have e2 : dz_c (r : Int) = r := dc_ir (by omega) (by omega)
  simp only [hY, hm, hc, e2]
  by_cases hk : r = (P 3 0).toNat
  · refine dp_ck (by omega) (dp_sm ?_)
    rw [← hk]
    rfl
  · exact dp_no (by omega) (dp_sm ⟨k - 1, by omega, r + 1, by omega, rfl⟩)
theorem so_pw_b {G : Nat} (h : G ≤ 5) : 1 ≤ so_pw G ∧ so_pw G ≤ 243 := by
  have : G = 0 ∨ G = 1 ∨ G = 2 ∨ G = 3 ∨ G = 4 ∨ G = 5 := by omega
  rcases this with rfl | rfl | rfl | rfl | rfl | rfl <;> decide
/-- the number of the pegs as they stand is their digits -/
theorem st_inv {G : Nat} (h : G ≤ 5) (hp : ∀ g : Int, 0 ≤ g → g < G → 0 ≤ S 0 g ∧ S 0 g ≤ 2) : (0 ≤ so_num S G 0 ∧ so_num S G 0 ≤ 242) ∧ ∀ g : Nat, g < G → so_dig (so_num S G 0) g = S 0 g := by
  have h0 : 0 < G → 0 ≤ S 0 0 ∧ S 0 0 ≤ 2 := fun q => hp 0 (by omega) (by omega)
  have h1 : 1 < G → 0 ≤ S 0 1 ∧ S 0 1 ≤ 2 := fun q => hp 1 (by omega) (by omega)
  have h2 : 2 < G → 0 ≤ S 0 2 ∧ S 0 2 ≤ 2 := fun q => hp 2 (by omega) (by omega)
  have h3 : 3 < G → 0 ≤ S 0 3 ∧ S 0 3 ≤ 2 := fun q => hp 3 (by omega) (by omega)
  have h4 : 4 < G → 0 ≤ S 0 4 ∧ S 0 4 ≤ 2 := fun q => hp 4 (by omega) (by omega)
  have hb : 0 ≤ so_num S G 0 ∧ so_num S G 0 ≤ 242 := by
    have : G = 0 ∨ G = 1 ∨ G = 2 ∨ G = 3 ∨ G = 4 ∨ G = 5 := by omega
    rcases this with rfl | rfl | rfl | rfl | rfl | rfl <;> simp only [so_num] <;> simp at h0 h1 h2 h3 h4 <;> simp <;> omega
  refine ⟨hb, fun g hg => ?_⟩
  have r1 := (st_e (v := so_num S G 0) (by omega) 0).1
  have r2 := (st_e (v := so_num S G 0) (by omega) 1).1
  have r3 := (st_e (v := so_num S G 0) (by omega) 2).1
  have r4 := (st_e (v := so_num S G 0) (by omega) 3).1
  have r0 : so_rest (so_num S G 0) 0 = so_num S G 0 := rfl
  rw [(st_e (by omega) g).2]
  have hg5 : g = 0 ∨ g = 1 ∨ g = 2 ∨ g = 3 ∨ g = 4 := by omega
  have hG : G = 0 ∨ G = 1 ∨ G = 2 ∨ G = 3 ∨ G = 4 ∨ G = 5 := by omega
  have hnum : so_num S G 0 = (if 0 < G then S 0 0 else 0) + 3 * (if 1 < G then S 0 1 else 0) + 9 * (if 2 < G then S 0 2 else 0) + 27 * (if 3 < G then S 0 3 else 0) + 81 * (if 4 < G then S 0 4 else 0) := by
    rcases hG with rfl | rfl | rfl | rfl | rfl | rfl <;> simp only [so_num] <;> simp <;> omega
  have i0 : (if 0 < G then S 0 0 else 0) = (if 0 < G then S 0 0 else 0) ∧ 0 ≤ (if 0 < G then S 0 0 else 0) ∧ (if 0 < G then S 0 0 else 0) ≤ 2 := by split <;> simp_all
  have i1 : 0 ≤ (if 1 < G then S 0 1 else 0) ∧ (if 1 < G then S 0 1 else 0) ≤ 2 := by split <;> simp_all
  have i2 : 0 ≤ (if 2 < G then S 0 2 else 0) ∧ (if 2 < G then S 0 2 else 0) ≤ 2 := by split <;> simp_all
  have i3 : 0 ≤ (if 3 < G then S 0 3 else 0) ∧ (if 3 < G then S 0 3 else 0) ≤ 2 := by split <;> simp_all
  have i4 : 0 ≤ (if 4 < G then S 0 4 else 0) ∧ (if 4 < G then S 0 4 else 0) ≤ 2 := by split <;> simp_all
  have e : ∀ k : Nat, (hk : k < G) → True := fun _ _ => trivial
  rcases hg5 with rfl | rfl | rfl | rfl | rfl
  · rw [r0]
    rw [if_pos hg] at hnum
    show _ = S 0 0
    have := h0 hg
    omega
  · rw [r1, r0]
    rw [if_pos hg] at hnum
    show _ = S 0 1
    have := h1 hg
    omega
  · rw [r2, r1, r0]
    rw [if_pos hg] at hnum
    show _ = S 0 2
    have := h2 hg
    omega
  · rw [r3, r2, r1, r0]
    rw [if_pos hg] at hnum
    show _ = S 0 3
    have := h3 hg
    omega
  · rw [r4, r3, r2, r1, r0]
    rw [if_pos hg] at hnum
    show _ = S 0 4
    have := h4 hg
    omega
/-- pegs set otherwise, then as they were -/
theorem st_bk {G : Nat} (h : G ≤ 5) (hp : ∀ g : Int, 0 ≤ g → g < G → 0 ≤ S 0 g ∧ S 0 g ≤ 2) (ho : ∀ g : Int, 0 ≤ g → g < G → o 0 g = S 0 g) {o' : ob_O} (hf : ∀ f : Nat, f ≠ 0 → o' f = o f) (hi : ∀ i : Int, (i < 0 ∨ G ≤ i) → o' 0 i = o 0 i) : so_sets (so_num S G 0) G o' = o := by
  funext f i
  by_cases h0 : f = 0
  · subst h0
    rw [st_i]
    by_cases c : 0 ≤ i ∧ i < G
    · rw [if_pos c, (st_inv h hp).2 _ (by omega), Int.toNat_of_nonneg c.1, ho i c.1 c.2]
    · rw [if_neg c, hi i (by omega)]
  · rw [st_f h0, hf f h0]
theorem st_S (hP : so_P P) (hS : so_S P S) (hv : 0 ≤ v ∧ v ≤ 2147483647) : so_S P (so_sets v (P 3 0).toNat S) := by
  refine ⟨fun i a b => ?_, ?_, ?_, ?_, ?_, ?_⟩
  · have := hP.2.2.1
    rw [st_i, if_pos (by omega)]
    exact st_d hv _
  · rw [st_f (by decide)]; exact hS.2.1
  · rw [st_f (by decide)]; exact hS.2.2.1
  · intro w a b
    rw [st_f (by decide), st_f (by omega)]; exact hS.2.2.2.1 w a b
  · rw [st_f (by decide)]; exact hS.2.2.2.2.1
  · rw [st_f (by decide), st_f (by decide)]; exact hS.2.2.2.2.2
theorem st_W (hP : so_P P) (rW : mr_W 0 P S m) : mr_W 0 P (so_sets v (P 3 0).toNat S) (so_sets v (P 3 0).toNat m) := by
  have h3 := hP.2.2.1
  have h6 := hP.2.2.2.2.1
  refine ⟨fun i a b => ?_, fun i a b => ?_, fun i a b => ?_⟩
  · rw [Int.zero_add, st_i, st_i, if_pos (by omega), if_pos (by omega)]
  · rw [st_i, if_neg (by omega), st_f (by decide)]; exact rW.2.1 i a b
  · rw [st_i, if_neg (by omega), st_i, if_neg (by omega), st_i, if_neg (by omega), st_f (by decide)]; exact rW.2.2 i a b
theorem st_R (hP : so_P P) (hS : so_S P S) (rS : mr_S 0 P S m) : mr_S 0 P (so_sets v (P 3 0).toNat S) (so_sets v (P 3 0).toNat m) := by
  have h3 := hP.2.2.1
  have h6 := hP.2.2.2.2.1
  have h10 := hP.2.2.2.2.2.2.1
  have hs6 := hS.2.2.2.2.1
  refine ⟨st_W hP rS.1, fun i a b => ?_, fun w a b => ?_, ?_, fun i a b => ?_⟩
  · rw [st_i, if_neg (by omega), st_i, if_neg (by omega), st_f (by decide)]; exact rS.2.1 i a b
  · have hl := (hS.2.2.2.1 w a b).1
    rw [st_i, if_neg (by omega), st_f (by decide)]
    refine ⟨(rS.2.2.1 w a b).1, fun i c d => ?_⟩
    rw [st_i, if_neg (by omega), st_f (by omega)]; exact (rS.2.2.1 w a b).2 i c d
  · rw [st_i, if_neg (by omega), st_f (by decide)]; exact rS.2.2.2.1
  · rw [st_f (by decide)] at b
    rw [st_i, if_neg (by omega), st_f (by decide)]; exact rS.2.2.2.2 i a b
theorem op_settings (h : iv_Z n Z) {a1 : Int} (c1 : dz_c a1 = a1) : dz_p (jf_O_settings a1 Z) (fun q => dz_p (jf_M_settings a1 q.2) (fun q' => iv_Z (n + 1) q'.2 ∧ dz_c q.1 = dz_c q'.1)) := by
  have hp := iv_isP h.1
  have hs := iv_isS h.1
  have hs2 := iv_s2 h.1
  have hP := h.2.1
  have h3 := h.2.1.2.2.1
  have rP := h.2.2.1
  obtain ⟨hS, rS, hB, rF⟩ := h.2.2.2.1
  have hpw := so_pw_b (G := (Z (iv_p Z) 3 0).toNat) (by omega)
  have e1 : dz_c (so_pw (Z (iv_p Z) 3 0).toNat) = so_pw (Z (iv_p Z) 3 0).toNat := dc_ir (by omega) (by omega)
  have e2 : dz_c (so_pw (Z (iv_p Z) 3 0).toNat - 1) = so_pw (Z (iv_p Z) 3 0).toNat - 1 := dc_ir (by omega) (by omega)
  have bad : ¬(0 ≤ a1 ∧ a1 < so_pw (Z (iv_p Z) 3 0).toNat) → dz_p (jf_M_settings a1 Z) (fun q' => iv_Z (n + 1) q'.2 ∧ dz_c (-1) = dz_c q'.1) := by
    intro hv
    unfold jf_M_settings
    refine dp_bi (dp_eq (st_mref rP.2.2.1 h3 rfl) ?_)
    rw [c1, e2]
    exact dp_no (by omega) (dp_sm ⟨iv_nx h, rfl⟩)
  unfold jf_O_settings
  rw [c1]
  refine dp_br (fun a => dp_sm (bad (by omega))) (fun a => ?_)
  refine dp_bi (dp_eq (st_mcls h) ?_)
  rw [e1]
  simp only [show (Z 0 3 0).toNat = iv_s Z from rfl, show (Z 0 2 0).toNat = iv_p Z from rfl]
  refine dp_br (fun b => ?_) (fun b => dp_sm (bad (by omega)))
  refine dp_ck hs (dp_ck hp (dp_bi (dp_eq (st_ncls h3) (dp_bi (dp_eq (st_cls (dc_ir h3.1 (by omega)) h3) (dp_sm ?_))))))
  have y114 : ob_z Z (iv_s Z) (so_sets a1 (Z (iv_p Z) 3 0).toNat (Z (iv_s Z))) 114 = Z 114 := oz_n (by omega)
  have ey : ob_z Z (iv_s Z) (so_sets a1 (Z (iv_p Z) 3 0).toNat (Z (iv_s Z))) = ob_z (ob_z Z (iv_s Z) (so_sets a1 (Z (iv_p Z) 3 0).toNat (Z (iv_s Z)))) 114 (Z 114) := by rw [← y114]; exact oz_i.symm
  dsimp only
  rw [ey]
  unfold jf_M_settings
  refine dp_bi (dp_eq (st_mref (m := Z 114) rP.2.2.1 h3 oz_s) ?_)
  rw [c1, e2]
  refine dp_ck (by omega) (dp_bi (dp_eq (st_nref (S := Z (iv_s Z)) rP.2.2.1 h3 (fun g c d => by have := rS.1.1 g c d; rw [Int.zero_add] at this; exact this)) (dp_bi (dp_eq (st_ref rP.2.2.1 h3) (dp_sm ⟨?_, rfl⟩)))))
  obtain ⟨w1, w2, w3, w4⟩ := W_s (Z := Z) (S := so_sets a1 (Z (iv_p Z) 3 0).toNat (Z (iv_s Z))) (m := so_sets a1 (Z (iv_p Z) 3 0).toNat (Z 114)) hs2
  dsimp only
  refine iv_fin h w4 ?_ ?_ ?_
  · rw [w1, w2, w3]
    exact ⟨st_S hP hS (by omega), st_R hP hS rS, sB_m hB (by omega) (by omega), mrF_m rF (fun j _ _ => by rw [st_i, if_neg (by omega)])⟩
  · intro f a _; rw [w3, st_f a]
  · intro j a b; rw [w3, st_i, if_neg (by omega)]
end oc
end mg_43oc
section mg_44od
/-! tells, dry, water, draws, count -/
def so_dry (o : ob_O) : ob_O := ob_u (ob_u (ob_u (ob_u (ob_u (ob_f (ob_f (ob_f (ob_f (ob_f o 0 (fun _ => 0)) 1 (fun _ => 0)) 2 (fun _ => 0)) 3 (fun _ => 0)) 4 (fun _ => 0)) 5 0 0) 6 0 0) 7 0 0) 8 0 0) 9 0 0
section od
variable {n : Nat} {Z Y : dz_Z} {P S F m o : ob_O} {a1 a2 a3 a4 e v : Int} {c : Nat}
theorem dr_cls : jf_F_dryUp c Z = some (ob_z Z c (so_dry (Z c))) := by
  unfold jf_F_dryUp so_dry
  simp only [dz_a, oz_f, oz_u, oz_s, oz_z]
theorem dr_f : (so_dry o 0 = fun _ => 0) ∧ (so_dry o 1 = fun _ => 0) ∧ (so_dry o 2 = fun _ => 0) ∧ (so_dry o 3 = fun _ => 0) ∧ (so_dry o 4 = fun _ => 0) ∧ so_dry o 5 0 = 0 ∧ so_dry o 6 0 = 0 ∧ so_dry o 7 0 = 0 ∧ so_dry o 8 0 = 0 ∧ so_dry o 9 0 = 0 := by
  unfold so_dry
  refine ⟨?_, ?_, ?_, ?_, ?_, ?_, ?_, ?_, ?_, ?_⟩
  · rw [ou_ff (by decide), ou_ff (by decide), ou_ff (by decide), ou_ff (by decide), ou_ff (by decide), of_n (by decide), of_n (by decide), of_n (by decide), of_n (by decide), of_s]
  · rw [ou_ff (by decide), ou_ff (by decide), ou_ff (by decide), ou_ff (by decide), ou_ff (by decide), of_n (by decide), of_n (by decide), of_n (by decide), of_s]
  · rw [ou_ff (by decide), ou_ff (by decide), ou_ff (by decide), ou_ff (by decide), ou_ff (by decide), of_n (by decide), of_n (by decide), of_s]
  · rw [ou_ff (by decide), ou_ff (by decide), ou_ff (by decide), ou_ff (by decide), ou_ff (by decide), of_n (by decide), of_s]
  · rw [ou_ff (by decide), ou_ff (by decide), ou_ff (by decide), ou_ff (by decide), ou_ff (by decide), of_s]
  · rw [ou_f (by decide), ou_f (by decide), ou_f (by decide), ou_f (by decide), ou_s]
  · rw [ou_f (by decide), ou_f (by decide), ou_f (by decide), ou_s]
  · rw [ou_f (by decide), ou_f (by decide), ou_s]
  · rw [ou_f (by decide), ou_s]
  · rw [ou_s]
/-- a flow that is dry -/
def so_D (o : ob_O) : Prop := (o 0 = fun _ => 0) ∧ (o 1 = fun _ => 0) ∧ (o 2 = fun _ => 0) ∧ (o 3 = fun _ => 0) ∧ (o 4 = fun _ => 0) ∧ o 5 0 = 0 ∧ o 6 0 = 0 ∧ o 7 0 = 0 ∧ o 8 0 = 0 ∧ o 9 0 = 0
theorem dr_B (h : so_D o) {B H : Int} (hB : 0 ≤ B) (hH : 0 ≤ H) : so_B B H o := by
  obtain ⟨h0, h1, h2, h3, h4, -⟩ := h
  unfold so_B
  rw [h0, h1, h2, h3, sm_z]
  exact ⟨fun i _ _ => ⟨Int.le_refl _, Int.le_refl _, ⟨Int.le_refl _, by show (0 : Int) ≤ 30; decide⟩, Int.le_refl _, hH⟩, by omega⟩
theorem dr_F (h : so_D o) (hm : ∀ j : Int, e + 86 ≤ j → j < e + 138 → m 0 j = 0) : mr_F e P o m := by
  obtain ⟨h0, h1, h2, h3, h4, h5, h6, h7, h8, h9⟩ := h
  unfold mr_F
  rw [h0, h1, h2, h3, h4, h5, h6, h7, h8]
  refine ⟨fun i a b => ⟨hm _ (by omega) (by omega), hm _ (by omega) (by omega), hm _ (by omega) (by omega), hm _ (by omega) (by omega), hm _ (by omega) (by omega), ?_, fun _ => ⟨rfl, rfl⟩⟩, hm _ (by omega) (by omega), hm _ (by omega) (by omega), hm _ (by omega) (by omega), hm _ (by omega) (by omega)⟩
  rw [hm _ (by omega) (by omega)]
  exact (if_neg (by show ¬(i < P 6 0 ∧ 0 < P 15 0 ∧ P 15 0 ≤ 0); omega)).symm
theorem dr_ref (he : mr_pg e) {K : dz_Z → Prop} (k : ∀ m' : ob_O, (∀ j : Int, e + 86 ≤ j → j < e + 140 → m' 0 j = 0) → (∀ j : Int, (j < e + 86 ∨ e + 140 ≤ j) → m' 0 j = m 0 j) → (∀ f : Nat, f ≠ 0 → m' f = m f) → K (ob_z Y 114 m')) : dz_p (jf_M_dries e (ob_z Y 114 m)) K := by
  have hpg : 0 ≤ e ∧ e + 140 ≤ 700 := by unfold mr_pg at he; omega
  unfold jf_M_dries
  refine dp_lp (fun k s => ∃ (r : Nat) (m' : ob_O), r + k = 140 ∧ 86 ≤ r ∧ s = ((r : Int), ob_z Y 114 m') ∧ (∀ j : Int, e + 86 ≤ j → j < e + r → m' 0 j = 0) ∧ (∀ j : Int, (j < e + 86 ∨ e + r ≤ j) → m' 0 j = m 0 j) ∧ (∀ f : Nat, f ≠ 0 → m' f = m f)) ?_ 5000 54 (86, ob_z Y 114 m) (by omega) ⟨86, m, by omega, by omega, rfl, fun j a b => absurd b (by omega), fun j _ => rfl, fun f _ => rfl⟩
  rintro k1 _ ⟨r, m', hr, hr86, rfl, h1, h2, h3⟩
  have er : dz_c (r : Int) = r := dc_ir (by omega) (by omega)
  have er2 : dz_c (e + (r : Int)) = e + r := dc_ir (by omega) (by omega)
  simp only [er, er2]
  by_cases hk : r = 140
  · subst hk
    exact dp_ck (by omega) (dp_sm (k m' h1 h2 h3))
  · refine dp_no (by omega) (dp_ck (by omega) (dp_le (dp_sm ⟨k1 - 1, by omega, r + 1, ob_u m' 0 (e + r) 0, by omega, by omega, ?_, fun j a b => ?_, fun j a => ?_, fun f a => ?_⟩)))
    · rw [oz_uz]
      rfl
    · rw [ou_a]
      split
      · rfl
      · exact h1 j a (by omega)
    · rw [ou_i (by omega)]; exact h2 j (by omega)
    · rw [ou_ff a]; exact h3 f a
theorem op_dry (h : iv_Z n Z) : dz_p (jf_O_dry Z) (fun q => dz_p (jf_M_dry q.2) (fun q' => iv_Z (n + 1) q'.2 ∧ dz_c q.1 = dz_c q'.1)) := by
  have hs2 := iv_s2 h.1
  obtain ⟨hS, rS, hB, rF⟩ := h.2.2.2.1
  unfold jf_O_dry jf_M_dry
  refine dp_bi (dp_eq dr_cls (dp_sm ?_))
  have y114 : ob_z Z 46 (so_dry (Z 46)) 114 = Z 114 := oz_n (by decide)
  have ey : ob_z Z 46 (so_dry (Z 46)) = ob_z (ob_z Z 46 (so_dry (Z 46))) 114 (Z 114) := by rw [← y114]; exact oz_i.symm
  dsimp only
  rw [ey]
  refine dp_bi (dr_ref (Or.inl rfl) (fun m' h1 h2 h3 => dp_sm ⟨?_, ?_⟩))
  · dsimp only
    refine iv_fin h (fun b h46 _ _ _ h114 _ => by rw [oz_n h114, oz_n h46]) ?_ ?_ ?_
    · rw [oz_s, oz_n (show iv_s Z ≠ 114 by omega), oz_n (show iv_s Z ≠ 46 by omega), oz_n (show (46 : Nat) ≠ 114 by decide), oz_s]
      exact ⟨hS, mrS_m rS h.2.1 hS (fun j _ _ => h2 j (by omega)), dr_B dr_f (by omega) (by omega), dr_F dr_f (fun j a b => h1 j a (by omega))⟩
    · intro f a _; rw [oz_s, h3 f a]
    · intro j a b; rw [oz_s, h2 j (by omega)]
  · have := rF.2.1
    rw [Int.zero_add] at this
    rw [oz_s, this]
theorem sm_os {b f k : Nat} (hk : k ≤ 1000) : jf_O_sum b f k Z = some (so_sm (Z b f) k) := by
  apply dp_is
  unfold jf_O_sum
  have ek : dz_c (k : Int) = k := dc_ir (by omega) (by omega)
  refine dp_lp (fun j s => ∃ r : Nat, r + j = k ∧ s = (so_sm (Z b f) r, (r : Int))) ?_ 5000 k (0, 0) (by omega) ⟨0, by omega, rfl⟩
  rintro j _ ⟨r, hr, rfl⟩
  have er : dz_c (r : Int) = r := dc_ir (by omega) (by omega)
  simp only [ek, er]
  by_cases hj : r = k
  · subst hj
    exact dp_ck (by omega) (dp_sm rfl)
  · exact dp_no (by omega) (dp_ck (by omega) (dp_sm ⟨j - 1, by omega, r + 1, by omega, rfl⟩))
theorem sm_ms {q : Int} (h0 : 0 ≤ e + q) (h1 : e + q + 8 ≤ 700) : jf_M_sumOf e q Y = some (so_sm (fun i => Y 114 0 (e + q + i)) 8) := by
  apply dp_is
  unfold jf_M_sumOf
  refine dp_lp (fun j s => ∃ r : Nat, r + j = 8 ∧ s = (so_sm (fun i => Y 114 0 (e + q + i)) r, (r : Int))) ?_ 5000 8 (0, 0) (by omega) ⟨0, by omega, rfl⟩
  rintro j _ ⟨r, hr, rfl⟩
  have er : dz_c (r : Int) = r := dc_ir (by omega) (by omega)
  have er2 : dz_c (e + q + (r : Int)) = e + q + r := dc_ir (by omega) (by omega)
  simp only [er, er2]
  by_cases hj : r = 8
  · subst hj
    exact dp_ck (by omega) (dp_sm rfl)
  · exact dp_no (by omega) (dp_ck (by omega) (dp_sm ⟨j - 1, by omega, r + 1, by omega, rfl⟩))
theorem op_water (h : iv_Z n Z) (c1 : dz_c a1 = a1) : dz_p (jf_O_water a1 Z) (fun q => dz_p (jf_M_water a1 Z) (fun q' => dz_c q = dz_c q')) := by
  obtain ⟨-, -, -, rF⟩ := h.2.2.2.1
  obtain ⟨r1, r5, r6, r7, r8⟩ := rF
  rw [Int.zero_add] at r5 r6 r7 r8
  have s0 : so_sm (Z 46 0) 8 = so_sm (fun i => Z 114 0 (0 + 86 + i)) 8 := sm_c 8 (fun i a b => (r1 i a b).1.symm)
  have s3 : so_sm (Z 46 3) 8 = so_sm (fun i => Z 114 0 (0 + 110 + i)) 8 := sm_c 8 (fun i a b => (r1 i a b).2.2.2.1.symm)
  unfold jf_O_water jf_M_water
  simp only [c1, sm_os (show (8 : Nat) ≤ 1000 by decide), sm_ms (e := 0) (q := 86) (by decide) (by decide), sm_ms (e := 0) (q := 110) (by decide) (by decide), Option.bind_some]
  refine dp_br (fun a => dp_sm (dp_ck a (dp_sm (by rw [r5])))) (fun a => ?_)
  refine dp_br (fun b => dp_sm (dp_no a (dp_ck b (dp_sm (by rw [r6]))))) (fun b => ?_)
  refine dp_br (fun c => dp_sm (dp_no a (dp_no b (dp_ck c (dp_sm (by rw [r7])))))) (fun c => ?_)
  refine dp_br (fun d => dp_sm (dp_no a (dp_no b (dp_no c (dp_ck d (dp_sm (by rw [s0]))))))) (fun d => ?_)
  refine dp_br (fun e => dp_sm (dp_no a (dp_no b (dp_no c (dp_no d (dp_ck e (dp_sm (by rw [s3])))))))) (fun e => ?_)
  refine dp_br (fun f => dp_sm (dp_no a (dp_no b (dp_no c (dp_no d (dp_no e (dp_ck f (dp_sm (by rw [r8]))))))))) (fun f => ?_)
  exact dp_sm (dp_no a (dp_no b (dp_no c (dp_no d (dp_no e (dp_no f (dp_sm rfl)))))))
theorem so_S_tune {i : Int} (hS : so_S P S) (hi : 0 ≤ i ∧ i ≤ S 6 0 ∧ i < 12) (hv : 0 ≤ v ∧ v ≤ 255) {k : Int} (hk : k = if i = S 6 0 then 1 else 0) : so_S P (ob_u (ob_u S 5 i v) 6 0 (S 6 0 + k)) := by
  refine ⟨?_, ?_, ?_, ?_, ?_, ?_⟩
  · rw [ou_ff (by decide), ou_ff (by decide)]; exact hS.1
  · rw [ou_ff (by decide), ou_ff (by decide)]; exact hS.2.1
  · rw [ou_ff (by decide), ou_ff (by decide)]; exact hS.2.2.1
  · intro w a b
    rw [ou_ff (by decide), ou_ff (by decide), ou_ff (by omega), ou_ff (by omega)]; exact hS.2.2.2.1 w a b
  · rw [ou_s]
    have := hS.2.2.2.2.1
    split at hk <;> omega
  · intro j a b
    rw [ou_s] at b
    rw [ou_f (by decide), ou_a]
    split
    · exact hv
    · next hj => exact hS.2.2.2.2.2 j a (by split at hk <;> omega)
theorem mr_S_tune {i : Int} (hP : so_P P) (hS : so_S P S) (rS : mr_S 0 P S m) (hi : 0 ≤ i ∧ i ≤ S 6 0 ∧ i < 12) {k : Int} (hk : k = if i = S 6 0 then 1 else 0) : mr_S 0 P (ob_u (ob_u S 5 i v) 6 0 (S 6 0 + k)) (ob_u (ob_u m 0 (74 + i) v) 0 73 (S 6 0 + k)) := by
  have h3 := hP.2.2.1
  have h6 := hP.2.2.2.2.1
  have h10 := hP.2.2.2.2.2.2.1
  refine ⟨⟨fun i a b => ?_, fun i a b => ?_, fun i a b => ?_⟩, fun i a b => ?_, fun w a b => ?_, ?_, fun j a b => ?_⟩
  · rw [ou_i (by omega), ou_i (by omega), ou_f (by decide), ou_f (by decide)]; exact rS.1.1 i a b
  · rw [ou_i (by omega), ou_i (by omega), ou_f (by decide), ou_f (by decide)]; exact rS.1.2.1 i a b
  · rw [ou_i (by omega), ou_i (by omega), ou_i (by omega), ou_i (by omega), ou_i (by omega), ou_i (by omega), ou_f (by decide), ou_f (by decide)]; exact rS.1.2.2 i a b
  · rw [ou_i (by omega), ou_i (by omega), ou_i (by omega), ou_i (by omega), ou_f (by decide), ou_f (by decide)]; exact rS.2.1 i a b
  · have hl := (hS.2.2.2.1 w a b).1
    rw [ou_i (by omega), ou_i (by omega), ou_f (by decide), ou_f (by decide)]
    refine ⟨(rS.2.2.1 w a b).1, fun i c d => ?_⟩
    rw [ou_i (by omega), ou_i (by omega), ou_f (by omega), ou_f (by omega)]; exact (rS.2.2.1 w a b).2 i c d
  · rw [Int.zero_add, ou_s, ou_s]
  · rw [ou_s] at b
    rw [Int.zero_add, ou_i (f := 0) (i := 73) (by omega), ou_a (f := 0), ou_f (f := 6) (by decide), ou_a (f := 5)]
    by_cases c : j = i
    · rw [if_pos (by omega), if_pos c]
    · rw [if_neg (by omega), if_neg c]
      have := rS.2.2.2.2 j a (by split at hk <;> omega)
      rw [Int.zero_add] at this
      exact this
theorem op_tells (h : iv_Z n Z) (c1 : dz_c a1 = a1) (c2 : dz_c a2 = a2) : dz_p (jf_O_tells a1 a2 Z) (fun q => dz_p (jf_M_tells a1 a2 q.2) (fun q' => iv_Z (n + 1) q'.2 ∧ dz_c q.1 = dz_c q'.1)) := by
  have hs := iv_isS h.1
  have hs2 := iv_s2 h.1
  obtain ⟨hS, rS, hB, rF⟩ := h.2.2.2.1
  have h6 := hS.2.2.2.2.1
  have r73 := rS.2.2.2.1
  rw [Int.zero_add] at r73
  have e1 : dz_c (Z (iv_s Z) 6 0) = Z (iv_s Z) 6 0 := dc_ir h6.1 (by omega)
  have bad : ¬(0 ≤ a1 ∧ a1 ≤ Z (iv_s Z) 6 0 ∧ 0 ≤ a2 ∧ a2 ≤ 255) → dz_p (jf_M_tells a1 a2 Z) (fun q' => iv_Z (n + 1) q'.2 ∧ dz_c (-1) = dz_c q'.1) := by
    intro hv
    unfold jf_M_tells
    rw [c1, c2, r73, e1]
    refine dp_br (fun _ => dp_sm ⟨iv_nx h, rfl⟩) (fun x => dp_no (by omega) (dp_sm ⟨iv_nx h, rfl⟩))
  unfold jf_O_tells
  simp only [show (Z 0 3 0).toNat = iv_s Z from rfl, c1, c2, e1]
  refine dp_br (fun a => dp_sm (bad (by omega))) (fun a => dp_ck hs ?_)
  refine dp_br (fun b => dp_sm (bad (by omega))) (fun b => ?_)
  refine dp_br (fun c => dp_sm (bad (by omega))) (fun c => ?_)
  refine dp_br (fun d => ?_) (fun d => dp_sm (bad (by omega)))
  refine dp_br (fun f => ?_) (fun f => dp_sm ?_)
  · refine dp_ck (by omega) (dp_le ?_)
    have z0 : ∀ S' : ob_O, ob_z Z (iv_s Z) S' 0 = Z 0 := fun S' => oz_n (by omega)
    simp only [oz_u, z0, show (Z 0 3 0).toNat = iv_s Z from rfl, oz_s, ou_f (show (6 : Nat) ≠ 5 by decide), e1, oz_z]
    have fin : ∀ k : Int, k = (if a1 = Z (iv_s Z) 6 0 then 1 else 0) → dz_p (jf_M_tells a1 a2 (ob_z Z (iv_s Z) (ob_u (ob_u (Z (iv_s Z)) 5 a1 a2) 6 0 (Z (iv_s Z) 6 0 + k)))) (fun q' => iv_Z (n + 1) q'.2 ∧ dz_c (Z (iv_s Z) 6 0 + k) = dz_c q'.1) := by
      intro k hk
      have y114 : ob_z Z (iv_s Z) (ob_u (ob_u (Z (iv_s Z)) 5 a1 a2) 6 0 (Z (iv_s Z) 6 0 + k)) 114 = Z 114 := oz_n (by omega)
      unfold jf_M_tells
      rw [c1, c2, y114, r73, e1, dc_ir (x := 74 + a1) (by omega) (by omega)]
      refine dp_no (by omega) (dp_ck (by omega) (dp_ck (by omega) (dp_ck (by omega) (dp_le ?_))))
      have e73 : ob_u (Z 114) 0 (74 + a1) a2 0 73 = Z (iv_s Z) 6 0 := by rw [ou_i (by omega)]; exact r73
      simp only [oz_u, oz_s, oz_z, y114, e73, e1]
      refine dp_bi ?_
      have key : dz_p (dz_a (ob_z (ob_z Z (iv_s Z) (ob_u (ob_u (Z (iv_s Z)) 5 a1 a2) 6 0 (Z (iv_s Z) 6 0 + k))) 114 (ob_u (ob_u (Z 114) 0 (74 + a1) a2) 0 73 (Z (iv_s Z) 6 0 + k))) fun Z8 => some (Z8 114 0 73, Z8)) (fun q' => iv_Z (n + 1) q'.2 ∧ dz_c (Z (iv_s Z) 6 0 + k) = dz_c q'.1) := by
        refine dp_le (dp_sm ⟨?_, ?_⟩)
        · obtain ⟨w1, w2, w3, w4⟩ := W_s (Z := Z) (S := ob_u (ob_u (Z (iv_s Z)) 5 a1 a2) 6 0 (Z (iv_s Z) 6 0 + k)) (m := ob_u (ob_u (Z 114) 0 (74 + a1) a2) 0 73 (Z (iv_s Z) 6 0 + k)) hs2
          dsimp only
          refine iv_fin h w4 ?_ ?_ ?_
          · rw [w1, w2, w3]
            exact ⟨so_S_tune hS (by omega) (by omega) hk, mr_S_tune h.2.1 hS rS (by omega) hk, sB_m hB (by omega) (by omega), mrF_m rF (fun j _ _ => by rw [ou_i (by omega), ou_i (by omega)])⟩
          · intro f a _; rw [w3, ou_ff a, ou_ff a]
          · intro j a b; rw [w3, ou_i (by omega), ou_i (by omega)]
        · rw [oz_s, ou_s]
      by_cases ce : a1 = Z (iv_s Z) 6 0
      · rw [if_pos ce] at hk
        subst hk
        exact dp_no (by omega) (dp_sm key)
      · rw [if_neg ce] at hk
        subst hk
        exact dp_ck ce (dp_sm key)
    refine dp_ck hs ?_
    by_cases ce : a1 = Z (iv_s Z) 6 0
    · refine dp_no (by omega) (dp_le ?_)
      simp only [z0, show (Z 0 3 0).toNat = iv_s Z from rfl, oz_s, ou_s]
      exact dp_ck hs (dp_sm (fin 1 (by rw [if_pos ce])))
    · refine dp_ck ce (dp_sm ?_)
      have := fin 0 (by rw [if_neg ce])
      rw [Int.add_zero, show ob_u (ob_u (Z (iv_s Z)) 5 a1 a2) 6 0 (Z (iv_s Z) 6 0) = ob_u (Z (iv_s Z)) 5 a1 a2 from by
        have := ou_m (o := ob_u (Z (iv_s Z)) 5 a1 a2) (f := 6) (i := 0)
        rw [ou_f (by decide)] at this
        exact this] at this
      exact this
  · dsimp only
    unfold jf_M_tells
    rw [c1, c2, r73, e1]
    exact dp_no (by omega) (dp_ck (by omega) (dp_no (by omega) (dp_sm ⟨iv_nx h, rfl⟩)))
end od
end mg_44od
section mg_45oe
/-! the tape, sheets, draws, count -/
section oe
variable {n : Nat} {Z Y : dz_Z} {P S F m m' o T H : ob_O} {a1 a2 a3 a4 e v : Int} {c : Nat}
/-- the tape alone changes -/
theorem iv_tp (h : iv_Z n Z) (hT : iv_T T m') (hf : ∀ f : Nat, f ≠ 21 → f ≠ 22 → m' f = Z 114 f) : iv_Z (n + 1) (ob_z (ob_z Z 2 T) 114 m') := by
  obtain ⟨h1, h2, h3, h4, ⟨h5, h6⟩, h7, ⟨h8, h9, h10, h11⟩, h12, h13, h14⟩ := iv_nx h
  have hs := iv_s2 h1
  have hp := iv_p2 h1
  have z : ∀ b : Nat, b ≠ 2 → b ≠ 114 → ob_z (ob_z Z 2 T) 114 m' b = Z b := fun b a b' => by rw [oz_n b', oz_n a]
  have ep : iv_p (ob_z (ob_z Z 2 T) 114 m') = iv_p Z := by unfold iv_p; rw [z 0 (by decide) (by decide)]
  have es : iv_s (ob_z (ob_z Z 2 T) 114 m') = iv_s Z := by unfold iv_s; rw [z 0 (by decide) (by decide)]
  unfold iv_Z iv
  rw [ep, es, oz_s, z 0 (by decide) (by decide), z 1 (by decide) (by decide), z (iv_p Z) (by omega) (by omega), z (iv_s Z) (by omega) (by omega), z 46 (by decide) (by decide), z 68 (by decide) (by decide), z 69 (by decide) (by decide), z 79 (by decide) (by decide), z 87 (by decide) (by decide), z 88 (by decide) (by decide), z 98 (by decide) (by decide), z 106 (by decide) (by decide), z 108 (by decide) (by decide), z 110 (by decide) (by decide), z 112 (by decide) (by decide), oz_n (show (2 : Nat) ≠ 114 by decide), oz_s, hf 45 (by decide) (by decide), hf 30 (by decide) (by decide), hf 31 (by decide) (by decide)]
  have m0 : m' 0 = Z 114 0 := hf 0 (by decide) (by decide)
  exact ⟨h1, h2, mrP_m h3 (fun f a b => hf f (by omega) (by omega)), iv_Im h4 h2 (fun j _ _ => by rw [m0]), ⟨iv_Gm h5 h2 (by decide) (hf 41 (by decide) (by decide)) (fun j _ _ => by rw [m0]), iv_Gm h6 h2 (by decide) (hf 41 (by decide) (by decide)) (fun j _ _ => by rw [m0])⟩, hT, ⟨iv_hm h8 (hf 42 (by decide) (by decide)) (hf 43 (by decide) (by decide)) (hf 44 (by decide) (by decide)), iv_hm h9 (hf 42 (by decide) (by decide)) (hf 43 (by decide) (by decide)) (hf 44 (by decide) (by decide)), iv_hm h10 (hf 42 (by decide) (by decide)) (hf 43 (by decide) (by decide)) (hf 44 (by decide) (by decide)), iv_hm h11 (hf 42 (by decide) (by decide)) (hf 43 (by decide) (by decide)) (hf 44 (by decide) (by decide))⟩, h12, h13, h14⟩
theorem op_end (h : iv_Z n Z) (c1 : dz_c a1 = a1) : dz_p (jf_O_end a1 Z) (fun q => dz_p (jf_M_end a1 q.2) (fun q' => iv_Z (n + 1) q'.2 ∧ dz_c q.1 = dz_c q'.1)) := by
  obtain ⟨t1, t2, t3⟩ := h.2.2.2.2.2.1
  have e1 : dz_c (Z 2 1 0) = Z 2 1 0 := dc_ir t1.1 (by omega)
  have bad : ¬(0 ≤ a1 ∧ a1 ≤ Z 2 1 0) → dz_p (jf_M_end a1 Z) (fun q' => iv_Z (n + 1) q'.2 ∧ dz_c (-1) = dz_c q'.1) := by
    intro hv
    unfold jf_M_end
    rw [c1, t2, e1]
    exact dp_no hv (dp_sm ⟨iv_nx h, rfl⟩)
  unfold jf_O_end
  rw [c1, e1]
  refine dp_br (fun a => dp_sm (bad (by omega))) (fun a => dp_br (fun b => ?_) (fun b => dp_sm (bad (by omega))))
  refine dp_le (dp_sm ?_)
  dsimp only
  rw [oz_u]
  have y114 : ob_z Z 2 (ob_u (Z 2) 1 0 a1) 114 = Z 114 := oz_n (by decide)
  unfold jf_M_end
  rw [y114, c1, t2, e1]
  refine dp_ck (by omega) (dp_le (dp_sm ⟨?_, e1.symm⟩))
  dsimp only
  rw [oz_u, y114]
  refine iv_tp h ⟨?_, ?_, fun i a b => ?_⟩ (fun f _ b => ou_ff b)
  · rw [ou_s]; omega
  · rw [ou_s, ou_s]
  · rw [ou_s] at b
    rw [ou_f (by decide), ou_f (by decide)]
    exact t3 i a (by omega)
theorem op_feed (h : iv_Z n Z) : dz_p (jf_O_feed a1 Z) (fun q => dz_p (jf_M_feed a1 q.2) (fun q' => iv_Z (n + 1) q'.2 ∧ dz_c q.1 = dz_c q'.1)) := by
  obtain ⟨t1, t2, t3⟩ := h.2.2.2.2.2.1
  have e1 : dz_c (Z 2 1 0 + 8) = Z 2 1 0 + 8 := dc_ir (by omega) (by omega)
  unfold jf_O_feed
  rw [e1]
  refine dp_br (fun a => ?_) (fun a => dp_sm ?_)
  · refine dp_lp (fun k s => ∃ (r : Nat) (T : ob_O), r + k = 8 ∧ s = (56 - 8 * (r : Int), ob_z Z 2 T) ∧ T 1 0 = Z 2 1 0 + r ∧ (∀ i : Int, i < Z 2 1 0 → T 0 i = Z 2 0 i) ∧ (∀ i : Int, 0 ≤ i → i < r → T 0 (Z 2 1 0 + i) = dz_b (dz_b (dz_li (dz_lur a1 (56 - 8 * i)))))) ?_ 5000 8 (56, Z) (by omega) ⟨0, Z 2, by omega, by rw [oz_i]; rfl, by omega, fun i _ => rfl, fun i a b => absurd b (by omega)⟩
    rintro k _ ⟨r, T, hr, rfl, hT1, hT2, hT3⟩
    have e2 : dz_c (56 - 8 * (r : Int)) = 56 - 8 * r := dz_ci (by omega) (by omega)
    have e3 : dz_c (Z 2 1 0 + (r : Int)) = Z 2 1 0 + r := dc_ir (by omega) (by omega)
    simp only [e2, oz_s, hT1, e3]
    by_cases hk : ¬ r = 8
    · refine dp_no (by omega) (dp_ck (by omega) (dp_le (dp_le (dp_sm ⟨k - 1, by omega, r + 1, ob_u (ob_u T 0 (Z 2 1 0 + r) (dz_b (dz_b (dz_li (dz_lur a1 (56 - 8 * (r : Int))))))) 1 0 (Z 2 1 0 + r + 1), by omega, ?_, ?_, fun i b => ?_, fun i b c => ?_⟩))))
      · simp only [oz_uz, oz_s, ou_f (show (1 : Nat) ≠ 0 by decide), hT1]
        rw [show 56 - 8 * (r : Int) + -8 = 56 - 8 * ((r + 1 : Nat) : Int) by omega]
      · rw [ou_s]; omega
      · rw [ou_f (by decide), ou_i (by omega)]; exact hT2 i b
      · rw [ou_f (by decide), ou_a]
        by_cases ci : i = r
        · rw [if_pos (by omega), ci]
        · rw [if_neg (by omega)]; exact hT3 i b (by omega)
    have hk : r = 8 := by omega
    subst hk
    refine dp_ck (by omega) (dp_sm ?_)
    show dz_p (jf_M_feed a1 (ob_z Z 2 T)) (fun q' => iv_Z (n + 1) q'.2 ∧ dz_c (Z 2 1 0 + ((8 : Nat) : Int)) = dz_c q'.1)
    have y114 : ob_z Z 2 T 114 = Z 114 := oz_n (by decide)
    have ey : ob_z Z 2 T = ob_z (ob_z Z 2 T) 114 (Z 114) := by rw [← y114]; exact oz_i.symm
    rw [ey]
    unfold jf_M_feed
    rw [oz_s, t2, e1]
    refine dp_ck a ?_
    refine dp_lp (fun k s => ∃ (r : Nat) (m : ob_O), r + k = 8 ∧ s = (56 - 8 * (r : Int), ob_z (ob_z Z 2 T) 114 m) ∧ m 22 0 = Z 2 1 0 + r ∧ (∀ i : Int, i < Z 2 1 0 → m 21 i = Z 114 21 i) ∧ (∀ i : Int, 0 ≤ i → i < r → m 21 (Z 2 1 0 + i) = dz_an (dz_li (dz_lsr a1 (56 - 8 * i))) 255) ∧ (∀ f : Nat, f ≠ 21 → f ≠ 22 → m f = Z 114 f)) ?_ 5000 8 (56, ob_z (ob_z Z 2 T) 114 (Z 114)) (by omega) ⟨0, Z 114, by omega, rfl, by rw [t2]; omega, fun i _ => rfl, fun i a b => absurd b (by omega), fun f _ _ => rfl⟩
    rintro k2 _ ⟨r, m, hr2, rfl, hm1, hm2, hm3, hm4⟩
    have e2 : dz_c (56 - 8 * (r : Int)) = 56 - 8 * r := dz_ci (by omega) (by omega)
    have e3 : dz_c (Z 2 1 0 + (r : Int)) = Z 2 1 0 + r := dc_ir (by omega) (by omega)
    simp only [e2, oz_s, hm1, e3]
    by_cases hk : ¬ r = 8
    · refine dp_no (by omega) (dp_ck (by omega) (dp_le (dp_le (dp_sm ⟨k2 - 1, by omega, r + 1, ob_u (ob_u m 21 (Z 2 1 0 + r) (dz_an (dz_li (dz_lsr a1 (56 - 8 * (r : Int)))) 255)) 22 0 (Z 2 1 0 + r + 1), by omega, ?_, ?_, fun i b => ?_, fun i b c => ?_, fun f b c => ?_⟩))))
      · simp only [oz_uz, oz_s, ou_f (show (22 : Nat) ≠ 21 by decide), hm1]
        rw [show 56 - 8 * (r : Int) + -8 = 56 - 8 * ((r + 1 : Nat) : Int) by omega]
      · rw [ou_s]; omega
      · rw [ou_f (by decide), ou_i (by omega)]; exact hm2 i b
      · rw [ou_f (by decide), ou_a]
        by_cases ci : i = r
        · rw [if_pos (by omega), ci]
        · rw [if_neg (by omega)]; exact hm3 i b (by omega)
      · rw [ou_ff c, ou_ff b]; exact hm4 f b c
    have hk : r = 8 := by omega
    subst hk
    refine dp_ck (by omega) (dp_sm ⟨?_, rfl⟩)
    refine iv_tp h ⟨by omega, by omega, fun i b c => ?_⟩ hm4
    by_cases ci : i < Z 2 1 0
    · rw [hT2 i ci, hm2 i ci]; exact t3 i b ci
    · have hb := hT3 (i - Z 2 1 0) (by omega) (by omega)
      have hm := hm3 (i - Z 2 1 0) (by omega) (by omega)
      rw [show Z 2 1 0 + (i - Z 2 1 0) = i by omega] at hb hm
      rw [hb, hm]
      have hi : i - Z 2 1 0 = 0 ∨ i - Z 2 1 0 = 1 ∨ i - Z 2 1 0 = 2 ∨ i - Z 2 1 0 = 3 ∨ i - Z 2 1 0 = 4 ∨ i - Z 2 1 0 = 5 ∨ i - Z 2 1 0 = 6 ∨ i - Z 2 1 0 = 7 := by omega
      rcases hi with hi | hi | hi | hi | hi | hi | hi | hi <;> rw [hi]
      · exact bf_by a1 56 56 (by decide) (by decide) (by decide)
      · exact bf_by a1 48 48 (by decide) (by decide) (by decide)
      · exact bf_by a1 40 40 (by decide) (by decide) (by decide)
      · exact bf_by a1 32 32 (by decide) (by decide) (by decide)
      · exact bf_by a1 24 24 (by decide) (by decide) (by decide)
      · exact bf_by a1 16 16 (by decide) (by decide) (by decide)
      · exact bf_by a1 8 8 (by decide) (by decide) (by decide)
      · exact bf_by a1 0 0 (by decide) (by decide) (by decide)
  · dsimp only
    unfold jf_M_feed
    rw [t2, e1]
    exact dp_no a (dp_sm ⟨iv_nx h, rfl⟩)
/-- which sheet -/
theorem sh_is (c1 : dz_c a1 = a1) : jf_O_isSheet a1 = some (decide (0 ≤ a1 ∧ a1 < 4)) := by
  unfold jf_O_isSheet
  rw [c1]
  by_cases a : a1 < 0
  · rw [if_pos a, decide_eq_false (by omega)]
  · rw [if_neg a]
    by_cases b : 4 ≤ a1
    · rw [if_pos b, decide_eq_false (by omega)]
    · rw [if_neg b, decide_eq_true (by omega)]
theorem ln_is (c1 : dz_c a1 = a1) : jf_O_isLane a1 = some (decide (0 ≤ a1 ∧ a1 < 3)) := by
  unfold jf_O_isLane
  rw [c1]
  by_cases a : a1 < 0
  · rw [if_pos a, decide_eq_false (by omega)]
  · rw [if_neg a]
    by_cases b : 3 ≤ a1
    · rw [if_pos b, decide_eq_false (by omega)]
    · rw [if_neg b, decide_eq_true (by omega)]
theorem iv_sh (h : iv n Z m) (ha : 0 ≤ a1 ∧ a1 < 4) : iv_h (Z (106 + 2 * a1.toNat)) m a1 := by
  have h8 := h.2.2.2.2.2.2.1
  have : a1 = 0 ∨ a1 = 1 ∨ a1 = 2 ∨ a1 = 3 := by omega
  rcases this with rfl | rfl | rfl | rfl
  · exact h8.1
  · exact h8.2.1
  · exact h8.2.2.1
  · exact h8.2.2.2
/-- a sheet alone changes -/
theorem iv_st (h : iv_Z n Z) (ha : 0 ≤ a1 ∧ a1 < 4) (hH : iv_h H m' a1) (hf : ∀ f : Nat, f ≠ 42 → f ≠ 43 → f ≠ 44 → m' f = Z 114 f) (ho : ∀ k : Int, 0 ≤ k → k < 4 → k ≠ a1 → m' 42 k = Z 114 42 k ∧ m' 43 k = Z 114 43 k ∧ ∀ i : Int, 0 ≤ i → i < 40 → m' 44 (40 * k + i) = Z 114 44 (40 * k + i)) : iv_Z (n + 1) (ob_z (ob_z Z (106 + 2 * a1.toNat) H) 114 m') := by
  obtain ⟨h1, h2, h3, h4, ⟨h5, h6⟩, h7, h8, h12, h13, h14⟩ := iv_nx h
  have hs := iv_s2 h1
  have hp := iv_p2 h1
  have z : ∀ b : Nat, b < 106 → ob_z (ob_z Z (106 + 2 * a1.toNat) H) 114 m' b = Z b := fun b a => by rw [oz_n (by omega), oz_n (by omega)]
  have ep : iv_p (ob_z (ob_z Z (106 + 2 * a1.toNat) H) 114 m') = iv_p Z := by unfold iv_p; rw [z 0 (by decide)]
  have es : iv_s (ob_z (ob_z Z (106 + 2 * a1.toNat) H) 114 m') = iv_s Z := by unfold iv_s; rw [z 0 (by decide)]
  have sh : ∀ k : Int, 0 ≤ k → k < 4 → iv_h (Z (106 + 2 * k.toNat)) (Z 114) k → iv_h (ob_z (ob_z Z (106 + 2 * a1.toNat) H) 114 m' (106 + 2 * k.toNat)) m' k := by
    intro k k0 k4 hk
    by_cases e : k = a1
    · subst e
      rw [oz_n (by omega), oz_s]
      exact hH
    · rw [oz_n (by omega), oz_n (by omega)]
      obtain ⟨o1, o2, o3⟩ := ho k k0 k4 e
      unfold iv_h
      rw [o1, o2]
      rcases hk with hk | hk
      · exact Or.inl hk
      · exact Or.inr ⟨hk.1, hk.2.1, hk.2.2.1, hk.2.2.2.1, fun i a b => by rw [o3 i a b]; exact hk.2.2.2.2 i a b⟩
  unfold iv_Z iv
  rw [ep, es, oz_s, z 0 (by decide), z 1 (by decide), z (iv_p Z) (by omega), z (iv_s Z) (by omega), z 46 (by decide), z 68 (by decide), z 69 (by decide), z 79 (by decide), z 87 (by decide), z 88 (by decide), z 98 (by decide), z 2 (by decide), hf 45 (by decide) (by decide) (by decide), hf 30 (by decide) (by decide) (by decide), hf 31 (by decide) (by decide) (by decide)]
  have m0 : m' 0 = Z 114 0 := hf 0 (by decide) (by decide) (by decide)
  have m41 := hf 41 (by decide) (by decide) (by decide)
  exact ⟨h1, h2, mrP_m h3 (fun f a b => hf f (by omega) (by omega) (by omega)), iv_Im h4 h2 (fun j _ _ => by rw [m0]), ⟨iv_Gm h5 h2 (by decide) m41 (fun j _ _ => by rw [m0]), iv_Gm h6 h2 (by decide) m41 (fun j _ _ => by rw [m0])⟩, iv_Tm h7 (hf 21 (by decide) (by decide) (by decide)) (hf 22 (by decide) (by decide) (by decide)), ⟨sh 0 (by decide) (by decide) h8.1, sh 1 (by decide) (by decide) h8.2.1, sh 2 (by decide) (by decide) h8.2.2.1, sh 3 (by decide) (by decide) h8.2.2.2⟩, h12, h13, h14⟩
theorem op_sheet (h : iv_Z n Z) (c1 : dz_c a1 = a1) (c2 : dz_c a2 = a2) (c3 : dz_c a3 = a3) : dz_p (jf_O_sheet a1 a2 a3 Z) (fun q => dz_p (jf_M_sheet a1 a2 a3 q.2) (fun q' => iv_Z (n + 1) q'.2 ∧ dz_c q.1 = dz_c q'.1)) := by
  unfold jf_O_sheet
  refine dp_bi (dp_eq (sh_is c1) ?_)
  simp only [decide_eq_false_iff_not]
  refine dp_br (fun a => dp_sm ?_) (fun a => ?_)
  · dsimp only
    unfold jf_M_sheet
    rw [c1, c2, c3]
    exact dp_ck (by omega) (dp_sm ⟨iv_nx h, rfl⟩)
  refine dp_bi (dp_eq (ln_is c2) ?_)
  simp only [decide_eq_false_iff_not]
  refine dp_br (fun b => dp_sm ?_) (fun b => ?_)
  · dsimp only
    unfold jf_M_sheet
    rw [c1, c2, c3]
    exact dp_no (by omega) (dp_ck (by omega) (dp_sm ⟨iv_nx h, rfl⟩))
  rw [c3, c1]
  refine dp_br (fun c => ?_) (fun c => dp_sm ?_)
  · refine dp_br (fun d => ?_) (fun d => dp_sm ?_)
    · have hre : jf_H_renew (106 + 2 * a1.toNat) a2 a3 Z = some (ob_z Z (106 + 2 * a1.toNat) (ob_u (ob_u (ob_f (Z (106 + 2 * a1.toNat)) 0 (fun _ => 0)) 1 0 a2) 2 0 a3)) := by
        unfold jf_H_renew
        simp only [dz_a, oz_f, oz_u, oz_s, oz_z]
      refine dp_ck (by omega) (dp_bi (dp_eq hre (dp_sm ?_)))
      dsimp only
      generalize hH : ob_u (ob_u (ob_f (Z (106 + 2 * a1.toNat)) 0 (fun _ => 0)) 1 0 a2) 2 0 a3 = H
      have y114 : ob_z Z (106 + 2 * a1.toNat) H 114 = Z 114 := oz_n (by omega)
      have ey : ob_z Z (106 + 2 * a1.toNat) H = ob_z (ob_z Z (106 + 2 * a1.toNat) H) 114 (Z 114) := by rw [← y114]; exact oz_i.symm
      rw [ey]
      unfold jf_M_sheet
      rw [c1, c2, c3]
      refine dp_no (by omega) (dp_no (by omega) (dp_ck c (dp_ck d (dp_ck (by omega) (dp_le (dp_le ?_))))))
      simp only [oz_uz]
      refine dp_lp (fun k s => ∃ (r : Nat) (m : ob_O), r + k = 40 ∧ s = ((r : Int), ob_z (ob_z Z (106 + 2 * a1.toNat) H) 114 m) ∧ m 42 = ob_u (Z 114) 42 a1 a2 42 ∧ m 43 = ob_u (Z 114) 43 a1 a3 43 ∧ (∀ i : Int, 0 ≤ i → i < r → m 44 (40 * a1 + i) = 0) ∧ (∀ j : Int, (j < 40 * a1 ∨ 40 * a1 + 40 ≤ j) → m 44 j = Z 114 44 j) ∧ (∀ f : Nat, f ≠ 42 → f ≠ 43 → f ≠ 44 → m f = Z 114 f)) ?_ 5000 40 (0, ob_z (ob_z Z (106 + 2 * a1.toNat) H) 114 (ob_u (ob_u (Z 114) 42 a1 a2) 43 a1 a3)) (by omega) ⟨0, _, by omega, rfl, ?_, ?_, fun i x y => absurd y (by omega), fun j _ => ?_, fun f x y _ => ?_⟩
      · rintro k _ ⟨r, m, hr, rfl, hm1, hm2, hm3, hm4, hm5⟩
        have er : dz_c (r : Int) = r := dc_ir (by omega) (by omega)
        have er2 : dz_c (40 * a1 + (r : Int)) = 40 * a1 + r := dc_ir (by omega) (by omega)
        simp only [er, er2]
        by_cases hk : r = 40
        · subst hk
          refine dp_ck (by omega) (dp_sm ⟨?_, rfl⟩)
          refine iv_st h (by omega) ?_ hm5 (fun k k0 k4 ke => ?_)
          · unfold iv_h
            rw [hm1, hm2, ou_s, ou_s, ← hH, ou_s, ou_f (f := 2) (f' := 1) (by decide), ou_s, ou_ff (f := 2) (f' := 0) (by decide), ou_ff (f := 1) (f' := 0) (by decide), of_s]
            exact Or.inr ⟨by omega, rfl, by omega, rfl, fun i x y => ⟨by show (-2147483648 : Int) ≤ 0 ∧ (0 : Int) ≤ 2147483647; decide, hm3 i x y⟩⟩
          · rw [hm1, hm2, ou_i ke, ou_i ke]
            exact ⟨rfl, rfl, fun i x y => hm4 _ (by omega)⟩
        · refine dp_no (by omega) (dp_ck (by omega) (dp_le (dp_sm ⟨k - 1, by omega, r + 1, ob_u m 44 (40 * a1 + r) 0, by omega, ?_, ?_, ?_, fun i x y => ?_, fun j x => ?_, fun f x y z => ?_⟩)))
          · rw [oz_uz]
            rfl
          · rw [ou_ff (by decide)]; exact hm1
          · rw [ou_ff (by decide)]; exact hm2
          · rw [ou_a]
            split
            · rfl
            · exact hm3 i x (by omega)
          · rw [ou_i (by omega)]; exact hm4 j x
          · rw [ou_ff z]; exact hm5 f x y z
      · rw [ou_ff (by decide)]
      · rw [ou_fn, ou_ff (by decide), ou_fn]
      · rw [ou_f (by decide), ou_f (by decide)]
      · rw [ou_ff y, ou_ff x]
    · dsimp only
      unfold jf_M_sheet
      rw [c1, c2, c3]
      exact dp_no (by omega) (dp_no (by omega) (dp_ck c (dp_no d (dp_sm ⟨iv_nx h, rfl⟩))))
  · dsimp only
    unfold jf_M_sheet
    rw [c1, c2, c3]
    exact dp_no (by omega) (dp_no (by omega) (dp_no c (dp_sm ⟨iv_nx h, rfl⟩)))
theorem hf_at (hH : iv_h H m a1) {k : Nat} (hk : Z k = H) {la i : Int} (cl : dz_c la = la) : jf_H_faultAt k la i Z = some (if H 2 0 = -1 then 1 else if la ≠ H 1 0 then 3 else if dz_c i < 0 ∨ H 2 0 ≤ dz_c i then 2 else 0) := by
  unfold jf_H_faultAt jf_H_isNothing
  rw [hk, cl]
  rcases hH with hH | hH
  · rw [hH.1, if_pos rfl, if_neg (by decide)]
    rfl
  · have e2 : dz_c (H 2 0) = H 2 0 := dc_ir (by omega) (by omega)
    have e1 : dz_c (H 1 0) = H 1 0 := dc_ir (by omega) (by omega)
    rw [e1, e2, if_pos (show H 2 0 ≠ -1 by omega), if_neg (show ¬ H 2 0 = -1 by omega)]
    show (if la = H 1 0 then (if dz_c i < 0 then some 2 else if dz_c i < H 2 0 then some 0 else some 2) else some 3) = _
    by_cases a : la = H 1 0
    · rw [if_pos a, if_neg (show ¬ la ≠ H 1 0 by omega)]
      by_cases b : dz_c i < 0
      · rw [if_pos b, if_pos (Or.inl b)]
      · rw [if_neg b]
        by_cases c : dz_c i < H 2 0
        · rw [if_pos c, if_neg (by omega)]
        · rw [if_neg c, if_pos (by omega)]
    · rw [if_neg a, if_pos a]
theorem op_lay (h : iv_Z n Z) (c1 : dz_c a1 = a1) (c2 : dz_c a2 = a2) (c3 : dz_c a3 = a3) : dz_p (jf_O_lay a1 a2 a3 Z) (fun q => dz_p (jf_M_lay a1 a2 a3 q.2) (fun q' => iv_Z (n + 1) q'.2 ∧ dz_c q.1 = dz_c q'.1)) := by
  unfold jf_O_lay
  refine dp_bi (dp_eq (sh_is c1) ?_)
  simp only [decide_eq_true_eq]
  refine dp_br (fun a => ?_) (fun a => dp_sm ?_)
  · rw [c1]
    refine dp_ck a ?_
    have hH := iv_sh h a
    generalize hZH : Z (106 + 2 * a1.toNat) = H at hH
    have c1H : H 2 0 ≠ -1 → dz_c (H 1 0) = H 1 0 := fun q => by
      rcases hH with x | x
      · exact absurd x.1 q
      · exact dc_ir (by omega) (by omega)
    have hfa : jf_H_faultAt (106 + 2 * a1.toNat) (H 1 0) a2 Z = some (if H 2 0 = -1 then 1 else if a2 < 0 ∨ H 2 0 ≤ a2 then 2 else 0) := by
      by_cases q : H 2 0 = -1
      · unfold jf_H_faultAt jf_H_isNothing
        rw [hZH, q, if_neg (by decide), if_pos rfl]
        rfl
      · rw [hf_at hH hZH (c1H q), c2, if_neg q, if_neg q, if_neg (show ¬ H 1 0 ≠ H 1 0 by omega)]
    refine dp_bi (dp_eq hfa ?_)
    by_cases q : H 2 0 = -1
    · rw [if_pos q]
      refine dp_no (by decide) (dp_sm ?_)
      have hm : Z 114 42 a1 = -4 := by
        rcases hH with x | x
        · exact x.2
        · omega
      dsimp only
      unfold jf_M_lay
      rw [c1, c2, hm]
      exact dp_ck (by omega) (dp_ck (by omega) (dp_no (by decide) (dp_sm ⟨iv_nx h, rfl⟩)))
    · rw [if_neg q]
      obtain ⟨g1, g2, g3, g4, g5⟩ := hH.resolve_left (fun x => q x.1)
      have e42 : dz_c (H 1 0) = H 1 0 := c1H q
      have e43 : dz_c (H 2 0 - 1) = H 2 0 - 1 := dz_ci (by omega) (by omega)
      by_cases w : a2 < 0 ∨ H 2 0 ≤ a2
      · rw [if_pos w]
        refine dp_no (by decide) (dp_sm ?_)
        dsimp only
        unfold jf_M_lay
        rw [c1, c2, g2, e42, g4, e43]
        exact dp_ck (by omega) (dp_ck (by omega) (dp_ck (by omega) (dp_no (by omega) (dp_sm ⟨iv_nx h, rfl⟩))))
      · rw [if_neg w]
        refine dp_ck (by decide) ?_
        have e40 : dz_c (40 * a1 + a2) = 40 * a1 + a2 := dc_ir (by omega) (by omega)
        have fin : ∀ x : Int, (-2147483648 ≤ x ∧ x ≤ 2147483647) → iv_Z (n + 1) (ob_z (ob_z Z (106 + 2 * a1.toNat) (ob_u H 0 a2 x)) 114 (ob_u (Z 114) 44 (40 * a1 + a2) x)) := by
          intro x hx
          refine iv_st h a ?_ (fun f x y z => ou_ff z) (fun k k0 k4 ke => ?_)
          · unfold iv_h
            rw [ou_f (f' := 2) (by decide), ou_f (f' := 1) (by decide), ou_f (f' := 42) (by decide), ou_f (f' := 43) (by decide)]
            refine Or.inr ⟨g1, g2, g3, g4, fun i y z => ?_⟩
            rw [ou_a, ou_a]
            by_cases ci : i = a2
            · rw [if_pos ci, if_pos (by omega)]; exact ⟨hx, rfl⟩
            · rw [if_neg ci, if_neg (by omega)]; exact g5 i y z
          · rw [ou_f (by decide), ou_f (by decide)]
            exact ⟨rfl, rfl, fun i y z => ou_i (by omega)⟩
        have mod : ∀ (x y : Int), (-2147483648 ≤ x ∧ x ≤ 2147483647) → y = (if H 1 0 = 0 then dz_b a3 else if H 1 0 = 1 then dz_s a3 else a3) → x = y → dz_p (jf_M_lay a1 a2 a3 (ob_z Z (106 + 2 * a1.toNat) (ob_u H 0 a2 x))) (fun q' => iv_Z (n + 1) q'.2 ∧ dz_c 1 = dz_c q'.1) := by
          intro x y hx hy hxy
          have y114 : ob_z Z (106 + 2 * a1.toNat) (ob_u H 0 a2 x) 114 = Z 114 := oz_n (by omega)
          unfold jf_M_lay
          rw [c1, c2, y114, g2, e42, g4, e43, e40, bs_24, bs_16]
          refine dp_ck (by omega) (dp_ck (by omega) (dp_ck (by omega) (dp_ck (by omega) ?_)))
          simp only [oz_u, y114]
          have f1 := fin x hx
          rw [hxy, hy] at f1
          rw [hxy, hy]
          refine dp_br (fun k0 => dp_br (fun k1 => dp_ck (by omega) (dp_le (dp_sm ⟨?_, rfl⟩))) (fun k1 => dp_ck (by omega) (dp_le (dp_sm ⟨?_, rfl⟩)))) (fun k0 => dp_ck (by omega) (dp_le (dp_sm ⟨?_, rfl⟩)))
          · rw [if_neg k0, if_neg k1] at f1 ⊢; exact f1
          · rw [if_neg k0, if_pos (by omega)] at f1 ⊢; exact f1
          · rw [if_pos (by omega)] at f1 ⊢; exact f1
        unfold jf_H_put
        rw [hZH, e42, c2]
        refine dp_bi ?_
        have hz : ∀ x : Int, dz_u Z (106 + 2 * a1.toNat) 0 a2 x = ob_z Z (106 + 2 * a1.toNat) (ob_u H 0 a2 x) := fun x => by rw [oz_u, hZH]
        simp only [hz]
        refine dp_br (fun k0 => dp_br (fun k1 => dp_ck (by omega) (dp_le (dp_sm (dp_sm ?_)))) (fun k1 => dp_ck (by omega) (dp_le (dp_sm (dp_sm ?_))))) (fun k0 => dp_ck (by omega) (dp_le (dp_sm (dp_sm ?_))))
        · exact mod a3 _ (by rw [← c3]; exact dz_cb a3) rfl (by rw [if_neg k0, if_neg k1])
        · refine mod (dz_s a3) _ ?_ rfl (by rw [if_neg k0, if_pos (by omega)])
          rw [bb_s, Int.bmod_def]; split <;> omega
        · refine mod (dz_b a3) _ ?_ rfl (by rw [if_pos (by omega)])
          rw [bb_b, Int.bmod_def]; split <;> omega
  · dsimp only
    unfold jf_M_lay
    rw [c1]
    exact dp_no (by omega) (dp_sm ⟨iv_nx h, rfl⟩)
end oe
end mg_45oe
section mg_46of
/-! images -/
section og
variable {n : Nat} {Z Y : dz_Z} {P S S' F F' m m' o : ob_O} {a1 a2 e e' v : Int} {c d : Nat}
/-- two setups that nobody can tell apart -/
def so_qS (S S' : ob_O) : Prop := S' 0 = S 0 ∧ S' 1 = S 1 ∧ S' 2 = S 2 ∧ S' 3 = S 3 ∧ S' 5 = S 5 ∧ S' 20 = S 20 ∧ S' 21 = S 21 ∧ S' 22 = S 22 ∧ S' 6 0 = S 6 0
def so_qF (F F' : ob_O) : Prop := F' 0 = F 0 ∧ F' 1 = F 1 ∧ F' 2 = F 2 ∧ F' 3 = F 3 ∧ F' 4 = F 4 ∧ F' 5 0 = F 5 0 ∧ F' 6 0 = F 6 0 ∧ F' 7 0 = F 7 0 ∧ F' 8 0 = F 8 0 ∧ F' 9 0 = F 9 0
theorem qS_r (h : so_qS S S') {w : Int} (hw : 0 ≤ w ∧ w < 3) : S' (20 + w.toNat) = S (20 + w.toNat) := by
  have : w = 0 ∨ w = 1 ∨ w = 2 := by omega
  rcases this with rfl | rfl | rfl
  · exact h.2.2.2.2.2.1
  · exact h.2.2.2.2.2.2.1
  · exact h.2.2.2.2.2.2.2.1
theorem qS_S (h : so_qS S S') (hP : so_P P) (hS : so_S P S) : so_S P S' := by
  have h10 := hP.2.2.2.2.2.2.1
  obtain ⟨q0, q1, q2, q3, q5, -, -, -, q6⟩ := id h
  unfold so_S
  rw [q0, q1, q2, q3, q5, q6]
  refine ⟨hS.1, hS.2.1, hS.2.2.1, fun w a b => ?_, hS.2.2.2.2.1, hS.2.2.2.2.2⟩
  rw [qS_r h (by omega)]
  exact hS.2.2.2.1 w a b
theorem qS_R (h : so_qS S S') (hP : so_P P) (hS : so_S P S) (rS : mr_S e P S m) (hj : ∀ x : Int, 0 ≤ x → x < 86 → m' 0 (e' + x) = m 0 (e + x)) : mr_S e' P S' m' := by
  have h3 := hP.2.2.1
  have h6 := hP.2.2.2.2.1
  have h10 := hP.2.2.2.2.2.2.1
  have hs6 := hS.2.2.2.2.1
  obtain ⟨q0, q1, q2, q3, q5, -, -, -, q6⟩ := id h
  unfold mr_S mr_W
  rw [q0, q1, q2, q3, q5, q6]
  refine ⟨⟨fun i a b => ?_, fun i a b => ?_, fun i a b => ?_⟩, fun i a b => ?_, fun w a b => ?_, ?_, fun i a b => ?_⟩
  · rw [hj _ (by omega) (by omega)]; exact rS.1.1 i a b
  · rw [hj _ (by omega) (by omega)]; exact rS.1.2.1 i a b
  · rw [hj _ (by omega) (by omega), hj _ (by omega) (by omega), hj _ (by omega) (by omega)]; exact rS.1.2.2 i a b
  · rw [hj _ (by omega) (by omega), hj _ (by omega) (by omega)]; exact rS.2.1 i a b
  · have hl := (hS.2.2.2.1 w a b).1
    refine ⟨?_, fun i x y => ?_⟩
    · rw [hj _ (by omega) (by omega)]; exact (rS.2.2.1 w a b).1
    · rw [hj _ (by omega) (by omega), qS_r h (by omega)]; exact (rS.2.2.1 w a b).2 i x y
  · rw [hj _ (by omega) (by omega)]; exact rS.2.2.2.1
  · rw [hj _ (by omega) (by omega)]; exact rS.2.2.2.2 i a b
theorem qF_B (h : so_qF F F') {B H : Int} (hB : so_B B H F) : so_B B H F' := by
  obtain ⟨q0, q1, q2, q3, -⟩ := h
  unfold so_B
  rw [q0, q1, q2, q3]
  exact hB
theorem qF_R (h : so_qF F F') (rF : mr_F e P F m) (hj : ∀ x : Int, 86 ≤ x → x < 138 → m' 0 (e' + x) = m 0 (e + x)) : mr_F e' P F' m' := by
  obtain ⟨q0, q1, q2, q3, q4, q5, q6, q7, q8, q9⟩ := h
  unfold mr_F
  rw [q0, q1, q2, q3, q4, q5, q6, q7, q8]
  have g : ∀ x i : Int, 86 ≤ x + i → x + i < 138 → m' 0 (e' + x + i) = m 0 (e + x + i) := fun x i a b => by rw [Int.add_assoc, hj _ a b, Int.add_assoc]
  refine ⟨fun i a b => ?_, ?_, ?_, ?_, ?_⟩
  · rw [g 86 i (by omega) (by omega), g 94 i (by omega) (by omega), g 102 i (by omega) (by omega), g 110 i (by omega) (by omega), g 126 i (by omega) (by omega), g 118 i (by omega) (by omega)]
    exact rF.1 i a b
  · rw [hj _ (by omega) (by omega)]; exact rF.2.1
  · rw [hj _ (by omega) (by omega)]; exact rF.2.2.1
  · rw [hj _ (by omega) (by omega)]; exact rF.2.2.2.1
  · rw [hj _ (by omega) (by omega)]; exact rF.2.2.2.2
theorem cp_S (hcd : d ≠ c) {K : dz_Z → Prop} (k : ∀ S' : ob_O, so_qS (Z d) S' → K (ob_z Z c S')) : dz_p (jf_S_copyFrom c d Z) K := by
  unfold jf_S_copyFrom
  refine dp_le (dp_le (dp_le (dp_le ?_)))
  simp only [oz_f, oz_s, oz_n hcd, oz_z]
  refine dp_lp (fun k s => ∃ (r : Nat) (S' : ob_O), r + k = 3 ∧ s = ((r : Int), ob_z Z c S') ∧ S' 0 = Z d 0 ∧ S' 1 = Z d 1 ∧ S' 2 = Z d 2 ∧ S' 3 = Z d 3 ∧ (∀ w : Nat, w < r → S' (20 + w) = Z d (20 + w))) ?_ 5000 3 (0, ob_z Z c (ob_f (ob_f (ob_f (ob_f (Z c) 0 (Z d 0)) 1 (Z d 1)) 2 (Z d 2)) 3 (Z d 3))) (by omega) ⟨0, _, by omega, rfl, ?_, ?_, ?_, ?_, fun w hw => absurd hw (by omega)⟩
  · rintro k1 _ ⟨r, S', hr, rfl, h0, h1, h2, h3, hw⟩
    have er : dz_c (r : Int) = r := dc_ir (by omega) (by omega)
    simp only [er, oz_f, oz_s, oz_n hcd, oz_z, oz_u, Int.toNat_natCast]
    by_cases hk : r = 3
    · subst hk
      refine dp_ck (by omega) (dp_le (dp_le (dp_sm ?_)))
      simp only [oz_s, oz_n hcd, oz_z]
      refine k _ ⟨?_, ?_, ?_, ?_, ?_, ?_, ?_, ?_, ?_⟩
      · rw [ou_ff (by decide), of_n (by decide), h0]
      · rw [ou_ff (by decide), of_n (by decide), h1]
      · rw [ou_ff (by decide), of_n (by decide), h2]
      · rw [ou_ff (by decide), of_n (by decide), h3]
      · rw [ou_ff (by decide), of_s]
      · rw [ou_ff (by decide), of_n (by decide)]; exact hw 0 (by omega)
      · rw [ou_ff (by decide), of_n (by decide)]; exact hw 1 (by omega)
      · rw [ou_ff (by decide), of_n (by decide)]; exact hw 2 (by omega)
      · rw [ou_s]
    · refine dp_no (by omega) (dp_ck (by omega) (dp_le (dp_sm ⟨k1 - 1, by omega, r + 1, ob_f S' (20 + r) (Z d (20 + r)), by omega, rfl, ?_, ?_, ?_, ?_, fun w hw' => ?_⟩)))
      · rw [of_n (by omega), h0]
      · rw [of_n (by omega), h1]
      · rw [of_n (by omega), h2]
      · rw [of_n (by omega), h3]
      · by_cases e : w = r
        · subst e; rw [of_s]
        · rw [of_n (by omega)]; exact hw w (by omega)
  · rw [of_n (by decide), of_n (by decide), of_n (by decide), of_s]
  · rw [of_n (by decide), of_n (by decide), of_s]
  · rw [of_n (by decide), of_s]
  · rw [of_s]
theorem cp_F (hcd : d ≠ c) {K : dz_Z → Prop} (k : ∀ F' : ob_O, so_qF (Z d) F' → K (ob_z Z c F')) : dz_p (jf_F_copyFrom c d Z) K := by
  unfold jf_F_copyFrom
  refine dp_le (dp_le (dp_le (dp_le (dp_le (dp_le (dp_le (dp_le (dp_le (dp_le (dp_sm ?_))))))))))
  simp only [oz_f, oz_u, oz_s, oz_n hcd, oz_z]
  refine k _ ⟨?_, ?_, ?_, ?_, ?_, ?_, ?_, ?_, ?_, ?_⟩
  · rw [ou_ff (by decide), ou_ff (by decide), ou_ff (by decide), ou_ff (by decide), ou_ff (by decide), of_n (by decide), of_n (by decide), of_n (by decide), of_n (by decide), of_s]
  · rw [ou_ff (by decide), ou_ff (by decide), ou_ff (by decide), ou_ff (by decide), ou_ff (by decide), of_n (by decide), of_n (by decide), of_n (by decide), of_s]
  · rw [ou_ff (by decide), ou_ff (by decide), ou_ff (by decide), ou_ff (by decide), ou_ff (by decide), of_n (by decide), of_n (by decide), of_s]
  · rw [ou_ff (by decide), ou_ff (by decide), ou_ff (by decide), ou_ff (by decide), ou_ff (by decide), of_n (by decide), of_s]
  · rw [ou_ff (by decide), ou_ff (by decide), ou_ff (by decide), ou_ff (by decide), ou_ff (by decide), of_s]
  · rw [ou_f (by decide), ou_f (by decide), ou_f (by decide), ou_f (by decide), ou_s]
  · rw [ou_f (by decide), ou_f (by decide), ou_f (by decide), ou_s]
  · rw [ou_f (by decide), ou_f (by decide), ou_s]
  · rw [ou_f (by decide), ou_s]
  · rw [ou_s]
theorem cp_M (h0 : 0 ≤ e ∧ e ≤ 560) (h1 : 0 ≤ e' ∧ e' ≤ 560) (hd : e + 140 ≤ e' ∨ e' + 140 ≤ e) {K : dz_Z → Prop} (k : ∀ m' : ob_O, (∀ x : Int, 0 ≤ x → x < 140 → m' 0 (e' + x) = m 0 (e + x)) → (∀ j : Int, (j < e' ∨ e' + 140 ≤ j) → m' 0 j = m 0 j) → (∀ f : Nat, f ≠ 0 → m' f = m f) → K (ob_z Y 114 m')) : dz_p (jf_M_copies e e' (ob_z Y 114 m)) K := by
  unfold jf_M_copies
  refine dp_lp (fun k s => ∃ (r : Nat) (m' : ob_O), r + k = 140 ∧ s = ((r : Int), ob_z Y 114 m') ∧ (∀ x : Int, 0 ≤ x → x < r → m' 0 (e' + x) = m 0 (e + x)) ∧ (∀ j : Int, (j < e' ∨ e' + r ≤ j) → m' 0 j = m 0 j) ∧ (∀ f : Nat, f ≠ 0 → m' f = m f)) ?_ 5000 140 (0, ob_z Y 114 m) (by omega) ⟨0, m, by omega, rfl, fun x a b => absurd b (by omega), fun j _ => rfl, fun f _ => rfl⟩
  rintro k1 _ ⟨r, m', hr, rfl, g1, g2, g3⟩
  have er : dz_c (r : Int) = r := dc_ir (by omega) (by omega)
  have er2 : dz_c (e + (r : Int)) = e + r := dc_ir (by omega) (by omega)
  have er3 : dz_c (e' + (r : Int)) = e' + r := dc_ir (by omega) (by omega)
  simp only [er, er2, er3, oz_s]
  by_cases hk : r = 140
  · subst hk
    exact dp_ck (by omega) (dp_sm (k m' g1 g2 g3))
  · refine dp_no (by omega) (dp_ck (by omega) (dp_ck (by omega) (dp_le (dp_sm ⟨k1 - 1, by omega, r + 1, ob_u m' 0 (e' + r) (m' 0 (e + r)), by omega, ?_, fun x a b => ?_, fun j a => ?_, fun f a => ?_⟩))))
    · rw [oz_uz]
      rfl
    · rw [ou_a]
      by_cases c : x = r
      · rw [if_pos (by omega), c, g2 _ (by omega)]
      · rw [if_neg (by omega)]; exact g1 x a (by omega)
    · rw [ou_i (by omega)]; exact g2 j (by omega)
    · rw [ou_ff a]; exact g3 f a
theorem im_is (c1 : dz_c a1 = a1) : jf_O_isImage a1 = some (decide (0 ≤ a1 ∧ a1 < 2)) := by
  unfold jf_O_isImage
  rw [c1]
  by_cases a : a1 < 0
  · rw [if_pos a, decide_eq_false (by omega)]
  · rw [if_neg a]
    by_cases b : 2 ≤ a1
    · rw [if_pos b, decide_eq_false (by omega)]
    · rw [if_neg b, decide_eq_true (by omega)]
theorem iv_im (h : iv n Z m) (ha : 0 ≤ a1 ∧ a1 < 2) : iv_G n (Z (iv_p Z)) (Z (68 + 19 * a1.toNat)) (Z (69 + 19 * a1.toNat)) (Z (79 + 19 * a1.toNat)) m a1.toNat := by
  have hg := h.2.2.2.2.1
  have : a1 = 0 ∨ a1 = 1 := by omega
  rcases this with rfl | rfl
  · exact hg.1
  · exact hg.2
theorem op_back (h : iv_Z n Z) (c1 : dz_c a1 = a1) : dz_p (jf_O_back a1 Z) (fun q => dz_p (jf_M_back a1 q.2) (fun q' => iv_Z (n + 1) q'.2 ∧ dz_c q.1 = dz_c q'.1)) := by
  have hs := iv_isS h.1
  have hs2 := iv_s2 h.1
  have hP := h.2.1
  unfold jf_O_back
  refine dp_bi (dp_eq (im_is c1) ?_)
  simp only [decide_eq_true_eq, c1, show (Z 0 3 0).toNat = iv_s Z from rfl]
  refine dp_br (fun a => dp_ck a ?_) (fun a => dp_sm ?_)
  · have hG := iv_im h a
    have e41 : dz_c (Z 114 41 a1) = Z 114 41 a1 := by
      rcases hG.2 with x | x
      · rw [Int.toNat_of_nonneg a.1] at x; rw [x]; decide
      · have := x.1; rw [Int.toNat_of_nonneg a.1] at this; rw [this]; decide
    have hI : Z (68 + 19 * a1.toNat) 2 0 = Z 114 41 a1 := by rw [hG.1, Int.toNat_of_nonneg a.1]
    rw [hI, e41]
    refine dp_br (fun b => dp_ck hs ?_) (fun b => dp_sm ?_)
    · have hg : iv_I n (140 * (a1 + 1)) (Z (iv_p Z)) (Z (69 + 19 * a1.toNat)) (Z (79 + 19 * a1.toNat)) (Z 114) := by
        rcases hG.2 with x | x
        · rw [Int.toNat_of_nonneg a.1] at x; exact absurd x b
        · have := x.2; rw [Int.toNat_of_nonneg a.1] at this; exact this
      obtain ⟨gS, gR, gB, gF⟩ := hg
      refine dp_bi (cp_S (by omega) (fun S' qS => ?_))
      refine dp_bi (cp_F (by omega) (fun F' qF => dp_sm ?_))
      rw [show 68 + 19 * a1.toNat + 1 = 69 + 19 * a1.toNat by omega] at qS
      rw [show 68 + 19 * a1.toNat + 11 = 79 + 19 * a1.toNat by omega, oz_n (by omega)] at qF
      dsimp only
      have y114 : ob_z (ob_z Z (iv_s Z) S') 46 F' 114 = Z 114 := by rw [oz_n (by decide), oz_n (by omega)]
      have ey : ob_z (ob_z Z (iv_s Z) S') 46 F' = ob_z (ob_z (ob_z Z (iv_s Z) S') 46 F') 114 (Z 114) := by rw [← y114]; exact oz_i.symm
      rw [ey]
      unfold jf_M_back
      rw [c1, oz_s, e41]
      refine dp_ck (by omega) (dp_ck (by omega) (dp_ck b (dp_bi (cp_M (by omega) (by omega) (by omega) (fun m' g1 g2 g3 => dp_sm ⟨?_, ?_⟩)))))
      · dsimp only
        refine iv_fin h (fun b h46 _ _ _ h114 h5 => by rw [oz_n h114, oz_n h46, oz_n h5]) ?_ ?_ ?_
        · rw [oz_s, oz_n (show iv_s Z ≠ 114 by omega), oz_n (show iv_s Z ≠ 46 by omega), oz_s, oz_n (show (46 : Nat) ≠ 114 by decide), oz_s]
          exact ⟨qS_S qS hP gS, qS_R qS hP gS gR (fun x c d => g1 x c (by omega)), sB_m (qF_B qF gB) (by omega) (by omega), qF_R qF gF (fun x c d => g1 x (by omega) (by omega))⟩
        · intro f a _; rw [oz_s, g3 f a]
        · intro j a b; rw [oz_s, g2 j (by omega)]
      · dsimp only
        have := gF.2.1
        rw [oz_s, oz_n (show (46 : Nat) ≠ 114 by decide), oz_s, show (134 : Int) = 0 + 134 by rfl, g1 134 (by decide) (by decide), this, qF.2.2.2.2.2.1]
    · dsimp only
      unfold jf_M_back
      rw [c1, e41]
      exact dp_ck (by omega) (dp_ck (by omega) (dp_no b (dp_sm ⟨iv_nx h, rfl⟩)))
  · dsimp only
    unfold jf_M_back
    rw [c1]
    exact dp_no (by omega) (dp_sm ⟨iv_nx h, rfl⟩)
theorem op_keep (h : iv_Z n Z) (c1 : dz_c a1 = a1) : dz_p (jf_O_keep a1 Z) (fun q => dz_p (jf_M_keep a1 q.2) (fun q' => iv_Z (n + 1) q'.2 ∧ dz_c q.1 = dz_c q'.1)) := by
  have hs := iv_isS h.1
  have hs2 := iv_s2 h.1
  have hp2 := iv_p2 h.1
  have hP := h.2.1
  obtain ⟨hS, rS, hB, rF⟩ := h.2.2.2.1
  unfold jf_O_keep
  refine dp_bi (dp_eq (im_is c1) ?_)
  simp only [decide_eq_true_eq, c1]
  refine dp_br (fun a => dp_ck a ?_) (fun a => dp_sm ?_)
  · have hG := iv_im h a
    have e41 : dz_c (Z 114 41 a1) = Z 114 41 a1 := by
      rcases hG.2 with x | x
      · rw [Int.toNat_of_nonneg a.1] at x; rw [x]; decide
      · have := x.1; rw [Int.toNat_of_nonneg a.1] at this; rw [this]; decide
    have hI : Z (68 + 19 * a1.toNat) 2 0 = Z 114 41 a1 := by rw [hG.1, Int.toNat_of_nonneg a.1]
    rw [hI, e41]
    refine dp_bi ?_
    have main : ∀ q5 : Int, q5 = (if Z 114 41 a1 = 0 then 0 else 1) → dz_p (dz_a (dz_u Z (68 + 19 * a1.toNat) 2 0 1) fun Z6 => if hz_isS (Z6 0 3 0).toNat then Option.bind (jf_S_copyFrom (68 + 19 * a1.toNat + 1) ((Z6 0 3 0).toNat) Z6) fun q8 => Option.bind (jf_F_copyFrom (68 + 19 * a1.toNat + 11) 46 q8) fun q9 => some (q5, q9) else none) (fun q => dz_p (jf_M_keep a1 q.2) (fun q' => iv_Z (n + 1) q'.2 ∧ dz_c q.1 = dz_c q'.1)) := by
      intro q5 hq5
      refine dp_le ?_
      simp only [oz_u]
      have z0 : ob_z Z (68 + 19 * a1.toNat) (ob_u (Z (68 + 19 * a1.toNat)) 2 0 1) 0 = Z 0 := oz_n (by omega)
      rw [z0]
      show dz_p (if hz_isS (iv_s Z) then _ else none) _
      refine dp_ck hs (dp_bi (cp_S (by show iv_s Z ≠ _; omega) (fun S' qS => ?_)))
      refine dp_bi (cp_F (by omega) (fun F' qF => dp_sm ?_))
      rw [show (Z 0 3 0).toNat = iv_s Z from rfl, oz_n (by omega)] at qS
      rw [oz_n (by omega), oz_n (by omega)] at qF
      dsimp only
      generalize hI' : ob_u (Z (68 + 19 * a1.toNat)) 2 0 1 = I'
      have hI2 : I' 2 0 = 1 := by rw [← hI', ou_s]
      have y114 : ob_z (ob_z (ob_z Z (68 + 19 * a1.toNat) I') (68 + 19 * a1.toNat + 1) S') (68 + 19 * a1.toNat + 11) F' 114 = Z 114 := by rw [oz_n (by omega), oz_n (by omega), oz_n (by omega)]
      have ey : ob_z (ob_z (ob_z Z (68 + 19 * a1.toNat) I') (68 + 19 * a1.toNat + 1) S') (68 + 19 * a1.toNat + 11) F' = ob_z (ob_z (ob_z (ob_z Z (68 + 19 * a1.toNat) I') (68 + 19 * a1.toNat + 1) S') (68 + 19 * a1.toNat + 11) F') 114 (Z 114) := by rw [← y114]; exact oz_i.symm
      rw [ey]
      unfold jf_M_keep
      rw [c1]
      refine dp_ck (by omega) (dp_bi (cp_M (by omega) (by omega) (by omega) (fun m' g1 g2 g3 => dp_ck (by omega) (dp_bi ?_))))
      rw [oz_s, g3 41 (by decide), e41]
      have fin : iv_Z (n + 1) (ob_z (ob_z (ob_z (ob_z Z (68 + 19 * a1.toNat) I') (68 + 19 * a1.toNat + 1) S') (68 + 19 * a1.toNat + 11) F') 114 (ob_u m' 41 a1 1)) := by
        have z : ∀ b : Nat, b ≠ 68 + 19 * a1.toNat → b ≠ 69 + 19 * a1.toNat → b ≠ 79 + 19 * a1.toNat → b ≠ 114 → ob_z (ob_z (ob_z (ob_z Z (68 + 19 * a1.toNat) I') (68 + 19 * a1.toNat + 1) S') (68 + 19 * a1.toNat + 11) F') 114 (ob_u m' 41 a1 1) b = Z b := fun b x y w u => by rw [oz_n u, oz_n (by omega), oz_n (by omega), oz_n x]
        obtain ⟨h1, h2, h3, h4, ⟨h5, h6⟩, h7, ⟨h8, h9, h10, h11⟩, h12, h13, h14⟩ := iv_nx h
        have ep : iv_p (ob_z (ob_z (ob_z (ob_z Z (68 + 19 * a1.toNat) I') (68 + 19 * a1.toNat + 1) S') (68 + 19 * a1.toNat + 11) F') 114 (ob_u m' 41 a1 1)) = iv_p Z := by unfold iv_p; rw [z 0 (by omega) (by omega) (by omega) (by omega)]
        have es : iv_s (ob_z (ob_z (ob_z (ob_z Z (68 + 19 * a1.toNat) I') (68 + 19 * a1.toNat + 1) S') (68 + 19 * a1.toNat + 11) F') 114 (ob_u m' 41 a1 1)) = iv_s Z := by unfold iv_s; rw [z 0 (by omega) (by omega) (by omega) (by omega)]
        have mf : ∀ f : Nat, f ≠ 0 → f ≠ 41 → ob_u m' 41 a1 1 f = Z 114 f := fun f x y => by rw [ou_ff y, g3 f x]
        have mj : ∀ j : Int, ob_u m' 41 a1 1 0 j = m' 0 j := fun j => ou_f (by decide)
        have im : ∀ k : Nat, k < 2 → iv_G (n + 1) (Z (iv_p Z)) (Z (68 + 19 * k)) (Z (69 + 19 * k)) (Z (79 + 19 * k)) (Z 114) k → iv_G (n + 1) (Z (iv_p Z)) (ob_z (ob_z (ob_z (ob_z Z (68 + 19 * a1.toNat) I') (68 + 19 * a1.toNat + 1) S') (68 + 19 * a1.toNat + 11) F') 114 (ob_u m' 41 a1 1) (68 + 19 * k)) (ob_z (ob_z (ob_z (ob_z Z (68 + 19 * a1.toNat) I') (68 + 19 * a1.toNat + 1) S') (68 + 19 * a1.toNat + 11) F') 114 (ob_u m' 41 a1 1) (69 + 19 * k)) (ob_z (ob_z (ob_z (ob_z Z (68 + 19 * a1.toNat) I') (68 + 19 * a1.toNat + 1) S') (68 + 19 * a1.toNat + 11) F') 114 (ob_u m' 41 a1 1) (79 + 19 * k)) (ob_u m' 41 a1 1) k := by
          intro k hk hg
          by_cases e : k = a1.toNat
          · subst e
            rw [oz_n (b := 114) (by omega), oz_n (c := 68 + 19 * a1.toNat) (by omega), oz_n (c := 68 + 19 * a1.toNat) (by omega), oz_s, oz_n (b := 114) (c := 69 + 19 * a1.toNat) (by omega), oz_n (c := 69 + 19 * a1.toNat) (by omega), show ob_z (ob_z Z (68 + 19 * a1.toNat) I') (68 + 19 * a1.toNat + 1) S' (69 + 19 * a1.toNat) = S' from by rw [show 69 + 19 * a1.toNat = 68 + 19 * a1.toNat + 1 by omega, oz_s], oz_n (b := 114) (c := 79 + 19 * a1.toNat) (by omega), show ob_z (ob_z (ob_z Z (68 + 19 * a1.toNat) I') (68 + 19 * a1.toNat + 1) S') (68 + 19 * a1.toNat + 11) F' (79 + 19 * a1.toNat) = F' from by rw [show 79 + 19 * a1.toNat = 68 + 19 * a1.toNat + 11 by omega, oz_s]]
            have em : ob_u m' 41 a1 1 41 (a1.toNat : Int) = 1 := by rw [Int.toNat_of_nonneg a.1, ou_s]
            refine ⟨by rw [em, hI2], Or.inr ⟨em, ?_⟩⟩
            rw [Int.toNat_of_nonneg a.1]
            refine ⟨qS_S qS hP hS, qS_R qS hP hS rS (fun x c d => by rw [mj]; exact g1 x c (by omega)), qF_B qF (sB_m hB (by omega) (by omega)), qF_R qF rF (fun x c d => by rw [mj]; exact g1 x (by omega) (by omega))⟩
          · rw [z _ (by omega) (by omega) (by omega) (by omega), z _ (by omega) (by omega) (by omega) (by omega), z _ (by omega) (by omega) (by omega) (by omega)]
            have e41' : ob_u m' 41 a1 1 41 (k : Int) = Z 114 41 k := by rw [ou_i (by omega), g3 41 (by decide)]
            unfold iv_G
            rw [e41']
            refine ⟨hg.1, ?_⟩
            rcases hg.2 with x | x
            · exact Or.inl x
            · exact Or.inr ⟨x.1, iv_Im x.2 hP (fun j c d => by rw [mj]; exact g2 j (by omega))⟩
        unfold iv_Z iv
        rw [ep, es, oz_s, z 0 (by omega) (by omega) (by omega) (by omega), z 1 (by omega) (by omega) (by omega) (by omega), z (iv_p Z) (by omega) (by omega) (by omega) (by omega), z (iv_s Z) (by omega) (by omega) (by omega) (by omega), z 46 (by omega) (by omega) (by omega) (by omega), z 2 (by omega) (by omega) (by omega) (by omega), z 106 (by omega) (by omega) (by omega) (by omega), z 108 (by omega) (by omega) (by omega) (by omega), z 110 (by omega) (by omega) (by omega) (by omega), z 112 (by omega) (by omega) (by omega) (by omega), mf 45 (by decide) (by decide), mf 30 (by decide) (by decide), mf 31 (by decide) (by decide)]
        exact ⟨h1, h2, mrP_m h3 (fun f a b => mf f (by omega) (by omega)), iv_Im h4 h2 (fun j c d => by rw [mj]; exact g2 j (by omega)), ⟨im 0 (by decide) h5, im 1 (by decide) h6⟩, iv_Tm h7 (mf 21 (by decide) (by decide)) (mf 22 (by decide) (by decide)), ⟨iv_hm h8 (mf 42 (by decide) (by decide)) (mf 43 (by decide) (by decide)) (mf 44 (by decide) (by decide)), iv_hm h9 (mf 42 (by decide) (by decide)) (mf 43 (by decide) (by decide)) (mf 44 (by decide) (by decide)), iv_hm h10 (mf 42 (by decide) (by decide)) (mf 43 (by decide) (by decide)) (mf 44 (by decide) (by decide)), iv_hm h11 (mf 42 (by decide) (by decide)) (mf 43 (by decide) (by decide)) (mf 44 (by decide) (by decide))⟩, h12, h13, h14⟩
      by_cases b : Z 114 41 a1 = 0
      · rw [if_pos b] at hq5
        subst hq5
        refine dp_ck b (dp_sm (dp_le (dp_sm ⟨?_, rfl⟩)))
        rw [oz_uz]
        exact fin
      · rw [if_neg b] at hq5
        subst hq5
        refine dp_no b (dp_sm (dp_le (dp_sm ⟨?_, rfl⟩)))
        rw [oz_uz]
        exact fin
    by_cases b : Z 114 41 a1 = 0
    · exact dp_ck b (dp_sm (main 0 (by rw [if_pos b])))
    · exact dp_no b (dp_sm (main 1 (by rw [if_neg b])))
  · dsimp only
    unfold jf_M_keep
    rw [c1]
    exact dp_no (by omega) (dp_sm ⟨iv_nx h, rfl⟩)
end og
end mg_46of
section mg_47og
/-! draws, count -/
def so_dx (x : Int) : Nat → Int
  | 0 => x
  | k + 1 => so_dx x k * 1103515245 + 12345
def so_dv (x m : Int) (k : Nat) : Int := Int.tmod (dz_c (dz_an (dz_ur (so_dx x (k + 1)) 16) 32767)) m
def so_ds (x m : Int) : Nat → Int
  | 0 => 0
  | k + 1 => so_ds x m k + so_dv x m k
/-- which spouts are broken, as bits -/
def so_bm (b : Int → Bool) : Nat → Int
  | 0 => 0
  | k + 1 => dz_or (so_bm b k) (if b k = false then 0 else dz_sl 1 k)
section oh
variable {n : Nat} {Z Y : dz_Z} {P S m m' o : ob_O} {a1 a2 a3 a4 : Int}
theorem dv_r {x q : Int} (hq : 1 ≤ q ∧ q ≤ 10) (k : Nat) : 0 ≤ so_dv x q k ∧ so_dv x q k ≤ 9 := by
  unfold so_dv
  have h : 0 ≤ dz_an (dz_ur (so_dx x (k + 1)) 16) 32767 ∧ dz_an (dz_ur (so_dx x (k + 1)) 16) 32767 < 32768 := by rw [bn_32767]; omega
  rw [dc_ir h.1 (by omega), Int.tmod_eq_emod_of_nonneg h.1]
  have h1 := Int.emod_nonneg (dz_an (dz_ur (so_dx x (k + 1)) 16) 32767) (show q ≠ 0 by omega)
  have h2 := Int.emod_lt_of_pos (dz_an (dz_ur (so_dx x (k + 1)) 16) 32767) (show 0 < q by omega)
  omega
theorem op_draws (h : iv_Z n Z) (c1 : dz_c a1 = a1) (c2 : dz_c a2 = a2) (c3 : dz_c a3 = a3) : dz_p (jf_O_draws a1 a2 a3 a4 Z) (fun q => dz_p (jf_M_draws a1 a2 a3 a4 q.2) (fun q' => iv_Z (n + 1) q'.2 ∧ dz_c q.1 = dz_c q'.1)) := by
  have hs := iv_isS h.1
  have hs2 := iv_s2 h.1
  have hP := h.2.1
  have h3 := hP.2.2.1
  have h6 := hP.2.2.2.2.1
  have h10 := hP.2.2.2.2.2.2.1
  have rP := h.2.2.1
  obtain ⟨hS, rS, hB, rF⟩ := h.2.2.2.1
  have hs6 := hS.2.2.2.2.1
  have bad : ¬((0 ≤ a1 ∧ a1 < Z (iv_p Z) 10 0) ∧ (1 ≤ a2 ∧ a2 ≤ 12) ∧ (1 ≤ a3 ∧ a3 ≤ 10)) → dz_p (jf_M_draws a1 a2 a3 a4 Z) (fun q' => iv_Z (n + 1) q'.2 ∧ dz_c (-1) = dz_c q'.1) := by
    intro hv
    unfold jf_M_draws
    refine dp_bi (dp_eq (oi_wM h.2.1 rP rfl c1) ?_)
    simp only [decide_eq_false_iff_not, c2, c3]
    refine dp_br (fun _ => dp_sm ⟨iv_nx h, rfl⟩) (fun x => dp_br (fun _ => dp_sm ⟨iv_nx h, rfl⟩) (fun y => dp_no (by omega) (dp_sm ⟨iv_nx h, rfl⟩)))
  unfold jf_O_draws
  refine dp_bi (dp_eq (oi_wO h c1) ?_)
  simp only [decide_eq_false_iff_not, c1, c2, c3]
  refine dp_br (fun a => dp_sm (bad (fun q => a q.1))) (fun a => ?_)
  have ha : 0 ≤ a1 ∧ a1 < Z (iv_p Z) 10 0 := by omega
  refine dp_br (fun b => dp_sm (bad (by omega))) (fun b => ?_)
  refine dp_br (fun b2 => dp_sm (bad (by omega))) (fun b2 => ?_)
  refine dp_br (fun b3 => dp_sm (bad (by omega))) (fun b3 => ?_)
  refine dp_br (fun b4 => ?_) (fun b4 => dp_sm (bad (by omega)))
  refine dp_lp (fun k s => ∃ (r : Nat) (S' : ob_O), (r : Int) + k = a2 ∧ s = (so_dx a4 r, so_ds a4 a3 r, (r : Int), ob_z Z (iv_s Z) S') ∧ (∀ f : Nat, f ≠ 20 + a1.toNat → S' f = Z (iv_s Z) f) ∧ (∀ i : Nat, i < r → S' (20 + a1.toNat) i = so_dv a4 a3 i)) ?_ 5000 a2.toNat (a4, 0, 0, Z) (by omega) ⟨0, Z (iv_s Z), by omega, by rw [oz_i]; rfl, fun f _ => rfl, fun i hi => absurd hi (by omega)⟩
  rintro k _ ⟨r, S', hr, rfl, hS1, hS2⟩
  have er : dz_c (r : Int) = r := dc_ir (by omega) (by omega)
  have z0 : ∀ S2 : ob_O, ob_z Z (iv_s Z) S2 0 = Z 0 := fun S2 => oz_n (by omega)
  simp only [er, z0, show (Z 0 3 0).toNat = iv_s Z from rfl]
  by_cases hk : ¬ (r : Int) = a2
  · refine dp_no (by omega) (dp_ck (by omega) (dp_le (dp_ck hs (dp_ck (by omega) (dp_ck (by omega) (dp_le (dp_sm ⟨k - 1, by omega, r + 1, ob_u S' (20 + a1.toNat) r (so_dv a4 a3 r), by omega, ?_, fun f hf => ?_, fun i hi => ?_⟩)))))))
    · rw [oz_uz]
      rfl
    · rw [ou_ff hf]; exact hS1 f hf
    · rw [ou_a]
      by_cases c : (i : Int) = r
      · rw [if_pos c, show i = r by omega]
      · rw [if_neg c]; exact hS2 i (by omega)
  have hk : (r : Int) = a2 := by omega
  refine dp_ck (by omega) (dp_ck hs (dp_ck (by omega) (dp_le (dp_sm ?_))))
  rw [oz_uz]
  show dz_p (jf_M_draws a1 a2 a3 a4 (ob_z Z (iv_s Z) (ob_u S' 3 a1 a2))) (fun q' => iv_Z (n + 1) q'.2 ∧ dz_c (so_ds a4 a3 r) = dz_c q'.1)
  generalize hS'' : ob_u S' 3 a1 a2 = S2
  have s3 : ∀ w : Int, S2 3 w = if w = a1 then a2 else Z (iv_s Z) 3 w := fun w => by rw [← hS'', ou_a, hS1 3 (by omega)]
  have sf : ∀ f : Nat, f ≠ 3 → f ≠ 20 + a1.toNat → S2 f = Z (iv_s Z) f := fun f x y => by rw [← hS'', ou_ff x, hS1 f y]
  have sr : ∀ i : Nat, i < r → S2 (20 + a1.toNat) i = so_dv a4 a3 i := fun i hi => by rw [← hS'', ou_f (by omega)]; exact hS2 i hi
  clear hS1 hS2 hS''
  have y114 : ob_z Z (iv_s Z) S2 114 = Z 114 := oz_n (by omega)
  have ey : ob_z Z (iv_s Z) S2 = ob_z (ob_z Z (iv_s Z) S2) 114 (Z 114) := by rw [← y114]; exact oz_i.symm
  rw [ey]
  unfold jf_M_draws
  refine dp_bi (dp_eq (oi_wM (m := Z 114) h.2.1 rP oz_s c1) ?_)
  simp only [decide_eq_false_iff_not, c2, c3]
  have e34 : dz_c (34 + 13 * a1) = 34 + 13 * a1 := dc_ir (by omega) (by omega)
  rw [e34]
  refine dp_no a (dp_no (by omega) (dp_ck (by omega) (dp_ck (by omega) (dp_le ?_))))
  rw [oz_uz]
  refine dp_lp (fun k s => ∃ (q : Nat) (m : ob_O), (q : Int) + k = a2 ∧ s = (so_dx a4 q, so_ds a4 a3 q, (q : Int), ob_z (ob_z Z (iv_s Z) S2) 114 m) ∧ (∀ f : Nat, f ≠ 0 → m f = Z 114 f) ∧ m 0 (34 + 13 * a1) = a2 ∧ (∀ i : Nat, i < q → m 0 (34 + 13 * a1 + 1 + i) = so_dv a4 a3 i) ∧ (∀ j : Int, (j < 34 + 13 * a1 ∨ 34 + 13 * a1 + 1 + a2 ≤ j) → m 0 j = Z 114 0 j)) ?_ 5000 a2.toNat (a4, 0, 0, ob_z (ob_z Z (iv_s Z) S2) 114 (ob_u (Z 114) 0 (34 + 13 * a1) a2)) (by omega) ⟨0, _, by omega, rfl, fun f hf => ou_ff hf, ou_s, fun i hi => absurd hi (by omega), fun j hj => ou_i (by omega)⟩
  rintro k2 _ ⟨q, m, hq, rfl, hm1, hm2, hm3, hm4⟩
  have eq : dz_c (q : Int) = q := dc_ir (by omega) (by omega)
  have eq2 : dz_c (34 + 13 * a1 + 1 + (q : Int)) = 34 + 13 * a1 + 1 + q := dc_ir (by omega) (by omega)
  simp only [eq, eq2]
  by_cases hk2 : ¬ (q : Int) = a2
  · refine dp_no (by omega) (dp_ck (by omega) (dp_le (dp_ck (by omega) (dp_le (dp_sm ⟨k2 - 1, by omega, q + 1, ob_u m 0 (34 + 13 * a1 + 1 + q) (so_dv a4 a3 q), by omega, ?_, fun f hf => ?_, ?_, fun i hi => ?_, fun j hj => ?_⟩)))))
    · rw [oz_uz, ← bd_16]
      rfl
    · rw [ou_ff hf]; exact hm1 f hf
    · rw [ou_i (by omega)]; exact hm2
    · rw [ou_a]
      by_cases c : (i : Int) = q
      · rw [if_pos (by omega), show i = q by omega]
      · rw [if_neg (by omega)]; exact hm3 i (by omega)
    · rw [ou_i (by omega)]; exact hm4 j hj
  have hk2 : (q : Int) = a2 := by omega
  refine dp_ck (by omega) (dp_sm ⟨?_, by rw [show q = r by omega]⟩)
  obtain ⟨w1, w2, w3, w4⟩ := W_s (Z := Z) (S := S2) (m := m) hs2
  dsimp only
  refine iv_fin h w4 ?_ (fun f x _ => by rw [w3]; exact hm1 f x) (fun j x y => by rw [w3]; exact hm4 j (by omega))
  rw [w1, w2, w3]
  have m0 : ∀ j : Int, (j < 34 + 13 * a1 ∨ 34 + 13 * a1 + 13 ≤ j) → m 0 j = Z 114 0 j := fun j x => hm4 j (by omega)
  have swr : ∀ w : Int, 0 ≤ w → w < 3 → w ≠ a1 → S2 (20 + w.toNat) = Z (iv_s Z) (20 + w.toNat) := fun w x y z => sf _ (by omega) (by omega)
  refine ⟨⟨?_, ?_, ?_, fun w x y => ?_, ?_, ?_⟩, ⟨⟨fun i x y => ?_, fun i x y => ?_, fun i x y => ?_⟩, fun i x y => ?_, fun w x y => ?_, ?_, fun i x y => ?_⟩, sB_m hB (by omega) (by omega), mrF_m rF (fun j x y => m0 j (by omega))⟩
  · rw [sf 0 (by omega) (by omega)]; exact hS.1
  · rw [sf 1 (by omega) (by omega)]; exact hS.2.1
  · rw [sf 2 (by omega) (by omega)]; exact hS.2.2.1
  · rw [s3]
    by_cases c : w = a1
    · rw [if_pos c]
      refine ⟨by omega, fun i u z => ?_⟩
      have := sr i.toNat (by omega)
      rw [Int.toNat_of_nonneg u] at this
      rw [c, this]
      exact dv_r (by omega) _
    · rw [if_neg c, swr w x (by omega) c]; exact hS.2.2.2.1 w x y
  · rw [sf 6 (by omega) (by omega)]; exact hS.2.2.2.2.1
  · rw [sf 5 (by omega) (by omega), sf 6 (by omega) (by omega)]; exact hS.2.2.2.2.2
  · rw [m0 _ (by omega), sf 0 (by omega) (by omega)]; exact rS.1.1 i x y
  · rw [m0 _ (by omega), sf 1 (by omega) (by omega)]; exact rS.1.2.1 i x y
  · rw [m0 _ (by omega), m0 _ (by omega), m0 _ (by omega), sf 2 (by omega) (by omega)]; exact rS.1.2.2 i x y
  · rw [m0 _ (by omega), m0 _ (by omega), sf 2 (by omega) (by omega)]; exact rS.2.1 i x y
  · simp only [Int.zero_add]
    have hl := (hS.2.2.2.1 w x y).1
    have rl := rS.2.2.1 w x y
    simp only [Int.zero_add] at rl
    by_cases c : w = a1
    · subst c
      rw [s3, if_pos rfl]
      refine ⟨hm2, fun i u z => ?_⟩
      have h1 := sr i.toNat (by omega)
      have h2 := hm3 i.toNat (by omega)
      rw [Int.toNat_of_nonneg u] at h1 h2
      rw [h1, h2]
    · rw [s3, if_neg c, swr w x (by omega) c]
      refine ⟨?_, fun i u z => ?_⟩
      · rw [m0 _ (by omega)]; exact rl.1
      · rw [m0 _ (by omega)]; exact rl.2 i u z
  · rw [m0 _ (by omega), sf 6 (by omega) (by omega)]; exact rS.2.2.2.1
  · rw [sf 6 (by omega) (by omega)] at y
    rw [m0 _ (by omega), sf 5 (by omega) (by omega)]; exact rS.2.2.2.2 i x y
theorem bm_8 {b : Int → Bool} : ∀ k : Nat, k ≤ 8 → b8 (so_bm b k)
  | 0, _ => by show b8 0; exact b8_i (by decide)
  | k + 1, h => by
    show b8 (dz_or (so_bm b k) _)
    refine b8_or (bm_8 k (by omega)) ?_
    split
    · exact b8_i (by decide)
    · exact b8_sl (by omega)
theorem bm_e {b b' : Int → Bool} : ∀ k : Nat, (∀ i : Nat, i < k → b i = b' i) → so_bm b k = so_bm b' k
  | 0, _ => rfl
  | k + 1, h => by
    show dz_or (so_bm b k) _ = dz_or (so_bm b' k) _
    rw [bm_e k (fun i hi => h i (by omega)), h k (by omega)]
theorem bm_c {b : Int → Bool} : ∀ k : Nat, dz_c (so_bm b k) = so_bm b k
  | 0 => by show dz_c 0 = 0; decide
  | k + 1 => dc_or _ _
/-- none beyond k -/
theorem bm_x {b : Int → Bool} {k : Nat} : ∀ j : Nat, (∀ i : Nat, k ≤ i → i < k + j → b i = false) → so_bm b (k + j) = so_bm b k
  | 0, _ => rfl
  | j + 1, h => by
    show dz_or (so_bm b (k + j)) (if b ((k + j : Nat) : Int) = false then 0 else _) = _
    rw [h (k + j) (by omega) (by omega), if_pos rfl, dc_o0, bm_c]
    exact bm_x j (fun i x y => h i x (by omega))
theorem bm_n : ∀ b0 b1 b2 b3 b4 b5 b6 b7 : Bool, so_bits (dz_or (dz_or (dz_or (dz_or (dz_or (dz_or (dz_or (dz_or 0 (if b0 = false then 0 else dz_sl 1 0)) (if b1 = false then 0 else dz_sl 1 1)) (if b2 = false then 0 else dz_sl 1 2)) (if b3 = false then 0 else dz_sl 1 3)) (if b4 = false then 0 else dz_sl 1 4)) (if b5 = false then 0 else dz_sl 1 5)) (if b6 = false then 0 else dz_sl 1 6)) (if b7 = false then 0 else dz_sl 1 7)) = 0 + (if b0 = false then 0 else 1) + (if b1 = false then 0 else 1) + (if b2 = false then 0 else 1) + (if b3 = false then 0 else 1) + (if b4 = false then 0 else 1) + (if b5 = false then 0 else 1) + (if b6 = false then 0 else 1) + (if b7 = false then 0 else 1) := by decide +kernel
theorem bm_s {b : Int → Bool} : so_bits (so_bm b 8) = so_sm (fun i => if b i = false then 0 else 1) 8 := bm_n (b 0) (b 1) (b 2) (b 3) (b 4) (b 5) (b 6) (b 7)
theorem bk_cls {F p : Nat} (hF : hz_isF F) (hp : hz_isP p) (hP : so_P (Z p)) : jf_F_brokenSpouts F p Z = some (so_bm (fun i => so_brk (Z p) (Z F) i) (Z p 6 0).toNat) := by
  have h6 := hP.2.2.2.2.1
  have e1 : dz_c (Z p 6 0) = Z p 6 0 := dc_ir h6.1 (by omega)
  apply dp_is
  unfold jf_F_brokenSpouts
  refine dp_lp (fun k s => ∃ r : Nat, r + k = (Z p 6 0).toNat ∧ s = (so_bm (fun i => so_brk (Z p) (Z F) i) r, (r : Int))) ?_ 5000 (Z p 6 0).toNat (0, 0) (by omega) ⟨0, by omega, rfl⟩
  rintro k _ ⟨r, hr, rfl⟩
  have er : dz_c (r : Int) = r := dc_ir (by omega) (by omega)
  simp only [e1, er]
  by_cases hk : r = (Z p 6 0).toNat
  · refine dp_ck (by omega) (dp_sm ?_)
    rw [← hk]
    rfl
  · have hb := cf_brk (F := F) (p := p) (Z := Z) (o := Z F) (s := r) (ne_FP hF hp) (by omega) hP.2.2.2.2.2.2.2.2.2
    rw [oz_i] at hb
    refine dp_no (by omega) (dp_bi (dp_eq hb (dp_bi ?_)))
    have key : so_bm (fun i => so_brk (Z p) (Z F) i) (r + 1) = dz_or (so_bm (fun i => so_brk (Z p) (Z F) i) r) (if so_brk (Z p) (Z F) r = false then 0 else dz_sl 1 r) := rfl
    refine dp_br (fun c => dp_sm (dp_sm ⟨k - 1, by omega, r + 1, by omega, ?_⟩)) (fun c => dp_sm (dp_sm ⟨k - 1, by omega, r + 1, by omega, ?_⟩))
    · rw [key, if_pos c]; rfl
    · rw [key, if_neg c]; rfl
theorem g41 {I F : ob_O} {k : Nat} (h : iv_G n P I S F m k) : dz_c (m 41 k) = m 41 k := by
  rcases h.2 with y | y
  · rw [y]; decide
  · rw [y.1]; decide
theorem op_count (h : iv_Z n Z) (hn : n ≤ 512) (c1 : dz_c a1 = a1) : dz_p (jf_O_count a1 Z) (fun q => dz_p (jf_M_count a1 Z) (fun q' => dz_c q = dz_c q')) := by
  have hp := iv_isP h.1
  have hs := iv_isS h.1
  have hP := h.2.1
  have h6 := hP.2.2.2.2.1
  obtain ⟨hS, rS, hB, rF⟩ := h.2.2.2.1
  have hG := h.2.2.2.2.1
  have hT := h.2.2.2.2.2.1
  have hH := h.2.2.2.2.2.2.1.1
  -- the reference adds its blocks up first
  have mod : ∀ (q : Int) (x : Int), dz_c q = dz_c x → dz_p (if a1 = 0 then some (so_sm (fun i => Z 114 0 (5 + i)) 5) else if a1 = 1 then some (so_sm (fun i => Z 114 0 (0 + 118 + i)) 8) else if a1 = 2 then some ((if Z 114 41 0 = 0 then 0 else 1) + (if Z 114 41 1 = 0 then 0 else 1)) else if a1 = 3 then some (Z 114 22 0) else if a1 = 4 then some (if Z 114 42 0 = -4 then -4 else Z 114 43 0) else some (-1)) (fun y => y = x) → dz_p (jf_M_count a1 Z) (fun q' => dz_c q = dz_c q') := by
    intro q x hqx hx
    unfold jf_M_count
    refine dp_lp (fun k s => ∃ r : Nat, r + k = 5 ∧ s = (so_sm (fun i => Z 114 0 (5 + i)) r, (r : Int))) ?_ 5000 5 (0, 0) (by omega) ⟨0, by omega, rfl⟩
    rintro k _ ⟨r, hr, rfl⟩
    have er : dz_c (r : Int) = r := dc_ir (by omega) (by omega)
    have er2 : dz_c (5 + (r : Int)) = 5 + r := dc_ir (by omega) (by omega)
    simp only [er, er2, c1, sm_ms (e := 0) (q := 118) (by decide) (by decide), Option.bind_some]
    by_cases hk : r = 5
    · subst hk
      refine dp_ck (by omega) ?_
      have e0 : dz_c (Z 114 41 0) = Z 114 41 0 := g41 hG.1
      have e1 : dz_c (Z 114 41 1) = Z 114 41 1 := g41 hG.2
      have e42 : dz_c (Z 114 42 0) = Z 114 42 0 := by
        rcases hH with y | y
        · rw [y.2]; decide
        · rw [y.2.1]; exact dc_ir (by omega) (by omega)
      rw [e0, e1, e42]
      refine dp_br (fun b => dp_sm ?_) (fun b => ?_)
      · rw [if_pos b] at hx; have := dz_sm hx; show dz_c q = dz_c _; rw [hqx, ← this]
      rw [if_neg b] at hx
      refine dp_br (fun c => dp_sm ?_) (fun c => ?_)
      · rw [if_pos c] at hx; have := dz_sm hx; show dz_c q = dz_c _; rw [hqx, ← this]
      rw [if_neg c] at hx
      refine dp_br (fun d => dp_bi ?_) (fun d => ?_)
      · rw [if_pos d] at hx
        have := dz_sm hx
        refine dp_br (fun i0 => dp_sm (dp_br (fun i1 => dp_sm ?_) (fun i1 => dp_sm ?_))) (fun i0 => dp_sm (dp_br (fun i1 => dp_sm ?_) (fun i1 => dp_sm ?_)))
        · rw [if_pos i0, if_pos i1] at this; show dz_c q = dz_c _; rw [hqx, ← this]
        · rw [if_pos i0, if_neg i1] at this; show dz_c q = dz_c _; rw [hqx, ← this]
        · rw [if_neg i0, if_pos i1] at this; show dz_c q = dz_c _; rw [hqx, ← this]
        · rw [if_neg i0, if_neg i1] at this; show dz_c q = dz_c _; rw [hqx, ← this]
      rw [if_neg d] at hx
      refine dp_br (fun f => dp_sm ?_) (fun f => ?_)
      · rw [if_pos f] at hx; have := dz_sm hx; show dz_c q = dz_c _; rw [hqx, ← this]
      rw [if_neg f] at hx
      refine dp_br (fun g => ?_) (fun g => dp_sm ?_)
      · rw [if_pos g] at hx
        have := dz_sm hx
        refine dp_br (fun i0 => dp_sm ?_) (fun i0 => dp_sm ?_)
        · rw [if_neg i0] at this; show dz_c q = dz_c _; rw [hqx, ← this]
        · rw [if_pos (by omega)] at this; show dz_c q = dz_c _; rw [hqx, ← this]
      · rw [if_neg g] at hx; have := dz_sm hx; show dz_c q = dz_c _; rw [hqx, ← this]
    · exact dp_no (by omega) (dp_ck (by omega) (dp_sm ⟨k - 1, by omega, r + 1, by omega, rfl⟩))
  unfold jf_O_count
  simp only [c1, show (Z 0 3 0).toNat = iv_s Z from rfl, show (Z 0 2 0).toNat = iv_p Z from rfl, sm_os (show (5 : Nat) ≤ 1000 by decide), Option.bind_some]
  refine dp_br (fun a => dp_ck hs (dp_sm (mod _ (so_sm (fun i => Z 114 0 (5 + i)) 5) ?_ (by rw [if_pos a]; exact dp_sm rfl)))) (fun a => ?_)
  · rw [sm_c 5 (g' := fun i => Z 114 0 (5 + i)) (fun i x y => by have := rS.1.2.1 i x y; rw [Int.zero_add] at this; exact this.symm)]
  refine dp_br (fun b => dp_ck hp ?_) (fun b => ?_)
  · refine dp_bi (dp_eq (bk_cls (Or.inl rfl) hp hP) ?_)
    have e8 : so_bm (fun i => so_brk (Z (iv_p Z)) (Z 46) i) (Z (iv_p Z) 6 0).toNat = so_bm (fun i => if i < Z (iv_p Z) 6 0 then so_brk (Z (iv_p Z)) (Z 46) i else false) 8 := by
      rw [bm_e (b' := fun i => if i < Z (iv_p Z) 6 0 then so_brk (Z (iv_p Z)) (Z 46) i else false) _ (fun i hi => by show _ = if (i : Int) < Z (iv_p Z) 6 0 then _ else _; rw [if_pos (by omega)])]
      have := bm_x (b := fun i => if i < Z (iv_p Z) 6 0 then so_brk (Z (iv_p Z)) (Z 46) i else false) (k := (Z (iv_p Z) 6 0).toNat) (8 - (Z (iv_p Z) 6 0).toNat) (fun i x y => by show (if (i : Int) < Z (iv_p Z) 6 0 then _ else false) = false; rw [if_neg (by omega)])
      rw [← this, show (Z (iv_p Z) 6 0).toNat + (8 - (Z (iv_p Z) 6 0).toNat) = 8 by omega]
    rw [e8]
    refine dp_bi (dp_eq (bc_8 (bm_8 8 (by decide))).1 (dp_sm (mod _ (so_sm (fun i => Z 114 0 (0 + 118 + i)) 8) ?_ (by rw [if_neg a, if_pos b]; exact dp_sm rfl))))
    rw [bm_s]
    congr 1
    refine sm_c 8 (fun i x y => ?_)
    have hr := (rF.1 i x y).2.2.2.2.2.1
    have hbr := hB.1 i x y
    show (if (if i < Z (iv_p Z) 6 0 then so_brk (Z (iv_p Z)) (Z 46) i else false) = false then (0 : Int) else 1) = Z 114 0 (0 + 118 + i)
    rw [hr]
    unfold so_brk
    rw [dz_li' (by omega) (by omega)]
    by_cases c : i < Z (iv_p Z) 6 0
    · rw [if_pos c]
      by_cases d : 0 < Z (iv_p Z) 15 0 ∧ Z (iv_p Z) 15 0 ≤ Z 46 2 i
      · rw [decide_eq_true d, if_neg (by decide), if_pos ⟨c, d⟩]
      · rw [decide_eq_false d, if_pos rfl, if_neg (fun q => d q.2)]
    · rw [if_neg c, if_pos rfl, if_neg (fun q => c q.1)]
  refine dp_br (fun c => ?_) (fun c => ?_)
  · have hk : jf_O_keptImages Z = some ((if Z 114 41 0 = 0 then 0 else 1) + (if Z 114 41 1 = 0 then 0 else 1)) := by
      have e0 : Z 68 2 0 = Z 114 41 0 := hG.1.1
      have e1 : Z 87 2 0 = Z 114 41 1 := hG.2.1
      have d0 : dz_c (Z 114 41 0) = Z 114 41 0 := g41 hG.1
      have d1 : dz_c (Z 114 41 1) = Z 114 41 1 := g41 hG.2
      apply dp_is
      unfold jf_O_keptImages
      refine dp_lp (fun k s => ∃ r : Nat, r + k = 2 ∧ s = ((if r = 0 then 0 else if r = 1 then (if Z 114 41 0 = 0 then 0 else 1) else (if Z 114 41 0 = 0 then 0 else 1) + (if Z 114 41 1 = 0 then 0 else 1)), (r : Int))) ?_ 5000 2 (0, 0) (by omega) ⟨0, by omega, rfl⟩
      rintro k _ ⟨r, hr, rfl⟩
      have er : dz_c (r : Int) = r := dc_ir (by omega) (by omega)
      simp only [er]
      have hr3 : r = 0 ∨ r = 1 ∨ r = 2 := by omega
      rcases hr3 with rfl | rfl | rfl
      · refine dp_no (by decide) (dp_ck (by decide) (dp_bi ?_))
        rw [show Z (68 + 19 * Int.toNat ((0 : Nat) : Int)) 2 0 = Z 68 2 0 from rfl, e0, d0]
        refine dp_br (fun x => dp_sm (dp_sm ⟨1, by omega, 1, by omega, ?_⟩)) (fun x => dp_sm (dp_sm ⟨1, by omega, 1, by omega, ?_⟩))
        · rw [if_pos x]; rfl
        · rw [if_neg x]; rfl
      · refine dp_no (by decide) (dp_ck (by decide) (dp_bi ?_))
        rw [show Z (68 + 19 * Int.toNat ((1 : Nat) : Int)) 2 0 = Z 87 2 0 from rfl, e1, d1]
        refine dp_br (fun x => dp_sm (dp_sm ⟨0, by omega, 2, by omega, ?_⟩)) (fun x => dp_sm (dp_sm ⟨0, by omega, 2, by omega, ?_⟩))
        · rw [if_pos x]; rfl
        · rw [if_neg x]; rfl
      · exact dp_ck (by decide) (dp_sm rfl)
    exact dp_bi (dp_eq hk (dp_sm (mod _ _ rfl (by rw [if_neg a, if_neg b, if_pos c]; exact dp_sm rfl))))
  refine dp_br (fun d => dp_sm (mod _ (Z 114 22 0) (by rw [hT.2.1]) (by rw [if_neg a, if_neg b, if_neg c, if_pos d]; exact dp_sm rfl))) (fun d => ?_)
  refine dp_br (fun f => ?_) (fun f => dp_sm (mod _ (-1) rfl (by rw [if_neg a, if_neg b, if_neg c, if_neg d, if_neg f]; exact dp_sm rfl)))
  have m4 : dz_p (if a1 = 0 then some (so_sm (fun i => Z 114 0 (5 + i)) 5) else if a1 = 1 then some (so_sm (fun i => Z 114 0 (0 + 118 + i)) 8) else if a1 = 2 then some ((if Z 114 41 0 = 0 then 0 else 1) + (if Z 114 41 1 = 0 then 0 else 1)) else if a1 = 3 then some (Z 114 22 0) else if a1 = 4 then some (if Z 114 42 0 = -4 then -4 else Z 114 43 0) else some (-1)) (fun y => y = if Z 114 42 0 = -4 then -4 else Z 114 43 0) := by rw [if_neg a, if_neg b, if_neg c, if_neg d, if_pos f]; exact dp_sm rfl
  rw [show 106 + 2 * Int.toNat 0 = 106 from rfl]
  unfold jf_H_isNothing
  refine dp_bi ?_
  rcases hH with x | x
  · rw [x.1]
    refine dp_no (by decide) (dp_sm (dp_no (by decide) (dp_sm (mod _ _ ?_ m4))))
    rw [x.2, if_pos rfl]
  · have e2 : dz_c (Z 106 2 0) = Z 106 2 0 := dc_ir (by omega) (by omega)
    rw [e2]
    refine dp_ck (by omega) (dp_sm (dp_ck rfl (dp_sm (mod _ _ ?_ m4))))
    rw [x.2.1, if_neg (by omega), x.2.2.2.1]
end oh
end mg_47og
