/-! a second of the class's Flow, told on its object: slots 0 held, 1 counts, 2 hits, 3 on the way, 4 louds, 5 second, 6 fallen, 7 ran off, 8 sounded, 9 spouts heard, 10 in gutters, 11 at spouts; of a Plan: 0 roofs, 1 areas, 2 roofs' gutters, 3 gutters, 4 left, 5 right, 6 spouts, 7 tones, 8 sizes, 9 others, 10 showers, 11 sleepers, 12 from, 13 to, 14 wakes, 15 wear; of a Setup: 0 pegs, 1 blocks, 2 kinds, 3 lengths, 5 tune, 6 tune's seconds, 20 to 22 rains -/
def so_way (w : Int) : Prop := (0 ≤ w ∧ w < 5) ∨ (10 ≤ w ∧ w < 18) ∨ w = 20
def so_lead (o : ob_O) (w d : Int) : ob_O := if w < 5 then ob_u o 10 w (o 10 w + d) else if w < 18 then ob_u o 11 (w - 10) (o 11 (w - 10) + d) else ob_u o 7 0 (o 7 0 + d)
def so_roof (P : ob_O) (v : Int) : Nat → ob_O → ob_O
  | 0, o => o
  | r + 1, o => so_lead (ob_u (so_roof P v r o) 6 0 (so_roof P v r o 6 0 + P 1 r * v)) (P 2 r) (P 1 r * v)
def so_half (peg sec q : Int) : Int := if peg = 0 then q else if peg = 1 then 0 else if Int.tmod (dz_c sec) 2 = 0 then q - Int.tdiv (dz_c q) 2 else Int.tdiv (dz_c q) 2
def so_g1 (P S : ob_O) (g : Int) (o : ob_O) : ob_O := if S 1 g = 0 then so_lead (so_lead o (P 4 g) (so_half (S 0 g) (o 5 0) (o 10 g))) (P 5 g) (o 10 g - so_half (S 0 g) (o 5 0) (o 10 g)) else ob_u o 7 0 (o 7 0 + o 10 g)
def so_gut (P S : ob_O) : Nat → ob_O → ob_O
  | 0, o => o
  | g + 1, o => so_g1 P S g (so_gut P S g o)
def so_tip (o : ob_O) (s n d : Int) : Int := Int.tdiv (dz_c (o 0 s + d)) n
def so_cup (o : ob_O) (k n ot s d : Int) : Int × ob_O :=
  if k = 0 then (if dz_c d ≤ 0 then 0 else 1, ob_u o 7 0 (o 7 0 + d))
  else if k = 1 then (so_tip o s n d, ob_u (ob_u o 0 s (o 0 s + d - so_tip o s n d * n)) 7 0 (o 7 0 + so_tip o s n d * n))
  else if k = 2 then (if dz_c (o 0 s + d) < n then (if dz_c (o 0 s + d) ≤ 0 then (0, ob_u o 0 s (o 0 s + d)) else (0, ob_u (ob_u o 0 s (o 0 s + d - 1)) 7 0 (o 7 0 + 1))) else (1, ob_u (ob_u o 0 s 0) 7 0 (o 7 0 + (o 0 s + d))))
  else if k = 3 then (Int.tdiv (dz_c (o 1 s + d)) n, ob_u (ob_u o 7 0 (o 7 0 + d)) 1 s (o 1 s + d - Int.tdiv (dz_c (o 1 s + d)) n * n))
  else if k = 4 then (so_tip o s n d, ob_u (ob_u o 0 s (o 0 s + d - so_tip o s n d * n)) 3 ot (o 3 ot + so_tip o s n d * n))
  else (0, ob_u o 7 0 (o 7 0 + d))
def so_brk (P o : ob_O) (s : Int) : Bool := decide (0 < P 15 0 ∧ P 15 0 ≤ dz_l (o 2 s))
def so_ld (P : ob_O) (s l : Int) (x : Int × ob_O) : Int × ob_O := if dz_c l ≤ 0 then (x.1, ob_u x.2 4 s l) else (dz_or x.1 (dz_sl 1 (P 7 s)), ob_u (ob_u (ob_u x.2 4 s l) 8 0 (x.2 8 0 + l)) 9 0 (dz_or (x.2 9 0) (dz_sl 1 s)))
def so_c1 (P S : ob_O) (s : Int) (x : Int × ob_O) : Int × ob_O := so_ld P s (if so_brk P x.2 s = false then (so_cup (ob_u x.2 2 s (x.2 2 s + dz_c (x.2 11 s))) (S 2 s) (P 8 s) (P 9 s) s (x.2 11 s)).1 else 0) (x.1, (so_cup (ob_u x.2 2 s (x.2 2 s + dz_c (x.2 11 s))) (S 2 s) (P 8 s) (P 9 s) s (x.2 11 s)).2)
def so_cups (P S : ob_O) : Nat → Int × ob_O → Int × ob_O
  | 0, x => x
  | s + 1, x => so_c1 P S s (so_cups P S s x)
def so_in (o : ob_O) : ob_O := ob_f (ob_f (ob_f o 11 (o 3)) 3 (fun _ => 0)) 10 (fun _ => 0)
def so_gs (P S : ob_O) (v : Int) (o : ob_O) : ob_O := so_gut P S (P 3 0).toNat (so_roof P v (P 0 0).toNat (so_in o))
def so_end (x : Int × ob_O) : Int × ob_O := (x.1, ob_u x.2 5 0 (x.2 5 0 + 1))
def so_sec (P S : ob_O) (v : Int) (o : ob_O) : Int × ob_O := so_end (so_cups P S (P 6 0).toNat (0, so_gs P S v o))
/-- what a plan that was read keeps -/
def so_P (P : ob_O) : Prop := (0 ≤ P 0 0 ∧ P 0 0 ≤ 4) ∧ (∀ r : Int, 0 ≤ r → r < P 0 0 → (1 ≤ P 1 r ∧ P 1 r ≤ 9) ∧ 0 ≤ P 2 r ∧ P 2 r < 5) ∧ (0 ≤ P 3 0 ∧ P 3 0 ≤ 5) ∧ (∀ g : Int, 0 ≤ g → g < P 3 0 → so_way (P 4 g) ∧ so_way (P 5 g)) ∧ (0 ≤ P 6 0 ∧ P 6 0 ≤ 8) ∧ (∀ s : Int, 0 ≤ s → s < P 6 0 → 0 ≤ P 7 s ∧ P 7 s < 8) ∧ (0 ≤ P 10 0 ∧ P 10 0 ≤ 3) ∧ (0 ≤ P 11 0 ∧ P 11 0 ≤ 4) ∧ (∀ k : Int, 0 ≤ k → k < P 11 0 → 0 ≤ P 12 k ∧ P 12 k ≤ P 13 k ∧ P 13 k ≤ 11 ∧ 1 ≤ P 14 k ∧ P 14 k ≤ 99) ∧ (0 ≤ P 15 0 ∧ P 15 0 ≤ 999)
/-- what a setup keeps under a plan -/
def so_S (P S : ob_O) : Prop := (∀ g : Int, 0 ≤ g → g < P 3 0 → 0 ≤ S 0 g ∧ S 0 g ≤ 2) ∧ (∀ g : Int, 0 ≤ g → g < 5 → S 1 g = 0 ∨ S 1 g = 1) ∧ (∀ s : Int, 0 ≤ s → s < P 6 0 → (0 ≤ S 2 s ∧ S 2 s ≤ 5) ∧ ((S 2 s ≠ 0 ∧ S 2 s ≠ 5) → 1 ≤ P 8 s ∧ P 8 s ≤ 30) ∧ (S 2 s = 4 → 0 ≤ P 9 s ∧ P 9 s < P 6 0)) ∧ (∀ w : Int, 0 ≤ w → w < P 10 0 → (0 ≤ S 3 w ∧ S 3 w ≤ 12) ∧ (∀ i : Int, 0 ≤ i → i < S 3 w → 0 ≤ S (20 + w.toNat) i ∧ S (20 + w.toNat) i ≤ 9)) ∧ (0 ≤ S 6 0 ∧ S 6 0 ≤ 12) ∧ (∀ i : Int, 0 ≤ i → i < S 6 0 → 0 ≤ S 5 i ∧ S 5 i ≤ 255)
theorem ne_FP {c p : Nat} (h : hz_isF c) (h' : hz_isP p) : p ≠ c := by unfold hz_isF at h; unfold hz_isP at h'; omega
theorem ne_FS {c p : Nat} (h : hz_isF c) (h' : hz_isS p) : p ≠ c := by unfold hz_isF at h; unfold hz_isS at h'; omega
section cf
variable {F p q : Nat} {Z : dz_Z} {o : ob_O} {v w d s n k ot : Int}
theorem cf_lead (hw : so_way w) : jf_F_lead F w d (ob_z Z F o) = some (ob_z Z F (so_lead o w d)) := by
  have hc : dz_c w = w := dc_ir (by unfold so_way at hw; omega) (by unfold so_way at hw; omega)
  unfold jf_F_lead so_lead
  rw [hc]
  rcases hw with h | h | h
  · rw [if_neg (by omega), if_neg (by omega), if_pos (by omega), if_pos (by omega)]
    simp only [dz_a, oz_uz, oz_s]
  · have hc' : dz_c (w - 10) = w - 10 := dc_ir (by omega) (by omega)
    rw [hc', if_neg (by omega), if_pos (by omega), if_neg (by omega), if_neg (by omega), if_pos (by omega), if_neg (by omega), if_pos (by omega)]
    simp only [dz_a, oz_uz, oz_s]
  · rw [if_neg (by omega), if_pos (by omega), if_neg (by omega), if_pos (by omega), if_neg (by omega), if_neg (by omega)]
    simp only [dz_a, oz_uz, oz_s]
theorem cf_roofs (hpF : p ≠ F) (hP : so_P (Z p)) : jf_F_fallOnRoofs F p v (ob_z Z F o) = some (ob_z Z F (so_roof (Z p) v (Z p 0 0).toNat o)) := by
  apply dp_is
  unfold jf_F_fallOnRoofs
  refine dp_lp (fun k s => ∃ r : Nat, r + k = (Z p 0 0).toNat ∧ s = ((r : Int), ob_z Z F (so_roof (Z p) v r o))) ?_ 5000 (Z p 0 0).toNat (0, ob_z Z F o) (by have := hP.1; omega) ⟨0, by omega, rfl⟩
  rintro k _ ⟨r, hr, rfl⟩
  have h0 := hP.1
  have e1 : dz_c (Z p 0 0) = Z p 0 0 := dc_ir h0.1 (by omega)
  have e2 : dz_c (r : Int) = r := dc_ir (by omega) (by omega)
  simp only [oz_n hpF, e1, e2]
  by_cases hk : r = (Z p 0 0).toNat
  · refine dp_ck (by omega) (dp_sm ?_)
    rw [← hk]
    rfl
  · refine dp_no (by omega) (dp_ck ⟨by omega, by omega⟩ (dp_le ?_))
    simp only [oz_s, oz_uz, oz_n hpF]
    have hg := (hP.2.1 r (by omega) (by omega)).2
    refine dp_bi (dp_eq (cf_lead (Or.inl hg)) (dp_sm ⟨k - 1, by omega, r + 1, by omega, ?_⟩))
    simp only [so_roof]
    rfl
theorem cf_half {peg qq : Int} (hp : 0 ≤ peg ∧ peg ≤ 2) : jf_F_shareOfLeft F peg qq (ob_z Z F o) = some (so_half peg (o 5 0) qq) := by
  have hc : dz_c peg = peg := dc_ir (by omega) (by omega)
  have hm : dz_c (Int.tmod (dz_c (o 5 0)) 2) = Int.tmod (dz_c (o 5 0)) 2 := by
    have h1 := Int.tmod_lt_of_pos (dz_c (o 5 0)) (b := 2) (by omega)
    have h2 := Int.lt_tmod_of_pos (dz_c (o 5 0)) (b := 2) (by omega)
    exact dz_ci (by omega) (by omega)
  unfold jf_F_shareOfLeft so_half
  simp only [oz_s, hc, hm]
  by_cases h0 : peg = 0
  · rw [if_neg (by omega), if_pos h0]
  · rw [if_pos h0, if_neg h0]
    by_cases h1 : peg = 1
    · rw [if_neg (by omega), if_pos h1]
    · rw [if_pos h1, if_neg h1]
      by_cases h2 : Int.tmod (dz_c (o 5 0)) 2 = 0
      · rw [if_neg (by omega), if_pos h2]
        rfl
      · rw [if_pos h2, if_neg h2]
        rfl
theorem so_lead_f (f : Nat) (h : f ≠ 7) (h1 : f ≠ 10) (h2 : f ≠ 11) : so_lead o w d f = o f := by
  funext i
  unfold so_lead
  split
  · rw [ou_f h1]
  · split
    · rw [ou_f h2]
    · rw [ou_f h]
theorem cf_gut (hpF : p ≠ F) (hqF : q ≠ F) (hP : so_P (Z p)) (hS : so_S (Z p) (Z q)) : jf_F_runThroughGutters F p q (ob_z Z F o) = some (ob_z Z F (so_gut (Z p) (Z q) (Z p 3 0).toNat o)) := by
  apply dp_is
  unfold jf_F_runThroughGutters
  refine dp_lp (fun k s => ∃ r : Nat, r + k = (Z p 3 0).toNat ∧ s = ((r : Int), ob_z Z F (so_gut (Z p) (Z q) r o))) ?_ 5000 (Z p 3 0).toNat (0, ob_z Z F o) (by have := hP.2.2.1; omega) ⟨0, by omega, rfl⟩
  rintro k _ ⟨r, hr, rfl⟩
  have h0 := hP.2.2.1
  have e1 : dz_c (Z p 3 0) = Z p 3 0 := dc_ir h0.1 (by omega)
  have e2 : dz_c (r : Int) = r := dc_ir (by omega) (by omega)
  simp only [oz_n hpF, oz_n hqF, oz_s, e1, e2]
  by_cases hk : r = (Z p 3 0).toNat
  · refine dp_ck (by omega) (dp_sm ?_)
    rw [← hk]
    rfl
  · refine dp_no (by omega) (dp_ck ⟨by omega, by omega⟩ ?_)
    have hw := hP.2.2.2.1 r (by omega) (by omega)
    have hpg := hS.1 r (by omega) (by omega)
    have hb := hS.2.1 r (by omega) (by omega)
    have e3 : dz_c (Z q 1 r) = Z q 1 r := dz_ci (by omega) (by omega)
    rw [e3]
    refine dp_br (fun h => ?_) (fun h => ?_)
    · refine dp_bi (dp_eq (cf_half hpg) ?_)
      refine dp_bi (dp_eq (cf_lead hw.1) ?_)
      simp only [oz_n hpF]
      refine dp_bi (dp_eq (cf_lead hw.2) (dp_sm ⟨k - 1, by omega, r + 1, by omega, ?_⟩))
      simp only [so_gut, so_g1, if_pos h]
      rfl
    · refine dp_le (dp_sm ⟨k - 1, by omega, r + 1, by omega, ?_⟩)
      simp only [so_gut, so_g1, if_neg h, oz_uz]
      rfl
theorem cf_tip (hs : 0 ≤ s ∧ s < 8) (hn : 1 ≤ n ∧ n ≤ 30) (hot : 0 ≤ ot ∧ ot < 8) : jf_F_tip F s n d ot (ob_z Z F o) = some (so_tip o s n d, ob_z Z F (ob_u (ob_u o 0 s (o 0 s + d - so_tip o s n d * n)) 3 ot (o 3 ot + so_tip o s n d * n))) := by
  have h1 : dz_c s = s := dc_ir hs.1 (by omega)
  have h2 : dz_c n = n := dc_ir (by omega) (by omega)
  have h3 : dz_c ot = ot := dc_ir hot.1 (by omega)
  unfold jf_F_tip so_tip
  simp only [h1, h2, h3, dz_a, oz_uz, oz_s, ou_s]
  rw [if_pos hs, if_neg (by omega), if_pos (by omega)]
  show (if ot < 0 then _ else _) = _
  rw [if_neg (by omega), if_neg (by omega), if_pos hot]
  simp only [ou_u, ou_f (show (3 : Nat) ≠ 0 by decide)]
theorem cf_tipg (hs : 0 ≤ s ∧ s < 8) (hn : 1 ≤ n ∧ n ≤ 30) : jf_F_tip F s n d 20 (ob_z Z F o) = some (so_tip o s n d, ob_z Z F (ob_u (ob_u o 0 s (o 0 s + d - so_tip o s n d * n)) 7 0 (o 7 0 + so_tip o s n d * n))) := by
  have h1 : dz_c s = s := dc_ir hs.1 (by omega)
  have h2 : dz_c n = n := dc_ir (by omega) (by omega)
  have h3 : dz_c 20 = 20 := by decide
  unfold jf_F_tip so_tip
  simp only [h1, h2, h3, dz_a, oz_uz, oz_s, ou_s]
  rw [if_pos hs, if_neg (by omega), if_pos (by omega)]
  simp only [Option.bind_some]
  rw [if_neg (by decide), if_pos (by decide)]
  simp only [ou_u, ou_f (show (7 : Nat) ≠ 0 by decide)]
theorem so_cup_2 : so_cup o 2 n ot s d = (if dz_c (o 0 s + d) < n then (if dz_c (o 0 s + d) ≤ 0 then (0, ob_u o 0 s (o 0 s + d)) else (0, ob_u (ob_u o 0 s (o 0 s + d - 1)) 7 0 (o 7 0 + 1))) else (1, ob_u (ob_u o 0 s 0) 7 0 (o 7 0 + (o 0 s + d)))) := by
  unfold so_cup
  rw [if_neg (by decide), if_neg (by decide), if_pos rfl]
theorem so_cup_3 : so_cup o 3 n ot s d = (Int.tdiv (dz_c (o 1 s + d)) n, ob_u (ob_u o 7 0 (o 7 0 + d)) 1 s (o 1 s + d - Int.tdiv (dz_c (o 1 s + d)) n * n)) := by
  unfold so_cup
  rw [if_neg (by decide), if_neg (by decide), if_neg (by decide), if_pos rfl]
theorem cf_leak (hs : 0 ≤ s ∧ s < 8) (hn : 1 ≤ n ∧ n ≤ 30) : jf_F_leak F s n d (ob_z Z F o) = some ((so_cup o 2 n ot s d).1, ob_z Z F (so_cup o 2 n ot s d).2) := by
  have h1 : dz_c s = s := dc_ir hs.1 (by omega)
  have h2 : dz_c n = n := dc_ir (by omega) (by omega)
  unfold jf_F_leak
  rw [so_cup_2]
  simp only [h1, h2, dz_a, oz_uz, oz_s, ou_s]
  rw [if_pos hs]
  by_cases c1 : dz_c (o 0 s + d) < n
  · rw [if_pos c1, if_pos c1]
    by_cases c2 : dz_c (o 0 s + d) ≤ 0
    · rw [if_pos c2, if_pos c2]
    · rw [if_neg c2, if_neg c2]
      simp only [ou_f (show (0 : Nat) ≠ 7 by decide), ou_f (show (7 : Nat) ≠ 0 by decide), ou_s]
      congr 3
      funext f' i'
      unfold ob_u
      by_cases hf : f' = 0 ∧ i' = s
      · rw [if_pos hf, if_neg (by omega), if_pos hf]
      · rw [if_neg hf, if_neg hf, if_neg hf]
  · rw [if_neg c1, if_neg c1]
    simp only [ou_f (show (7 : Nat) ≠ 0 by decide)]
    congr 3
    funext f' i'
    unfold ob_u
    by_cases hf : f' = 0 ∧ i' = s
    · rw [if_pos hf, if_neg (by omega), if_pos hf]
    · rw [if_neg hf, if_neg hf, if_neg hf]
theorem cf_each (hs : 0 ≤ s ∧ s < 8) (hn : 1 ≤ n ∧ n ≤ 30) : jf_F_countEach F s n d (ob_z Z F o) = some ((so_cup o 3 n ot s d).1, ob_z Z F (so_cup o 3 n ot s d).2) := by
  have h1 : dz_c s = s := dc_ir hs.1 (by omega)
  have h2 : dz_c n = n := dc_ir (by omega) (by omega)
  unfold jf_F_countEach
  rw [so_cup_3]
  simp only [h1, h2, dz_a, oz_uz, oz_s, ou_s, ou_f (show (1 : Nat) ≠ 7 by decide)]
  rw [if_pos hs, if_neg (by omega), if_pos (by omega)]
  simp only [Option.bind_some, ou_u]
theorem cf_cup (hpF : p ≠ F) (hs : 0 ≤ s ∧ s < 8) (hk : 0 ≤ k ∧ k ≤ 5) (hn : (k ≠ 0 ∧ k ≠ 5) → 1 ≤ Z p 8 s ∧ Z p 8 s ≤ 30) (hot : k = 4 → 0 ≤ Z p 9 s ∧ Z p 9 s < 8) : jf_F_fillCup F p k s d (ob_z Z F o) = some ((so_cup o k (Z p 8 s) (Z p 9 s) s d).1, ob_z Z F (so_cup o k (Z p 8 s) (Z p 9 s) s d).2) := by
  have h1 : dz_c s = s := dc_ir hs.1 (by omega)
  have h2 : dz_c k = k := dc_ir (by omega) (by omega)
  unfold jf_F_fillCup
  simp only [h1, h2, dz_a, oz_uz, oz_s, oz_n hpF]
  by_cases c0 : k = 0
  · subst c0
    rw [if_pos rfl]
    unfold so_cup
    rw [if_pos rfl]
    by_cases c : dz_c d ≤ 0
    · rw [if_pos c, if_pos c]
    · rw [if_neg c, if_neg c]
  rw [if_neg c0]
  by_cases c1 : k = 1
  · subst c1
    rw [if_pos rfl, if_pos hs, cf_tipg hs (hn (by omega))]
    unfold so_cup
    rfl
  rw [if_neg c1]
  by_cases c2 : k = 2
  · subst c2
    rw [if_pos rfl, if_pos hs, cf_leak (ot := Z p 9 s) hs (hn (by omega))]
    rfl
  rw [if_neg c2]
  by_cases c3 : k = 3
  · subst c3
    rw [if_pos rfl, if_pos hs, cf_each (ot := Z p 9 s) hs (hn (by omega))]
    rfl
  rw [if_neg c3]
  by_cases c4 : k = 4
  · subst c4
    rw [if_pos rfl, if_pos hs, cf_tip hs (hn (by omega)) (hot rfl)]
    unfold so_cup
    rfl
  rw [if_neg c4]
  unfold so_cup
  rw [if_neg c0, if_neg c1, if_neg c2, if_neg c3, if_neg c4]
theorem cf_brk (hpF : p ≠ F) (hs : 0 ≤ s ∧ s < 8) (hw : 0 ≤ Z p 15 0 ∧ Z p 15 0 ≤ 999) : jf_F_isBroken F p s (ob_z Z F o) = some (so_brk (Z p) o s) := by
  have h1 : dz_c s = s := dc_ir hs.1 (by omega)
  have h2 : dz_c (Z p 15 0) = Z p 15 0 := dc_ir (by omega) (by omega)
  unfold jf_F_isBroken so_brk
  simp only [h1, h2, oz_s, oz_n hpF]
  by_cases c : Z p 15 0 ≤ 0
  · rw [if_pos c, decide_eq_false (by omega)]
  · rw [if_neg c, if_pos hs]
    by_cases c2 : dz_l (o 2 s) < Z p 15 0
    · rw [if_pos c2, decide_eq_false (by omega)]
    · rw [if_neg c2, decide_eq_true (by omega)]
theorem cf_cups (hpF : p ≠ F) (hqF : q ≠ F) (hP : so_P (Z p)) (hS : so_S (Z p) (Z q)) : jf_F_fillCups F p q (ob_z Z F o) = some ((so_cups (Z p) (Z q) (Z p 6 0).toNat (0, o)).1, ob_z Z F (so_cups (Z p) (Z q) (Z p 6 0).toNat (0, o)).2) := by
  apply dp_is
  unfold jf_F_fillCups
  refine dp_lp (fun k s => ∃ r : Nat, r + k = (Z p 6 0).toNat ∧ s = ((so_cups (Z p) (Z q) r (0, o)).1, (r : Int), ob_z Z F (so_cups (Z p) (Z q) r (0, o)).2)) ?_ 5000 (Z p 6 0).toNat (0, 0, ob_z Z F o) (by have := hP.2.2.2.2.1; omega) ⟨0, by omega, rfl⟩
  rintro k _ ⟨r, hr, rfl⟩
  have h0 := hP.2.2.2.2.1
  have e1 : dz_c (Z p 6 0) = Z p 6 0 := dc_ir h0.1 (by omega)
  have e2 : dz_c (r : Int) = r := dc_ir (by omega) (by omega)
  generalize hx : so_cups (Z p) (Z q) r (0, o) = x
  simp only [oz_n hpF, oz_n hqF, oz_s, e1, e2]
  by_cases hk : r = (Z p 6 0).toNat
  · refine dp_ck (by omega) (dp_sm ?_)
    rw [← hk, hx]
    rfl
  · refine dp_no (by omega) ?_
    have hs : (0 : Int) ≤ r ∧ (r : Int) < 8 := ⟨by omega, by omega⟩
    refine dp_bi (dp_eq (cf_brk hpF hs hP.2.2.2.2.2.2.2.2.2) (dp_ck hs (dp_le ?_)))
    simp only [oz_uz, oz_n hqF]
    have hq := hS.2.2.1 r (by omega) (by omega)
    refine dp_bi (dp_eq (cf_cup hpF hs hq.1 hq.2.1 (fun h => ⟨(hq.2.2 h).1, by have := (hq.2.2 h).2; omega⟩)) ?_)
    refine dp_bi ?_
    have key : ∀ l : Int, l = (if so_brk (Z p) x.2 r = false then (so_cup (ob_u x.2 2 r (x.2 2 r + dz_c (x.2 11 r))) (Z q 2 r) (Z p 8 r) (Z p 9 r) r (x.2 11 r)).1 else 0) → so_cups (Z p) (Z q) (r + 1) (0, o) = so_ld (Z p) r l (x.1, (so_cup (ob_u x.2 2 r (x.2 2 r + dz_c (x.2 11 r))) (Z q 2 r) (Z p 8 r) (Z p 9 r) r (x.2 11 r)).2) := by
      intro l hl
      rw [hl]
      show so_c1 (Z p) (Z q) r (so_cups (Z p) (Z q) r (0, o)) = _
      rw [hx]
      rfl
    refine dp_br (fun hb => dp_sm ?_) (fun hb => dp_sm ?_)
    all_goals
      refine dp_le ?_
      simp only [oz_uz, oz_s, oz_n hpF, ou_s]
      refine dp_br (fun hl => dp_sm ⟨k - 1, by omega, r + 1, by omega, ?_⟩) (fun hl => dp_le (dp_le (dp_sm ⟨k - 1, by omega, r + 1, by omega, ?_⟩)))
    · rw [key _ (by rw [if_pos hb])]
      unfold so_ld
      rw [if_pos hl]
      rfl
    · rw [key _ (by rw [if_pos hb])]
      unfold so_ld
      rw [if_neg hl]
      simp only [oz_uz, oz_s, oz_n hpF, ou_s, ou_f (show (8 : Nat) ≠ 4 by decide), ou_f (show (9 : Nat) ≠ 4 by decide), ou_f (show (9 : Nat) ≠ 8 by decide)]
      rfl
    · rw [key _ (by rw [if_neg hb])]
      unfold so_ld
      rw [if_pos hl]
      rfl
    · exact absurd (by decide) hl
theorem cf_sec (hF : hz_isF F) (hp : hz_isP p) (hq : hz_isS q) (hP : so_P (Z p)) (hS : so_S (Z p) (Z q)) : jf_F_passSecond F p q v Z = some ((so_sec (Z p) (Z q) v (Z F)).1, ob_z Z F (so_sec (Z p) (Z q) v (Z F)).2) := by
  have hpF := ne_FP hF hp
  have hqF := ne_FS hF hq
  unfold jf_F_passSecond
  simp only [dz_a]
  rw [show Z = ob_z Z F (Z F) from oz_i.symm]
  simp only [oz_fz, oz_s, oz_n hpF, oz_n hqF]
  rw [show ob_f (ob_f (ob_f (Z F) 11 (Z F 3)) 3 fun _ => 0) 10 (fun _ => 0) = so_in (Z F) from rfl, cf_roofs hpF hP]
  simp only [Option.bind_some]
  rw [cf_gut hpF hqF hP hS]
  simp only [Option.bind_some]
  rw [cf_cups hpF hqF hP hS]
  simp only [Option.bind_some, oz_uz, oz_s, oz_z]
  rfl
end cf
