section mg_39bits
/-! bits as numbers -/
theorem bt_n (x : Int) : (Int32.ofInt x).toBitVec.toNat = (x % 4294967296).toNat := by
  show (BitVec.ofInt 32 x).toNat = _
  rw [BitVec.toNat_ofInt]
  rfl
theorem bt_i (z : Int32) (h : z.toBitVec.toNat < 2147483648) : z.toInt = (z.toBitVec.toNat : Int) := by
  show z.toBitVec.toInt = _
  rw [BitVec.toInt_eq_toNat_of_lt (by omega)]
theorem bt_an (x : Int) (k : Nat) (hk : k ≤ 31) : (Int32.ofInt x &&& Int32.ofInt ((2 ^ k - 1 : Nat) : Int)).toInt = x % ((2 ^ k : Nat) : Int) := by
  have hp : 2 ^ k ≤ 2 ^ 31 := Nat.pow_le_pow_right (by omega) hk
  have hp0 : 0 < 2 ^ k := Nat.pow_pos (by omega)
  have e : (Int32.ofInt x &&& Int32.ofInt ((2 ^ k - 1 : Nat) : Int)).toBitVec.toNat = (x % 4294967296).toNat % 2 ^ k := by
    rw [Int32.toBitVec_and, BitVec.toNat_and, bt_n, bt_n]
    have : ((((2 ^ k - 1 : Nat) : Int) % 4294967296)).toNat = 2 ^ k - 1 := by omega
    rw [this, Nat.and_two_pow_sub_one_eq_mod]
  have hlt : (x % 4294967296).toNat % 2 ^ k < 2 ^ k := Nat.mod_lt _ hp0
  rw [bt_i _ (by rw [e]; omega), e]
  have hd : (2 ^ k : Nat) ∣ 4294967296 := by
    have : (4294967296 : Nat) = 2 ^ 32 := by decide
    rw [this]
    exact Nat.pow_dvd_pow 2 (by omega)
  have h1 : (((x % 4294967296).toNat % 2 ^ k : Nat) : Int) = (x % 4294967296) % ((2 ^ k : Nat) : Int) := by
    rw [Int.natCast_emod, Int.toNat_of_nonneg (Int.emod_nonneg _ (by omega))]
  rw [h1]
  exact Int.emod_emod_of_dvd x (Int.natCast_dvd_natCast.mpr hd)
theorem bn_255 (x : Int) : dz_an x 255 = x % 256 := bt_an x 8 (by decide)
theorem bn_3 (x : Int) : dz_an x 3 = x % 4 := bt_an x 2 (by decide)
theorem bn_32767 (x : Int) : dz_an x 32767 = x % 32768 := bt_an x 15 (by decide)
theorem bb_c (x : Int) : dz_c x = x.bmod 4294967296 := by
  unfold dz_c
  rw [Int32.toInt_ofInt]
theorem bb_b (x : Int) : dz_b x = x.bmod 256 := by
  unfold dz_b
  rw [Int8.toInt_toInt32, Int32.toInt_toInt8, Int32.toInt_ofInt]
  exact Int.bmod_bmod_of_dvd (by decide)
theorem bb_s (x : Int) : dz_s x = x.bmod 65536 := by
  unfold dz_s
  rw [Int16.toInt_toInt32, Int32.toInt_toInt16, Int32.toInt_ofInt]
  exact Int.bmod_bmod_of_dvd (by decide)
theorem bs_r (x : Int) (k : Int) (n : Nat) (hk : ((Int32.ofInt k &&& 31).toBitVec.smod 32).toNat = n) : dz_sr x k = dz_c x / ((2 ^ n : Nat) : Int) := by
  unfold dz_sr
  show (Int32.ofInt x >>> (Int32.ofInt k &&& 31)).toBitVec.toInt = _
  rw [Int32.toBitVec_shiftRight, BitVec.sshiftRight_eq', BitVec.toInt_sshiftRight, hk, Int.shiftRight_eq_div_pow]
  rfl
theorem bs_l (x : Int) (k : Int) (n : Nat) (hk : ((Int32.ofInt k &&& 31).toBitVec.smod 32).toNat = n) : dz_sl x k = (x * ((2 ^ n : Nat) : Int)).bmod 4294967296 := by
  unfold dz_sl
  show (Int32.ofInt x <<< (Int32.ofInt k &&& 31)).toBitVec.toInt = _
  rw [Int32.toBitVec_shiftLeft, BitVec.shiftLeft_eq', BitVec.toInt_eq_toNat_bmod, BitVec.toNat_shiftLeft, hk, bt_n, Nat.shiftLeft_eq]
  have h1 : (((x % 4294967296).toNat * 2 ^ n % 2 ^ 32 : Nat) : Int) = (x % 4294967296 * ((2 ^ n : Nat) : Int)) % 4294967296 := by
    rw [Int.natCast_emod, Int.natCast_mul, Int.toNat_of_nonneg (Int.emod_nonneg _ (by omega))]
    rfl
  rw [h1]
  have e3 : ((x % 4294967296 * ((2 ^ n : Nat) : Int)) % ((4294967296 : Nat) : Int)).bmod 4294967296 = (x % 4294967296 * ((2 ^ n : Nat) : Int)).bmod 4294967296 := Int.emod_bmod _ _
  refine Eq.trans e3 ?_
  have e4 : (x % ((4294967296 : Nat) : Int) * ((2 ^ n : Nat) : Int)).bmod 4294967296 = (x * ((2 ^ n : Nat) : Int)).bmod 4294967296 := Int.emod_mul_bmod _ _
  exact e4
theorem bs_24 (x : Int) : dz_sr (dz_sl x 24) 24 = dz_b x := by
  rw [bs_r _ 24 24 (by decide), bs_l _ 24 24 (by decide), bb_c, bb_b]
  show ((x * 16777216).bmod 4294967296).bmod 4294967296 / 16777216 = x.bmod 256
  simp only [Int.bmod_def]
  omega
theorem bs_16 (x : Int) : dz_sr (dz_sl x 16) 16 = dz_s x := by
  rw [bs_r _ 16 16 (by decide), bs_l _ 16 16 (by decide), bb_c, bb_s]
  show ((x * 65536).bmod 4294967296).bmod 4294967296 / 65536 = x.bmod 65536
  simp only [Int.bmod_def]
  omega
theorem bu_r (x : Int) (k : Int) (n : Nat) (hk : ((Int32.ofInt k).toUInt32 &&& Int32.toUInt32 31).toBitVec.toNat % 32 = n) (hx : n ≠ 0 ∨ (0 ≤ dz_c x)) : dz_ur x k = (x % 4294967296) / ((2 ^ n : Nat) : Int) := by
  unfold dz_ur
  have e : (((Int32.ofInt x).toUInt32 >>> ((Int32.ofInt k).toUInt32 &&& Int32.toUInt32 31)).toInt32).toBitVec.toNat = (x % 4294967296).toNat / 2 ^ n := by
    show ((Int32.ofInt x).toUInt32 >>> ((Int32.ofInt k).toUInt32 &&& Int32.toUInt32 31)).toBitVec.toNat = _
    rw [UInt32.toBitVec_shiftRight, BitVec.ushiftRight_eq', BitVec.toNat_ushiftRight, Nat.shiftRight_eq_div_pow]
    have : ((((Int32.ofInt k).toUInt32 &&& Int32.toUInt32 31).toBitVec % 32) : BitVec 32).toNat = n := by
      rw [BitVec.toNat_umod]
      exact hk
    rw [this]
    show (Int32.ofInt x).toBitVec.toNat / 2 ^ n = _
    rw [bt_n]
  have hb : (x % 4294967296).toNat / 2 ^ n < 2147483648 := by
    rcases Nat.eq_zero_or_pos n with h0 | h0
    · subst h0
      have := hx.resolve_left (by omega)
      rw [bb_c, Int.bmod_def] at this
      show (x % 4294967296).toNat / 1 < _
      rw [Nat.div_one]
      split at this <;> omega
    · have h2 : 2 ^ 1 ≤ 2 ^ n := Nat.pow_le_pow_right (by omega) h0
      have h3 : (x % 4294967296).toNat / 2 ^ n ≤ (x % 4294967296).toNat / 2 := Nat.div_le_div_left h2 (by omega)
      omega
  rw [bt_i _ (by rw [e]; exact hb), e, Int.natCast_ediv, Int.toNat_of_nonneg (Int.emod_nonneg _ (by omega))]
/-- what a seed draws -/
theorem bd_16 (x : Int) : dz_an (dz_ur x 16) 32767 = dz_an (dz_sr x 16) 32767 := by
  rw [bn_32767, bn_32767, bu_r x 16 16 (by decide) (Or.inl (by decide)), bs_r x 16 16 (by decide), bb_c]
  show x % 4294967296 / 65536 % 32768 = x.bmod 4294967296 / 65536 % 32768
  simp only [Int.bmod_def]
  omega
theorem bl_n (x : Int) : (Int64.ofInt x).toBitVec.toNat = (x % 18446744073709551616).toNat := by
  show (BitVec.ofInt 64 x).toNat = _
  rw [BitVec.toNat_ofInt]
  rfl
theorem bl_i (x : Int) : dz_li x % 256 = x % 256 := by
  unfold dz_li
  rw [Int64.toInt_toInt32, Int64.toInt_ofInt]
  have h1 : (x.bmod 18446744073709551616).bmod (2 ^ 32) = x.bmod 4294967296 := Int.bmod_bmod_of_dvd (by decide)
  show ((x.bmod 18446744073709551616).bmod (2 ^ 32)) % 256 = _
  rw [h1, Int.bmod_def]
  split <;> omega
theorem bl_r (x : Int) (k : Int) (n : Nat) (hk : (((Int32.ofInt k).toInt64 &&& 63).toBitVec.smod 64).toNat = n) : dz_lsr x k = dz_l x / ((2 ^ n : Nat) : Int) := by
  unfold dz_lsr
  show (Int64.ofInt x >>> ((Int32.ofInt k).toInt64 &&& 63)).toBitVec.toInt = _
  rw [Int64.toBitVec_shiftRight, BitVec.sshiftRight_eq', BitVec.toInt_sshiftRight, hk, Int.shiftRight_eq_div_pow]
  rfl
theorem bl_u (x : Int) (k : Int) (n : Nat) (hk : ((Int32.ofInt k).toInt64.toUInt64 &&& Int64.toUInt64 63).toBitVec.toNat % 64 = n) : dz_lur x k % 256 = ((x % 18446744073709551616) / ((2 ^ n : Nat) : Int)) % 256 := by
  unfold dz_lur
  show (((Int64.ofInt x).toUInt64 >>> ((Int32.ofInt k).toInt64.toUInt64 &&& Int64.toUInt64 63)).toBitVec.toInt) % 256 = _
  rw [BitVec.toInt_eq_toNat_bmod, UInt64.toBitVec_shiftRight, BitVec.ushiftRight_eq', BitVec.toNat_ushiftRight, Nat.shiftRight_eq_div_pow]
  have : ((((Int32.ofInt k).toInt64.toUInt64 &&& Int64.toUInt64 63).toBitVec % 64) : BitVec 64).toNat = n := by
    rw [BitVec.toNat_umod]
    exact hk
  rw [this]
  have e2 : ((Int64.ofInt x).toUInt64.toBitVec.toNat / 2 ^ n : Nat) = (x % 18446744073709551616).toNat / 2 ^ n := by
    show (Int64.ofInt x).toBitVec.toNat / 2 ^ n = _
    rw [bl_n]
  rw [e2, Int.natCast_ediv, Int.toNat_of_nonneg (Int.emod_nonneg _ (by omega))]
  generalize x % 18446744073709551616 / ((2 ^ n : Nat) : Int) = y
  show (y.bmod 18446744073709551616) % 256 = y % 256
  rw [Int.bmod_def]
  split <;> omega
/-- a byte that is fed -/
theorem bf_by (x : Int) (k : Int) (n : Nat) (hn : n ≤ 56) (hk : ((Int32.ofInt k).toInt64.toUInt64 &&& Int64.toUInt64 63).toBitVec.toNat % 64 = n) (hk2 : (((Int32.ofInt k).toInt64 &&& 63).toBitVec.smod 64).toNat = n) : (-128 ≤ dz_b (dz_b (dz_li (dz_lur x k))) ∧ dz_b (dz_b (dz_li (dz_lur x k))) ≤ 127) ∧ dz_an (dz_li (dz_lsr x k)) 255 = dz_b (dz_b (dz_li (dz_lur x k))) % 256 := by
  have h1 := bl_i (dz_lur x k)
  have h2 := bl_u x k n hk
  have h3 := bl_i (dz_lsr x k)
  have h4 := bl_r x k n hk2
  rw [bn_255, bb_b, bb_b]
  have h5 : dz_lsr x k % 256 = dz_lur x k % 256 := by
    rw [h2, h4]
    unfold dz_l
    rw [Int64.toInt_ofInt]
    show x.bmod 18446744073709551616 / _ % 256 = _
    rw [Int.bmod_def]
    have hp : ((2 ^ n : Nat) : Int) * ((2 ^ (56 - n) : Nat) : Int) = 72057594037927936 := by
      rw [← Int.natCast_mul, ← Nat.pow_add, show n + (56 - n) = 56 by omega]
      rfl
    have hp0 : (0 : Int) < ((2 ^ n : Nat) : Int) := by have : 0 < 2 ^ n := Nat.pow_pos (by omega); omega
    split
    · rfl
    · have : x % 18446744073709551616 - 18446744073709551616 = x % 18446744073709551616 + ((2 ^ n : Nat) : Int) * (-(256 * ((2 ^ (56 - n) : Nat) : Int))) := by
        rw [Int.mul_neg, ← Int.mul_assoc, Int.mul_comm _ 256, Int.mul_assoc, hp]
        omega
      have hc : ((18446744073709551616 : Nat) : Int) = 18446744073709551616 := rfl
      rw [hc] at *
      rw [this, Int.add_mul_ediv_left _ _ (by omega)]
      omega
  generalize dz_li (dz_lur x k) = y at *
  generalize dz_li (dz_lsr x k) = y' at *
  have hy : y' % 256 = y % 256 := by rw [h1, h3, h5]
  simp only [Int.bmod_def]
  omega
/-- tones are eight bits -/
def b8 (x : Int) : Prop := dz_an x 255 = x
theorem b8_r {x : Int} (h : b8 x) : 0 ≤ x ∧ x < 256 := by
  unfold b8 at h
  rw [bn_255] at h
  omega
theorem b8_i {x : Int} (h : 0 ≤ x ∧ x < 256) : b8 x := by
  unfold b8
  rw [bn_255]
  omega
theorem b8_or {x y : Int} (hx : b8 x) (hy : b8 y) : b8 (dz_or x y) := by
  unfold b8 dz_an at *
  unfold dz_or
  rw [Int32.ofInt_toInt]
  have hx' : Int32.ofInt x &&& Int32.ofInt 255 = Int32.ofInt x := by rw [← Int32.ofInt_toInt (Int32.ofInt x &&& Int32.ofInt 255), hx]
  have hy' : Int32.ofInt y &&& Int32.ofInt 255 = Int32.ofInt y := by rw [← Int32.ofInt_toInt (Int32.ofInt y &&& Int32.ofInt 255), hy]
  congr 1
  apply Int32.toBitVec_inj.mp
  have h1 := congrArg Int32.toBitVec hx'
  have h2 := congrArg Int32.toBitVec hy'
  simp only [Int32.toBitVec_and, Int32.toBitVec_or] at *
  rw [BitVec.and_or_distrib_right, h1, h2]
theorem b8_xo {x y : Int} (hx : b8 x) (hy : b8 y) : b8 (dz_xo x y) := by
  unfold b8 dz_an at *
  unfold dz_xo
  rw [Int32.ofInt_toInt]
  have hx' : Int32.ofInt x &&& Int32.ofInt 255 = Int32.ofInt x := by rw [← Int32.ofInt_toInt (Int32.ofInt x &&& Int32.ofInt 255), hx]
  have hy' : Int32.ofInt y &&& Int32.ofInt 255 = Int32.ofInt y := by rw [← Int32.ofInt_toInt (Int32.ofInt y &&& Int32.ofInt 255), hy]
  congr 1
  apply Int32.toBitVec_inj.mp
  have h1 := congrArg Int32.toBitVec hx'
  have h2 := congrArg Int32.toBitVec hy'
  simp only [Int32.toBitVec_and, Int32.toBitVec_xor] at *
  apply BitVec.eq_of_getLsbD_eq
  intro i hi
  have a := congrArg (fun z => BitVec.getLsbD z i) h1
  have b := congrArg (fun z => BitVec.getLsbD z i) h2
  simp only [BitVec.getLsbD_and, BitVec.getLsbD_xor] at a b ⊢
  revert a b
  generalize (Int32.ofInt x).toBitVec.getLsbD i = p
  generalize (Int32.ofInt y).toBitVec.getLsbD i = q
  generalize (Int32.ofInt 255).toBitVec.getLsbD i = r
  cases p <;> cases q <;> cases r <;> simp
theorem b8_sl {k : Int} (h : 0 ≤ k ∧ k < 8) : b8 (dz_sl 1 k) := by
  have : k = 0 ∨ k = 1 ∨ k = 2 ∨ k = 3 ∨ k = 4 ∨ k = 5 ∨ k = 6 ∨ k = 7 := by omega
  unfold b8
  rcases this with rfl | rfl | rfl | rfl | rfl | rfl | rfl | rfl <;> decide
/-- how many bits -/
def so_bits (x : Int) : Int := (jf_J_bitCount x).getD 0
theorem bc_all : ∀ k : Fin 256, jf_J_bitCount (k.val : Int) = some (so_bits (k.val : Int)) ∧ jf_M_bitsOf (k.val : Int) = some (so_bits (k.val : Int)) := by decide +kernel
theorem bc_8 {x : Int} (h : b8 x) : jf_J_bitCount x = some (so_bits x) ∧ jf_M_bitsOf x = some (so_bits x) := by
  have hr := b8_r h
  have := bc_all ⟨x.toNat, by omega⟩
  simp only [Int.toNat_of_nonneg hr.1] at this
  exact this
end mg_39bits
section mg_40iv
/-! what holds between two calls: the class's objects against the reference's -/
def mr_S (e : Int) (P S m : ob_O) : Prop := mr_W e P S m ∧ (∀ s : Int, 0 ≤ s → s < P 6 0 → ((S 2 s = 0 ∨ S 2 s = 5) → m 0 (e + (18 + s)) = 0) ∧ (S 2 s ≠ 4 → m 0 (e + (26 + s)) = -4)) ∧ (∀ w : Int, 0 ≤ w → w < P 10 0 → m 0 (e + (34 + 13 * w)) = S 3 w ∧ ∀ i : Int, 0 ≤ i → i < S 3 w → m 0 (e + (34 + 13 * w + 1 + i)) = S (20 + w.toNat) i) ∧ m 0 (e + 73) = S 6 0 ∧ (∀ i : Int, 0 ≤ i → i < S 6 0 → m 0 (e + (74 + i)) = S 5 i)
/-- a page: a setup and a flow -/
def iv_I (n : Nat) (e : Int) (P S F m : ob_O) : Prop := so_S P S ∧ mr_S e P S m ∧ so_B (3888 * n) (24000000 * n) F ∧ mr_F e P F m
def iv_p (Z : dz_Z) : Nat := (Z 0 2 0).toNat
def iv_s (Z : dz_Z) : Nat := (Z 0 3 0).toNat
def iv_R (o0 o1 : ob_O) : Prop := ((o0 2 0 = 25 ∧ o1 1 0 = 4) ∨ (o0 2 0 = 4 ∧ o1 1 0 = 25)) ∧ ((o0 3 0 = 36 ∧ o1 2 0 = 15) ∨ (o0 3 0 = 15 ∧ o1 2 0 = 36))
def iv_by (b u : Int) : Prop := (-128 ≤ b ∧ b ≤ 127) ∧ u = b % 256
def iv_T (T m : ob_O) : Prop := (0 ≤ T 1 0 ∧ T 1 0 ≤ 320) ∧ m 22 0 = T 1 0 ∧ (∀ i : Int, 0 ≤ i → i < T 1 0 → iv_by (T 0 i) (m 21 i))
def iv_h (H : ob_O) (m : ob_O) (k : Int) : Prop := (H 2 0 = -1 ∧ m 42 k = -4) ∨ ((0 ≤ H 2 0 ∧ H 2 0 ≤ 40) ∧ m 42 k = H 1 0 ∧ (0 ≤ H 1 0 ∧ H 1 0 ≤ 2) ∧ m 43 k = H 2 0 ∧ (∀ i : Int, 0 ≤ i → i < 40 → (-2147483648 ≤ H 0 i ∧ H 0 i ≤ 2147483647) ∧ m 44 (40 * k + i) = H 0 i))
def iv_G (n : Nat) (P I S F m : ob_O) (k : Nat) : Prop := I 2 0 = m 41 k ∧ (m 41 k = 0 ∨ (m 41 k = 1 ∧ iv_I n (140 * ((k : Int) + 1)) P S F m))
/-- behind n calls -/
def iv (n : Nat) (Z : dz_Z) (m : ob_O) : Prop := iv_R (Z 0) (Z 1) ∧ so_P (Z (iv_p Z)) ∧ mr_P (Z (iv_p Z)) m ∧ iv_I n 0 (Z (iv_p Z)) (Z (iv_s Z)) (Z 46) m ∧ (iv_G n (Z (iv_p Z)) (Z 68) (Z 69) (Z 79) m 0 ∧ iv_G n (Z (iv_p Z)) (Z 87) (Z 88) (Z 98) m 1) ∧ iv_T (Z 2) m ∧ (iv_h (Z 106) m 0 ∧ iv_h (Z 108) m 1 ∧ iv_h (Z 110) m 2 ∧ iv_h (Z 112) m 3) ∧ Z 0 10 0 = m 45 0 ∧ m 30 = dz_0 114 30 ∧ m 31 = dz_0 114 31
def iv_Z (n : Nat) (Z : dz_Z) : Prop := iv n Z (Z 114)
section ivs
variable {n n' : Nat} {Z Z' : dz_Z} {e : Int} {P S F m m' I H T : ob_O} {k : Nat} {j : Int}
theorem iv_isP (h : iv_R (Z 0) (Z 1)) : hz_isP (iv_p Z) := by unfold iv_p hz_isP; unfold iv_R at h; omega
theorem iv_isS (h : iv_R (Z 0) (Z 1)) : hz_isS (iv_s Z) := by unfold iv_s hz_isS; unfold iv_R at h; omega
theorem iv_s2 (h : iv_R (Z 0) (Z 1)) : iv_s Z = 36 ∨ iv_s Z = 15 := by unfold iv_s; unfold iv_R at h; omega
theorem iv_p2 (h : iv_R (Z 0) (Z 1)) : iv_p Z = 25 ∨ iv_p Z = 4 := by unfold iv_p; unfold iv_R at h; omega
theorem sB_m {B H B' H' : Int} {o : ob_O} (h : so_B B H o) (h1 : B ≤ B') (h2 : H ≤ H') : so_B B' H' o := ⟨fun i a b => by have := h.1 i a b; exact ⟨this.1, this.2.1, this.2.2.1, this.2.2.2.1, by omega⟩, by have := h.2; omega⟩
theorem iv_In (h : iv_I n e P S F m) (hn : n ≤ n') : iv_I n' e P S F m := ⟨h.1, h.2.1, sB_m h.2.2.1 (by omega) (by omega), h.2.2.2⟩
theorem iv_n (h : iv n Z m) (hn : n ≤ n') : iv n' Z m := by
  obtain ⟨h1, h2, h3, h4, ⟨h5, h6⟩, h7⟩ := h
  refine ⟨h1, h2, h3, iv_In h4 hn, ⟨⟨h5.1, ?_⟩, ⟨h6.1, ?_⟩⟩, h7⟩
  · rcases h5.2 with a | a
    · exact Or.inl a
    · exact Or.inr ⟨a.1, iv_In a.2 hn⟩
  · rcases h6.2 with a | a
    · exact Or.inl a
    · exact Or.inr ⟨a.1, iv_In a.2 hn⟩
theorem mrW_m (h : mr_W e P S m) (hP : so_P P) (hj : ∀ j : Int, e ≤ j → j < e + 86 → m' 0 j = m 0 j) : mr_W e P S m' := by
  have h3 := hP.2.2.1
  have h6 := hP.2.2.2.2.1
  refine ⟨fun g a b => ?_, fun g a b => ?_, fun s a b => ?_⟩
  · rw [hj _ (by omega) (by omega)]; exact h.1 g a b
  · rw [hj _ (by omega) (by omega)]; exact h.2.1 g a b
  · rw [hj (e + (10 + s)) (by omega) (by omega), hj (e + (18 + s)) (by omega) (by omega), hj (e + (26 + s)) (by omega) (by omega)]; exact h.2.2 s a b
theorem mrS_m (h : mr_S e P S m) (hP : so_P P) (hS : so_S P S) (hj : ∀ j : Int, e ≤ j → j < e + 86 → m' 0 j = m 0 j) : mr_S e P S m' := by
  have h6 := hP.2.2.2.2.1
  have h10 := hP.2.2.2.2.2.2.1
  refine ⟨mrW_m h.1 hP hj, fun s a b => ?_, fun w a b => ?_, ?_, fun i a b => ?_⟩
  · rw [hj (e + (18 + s)) (by omega) (by omega), hj (e + (26 + s)) (by omega) (by omega)]; exact h.2.1 s a b
  · have := (hS.2.2.2.1 w a b).1
    refine ⟨?_, fun i c d => ?_⟩
    · rw [hj _ (by omega) (by omega)]; exact (h.2.2.1 w a b).1
    · rw [hj _ (by omega) (by omega)]; exact (h.2.2.1 w a b).2 i c d
  · rw [hj _ (by omega) (by omega)]; exact h.2.2.2.1
  · have := hS.2.2.2.2.1
    rw [hj _ (by omega) (by omega)]; exact h.2.2.2.2 i a b
theorem mrF_m (h : mr_F e P F m) (hj : ∀ j : Int, e + 86 ≤ j → j < e + 138 → m' 0 j = m 0 j) : mr_F e P F m' := by
  refine ⟨fun i a b => ?_, ?_, ?_, ?_, ?_⟩
  · rw [hj (e + 86 + i) (by omega) (by omega), hj (e + 94 + i) (by omega) (by omega), hj (e + 102 + i) (by omega) (by omega), hj (e + 110 + i) (by omega) (by omega), hj (e + 126 + i) (by omega) (by omega), hj (e + 118 + i) (by omega) (by omega)]; exact h.1 i a b
  · rw [hj _ (by omega) (by omega)]; exact h.2.1
  · rw [hj _ (by omega) (by omega)]; exact h.2.2.1
  · rw [hj _ (by omega) (by omega)]; exact h.2.2.2.1
  · rw [hj _ (by omega) (by omega)]; exact h.2.2.2.2
theorem iv_Im (h : iv_I n e P S F m) (hP : so_P P) (hj : ∀ j : Int, e ≤ j → j < e + 138 → m' 0 j = m 0 j) : iv_I n e P S F m' := ⟨h.1, mrS_m h.2.1 hP h.1 (fun j a b => hj j a (by omega)), h.2.2.1, mrF_m h.2.2.2 (fun j a b => hj j (by omega) b)⟩
theorem mrP_m (h : mr_P P m) (hf : ∀ f : Nat, 1 ≤ f → f ≤ 10 → m' f = m f) : mr_P P m' := by
  unfold mr_P
  rw [hf 1 (by decide) (by decide), hf 2 (by decide) (by decide), hf 3 (by decide) (by decide), hf 4 (by decide) (by decide), hf 5 (by decide) (by decide), hf 6 (by decide) (by decide), hf 7 (by decide) (by decide), hf 8 (by decide) (by decide), hf 9 (by decide) (by decide), hf 10 (by decide) (by decide)]
  exact h
theorem iv_Gm (h : iv_G n P I S F m k) (hP : so_P P) (hk : k < 2) (h41 : m' 41 = m 41) (hj : ∀ j : Int, 140 ≤ j → j < 420 → m' 0 j = m 0 j) : iv_G n P I S F m' k := by
  unfold iv_G
  rw [h41]
  refine ⟨h.1, ?_⟩
  rcases h.2 with a | a
  · exact Or.inl a
  · exact Or.inr ⟨a.1, iv_Im a.2 hP (fun j c d => hj j (by omega) (by omega))⟩
theorem iv_hm (h : iv_h H m j) (h42 : m' 42 = m 42) (h43 : m' 43 = m 43) (h44 : m' 44 = m 44) : iv_h H m' j := by
  unfold iv_h
  rw [h42, h43, h44]
  exact h
theorem iv_Tm (h : iv_T T m) (h21 : m' 21 = m 21) (h22 : m' 22 = m 22) : iv_T T m' := by
  unfold iv_T
  rw [h21, h22]
  exact h
/-- a new setup and a new flow on the current page; objects that nobody looks at between calls may change -/
theorem iv_pg (h : iv n Z m) (hn : n ≤ n') (hZ : ∀ b : Nat, b ≠ 46 → b ≠ 54 → b ≠ 55 → b ≠ 65 → b ≠ 114 → b ≠ iv_s Z → Z' b = Z b) (hI : iv_I n' 0 (Z (iv_p Z)) (Z' (iv_s Z)) (Z' 46) m') (hf : ∀ f : Nat, f ≠ 0 → (f < 32 ∨ 40 < f) → m' f = m f) (hj : ∀ j : Int, 140 ≤ j → j < 420 → m' 0 j = m 0 j) : iv n' Z' m' := by
  obtain ⟨h1, h2, h3, h4, ⟨h5, h6⟩, h7, ⟨h8, h9, h10, h11⟩, h12, h13, h14⟩ := iv_n h hn
  have hs := iv_s2 h1
  have hp := iv_p2 h1
  have z0 : Z' 0 = Z 0 := hZ 0 (by decide) (by decide) (by decide) (by decide) (by decide) (by omega)
  have z1 : Z' 1 = Z 1 := hZ 1 (by decide) (by decide) (by decide) (by decide) (by decide) (by omega)
  have ep : iv_p Z' = iv_p Z := by unfold iv_p; rw [z0]
  have es : iv_s Z' = iv_s Z := by unfold iv_s; rw [z0]
  have zp : Z' (iv_p Z) = Z (iv_p Z) := hZ _ (by omega) (by omega) (by omega) (by omega) (by omega) (by omega)
  unfold iv
  rw [ep, es, z0, z1, zp, hZ 68 (by decide) (by decide) (by decide) (by decide) (by decide) (by omega), hZ 69 (by decide) (by decide) (by decide) (by decide) (by decide) (by omega), hZ 79 (by decide) (by decide) (by decide) (by decide) (by decide) (by omega), hZ 87 (by decide) (by decide) (by decide) (by decide) (by decide) (by omega), hZ 88 (by decide) (by decide) (by decide) (by decide) (by decide) (by omega), hZ 98 (by decide) (by decide) (by decide) (by decide) (by decide) (by omega), hZ 2 (by decide) (by decide) (by decide) (by decide) (by decide) (by omega), hZ 106 (by decide) (by decide) (by decide) (by decide) (by decide) (by omega), hZ 108 (by decide) (by decide) (by decide) (by decide) (by decide) (by omega), hZ 110 (by decide) (by decide) (by decide) (by decide) (by decide) (by omega), hZ 112 (by decide) (by decide) (by decide) (by decide) (by decide) (by omega), hf 45 (by decide) (by decide), hf 30 (by decide) (by decide), hf 31 (by decide) (by decide)]
  exact ⟨h1, h2, mrP_m h3 (fun f a b => hf f (by omega) (by omega)), hI, ⟨iv_Gm h5 h2 (by decide) (hf 41 (by decide) (by decide)) hj, iv_Gm h6 h2 (by decide) (hf 41 (by decide) (by decide)) hj⟩, iv_Tm h7 (hf 21 (by decide) (by decide)) (hf 22 (by decide) (by decide)), ⟨iv_hm h8 (hf 42 (by decide) (by decide)) (hf 43 (by decide) (by decide)) (hf 44 (by decide) (by decide)), iv_hm h9 (hf 42 (by decide) (by decide)) (hf 43 (by decide) (by decide)) (hf 44 (by decide) (by decide)), iv_hm h10 (hf 42 (by decide) (by decide)) (hf 43 (by decide) (by decide)) (hf 44 (by decide) (by decide)), iv_hm h11 (hf 42 (by decide) (by decide)) (hf 43 (by decide) (by decide)) (hf 44 (by decide) (by decide))⟩, h12, h13, h14⟩
end ivs
section iv0
theorem z0_z {b f : Nat} (h : dz_lk b f dz_n = []) : dz_0 b f = fun _ => 0 := by
  funext i
  unfold dz_0
  rw [h]
  split
  · rfl
  · rfl
theorem sm_zz {g : Int → Int} (h : g = fun _ => 0) (k : Nat) : so_sm g k = 0 := by rw [h, sm_z]
/-- at the start -/
theorem iv_0 : iv 0 dz_0 (dz_0 114) := by
  have p : iv_p dz_0 = 25 := by decide
  have s : iv_s dz_0 = 36 := by decide
  have e25 : ∀ f, dz_0 25 f = fun _ => 0 := fun f => z0_z rfl
  have e36 : ∀ f, dz_0 36 f = fun _ => 0 := fun f => z0_z rfl
  have e46 : ∀ f, dz_0 46 f = fun _ => 0 := fun f => z0_z rfl
  have e2 : ∀ f, dz_0 2 f = fun _ => 0 := fun f => z0_z rfl
  have m0 : dz_0 114 0 = fun _ => 0 := z0_z (by decide)
  have m1 : ∀ f, f ≤ 10 → dz_0 114 f = fun _ => 0 := fun f hf => z0_z (by
    have : f = 0 ∨ f = 1 ∨ f = 2 ∨ f = 3 ∨ f = 4 ∨ f = 5 ∨ f = 6 ∨ f = 7 ∨ f = 8 ∨ f = 9 ∨ f = 10 := by omega
    rcases this with rfl | rfl | rfl | rfl | rfl | rfl | rfl | rfl | rfl | rfl | rfl <;> decide)
  unfold iv
  rw [p, s]
  refine ⟨by unfold iv_R; decide, ?_, ?_, ⟨?_, ?_, ?_, ?_⟩, ⟨⟨by decide, Or.inl (by decide)⟩, ⟨by decide, Or.inl (by decide)⟩⟩, ?_, ⟨Or.inl (by decide), Or.inl (by decide), Or.inl (by decide), Or.inl (by decide)⟩, by decide, rfl, rfl⟩
  · unfold so_P
    simp only [e25]
    refine ⟨by decide, fun r a b => absurd b (by omega), by decide, fun r a b => absurd b (by omega), by decide, fun r a b => absurd b (by omega), by decide, by decide, fun r a b => absurd b (by omega), by decide⟩
  · unfold mr_P
    rw [m1 1 (by decide), m1 2 (by decide), m1 3 (by decide), m1 4 (by decide), m1 5 (by decide), m1 6 (by decide)]
    simp only [e25]
    refine ⟨(by trivial), fun r a b => absurd b (by omega), (by trivial), fun r a b => absurd b (by omega), (by trivial), fun r a b => absurd b (by omega), (by trivial), (by trivial), fun r a b => absurd b (by omega), (by trivial)⟩
  · unfold so_S
    simp only [e25, e36]
    refine ⟨fun r a b => absurd b (by omega), fun g _ _ => Or.inl (by trivial), fun r a b => absurd b (by omega), fun r a b => absurd b (by omega), by decide, fun r a b => absurd b (by omega)⟩
  · unfold mr_S mr_W
    simp only [e25, e36, m0]
    refine ⟨⟨fun r a b => absurd b (by omega), fun g _ _ => (by trivial), fun r a b => absurd b (by omega)⟩, fun r a b => absurd b (by omega), fun r a b => absurd b (by omega), (by trivial), fun r a b => absurd b (by omega)⟩
  · unfold so_B
    simp only [e46]
    refine ⟨fun i _ _ => by decide, ?_⟩
    rw [sm_z]
    decide
  · unfold mr_F
    simp only [e25, e46, m0]
    refine ⟨fun i a b => ⟨(by trivial), (by trivial), (by trivial), (by trivial), (by trivial), ?_, fun _ => ⟨(by trivial), (by trivial)⟩⟩, (by trivial), (by trivial), (by trivial), (by trivial)⟩
    rw [if_neg (by omega)]
  · unfold iv_T
    simp only [e2]
    refine ⟨by decide, by decide, fun i a b => absurd b (by omega)⟩
end iv0
end mg_40iv
section mg_41oa
/-! calls that look, and those that set pegs, blocks, cups -/
section oa
variable {n : Nat} {Z Y : dz_Z} {m : ob_O} {a1 a2 : Int}
theorem oi_e (x N : Int) (h : 0 ≤ N ∧ N ≤ 100) (hx : dz_c x = x) : (decide (0 ≤ x ∧ x ≤ dz_c (N - 1)) : Bool) = decide (0 ≤ x ∧ x < N) := by
  rw [dz_ci (x := N - 1) (by omega) (by omega)]
  exact decide_eq_decide.mpr (by omega)
theorem oi_gO (h : iv n Z m) (c1 : dz_c a1 = a1) : jf_O_isGutter a1 Z = some (decide (0 ≤ a1 ∧ a1 < Z (iv_p Z) 3 0)) := by
  have hr := h.2.1.2.2.1
  unfold jf_O_isGutter
  rw [show (Z 0 2 0).toNat = iv_p Z from rfl, c1, dc_ir hr.1 (by omega)]
  by_cases a : a1 < 0
  · rw [if_pos a, decide_eq_false (by omega)]
  · rw [if_neg a, if_pos (iv_isP h.1)]
    by_cases b : Z (iv_p Z) 3 0 ≤ a1
    · rw [if_pos b, decide_eq_false (by omega)]
    · rw [if_neg b, decide_eq_true (by omega)]
theorem oi_sO (h : iv n Z m) (c1 : dz_c a1 = a1) : jf_O_isSpout a1 Z = some (decide (0 ≤ a1 ∧ a1 < Z (iv_p Z) 6 0)) := by
  have hr := h.2.1.2.2.2.2.1
  unfold jf_O_isSpout
  rw [show (Z 0 2 0).toNat = iv_p Z from rfl, c1, dc_ir hr.1 (by omega)]
  by_cases a : a1 < 0
  · rw [if_pos a, decide_eq_false (by omega)]
  · rw [if_neg a, if_pos (iv_isP h.1)]
    by_cases b : Z (iv_p Z) 6 0 ≤ a1
    · rw [if_pos b, decide_eq_false (by omega)]
    · rw [if_neg b, decide_eq_true (by omega)]
theorem oi_wO (h : iv n Z m) (c1 : dz_c a1 = a1) : jf_O_isShower a1 Z = some (decide (0 ≤ a1 ∧ a1 < Z (iv_p Z) 10 0)) := by
  have hr := h.2.1.2.2.2.2.2.2.1
  unfold jf_O_isShower
  rw [show (Z 0 2 0).toNat = iv_p Z from rfl, c1, dc_ir hr.1 (by omega)]
  by_cases a : a1 < 0
  · rw [if_pos a, decide_eq_false (by omega)]
  · rw [if_neg a, if_pos (iv_isP h.1)]
    by_cases b : Z (iv_p Z) 10 0 ≤ a1
    · rw [if_pos b, decide_eq_false (by omega)]
    · rw [if_neg b, decide_eq_true (by omega)]
theorem oi_gM {P : ob_O} (hP : so_P P) (rP : mr_P P m) (hY : Y 114 = m) (c1 : dz_c a1 = a1) : jf_M_isGutter a1 Y = some (decide (0 ≤ a1 ∧ a1 < P 3 0)) := by
  have hr := hP.2.2.1
  unfold jf_M_isGutter
  rw [hY, rP.2.2.1, c1, oi_e _ _ (by omega) c1]
theorem oi_sM {P : ob_O} (hP : so_P P) (rP : mr_P P m) (hY : Y 114 = m) (c1 : dz_c a1 = a1) : jf_M_isSpout a1 Y = some (decide (0 ≤ a1 ∧ a1 < P 6 0)) := by
  have hr := hP.2.2.2.2.1
  unfold jf_M_isSpout
  rw [hY, rP.2.2.2.2.1, c1, oi_e _ _ (by omega) c1]
theorem oi_wM {P : ob_O} (hP : so_P P) (rP : mr_P P m) (hY : Y 114 = m) (c1 : dz_c a1 = a1) : jf_M_isShower a1 Y = some (decide (0 ≤ a1 ∧ a1 < P 10 0)) := by
  have hr := hP.2.2.2.2.2.2.1
  unfold jf_M_isShower
  rw [hY, rP.2.2.2.2.2.2.1, c1, oi_e _ _ (by omega) c1]
theorem op_fault : dz_p (jf_O_fault Z) (fun _ => dz_p (jf_M_fault Z) (fun _ => True)) := ⟨_, rfl, _, rfl, trivial⟩
theorem op_torn (h : iv_Z n Z) : dz_p (jf_O_torn Z) (fun q => dz_p (jf_M_torn Z) (fun q' => dz_c q = dz_c q')) := ⟨_, rfl, _, rfl, by rw [show Z 0 10 0 = Z 114 45 0 from h.2.2.2.2.2.2.2.1]⟩
theorem op_rule (h : iv_Z n Z) (c1 : dz_c a1 = a1) : dz_p (jf_O_rule a1 Z) (fun q => dz_p (jf_M_rule a1 Z) (fun q' => dz_c q = dz_c q')) := by
  have rP := h.2.2.1
  have rS := h.2.2.2.1.2.1.2.2.2.1
  rw [Int.zero_add] at rS
  have hp := iv_isP h.1
  have hs := iv_isS h.1
  unfold jf_O_rule jf_M_rule
  simp only [show (Z 0 2 0).toNat = iv_p Z from rfl, show (Z 0 3 0).toNat = iv_s Z from rfl, c1]
  refine dp_br (fun a => dp_ck hp (dp_sm (dp_ck a (dp_sm ?_)))) (fun a => ?_)
  · rw [rP.1]
  refine dp_br (fun b => dp_ck hp (dp_sm (dp_no a (dp_ck b (dp_sm ?_))))) (fun b => ?_)
  · rw [rP.2.2.1]
  refine dp_br (fun c => dp_ck hp (dp_sm (dp_no a (dp_no b (dp_ck c (dp_sm ?_)))))) (fun c => ?_)
  · rw [rP.2.2.2.2.1]
  refine dp_br (fun d => dp_ck hp (dp_sm (dp_no a (dp_no b (dp_no c (dp_ck d (dp_sm ?_))))))) (fun d => ?_)
  · rw [rP.2.2.2.2.2.2.1]
  refine dp_br (fun e => dp_ck hs (dp_sm (dp_no a (dp_no b (dp_no c (dp_no d (dp_ck e (dp_sm ?_)))))))) (fun e => ?_)
  · rw [rS]
  refine dp_br (fun f => dp_ck hp (dp_sm (dp_no a (dp_no b (dp_no c (dp_no d (dp_no e (dp_ck f (dp_sm ?_))))))))) (fun f => ?_)
  · rw [rP.2.2.2.2.2.2.2.1]
  refine dp_br (fun g => dp_ck hp (dp_sm (dp_no a (dp_no b (dp_no c (dp_no d (dp_no e (dp_no f (dp_ck g (dp_sm ?_)))))))))) (fun g => ?_)
  · rw [rP.2.2.2.2.2.2.2.2.2]
  exact dp_sm (dp_no a (dp_no b (dp_no c (dp_no d (dp_no e (dp_no f (dp_no g (dp_sm rfl))))))))
theorem op_gutter (h : iv_Z n Z) (c1 : dz_c a1 = a1) (c2 : dz_c a2 = a2) : dz_p (jf_O_gutter a1 a2 Z) (fun q => dz_p (jf_M_gutter a1 a2 Z) (fun q' => dz_c q = dz_c q')) := by
  have hp := iv_isP h.1
  have hs := iv_isS h.1
  have h3 := h.2.1.2.2.1
  have rP := h.2.2.1
  have rW := h.2.2.2.1.2.1.1
  unfold jf_O_gutter jf_M_gutter
  refine dp_bi (dp_eq (oi_gO h c1) ?_)
  simp only [oi_gM h.2.1 rP rfl c1, Option.bind_some, show (Z 0 2 0).toNat = iv_p Z from rfl, show (Z 0 3 0).toNat = iv_s Z from rfl, c1, c2, decide_eq_true_eq]
  refine dp_br (fun hg => ?_) (fun hg => dp_sm (dp_no hg (dp_sm rfl)))
  have e5 : dz_c (5 + a1) = 5 + a1 := dc_ir (by omega) (by omega)
  have e0 : dz_c (0 + a1) = a1 := by rw [Int.zero_add]; exact c1
  have hgg := rP.2.2.2.1 a1 hg.1 hg.2
  have hw0 := rW.1 a1 hg.1 hg.2
  have hw1 := rW.2.1 a1 hg.1 (by omega)
  rw [Int.zero_add] at hw0 hw1
  rw [e5, e0]
  refine dp_br (fun a => dp_ck hp (dp_ck (by omega) (dp_sm (dp_ck hg (dp_no (by omega) ?_))))) (fun a => ?_)
  · rw [a, show 2 * a1 + 0 = 2 * a1 by omega, dc_ir (x := 2 * a1) (by omega) (by omega)]
    exact dp_ck (by omega) (dp_sm (by rw [hgg.1]))
  refine dp_br (fun b => dp_ck hp (dp_ck (by omega) (dp_sm (dp_ck hg (dp_no (by omega) ?_))))) (fun b => ?_)
  · rw [b, dc_ir (x := 2 * a1 + 1) (by omega) (by omega)]
    exact dp_ck (by omega) (dp_sm (by rw [hgg.2]))
  refine dp_br (fun c => dp_ck hs (dp_ck (by omega) (dp_sm (dp_ck hg (dp_ck (by omega) (dp_no (by omega) (dp_ck (by omega) (dp_sm (by rw [hw0])))))))))  (fun c => ?_)
  refine dp_br (fun d => dp_ck hs (dp_ck (by omega) (dp_sm (dp_ck hg (dp_ck (by omega) (dp_ck c (dp_no (by omega) (dp_ck (by omega) (dp_sm (by rw [hw1]))))))))))  (fun d => ?_)
  exact dp_sm (dp_ck hg (dp_ck (by omega) (dp_ck c (dp_ck d (dp_sm rfl)))))
theorem op_spout (h : iv_Z n Z) (hn : n ≤ 512) (c1 : dz_c a1 = a1) (c2 : dz_c a2 = a2) : dz_p (jf_O_spout a1 a2 Z) (fun q => dz_p (jf_M_spout a1 a2 Z) (fun q' => dz_c q = dz_c q')) := by
  have hp := iv_isP h.1
  have hs := iv_isS h.1
  have h6 := h.2.1.2.2.2.2.1
  have hwr := h.2.1.2.2.2.2.2.2.2.2.2
  have rP := h.2.2.1
  obtain ⟨hS, rS, hB, rF⟩ := h.2.2.2.1
  unfold jf_O_spout jf_M_spout
  refine dp_bi (dp_eq (oi_sO h c1) ?_)
  simp only [oi_sM h.2.1 rP rfl c1, Option.bind_some, show (Z 0 2 0).toNat = iv_p Z from rfl, show (Z 0 3 0).toNat = iv_s Z from rfl, c1, c2, decide_eq_true_eq]
  refine dp_br (fun hg => ?_) (fun hg => dp_sm (dp_no hg (dp_sm rfl)))
  have hk := hS.2.2.1 a1 hg.1 hg.2
  have rk := rS.1.2.2 a1 hg.1 hg.2
  have rn := rS.2.1 a1 hg.1 hg.2
  have rf := rF.1 a1 hg.1 (by omega)
  have hb := hB.1 a1 hg.1 (by omega)
  simp only [Int.zero_add] at rk rn rf
  have e10 : dz_c (10 + a1) = 10 + a1 := dc_ir (by omega) (by omega)
  have e18 : dz_c (18 + a1) = 18 + a1 := dc_ir (by omega) (by omega)
  have e26 : dz_c (26 + a1) = 26 + a1 := dc_ir (by omega) (by omega)
  have e86 : dz_c (86 + a1) = 86 + a1 := dc_ir (by omega) (by omega)
  have e102 : dz_c (102 + a1) = 102 + a1 := dc_ir (by omega) (by omega)
  have e118 : dz_c (118 + a1) = 118 + a1 := dc_ir (by omega) (by omega)
  have e110 : dz_c (110 + a1) = 110 + a1 := dc_ir (by omega) (by omega)
  have ek : dz_c (Z (iv_s Z) 2 a1) = Z (iv_s Z) 2 a1 := dc_ir hk.1.1 (by omega)
  rw [e10, e18, e26, e86, e102, e118, e110]
  refine dp_ck hs (dp_ck (by omega) ?_)
  refine dp_br (fun a => dp_ck hp (dp_sm (dp_ck hg (dp_ck a (dp_ck (by omega) (dp_sm ?_)))))) (fun a => ?_)
  · rw [rP.2.2.2.2.2.1 a1 hg.1 hg.2]
  refine dp_br (fun b => dp_sm (dp_ck hg (dp_no a (dp_ck b (dp_ck (by omega) (dp_sm ?_)))))) (fun b => ?_)
  · rw [rk.1]
  refine dp_br (fun c => ?_) (fun c => ?_)
  · have hz : jf_O_hasSize (Z (iv_s Z) 2 a1) = some (decide (Z (iv_s Z) 2 a1 ≠ 0 ∧ Z (iv_s Z) 2 a1 ≠ 5)) := by
      unfold jf_O_hasSize
      rw [ek]
      by_cases x0 : Z (iv_s Z) 2 a1 = 0
      · rw [if_pos x0, decide_eq_false (by omega)]
      · rw [if_neg x0]
        by_cases x5 : Z (iv_s Z) 2 a1 = 5
        · rw [if_pos x5, decide_eq_false (by omega)]
        · rw [if_neg x5, decide_eq_true (by omega)]
    refine dp_bi (dp_eq hz ?_)
    simp only [decide_eq_false_iff_not]
    refine dp_br (fun x => dp_sm (dp_ck hg (dp_no a (dp_no b (dp_ck c (dp_ck (by omega) (dp_sm ?_))))))) (fun x => dp_ck hp (dp_sm (dp_ck hg (dp_no a (dp_no b (dp_ck c (dp_ck (by omega) (dp_sm ?_))))))))
    · rw [rn.1 (by omega)]
    · rw [rk.2.1 (by omega)]
  refine dp_br (fun d => ?_) (fun d => ?_)
  · rw [ek]
    refine dp_br (fun x => dp_sm (dp_ck hg (dp_no a (dp_no b (dp_no c (dp_ck d (dp_ck (by omega) (dp_sm ?_)))))))) (fun x => dp_ck hp (dp_sm (dp_ck hg (dp_no a (dp_no b (dp_no c (dp_ck d (dp_ck (by omega) (dp_sm ?_)))))))))
    · rw [rn.2 x]
    · rw [rk.2.2 (by omega)]
  refine dp_br (fun e => dp_sm (dp_ck hg (dp_no a (dp_no b (dp_no c (dp_no d (dp_ck e (dp_ck (by omega) (dp_sm ?_))))))))) (fun e => ?_)
  · rw [rf.1]
  refine dp_br (fun f => dp_sm (dp_ck hg (dp_no a (dp_no b (dp_no c (dp_no d (dp_no e (dp_ck f (dp_ck (by omega) (dp_sm ?_)))))))))) (fun f => ?_)
  · rw [rf.2.2.1]
    have hl := dz_li' (x := Z 46 2 a1) (by omega) (by omega)
    unfold dz_li dz_c
    rw [Int32.ofInt_toInt]
    congr 1
    apply Int32.toInt_inj.mp
    rw [Int64.toInt_toInt32, Int32.toInt_ofInt]
    show (dz_l (Z 46 2 a1)).bmod _ = _
    rw [hl]
  refine dp_br (fun g => dp_ck hp ?_) (fun g => ?_)
  · have hbk : jf_F_isBroken 46 (iv_p Z) a1 Z = some (so_brk (Z (iv_p Z)) (Z 46) a1) := by
      have := cf_brk (F := 46) (p := iv_p Z) (Z := Z) (o := Z 46) (s := a1) (ne_FP (Or.inl rfl) hp) (by omega) hwr
      rw [oz_i] at this
      exact this
    refine dp_bi (dp_eq hbk ?_)
    have hf := rf.2.2.2.2.2.1
    unfold so_brk
    rw [dz_li' (by omega) (by omega)]
    simp only [decide_eq_false_iff_not]
    refine dp_br (fun x => dp_sm (dp_ck hg (dp_no a (dp_no b (dp_no c (dp_no d (dp_no e (dp_no f (dp_ck g (dp_ck (by omega) (dp_sm ?_))))))))))) (fun x => dp_sm (dp_ck hg (dp_no a (dp_no b (dp_no c (dp_no d (dp_no e (dp_no f (dp_ck g (dp_ck (by omega) (dp_sm ?_)))))))))))
    · rw [hf, if_neg (fun q => x q.2)]
    · rw [hf, if_pos ⟨hg.2, by omega⟩]
  refine dp_br (fun i => dp_sm (dp_ck hg (dp_no a (dp_no b (dp_no c (dp_no d (dp_no e (dp_no f (dp_no g (dp_ck i (dp_ck (by omega) (dp_sm ?_)))))))))))) (fun i => ?_)
  · rw [rf.2.2.2.1]
  exact dp_sm (dp_ck hg (dp_no a (dp_no b (dp_no c (dp_no d (dp_no e (dp_no f (dp_no g (dp_no i (dp_sm rfl))))))))))
theorem op_loud (h : iv_Z n Z) (c1 : dz_c a1 = a1) : dz_p (jf_O_loud a1 Z) (fun q => dz_p (jf_M_loud a1 Z) (fun q' => dz_c q = dz_c q')) := by
  have h6 := h.2.1.2.2.2.2.1
  have rP := h.2.2.1
  have rF := h.2.2.2.1.2.2.2
  unfold jf_O_loud jf_M_loud
  refine dp_bi (dp_eq (oi_sO h c1) ?_)
  simp only [oi_sM h.2.1 rP rfl c1, Option.bind_some, c1, decide_eq_false_iff_not]
  refine dp_br (fun hg => dp_sm (dp_ck hg (dp_sm rfl))) (fun hg => ?_)
  have hg' : 0 ≤ a1 ∧ a1 < Z (iv_p Z) 6 0 := by omega
  have rf := rF.1 a1 hg'.1 (by omega)
  simp only [Int.zero_add] at rf
  rw [dc_ir (x := 126 + a1) (by omega) (by omega)]
  exact dp_ck (by omega) (dp_sm (dp_no hg (dp_ck (by omega) (dp_sm (by rw [rf.2.2.2.2.1])))))
theorem op_shower (h : iv_Z n Z) (c1 : dz_c a1 = a1) (c2 : dz_c a2 = a2) : dz_p (jf_O_shower a1 a2 Z) (fun q => dz_p (jf_M_shower a1 a2 Z) (fun q' => dz_c q = dz_c q')) := by
  have hs := iv_isS h.1
  have h10 := h.2.1.2.2.2.2.2.2.1
  have rP := h.2.2.1
  obtain ⟨hS, rS, -⟩ := h.2.2.2.1
  unfold jf_O_shower jf_M_shower
  refine dp_bi (dp_eq (oi_wO h c1) ?_)
  simp only [oi_wM h.2.1 rP rfl c1, Option.bind_some, show (Z 0 3 0).toNat = iv_s Z from rfl, c1, c2, decide_eq_false_iff_not, decide_eq_true_eq]
  refine dp_br (fun hg => dp_sm (dp_no hg (dp_sm rfl))) (fun hg => ?_)
  have hg' : 0 ≤ a1 ∧ a1 < Z (iv_p Z) 10 0 := by omega
  have hl := hS.2.2.2.1 a1 hg'.1 hg'.2
  have rl := rS.2.2.1 a1 hg'.1 hg'.2
  simp only [Int.zero_add] at rl
  have e34 : dz_c (34 + 13 * a1) = 34 + 13 * a1 := dc_ir (by omega) (by omega)
  have elen : jf_M_lengthOf a1 Z = some (Z (iv_s Z) 3 a1) := by
    unfold jf_M_lengthOf
    rw [e34, if_pos (by omega), rl.1]
  have e1 : dz_c (Z (iv_s Z) 3 a1) = Z (iv_s Z) 3 a1 := dc_ir (by omega) (by omega)
  have e2 : dz_c (Z (iv_s Z) 3 a1 - 1) = Z (iv_s Z) 3 a1 - 1 := dz_ci (by omega) (by omega)
  simp only [elen, Option.bind_some, e1, e2]
  refine dp_br (fun a => dp_sm (dp_ck hg' (dp_ck (by omega) (dp_ck (by omega) (dp_sm rfl))))) (fun a => dp_ck hs (dp_ck (by omega) ?_))
  refine dp_br (fun b => ?_) (fun b => dp_sm (dp_ck hg' (dp_ck (by omega) (dp_ck (by omega) (dp_sm rfl)))))
  refine dp_br (fun c => ?_) (fun c => dp_sm (dp_ck hg' (dp_no c (dp_sm rfl))))
  refine dp_ck (by omega) (dp_sm (dp_ck hg' (dp_ck c (dp_no (by omega) ?_))))
  rw [dc_ir (x := 34 + 13 * a1 + 1 + a2) (by omega) (by omega)]
  exact dp_ck (by omega) (dp_sm (by rw [rl.2 a2 (by omega) b]))
theorem op_tune (h : iv_Z n Z) (c1 : dz_c a1 = a1) : dz_p (jf_O_tune a1 Z) (fun q => dz_p (jf_M_tune a1 Z) (fun q' => dz_c q = dz_c q')) := by
  have hs := iv_isS h.1
  obtain ⟨hS, rS, -⟩ := h.2.2.2.1
  have h6 := hS.2.2.2.2.1
  have r73 := rS.2.2.2.1
  rw [Int.zero_add] at r73
  unfold jf_O_tune jf_M_tune
  have e1 : dz_c (Z (iv_s Z) 6 0) = Z (iv_s Z) 6 0 := dc_ir h6.1 (by omega)
  have e2 : dz_c (Z (iv_s Z) 6 0 - 1) = Z (iv_s Z) 6 0 - 1 := dz_ci (by omega) (by omega)
  simp only [show (Z 0 3 0).toNat = iv_s Z from rfl, c1, r73, e1, e2]
  refine dp_br (fun a => dp_sm (dp_ck (by omega) (dp_sm rfl))) (fun a => dp_ck hs ?_)
  refine dp_br (fun b => dp_sm (dp_ck (by omega) (dp_sm rfl))) (fun b => ?_)
  refine dp_ck (by omega) (dp_sm (dp_no (by omega) ?_))
  rw [dc_ir (x := 74 + a1) (by omega) (by omega)]
  have := rS.2.2.2.2 a1 (by omega) (by omega)
  rw [Int.zero_add] at this
  exact dp_ck (by omega) (dp_sm (by rw [this]))
end oa
end mg_41oa
section mg_42ob
/-! calls that set something on the current page -/
section ob
variable {n : Nat} {Z Y W : dz_Z} {P S F m m' : ob_O} {a1 a2 a3 a4 v g : Int}
theorem iv_fin (h : iv_Z n Z) (hW : ∀ b : Nat, b ≠ 46 → b ≠ 54 → b ≠ 55 → b ≠ 65 → b ≠ 114 → b ≠ iv_s Z → W b = Z b) (hI : iv_I (n + 1) 0 (Z (iv_p Z)) (W (iv_s Z)) (W 46) (W 114)) (hf : ∀ f : Nat, f ≠ 0 → (f < 32 ∨ 40 < f) → W 114 f = Z 114 f) (hj : ∀ j : Int, 140 ≤ j → j < 420 → W 114 0 j = Z 114 0 j) : iv_Z (n + 1) W := iv_pg h (by omega) hW hI hf hj
theorem iv_nx (h : iv_Z n Z) : iv_Z (n + 1) Z := iv_n h (by omega)
/-- the memory behind a call of the class that changes the setup, and one of the reference -/
theorem W_s {s : Nat} (hs : s = 36 ∨ s = 15) : ob_z (ob_z Z s S) 114 m s = S ∧ ob_z (ob_z Z s S) 114 m 46 = Z 46 ∧ ob_z (ob_z Z s S) 114 m 114 = m ∧ (∀ b : Nat, b ≠ 46 → b ≠ 54 → b ≠ 55 → b ≠ 65 → b ≠ 114 → b ≠ s → ob_z (ob_z Z s S) 114 m b = Z b) := by
  refine ⟨?_, ?_, oz_s, fun b _ _ _ _ h1 h2 => ?_⟩
  · rw [oz_n (by omega), oz_s]
  · rw [oz_n (by omega), oz_n (by omega)]
  · rw [oz_n h1, oz_n h2]
theorem so_S_peg (h : so_S P S) (hv : 0 ≤ v ∧ v ≤ 2) : so_S P (ob_u S 0 g v) := by
  refine ⟨fun i a b => ?_, ?_, ?_, ?_, ?_, ?_⟩
  · rw [ou_a]
    split
    · exact hv
    · exact h.1 i a b
  · rw [ou_ff (by decide)]; exact h.2.1
  · rw [ou_ff (by decide)]; exact h.2.2.1
  · intro w a b
    rw [ou_ff (by decide), ou_ff (by omega)]; exact h.2.2.2.1 w a b
  · rw [ou_f (by decide)]; exact h.2.2.2.2.1
  · intro i a b
    rw [ou_f (by decide)] at b
    rw [ou_f (by decide)]
    exact h.2.2.2.2.2 i a b
theorem mr_S_peg (hP : so_P P) (hS : so_S P S) (h : mr_S 0 P S m) (hg : 0 ≤ g ∧ g < P 3 0) : mr_S 0 P (ob_u S 0 g v) (ob_u m 0 g v) := by
  have h3 := hP.2.2.1
  have h6 := hP.2.2.2.2.1
  have h10 := hP.2.2.2.2.2.2.1
  have hs6 := hS.2.2.2.2.1
  refine ⟨⟨fun i a b => ?_, fun i a b => ?_, fun i a b => ?_⟩, fun i a b => ?_, fun w a b => ?_, ?_, fun i a b => ?_⟩
  · rw [ou_a, ou_a, h.1.1 i a b]
    by_cases c : i = g
    · rw [if_pos (by omega), if_pos c]
    · rw [if_neg (by omega), if_neg c]
  · rw [ou_i (by omega), ou_f (by decide)]; exact h.1.2.1 i a b
  · rw [ou_i (by omega), ou_i (by omega), ou_i (by omega), ou_f (by decide)]; exact h.1.2.2 i a b
  · rw [ou_i (by omega), ou_i (by omega), ou_f (by decide)]; exact h.2.1 i a b
  · have hl := (hS.2.2.2.1 w a b).1
    rw [ou_i (by omega), ou_f (by decide)]
    refine ⟨(h.2.2.1 w a b).1, fun i c d => ?_⟩
    rw [ou_i (by omega), ou_f (by omega)]; exact (h.2.2.1 w a b).2 i c d
  · rw [ou_i (by omega), ou_f (by decide)]; exact h.2.2.2.1
  · rw [ou_f (by decide)] at b
    rw [ou_i (by omega), ou_f (by decide)]; exact h.2.2.2.2 i a b
theorem so_S_blk (h : so_S P S) (hv : v = 0 ∨ v = 1) : so_S P (ob_u S 1 g v) := by
  refine ⟨?_, fun i a b => ?_, ?_, ?_, ?_, ?_⟩
  · rw [ou_ff (by decide)]; exact h.1
  · rw [ou_a]
    split
    · exact hv
    · exact h.2.1 i a b
  · rw [ou_ff (by decide)]; exact h.2.2.1
  · intro w a b
    rw [ou_ff (by decide), ou_ff (by omega)]; exact h.2.2.2.1 w a b
  · rw [ou_f (by decide)]; exact h.2.2.2.2.1
  · intro i a b
    rw [ou_f (by decide)] at b
    rw [ou_f (by decide)]
    exact h.2.2.2.2.2 i a b
theorem mr_S_blk (hP : so_P P) (hS : so_S P S) (h : mr_S 0 P S m) (hg : 0 ≤ g ∧ g < 5) : mr_S 0 P (ob_u S 1 g v) (ob_u m 0 (5 + g) v) := by
  have h3 := hP.2.2.1
  have h6 := hP.2.2.2.2.1
  have h10 := hP.2.2.2.2.2.2.1
  have hs6 := hS.2.2.2.2.1
  refine ⟨⟨fun i a b => ?_, fun i a b => ?_, fun i a b => ?_⟩, fun i a b => ?_, fun w a b => ?_, ?_, fun i a b => ?_⟩
  · rw [ou_i (by omega), ou_f (by decide)]; exact h.1.1 i a b
  · rw [ou_a, ou_a, h.1.2.1 i a b]
    by_cases c : i = g
    · rw [if_pos (by omega), if_pos c]
    · rw [if_neg (by omega), if_neg c]
  · rw [ou_i (by omega), ou_i (by omega), ou_i (by omega), ou_f (by decide)]; exact h.1.2.2 i a b
  · rw [ou_i (by omega), ou_i (by omega), ou_f (by decide)]; exact h.2.1 i a b
  · have hl := (hS.2.2.2.1 w a b).1
    rw [ou_i (by omega), ou_f (by decide)]
    refine ⟨(h.2.2.1 w a b).1, fun i c d => ?_⟩
    rw [ou_i (by omega), ou_f (by omega)]; exact (h.2.2.1 w a b).2 i c d
  · rw [ou_i (by omega), ou_f (by decide)]; exact h.2.2.2.1
  · rw [ou_f (by decide)] at b
    rw [ou_i (by omega), ou_f (by decide)]; exact h.2.2.2.2 i a b
theorem op_peg (h : iv_Z n Z) (c1 : dz_c a1 = a1) (c2 : dz_c a2 = a2) : dz_p (jf_O_peg a1 a2 Z) (fun q => dz_p (jf_M_peg a1 a2 q.2) (fun q' => iv_Z (n + 1) q'.2 ∧ dz_c q.1 = dz_c q'.1)) := by
  have hs := iv_isS h.1
  have hs2 := iv_s2 h.1
  have h3 := h.2.1.2.2.1
  have rP := h.2.2.1
  obtain ⟨hS, rS, hB, rF⟩ := h.2.2.2.1
  unfold jf_O_peg jf_M_peg
  refine dp_bi (dp_eq (oi_gO h c1) ?_)
  simp only [show (Z 0 3 0).toNat = iv_s Z from rfl, c1, c2, decide_eq_false_iff_not, Int.zero_add]
  refine dp_br (fun hg => dp_sm ?_) (fun hg => ?_)
  · refine dp_bi (dp_eq (oi_gM h.2.1 rP rfl c1) ?_)
    simp only [decide_eq_false_iff_not]
    exact dp_ck hg (dp_sm ⟨iv_nx h, rfl⟩)
  have hg' : 0 ≤ a1 ∧ a1 < Z (iv_p Z) 3 0 := by omega
  have bad : ¬(0 ≤ a2 ∧ a2 ≤ 2) → dz_p (jf_M_peg a1 a2 Z) (fun q' => iv_Z (n + 1) q'.2 ∧ dz_c (-1) = dz_c q'.1) := by
    intro hv
    unfold jf_M_peg
    refine dp_bi (dp_eq (oi_gM h.2.1 rP rfl c1) ?_)
    simp only [decide_eq_false_iff_not, c2]
    exact dp_no hg (dp_no hv (dp_sm ⟨iv_nx h, rfl⟩))
  unfold jf_M_peg at bad
  simp only [c1, c2, Int.zero_add] at bad
  refine dp_br (fun a => dp_sm (bad (by omega))) (fun a => dp_br (fun b => ?_) (fun b => dp_sm (bad (by omega))))
  refine dp_ck hs (dp_ck (by omega) (dp_le (dp_sm ?_)))
  rw [oz_u]
  have y114 : ob_z Z (iv_s Z) (ob_u (Z (iv_s Z)) 0 a1 a2) 114 = Z 114 := oz_n (by omega)
  refine dp_bi (dp_eq (oi_gM h.2.1 rP y114 c1) ?_)
  simp only [decide_eq_false_iff_not]
  refine dp_no hg (dp_ck (by omega) (dp_ck (by omega) (dp_le (dp_sm ?_))))
  simp only [oz_u, y114]
  obtain ⟨w1, w2, w3, w4⟩ := W_s (Z := Z) (S := ob_u (Z (iv_s Z)) 0 a1 a2) (m := ob_u (Z 114) 0 a1 a2) hs2
  refine ⟨iv_fin h w4 ?_ ?_ ?_, ?_⟩
  · rw [w1, w2, w3]
    exact ⟨so_S_peg hS (by omega), mr_S_peg h.2.1 hS rS hg', sB_m hB (by omega) (by omega), mrF_m rF (fun j _ _ => ou_i (by omega))⟩
  · intro f a _; rw [w3, ou_ff a]
  · intro j a b; rw [w3, ou_i (by omega)]
  · have := rS.1.1 a1 hg'.1 hg'.2
    rw [Int.zero_add] at this
    rw [this]
theorem op_block (h : iv_Z n Z) (c1 : dz_c a1 = a1) : dz_p (jf_O_block a1 a2 Z) (fun q => dz_p (jf_M_block a1 a2 q.2) (fun q' => iv_Z (n + 1) q'.2 ∧ dz_c q.1 = dz_c q'.1)) := by
  have hs := iv_isS h.1
  have hs2 := iv_s2 h.1
  have h3 := h.2.1.2.2.1
  have rP := h.2.2.1
  obtain ⟨hS, rS, hB, rF⟩ := h.2.2.2.1
  unfold jf_O_block jf_M_block
  refine dp_bi (dp_eq (oi_gO h c1) ?_)
  simp only [show (Z 0 3 0).toNat = iv_s Z from rfl, c1, decide_eq_true_eq]
  refine dp_br (fun hg => ?_) (fun hg => dp_sm ?_)
  · have e5 : dz_c (5 + a1) = 5 + a1 := dc_ir (by omega) (by omega)
    have fin : ∀ x : Int, (x = 0 ∨ x = 1) → iv_Z (n + 1) (ob_z (ob_z Z (iv_s Z) (ob_u (Z (iv_s Z)) 1 a1 x)) 114 (ob_u (Z 114) 0 (5 + a1) x)) := by
      intro x hx
      obtain ⟨w1, w2, w3, w4⟩ := W_s (Z := Z) (S := ob_u (Z (iv_s Z)) 1 a1 x) (m := ob_u (Z 114) 0 (5 + a1) x) hs2
      refine iv_fin h w4 ?_ ?_ ?_
      · rw [w1, w2, w3]
        exact ⟨so_S_blk hS hx, mr_S_blk h.2.1 hS rS (by omega), sB_m hB (by omega) (by omega), mrF_m rF (fun j _ _ => ou_i (by omega))⟩
      · intro f a _; rw [w3, ou_ff a]
      · intro j a b; rw [w3, ou_i (by omega)]
    have hw := rS.1.2.1 a1 hg.1 (by omega)
    rw [Int.zero_add] at hw
    rw [e5]
    refine dp_ck hs (dp_ck (by omega) (dp_br (fun a => dp_le (dp_sm ?_)) (fun a => dp_le (dp_sm ?_))))
    · have y114 : ob_z Z (iv_s Z) (ob_u (Z (iv_s Z)) 1 a1 0) 114 = Z 114 := oz_n (by omega)
      rw [oz_u]
      refine dp_bi (dp_eq (oi_gM h.2.1 rP y114 c1) ?_)
      simp only [decide_eq_true_eq]
      refine dp_ck hg (dp_ck (by omega) (dp_ck a (dp_le (dp_sm ?_))))
      simp only [oz_u, y114]
      exact ⟨fin 0 (Or.inl rfl), by rw [hw]⟩
    · have y114 : ob_z Z (iv_s Z) (ob_u (Z (iv_s Z)) 1 a1 1) 114 = Z 114 := oz_n (by omega)
      rw [oz_u]
      refine dp_bi (dp_eq (oi_gM h.2.1 rP y114 c1) ?_)
      simp only [decide_eq_true_eq]
      refine dp_ck hg (dp_ck (by omega) (dp_no a (dp_le (dp_sm ?_))))
      simp only [oz_u, y114]
      exact ⟨fin 1 (Or.inr rfl), by rw [hw]⟩
  · refine dp_bi (dp_eq (oi_gM h.2.1 rP rfl c1) ?_)
    simp only [decide_eq_true_eq]
    exact dp_no hg (dp_sm ⟨iv_nx h, rfl⟩)
theorem op_rain (h : iv_Z n Z) (hn : n < 512) (c1 : dz_c a1 = a1) : dz_p (jf_O_rain a1 Z) (fun q => dz_p (jf_M_rain a1 q.2) (fun q' => iv_Z (n + 1) q'.2 ∧ dz_c q.1 = dz_c q'.1)) := by
  have hp := iv_isP h.1
  have hs := iv_isS h.1
  have hs2 := iv_s2 h.1
  have rP := h.2.2.1
  obtain ⟨hS, rS, hB, rF⟩ := h.2.2.2.1
  have hr : jf_O_isRain a1 = some (decide (0 ≤ a1 ∧ a1 ≤ 9)) := by
    unfold jf_O_isRain
    rw [c1]
    by_cases a : a1 < 0
    · rw [if_pos a, decide_eq_false (by omega)]
    · rw [if_neg a]
      by_cases b : 9 < a1
      · rw [if_pos b, decide_eq_false (by omega)]
      · rw [if_neg b, decide_eq_true (by omega)]
  unfold jf_O_rain jf_M_rain
  refine dp_bi (dp_eq hr ?_)
  simp only [show (Z 0 3 0).toNat = iv_s Z from rfl, show (Z 0 2 0).toNat = iv_p Z from rfl, c1, decide_eq_true_eq]
  refine dp_br (fun hv => ?_) (fun hv => dp_sm (dp_ck hv (dp_sm ⟨iv_nx h, rfl⟩)))
  refine dp_ck hp (dp_ck hs (dp_bi (dp_eq (cf_sec (Or.inl rfl) hp hs h.2.1 hS) (dp_sm ?_))))
  refine dp_no (by omega) ?_
  have hsec := sc_sec (v := a1) h.2.1 hS hv hB (by omega)
  generalize hx : so_sec (Z (iv_p Z)) (Z (iv_s Z)) a1 (Z 46) = x at hsec
  have y114 : ob_z Z 46 x.2 114 = Z 114 := oz_n (by decide)
  have ey : ob_z Z 46 x.2 = ob_z (ob_z Z 46 x.2) 114 (Z 114) := by rw [← y114]; exact oz_i.symm
  rw [ey]
  refine dp_bi (mf_sec (e := 0) (Or.inl rfl) h.2.1 hS hv hB (by omega) (by omega) rP rS.1 rF (fun m' hF hf hj => dp_sm ?_))
  rw [hx] at hF ⊢
  dsimp only
  refine ⟨iv_fin h (fun b h46 _ _ _ h114 _ => by rw [oz_n h114, oz_n h46]) ?_ ?_ ?_, rfl⟩
  · rw [oz_s, oz_n (show iv_s Z ≠ 114 by omega), oz_n (show iv_s Z ≠ 46 by omega), oz_n (show (46 : Nat) ≠ 114 by decide), oz_s]
    exact ⟨hS, mrS_m rS h.2.1 hS (fun j _ _ => hj j (by omega)), sB_m hsec.1 (by omega) (by omega), hF⟩
  · intro f a b; rw [oz_s, hf f a (by omega) (by omega) (by omega)]
  · intro j a b; rw [oz_s, hj j (by omega)]
theorem so_S_cup {s k : Int} (h : so_S P S) (hk : k = 0 ∨ k = 5) : so_S P (ob_u S 2 s k) := by
  refine ⟨?_, ?_, fun i a b => ?_, ?_, ?_, ?_⟩
  · rw [ou_ff (by decide)]; exact h.1
  · rw [ou_ff (by decide)]; exact h.2.1
  · rw [ou_a]
    split
    · exact ⟨by omega, fun q => by omega, fun q => by omega⟩
    · exact h.2.2.1 i a b
  · intro w a b
    rw [ou_ff (by decide), ou_ff (by omega)]; exact h.2.2.2.1 w a b
  · rw [ou_f (by decide)]; exact h.2.2.2.2.1
  · intro i a b
    rw [ou_f (by decide)] at b
    rw [ou_f (by decide)]
    exact h.2.2.2.2.2 i a b
theorem op_cup (h : iv_Z n Z) (c1 : dz_c a1 = a1) (c2 : dz_c a2 = a2) : dz_p (jf_O_cup a1 a2 Z) (fun q => dz_p (jf_M_cup a1 a2 q.2) (fun q' => iv_Z (n + 1) q'.2 ∧ dz_c q.1 = dz_c q'.1)) := by
  have hs := iv_isS h.1
  have hs2 := iv_s2 h.1
  have hP := h.2.1
  have h3 := h.2.1.2.2.1
  have h6 := h.2.1.2.2.2.2.1
  have h10 := h.2.1.2.2.2.2.2.2.1
  have rP := h.2.2.1
  obtain ⟨hS, rS, hB, rF⟩ := h.2.2.2.1
  have hs6 := hS.2.2.2.2.1
  unfold jf_O_cup jf_M_cup
  refine dp_bi (dp_eq (oi_sO h c1) ?_)
  simp only [show (Z 0 3 0).toNat = iv_s Z from rfl, c1, c2, decide_eq_false_iff_not]
  refine dp_br (fun hg => dp_sm ?_) (fun hg => ?_)
  · refine dp_bi (dp_eq (oi_sM h.2.1 rP rfl c1) ?_)
    simp only [decide_eq_false_iff_not]
    exact dp_ck hg (dp_sm ⟨iv_nx h, rfl⟩)
  have hg' : 0 ≤ a1 ∧ a1 < Z (iv_p Z) 6 0 := by omega
  have e10 : dz_c (10 + a1) = 10 + a1 := dc_ir (by omega) (by omega)
  have e18 : dz_c (18 + a1) = 18 + a1 := dc_ir (by omega) (by omega)
  have e26 : dz_c (26 + a1) = 26 + a1 := dc_ir (by omega) (by omega)
  have e86 : dz_c (86 + a1) = 86 + a1 := dc_ir (by omega) (by omega)
  have e94 : dz_c (94 + a1) = 94 + a1 := dc_ir (by omega) (by omega)
  have rf := rF.1 a1 hg'.1 (by omega)
  have rk := rS.1.2.2 a1 hg'.1 hg'.2
  simp only [Int.zero_add] at rf rk
  have r7 := rF.2.2.2.1
  rw [Int.zero_add] at r7
  have hemp : jf_F_emptyCup 46 a1 (ob_z Z (iv_s Z) (ob_u (Z (iv_s Z)) 2 a1 a2)) = some (ob_z (ob_z Z (iv_s Z) (ob_u (Z (iv_s Z)) 2 a1 a2)) 46 (ob_u (ob_u (ob_u (Z 46) 7 0 (Z 46 7 0 + Z 46 0 a1)) 0 a1 0) 1 a1 0)) := by
    have z46 : ob_z Z (iv_s Z) (ob_u (Z (iv_s Z)) 2 a1 a2) 46 = Z 46 := oz_n (by omega)
    unfold jf_F_emptyCup
    rw [c1, if_pos (by omega)]
    simp only [dz_a, oz_u, oz_s, oz_z, z46]
  have hmc : (a2 = 0 ∨ a2 = 5) → ∀ Y : dz_Z, Y 114 = Z 114 → dz_p (if 0 ≤ 10 + a1 ∧ 10 + a1 < 700 then dz_a (dz_u Y 114 0 (10 + a1) a2) fun Z5 => if 0 ≤ 18 + a1 ∧ 18 + a1 < 700 then dz_a (dz_u Z5 114 0 (18 + a1) 0) fun Z7 => if 0 ≤ 26 + a1 ∧ 26 + a1 < 700 then dz_a (dz_u Z7 114 0 (26 + a1) (-4)) fun Z9 => if 0 ≤ 86 + a1 ∧ 86 + a1 < 700 then dz_a (dz_u Z9 114 0 136 ((Z9 114 0 136) + (Z9 114 0 (86 + a1)))) fun Z11 => dz_a (dz_u Z11 114 0 (86 + a1) 0) fun Z12 => if 0 ≤ 94 + a1 ∧ 94 + a1 < 700 then dz_a (dz_u Z12 114 0 (94 + a1) 0) fun Z14 => some (Y 114 0 (10 + a1), Z14) else none else none else none else none else none) (fun q' => q' = (Z (iv_s Z) 2 a1, ob_z Y 114 (ob_u (ob_u (ob_u (ob_u (ob_u (ob_u (Z 114) 0 (10 + a1) a2) 0 (18 + a1) 0) 0 (26 + a1) (-4)) 0 136 (Z 46 7 0 + Z 46 0 a1)) 0 (86 + a1) 0) 0 (94 + a1) 0))) := by
    intro _ Y hY
    refine dp_ck (by omega) (dp_le (dp_ck (by omega) (dp_le (dp_ck (by omega) (dp_le (dp_ck (by omega) (dp_le (dp_le (dp_ck (by omega) (dp_le (dp_sm ?_)))))))))))
    simp only [oz_u, oz_s, oz_z, hY]
    rw [rk.1, show ob_u (ob_u (ob_u (Z 114) 0 (10 + a1) a2) 0 (18 + a1) 0) 0 (26 + a1) (-4) 0 136 = Z 46 7 0 from by rw [ou_i (by omega), ou_i (by omega), ou_i (by omega)]; exact r7, show ob_u (ob_u (ob_u (Z 114) 0 (10 + a1) a2) 0 (18 + a1) 0) 0 (26 + a1) (-4) 0 (86 + a1) = Z 46 0 a1 from by rw [ou_i (by omega), ou_i (by omega), ou_i (by omega)]; exact rf.1]
  have fin : (a2 = 0 ∨ a2 = 5) → iv_Z (n + 1) (ob_z (ob_z (ob_z Z (iv_s Z) (ob_u (Z (iv_s Z)) 2 a1 a2)) 46 (ob_u (ob_u (ob_u (Z 46) 7 0 (Z 46 7 0 + Z 46 0 a1)) 0 a1 0) 1 a1 0)) 114 (ob_u (ob_u (ob_u (ob_u (ob_u (ob_u (Z 114) 0 (10 + a1) a2) 0 (18 + a1) 0) 0 (26 + a1) (-4)) 0 136 (Z 46 7 0 + Z 46 0 a1)) 0 (86 + a1) 0) 0 (94 + a1) 0)) := by
    intro hk
    refine iv_fin h (fun b h46 _ _ _ h114 h5 => by rw [oz_n h114, oz_n h46, oz_n h5]) ?_ ?_ ?_
    · rw [oz_s, oz_n (show iv_s Z ≠ 114 by omega), oz_n (show iv_s Z ≠ 46 by omega), oz_s, oz_n (show (46 : Nat) ≠ 114 by decide), oz_s]
      refine ⟨so_S_cup hS hk, ⟨⟨fun i a b => ?_, fun i a b => ?_, fun i a b => ?_⟩, fun i a b => ?_, fun w a b => ?_, ?_, fun i a b => ?_⟩, ?_, ⟨fun i a b => ?_, ?_, ?_, ?_, ?_⟩⟩
      · rw [ou_i (by omega), ou_i (by omega), ou_i (by omega), ou_i (by omega), ou_i (by omega), ou_i (by omega), ou_f (by decide)]; exact rS.1.1 i a b
      · rw [ou_i (by omega), ou_i (by omega), ou_i (by omega), ou_i (by omega), ou_i (by omega), ou_i (by omega), ou_f (by decide)]; exact rS.1.2.1 i a b
      · have r := rS.1.2.2 i a b
        simp only [Int.zero_add] at r ⊢
        by_cases c : i = a1
        · subst c
          rw [ou_i (by omega), ou_i (by omega), ou_i (by omega), ou_i (by omega), ou_i (by omega), ou_s, ou_s]
          exact ⟨rfl, fun q => by omega, fun q => by omega⟩
        · rw [ou_i (i' := 10 + i) (by omega), ou_i (i' := 10 + i) (by omega), ou_i (i' := 10 + i) (by omega), ou_i (i' := 10 + i) (by omega), ou_i (i' := 10 + i) (by omega), ou_i (i' := 10 + i) (by omega), ou_i (i' := 18 + i) (by omega), ou_i (i' := 18 + i) (by omega), ou_i (i' := 18 + i) (by omega), ou_i (i' := 18 + i) (by omega), ou_i (i' := 18 + i) (by omega), ou_i (i' := 18 + i) (by omega), ou_i (i' := 26 + i) (by omega), ou_i (i' := 26 + i) (by omega), ou_i (i' := 26 + i) (by omega), ou_i (i' := 26 + i) (by omega), ou_i (i' := 26 + i) (by omega), ou_i (i' := 26 + i) (by omega), ou_i (f := 2) c]
          exact r
      · have r := rS.2.1 i a b
        simp only [Int.zero_add] at r ⊢
        by_cases c : i = a1
        · subst c
          refine ⟨fun _ => ?_, fun _ => ?_⟩
          · rw [ou_i (by omega), ou_i (by omega), ou_i (by omega), ou_i (by omega), ou_s]
          · rw [ou_i (by omega), ou_i (by omega), ou_i (by omega), ou_s]
        · rw [ou_i (i' := 18 + i) (by omega), ou_i (i' := 18 + i) (by omega), ou_i (i' := 18 + i) (by omega), ou_i (i' := 18 + i) (by omega), ou_i (i' := 18 + i) (by omega), ou_i (i' := 18 + i) (by omega), ou_i (i' := 26 + i) (by omega), ou_i (i' := 26 + i) (by omega), ou_i (i' := 26 + i) (by omega), ou_i (i' := 26 + i) (by omega), ou_i (i' := 26 + i) (by omega), ou_i (i' := 26 + i) (by omega), ou_i (f := 2) c]
          exact r
      · have hl := (hS.2.2.2.1 w a b).1
        rw [ou_f (f' := 3) (by decide)]
        refine ⟨?_, fun i c d => ?_⟩
        · rw [ou_i (by omega), ou_i (by omega), ou_i (by omega), ou_i (by omega), ou_i (by omega), ou_i (by omega)]; exact (rS.2.2.1 w a b).1
        · rw [ou_i (by omega), ou_i (by omega), ou_i (by omega), ou_i (by omega), ou_i (by omega), ou_i (by omega), ou_f (by omega)]; exact (rS.2.2.1 w a b).2 i c d
      · rw [ou_i (by omega), ou_i (by omega), ou_i (by omega), ou_i (by omega), ou_i (by omega), ou_i (by omega), ou_f (by decide)]; exact rS.2.2.2.1
      · rw [ou_f (by decide)] at b
        rw [ou_i (by omega), ou_i (by omega), ou_i (by omega), ou_i (by omega), ou_i (by omega), ou_i (by omega), ou_f (by decide)]; exact rS.2.2.2.2 i a b
      · refine ⟨fun i a b => ?_, ?_⟩
        · have hb := hB.1 i a b
          rw [ou_f (f' := 0) (by decide), ou_a, ou_f (f' := 0) (by decide), ou_f (f' := 3) (by decide), ou_f (f' := 3) (by decide), ou_f (f' := 3) (by decide), ou_a, ou_f (f' := 1) (by decide), ou_f (f' := 1) (by decide), ou_f (f' := 2) (by decide), ou_f (f' := 2) (by decide), ou_f (f' := 2) (by decide)]
          refine ⟨?_, hb.2.1, ?_, hb.2.2.2.1, by omega⟩
          · split
            · omega
            · exact hb.1
          · split
            · omega
            · exact hb.2.2.1
        · rw [ou_ff (show (0 : Nat) ≠ 1 by decide), ou_fn, ou_ff (show (0 : Nat) ≠ 7 by decide), ou_ff (show (3 : Nat) ≠ 1 by decide), ou_ff (show (3 : Nat) ≠ 0 by decide), ou_ff (show (3 : Nat) ≠ 7 by decide), sm_u, if_pos (by omega)]
          have hb := hB.1 a1 hg'.1 (by omega)
          have := hB.2
          omega
      · have r := rF.1 i a b
        simp only [Int.zero_add] at r ⊢
        rw [ou_f (o := ob_u (ob_u (Z 46) 7 0 _) 0 a1 0) (f' := 0) (by decide), ou_a (f := 0) (i' := i), ou_f (f := 7) (f' := 0) (by decide), ou_a (f := 1) (i' := i), ou_f (f := 0) (f' := 1) (by decide), ou_f (f := 7) (f' := 1) (by decide), ou_f (f := 1) (f' := 2) (by decide), ou_f (f := 0) (f' := 2) (by decide), ou_f (f := 7) (f' := 2) (by decide), ou_f (f := 1) (f' := 3) (by decide), ou_f (f := 0) (f' := 3) (by decide), ou_f (f := 7) (f' := 3) (by decide), ou_f (f := 1) (f' := 4) (by decide), ou_f (f := 0) (f' := 4) (by decide), ou_f (f := 7) (f' := 4) (by decide)]
        refine ⟨?_, ?_, ?_, ?_, ?_, ?_, r.2.2.2.2.2.2⟩
        · rw [ou_i (by omega), ou_a]
          by_cases c : i = a1
          · rw [if_pos (by omega), if_pos c]
          · rw [if_neg (by omega), if_neg c, ou_i (by omega), ou_i (by omega), ou_i (by omega), ou_i (by omega)]; exact r.1
        · rw [ou_a]
          by_cases c : i = a1
          · rw [if_pos (by omega), if_pos c]
          · rw [if_neg (by omega), if_neg c, ou_i (by omega), ou_i (by omega), ou_i (by omega), ou_i (by omega), ou_i (by omega)]; exact r.2.1
        · rw [ou_i (by omega), ou_i (by omega), ou_i (by omega), ou_i (by omega), ou_i (by omega), ou_i (by omega)]; exact r.2.2.1
        · rw [ou_i (by omega), ou_i (by omega), ou_i (by omega), ou_i (by omega), ou_i (by omega), ou_i (by omega)]; exact r.2.2.2.1
        · rw [ou_i (by omega), ou_i (by omega), ou_i (by omega), ou_i (by omega), ou_i (by omega), ou_i (by omega)]; exact r.2.2.2.2.1
        · rw [ou_i (by omega), ou_i (by omega), ou_i (by omega), ou_i (by omega), ou_i (by omega), ou_i (by omega)]; exact r.2.2.2.2.2.1
      · rw [ou_i (by omega), ou_i (by omega), ou_i (by omega), ou_i (by omega), ou_i (by omega), ou_i (by omega), ou_f (by decide), ou_f (by decide), ou_f (by decide)]; exact rF.2.1
      · rw [ou_i (by omega), ou_i (by omega), ou_i (by omega), ou_i (by omega), ou_i (by omega), ou_i (by omega), ou_f (by decide), ou_f (by decide), ou_f (by decide)]; exact rF.2.2.1
      · rw [ou_i (by omega), ou_i (by omega), Int.zero_add, ou_s, ou_f (by decide), ou_f (by decide), ou_s]
      · rw [ou_i (by omega), ou_i (by omega), ou_i (by omega), ou_i (by omega), ou_i (by omega), ou_i (by omega), ou_f (by decide), ou_f (by decide), ou_f (by decide)]; exact rF.2.2.2.2
    · intro f a _; rw [oz_s, ou_ff a, ou_ff a, ou_ff a, ou_ff a, ou_ff a, ou_ff a]
    · intro j a b; rw [oz_s, ou_i (by omega), ou_i (by omega), ou_i (by omega), ou_i (by omega), ou_i (by omega), ou_i (by omega)]
  have y114 : ob_z (ob_z Z (iv_s Z) (ob_u (Z (iv_s Z)) 2 a1 a2)) 46 (ob_u (ob_u (ob_u (Z 46) 7 0 (Z 46 7 0 + Z 46 0 a1)) 0 a1 0) 1 a1 0) 114 = Z 114 := by rw [oz_n (by decide), oz_n (by omega)]
  simp only [oz_u, e10, e18, e26, e86, e94] at hmc ⊢
  refine dp_br (fun a => ?_) (fun a => dp_br (fun b => ?_) (fun b => dp_sm ?_))
  · refine dp_ck hs (dp_ck (by omega) (dp_le (dp_bi (dp_eq hemp (dp_sm ?_)))))
    refine dp_bi (dp_eq (oi_sM h.2.1 rP y114 c1) ?_)
    simp only [decide_eq_false_iff_not]
    refine dp_no hg (dp_ck a (dz_pm (hmc (Or.inl a) _ y114) (fun q' hq => ?_)))
    rw [hq]
    exact ⟨fin (Or.inl a), rfl⟩
  · refine dp_ck hs (dp_ck (by omega) (dp_le (dp_bi (dp_eq hemp (dp_sm ?_)))))
    refine dp_bi (dp_eq (oi_sM h.2.1 rP y114 c1) ?_)
    simp only [decide_eq_false_iff_not]
    refine dp_no hg (dp_no a (dp_ck b (dz_pm (hmc (Or.inr b) _ y114) (fun q' hq => ?_))))
    rw [hq]
    exact ⟨fin (Or.inr b), rfl⟩
  · refine dp_bi (dp_eq (oi_sM h.2.1 rP rfl c1) ?_)
    simp only [decide_eq_false_iff_not]
    exact dp_no hg (dp_no a (dp_no b (dp_sm ⟨iv_nx h, rfl⟩)))
end ob
end mg_42ob
