/-! bits as numbers -/
theorem bt_n (x : Int) : (Int32.ofInt x).toBitVec.toNat = (x % 4294967296).toNat := by
  show (BitVec.ofInt 32 x).toNat = _
  rw [BitVec.toNat_ofInt]
  rfl
theorem bt_i (z : Int32) (h : z.toBitVec.toNat < 2147483648) : z.toInt = (z.toBitVec.toNat : Int) := by
  show z.toBitVec.toInt = _
  rw [BitVec.toInt_eq_toNat_of_lt (by omega)]
theorem bt_an (x : Int) (k : Nat) (hk : k ≤ 31) : (Int32.ofInt x &&& Int32.ofInt ((2 ^ k - 1 : Nat) : Int)).toInt = x % ((2 ^ k : Nat) : Int) := by
  have hp : 2 ^ k ≤ 2 ^ 31 := Nat.pow_le_pow_right (by omega) hk
  have hp0 : 0 < 2 ^ k := Nat.pow_pos (by omega)
  have e : (Int32.ofInt x &&& Int32.ofInt ((2 ^ k - 1 : Nat) : Int)).toBitVec.toNat = (x % 4294967296).toNat % 2 ^ k := by
    rw [Int32.toBitVec_and, BitVec.toNat_and, bt_n, bt_n]
    have : ((((2 ^ k - 1 : Nat) : Int) % 4294967296)).toNat = 2 ^ k - 1 := by omega
    rw [this, Nat.and_two_pow_sub_one_eq_mod]
  have hlt : (x % 4294967296).toNat % 2 ^ k < 2 ^ k := Nat.mod_lt _ hp0
  rw [bt_i _ (by rw [e]; omega), e]
  have hd : (2 ^ k : Nat) ∣ 4294967296 := by
    have : (4294967296 : Nat) = 2 ^ 32 := by decide
    rw [this]
    exact Nat.pow_dvd_pow 2 (by omega)
  have h1 : (((x % 4294967296).toNat % 2 ^ k : Nat) : Int) = (x % 4294967296) % ((2 ^ k : Nat) : Int) := by
    rw [Int.natCast_emod, Int.toNat_of_nonneg (Int.emod_nonneg _ (by omega))]
  rw [h1]
  exact Int.emod_emod_of_dvd x (Int.natCast_dvd_natCast.mpr hd)
theorem bn_255 (x : Int) : dz_an x 255 = x % 256 := bt_an x 8 (by decide)
theorem bn_3 (x : Int) : dz_an x 3 = x % 4 := bt_an x 2 (by decide)
theorem bn_32767 (x : Int) : dz_an x 32767 = x % 32768 := bt_an x 15 (by decide)
theorem bb_c (x : Int) : dz_c x = x.bmod 4294967296 := by
  unfold dz_c
  rw [Int32.toInt_ofInt]
theorem bb_b (x : Int) : dz_b x = x.bmod 256 := by
  unfold dz_b
  rw [Int8.toInt_toInt32, Int32.toInt_toInt8, Int32.toInt_ofInt]
  exact Int.bmod_bmod_of_dvd (by decide)
theorem bb_s (x : Int) : dz_s x = x.bmod 65536 := by
  unfold dz_s
  rw [Int16.toInt_toInt32, Int32.toInt_toInt16, Int32.toInt_ofInt]
  exact Int.bmod_bmod_of_dvd (by decide)
theorem bs_r (x : Int) (k : Int) (n : Nat) (hk : ((Int32.ofInt k &&& 31).toBitVec.smod 32).toNat = n) : dz_sr x k = dz_c x / ((2 ^ n : Nat) : Int) := by
  unfold dz_sr
  show (Int32.ofInt x >>> (Int32.ofInt k &&& 31)).toBitVec.toInt = _
  rw [Int32.toBitVec_shiftRight, BitVec.sshiftRight_eq', BitVec.toInt_sshiftRight, hk, Int.shiftRight_eq_div_pow]
  rfl
theorem bs_l (x : Int) (k : Int) (n : Nat) (hk : ((Int32.ofInt k &&& 31).toBitVec.smod 32).toNat = n) : dz_sl x k = (x * ((2 ^ n : Nat) : Int)).bmod 4294967296 := by
  unfold dz_sl
  show (Int32.ofInt x <<< (Int32.ofInt k &&& 31)).toBitVec.toInt = _
  rw [Int32.toBitVec_shiftLeft, BitVec.shiftLeft_eq', BitVec.toInt_eq_toNat_bmod, BitVec.toNat_shiftLeft, hk, bt_n, Nat.shiftLeft_eq]
  have h1 : (((x % 4294967296).toNat * 2 ^ n % 2 ^ 32 : Nat) : Int) = (x % 4294967296 * ((2 ^ n : Nat) : Int)) % 4294967296 := by
    rw [Int.natCast_emod, Int.natCast_mul, Int.toNat_of_nonneg (Int.emod_nonneg _ (by omega))]
    rfl
  rw [h1]
  have e3 : ((x % 4294967296 * ((2 ^ n : Nat) : Int)) % ((4294967296 : Nat) : Int)).bmod 4294967296 = (x % 4294967296 * ((2 ^ n : Nat) : Int)).bmod 4294967296 := Int.emod_bmod _ _
  refine Eq.trans e3 ?_
  have e4 : (x % ((4294967296 : Nat) : Int) * ((2 ^ n : Nat) : Int)).bmod 4294967296 = (x * ((2 ^ n : Nat) : Int)).bmod 4294967296 := Int.emod_mul_bmod _ _
  exact e4
theorem bs_24 (x : Int) : dz_sr (dz_sl x 24) 24 = dz_b x := by
  rw [bs_r _ 24 24 (by decide), bs_l _ 24 24 (by decide), bb_c, bb_b]
  show ((x * 16777216).bmod 4294967296).bmod 4294967296 / 16777216 = x.bmod 256
  simp only [Int.bmod_def]
  omega
theorem bs_16 (x : Int) : dz_sr (dz_sl x 16) 16 = dz_s x := by
  rw [bs_r _ 16 16 (by decide), bs_l _ 16 16 (by decide), bb_c, bb_s]
  show ((x * 65536).bmod 4294967296).bmod 4294967296 / 65536 = x.bmod 65536
  simp only [Int.bmod_def]
  omega
theorem bu_r (x : Int) (k : Int) (n : Nat) (hk : ((Int32.ofInt k).toUInt32 &&& Int32.toUInt32 31).toBitVec.toNat % 32 = n) (hx : n ≠ 0 ∨ (0 ≤ dz_c x)) : dz_ur x k = (x % 4294967296) / ((2 ^ n : Nat) : Int) := by
  unfold dz_ur
  have e : (((Int32.ofInt x).toUInt32 >>> ((Int32.ofInt k).toUInt32 &&& Int32.toUInt32 31)).toInt32).toBitVec.toNat = (x % 4294967296).toNat / 2 ^ n := by
    show ((Int32.ofInt x).toUInt32 >>> ((Int32.ofInt k).toUInt32 &&& Int32.toUInt32 31)).toBitVec.toNat = _
    rw [UInt32.toBitVec_shiftRight, BitVec.ushiftRight_eq', BitVec.toNat_ushiftRight, Nat.shiftRight_eq_div_pow]
    have : ((((Int32.ofInt k).toUInt32 &&& Int32.toUInt32 31).toBitVec % 32) : BitVec 32).toNat = n := by
      rw [BitVec.toNat_umod]
      exact hk
    rw [this]
    show (Int32.ofInt x).toBitVec.toNat / 2 ^ n = _
    rw [bt_n]
  have hb : (x % 4294967296).toNat / 2 ^ n < 2147483648 := by
    rcases Nat.eq_zero_or_pos n with h0 | h0
    · subst h0
      have := hx.resolve_left (by omega)
      rw [bb_c, Int.bmod_def] at this
      show (x % 4294967296).toNat / 1 < _
      rw [Nat.div_one]
      split at this <;> omega
    · have h2 : 2 ^ 1 ≤ 2 ^ n := Nat.pow_le_pow_right (by omega) h0
      have h3 : (x % 4294967296).toNat / 2 ^ n ≤ (x % 4294967296).toNat / 2 := Nat.div_le_div_left h2 (by omega)
      omega
  rw [bt_i _ (by rw [e]; exact hb), e, Int.natCast_ediv, Int.toNat_of_nonneg (Int.emod_nonneg _ (by omega))]
/-- what a seed draws -/
theorem bd_16 (x : Int) : dz_an (dz_ur x 16) 32767 = dz_an (dz_sr x 16) 32767 := by
  rw [bn_32767, bn_32767, bu_r x 16 16 (by decide) (Or.inl (by decide)), bs_r x 16 16 (by decide), bb_c]
  show x % 4294967296 / 65536 % 32768 = x.bmod 4294967296 / 65536 % 32768
  simp only [Int.bmod_def]
  omega
theorem bl_n (x : Int) : (Int64.ofInt x).toBitVec.toNat = (x % 18446744073709551616).toNat := by
  show (BitVec.ofInt 64 x).toNat = _
  rw [BitVec.toNat_ofInt]
  rfl
theorem bl_i (x : Int) : dz_li x % 256 = x % 256 := by
  unfold dz_li
  rw [Int64.toInt_toInt32, Int64.toInt_ofInt]
  have h1 : (x.bmod 18446744073709551616).bmod (2 ^ 32) = x.bmod 4294967296 := Int.bmod_bmod_of_dvd (by decide)
  show ((x.bmod 18446744073709551616).bmod (2 ^ 32)) % 256 = _
  rw [h1, Int.bmod_def]
  split <;> omega
theorem bl_r (x : Int) (k : Int) (n : Nat) (hk : (((Int32.ofInt k).toInt64 &&& 63).toBitVec.smod 64).toNat = n) : dz_lsr x k = dz_l x / ((2 ^ n : Nat) : Int) := by
  unfold dz_lsr
  show (Int64.ofInt x >>> ((Int32.ofInt k).toInt64 &&& 63)).toBitVec.toInt = _
  rw [Int64.toBitVec_shiftRight, BitVec.sshiftRight_eq', BitVec.toInt_sshiftRight, hk, Int.shiftRight_eq_div_pow]
  rfl
theorem bl_u (x : Int) (k : Int) (n : Nat) (hk : ((Int32.ofInt k).toInt64.toUInt64 &&& Int64.toUInt64 63).toBitVec.toNat % 64 = n) : dz_lur x k % 256 = ((x % 18446744073709551616) / ((2 ^ n : Nat) : Int)) % 256 := by
  unfold dz_lur
  show (((Int64.ofInt x).toUInt64 >>> ((Int32.ofInt k).toInt64.toUInt64 &&& Int64.toUInt64 63)).toBitVec.toInt) % 256 = _
  rw [BitVec.toInt_eq_toNat_bmod, UInt64.toBitVec_shiftRight, BitVec.ushiftRight_eq', BitVec.toNat_ushiftRight, Nat.shiftRight_eq_div_pow]
  have : ((((Int32.ofInt k).toInt64.toUInt64 &&& Int64.toUInt64 63).toBitVec % 64) : BitVec 64).toNat = n := by
    rw [BitVec.toNat_umod]
    exact hk
  rw [this]
  have e2 : ((Int64.ofInt x).toUInt64.toBitVec.toNat / 2 ^ n : Nat) = (x % 18446744073709551616).toNat / 2 ^ n := by
    show (Int64.ofInt x).toBitVec.toNat / 2 ^ n = _
    rw [bl_n]
  rw [e2, Int.natCast_ediv, Int.toNat_of_nonneg (Int.emod_nonneg _ (by omega))]
  generalize x % 18446744073709551616 / ((2 ^ n : Nat) : Int) = y
  show (y.bmod 18446744073709551616) % 256 = y % 256
  rw [Int.bmod_def]
  split <;> omega
/-- a byte that is fed -/
theorem bf_by (x : Int) (k : Int) (n : Nat) (hn : n ≤ 56) (hk : ((Int32.ofInt k).toInt64.toUInt64 &&& Int64.toUInt64 63).toBitVec.toNat % 64 = n) (hk2 : (((Int32.ofInt k).toInt64 &&& 63).toBitVec.smod 64).toNat = n) : (-128 ≤ dz_b (dz_b (dz_li (dz_lur x k))) ∧ dz_b (dz_b (dz_li (dz_lur x k))) ≤ 127) ∧ dz_an (dz_li (dz_lsr x k)) 255 = dz_b (dz_b (dz_li (dz_lur x k))) % 256 := by
  have h1 := bl_i (dz_lur x k)
  have h2 := bl_u x k n hk
  have h3 := bl_i (dz_lsr x k)
  have h4 := bl_r x k n hk2
  rw [bn_255, bb_b, bb_b]
  have h5 : dz_lsr x k % 256 = dz_lur x k % 256 := by
    rw [h2, h4]
    unfold dz_l
    rw [Int64.toInt_ofInt]
    show x.bmod 18446744073709551616 / _ % 256 = _
    rw [Int.bmod_def]
    have hp : ((2 ^ n : Nat) : Int) * ((2 ^ (56 - n) : Nat) : Int) = 72057594037927936 := by
      rw [← Int.natCast_mul, ← Nat.pow_add, show n + (56 - n) = 56 by omega]
      rfl
    have hp0 : (0 : Int) < ((2 ^ n : Nat) : Int) := by have : 0 < 2 ^ n := Nat.pow_pos (by omega); omega
    split
    · rfl
    · have : x % 18446744073709551616 - 18446744073709551616 = x % 18446744073709551616 + ((2 ^ n : Nat) : Int) * (-(256 * ((2 ^ (56 - n) : Nat) : Int))) := by
        rw [Int.mul_neg, ← Int.mul_assoc, Int.mul_comm _ 256, Int.mul_assoc, hp]
        omega
      have hc : ((18446744073709551616 : Nat) : Int) = 18446744073709551616 := rfl
      rw [hc] at *
      rw [this, Int.add_mul_ediv_left _ _ (by omega)]
      omega
  generalize dz_li (dz_lur x k) = y at *
  generalize dz_li (dz_lsr x k) = y' at *
  have hy : y' % 256 = y % 256 := by rw [h1, h3, h5]
  simp only [Int.bmod_def]
  omega
/-- tones are eight bits -/
def b8 (x : Int) : Prop := dz_an x 255 = x
theorem b8_r {x : Int} (h : b8 x) : 0 ≤ x ∧ x < 256 := by
  unfold b8 at h
  rw [bn_255] at h
  omega
theorem b8_i {x : Int} (h : 0 ≤ x ∧ x < 256) : b8 x := by
  unfold b8
  rw [bn_255]
  omega
theorem b8_or {x y : Int} (hx : b8 x) (hy : b8 y) : b8 (dz_or x y) := by
  unfold b8 dz_an at *
  unfold dz_or
  rw [Int32.ofInt_toInt]
  have hx' : Int32.ofInt x &&& Int32.ofInt 255 = Int32.ofInt x := by rw [← Int32.ofInt_toInt (Int32.ofInt x &&& Int32.ofInt 255), hx]
  have hy' : Int32.ofInt y &&& Int32.ofInt 255 = Int32.ofInt y := by rw [← Int32.ofInt_toInt (Int32.ofInt y &&& Int32.ofInt 255), hy]
  congr 1
  apply Int32.toBitVec_inj.mp
  have h1 := congrArg Int32.toBitVec hx'
  have h2 := congrArg Int32.toBitVec hy'
  simp only [Int32.toBitVec_and, Int32.toBitVec_or] at *
  rw [BitVec.and_or_distrib_right, h1, h2]
theorem b8_xo {x y : Int} (hx : b8 x) (hy : b8 y) : b8 (dz_xo x y) := by
  unfold b8 dz_an at *
  unfold dz_xo
  rw [Int32.ofInt_toInt]
  have hx' : Int32.ofInt x &&& Int32.ofInt 255 = Int32.ofInt x := by rw [← Int32.ofInt_toInt (Int32.ofInt x &&& Int32.ofInt 255), hx]
  have hy' : Int32.ofInt y &&& Int32.ofInt 255 = Int32.ofInt y := by rw [← Int32.ofInt_toInt (Int32.ofInt y &&& Int32.ofInt 255), hy]
  congr 1
  apply Int32.toBitVec_inj.mp
  have h1 := congrArg Int32.toBitVec hx'
  have h2 := congrArg Int32.toBitVec hy'
  simp only [Int32.toBitVec_and, Int32.toBitVec_xor] at *
  apply BitVec.eq_of_getLsbD_eq
  intro i hi
  have a := congrArg (fun z => BitVec.getLsbD z i) h1
  have b := congrArg (fun z => BitVec.getLsbD z i) h2
  simp only [BitVec.getLsbD_and, BitVec.getLsbD_xor] at a b ⊢
  revert a b
  generalize (Int32.ofInt x).toBitVec.getLsbD i = p
  generalize (Int32.ofInt y).toBitVec.getLsbD i = q
  generalize (Int32.ofInt 255).toBitVec.getLsbD i = r
  cases p <;> cases q <;> cases r <;> simp
theorem b8_sl {k : Int} (h : 0 ≤ k ∧ k < 8) : b8 (dz_sl 1 k) := by
  have : k = 0 ∨ k = 1 ∨ k = 2 ∨ k = 3 ∨ k = 4 ∨ k = 5 ∨ k = 6 ∨ k = 7 := by omega
  unfold b8
  rcases this with rfl | rfl | rfl | rfl | rfl | rfl | rfl | rfl <;> decide
/-- how many bits -/
def so_bits (x : Int) : Int := (jf_J_bitCount x).getD 0
theorem bc_all : ∀ k : Fin 256, jf_J_bitCount (k.val : Int) = some (so_bits (k.val : Int)) ∧ jf_M_bitsOf (k.val : Int) = some (so_bits (k.val : Int)) := by decide +kernel
theorem bc_8 {x : Int} (h : b8 x) : jf_J_bitCount x = some (so_bits x) ∧ jf_M_bitsOf x = some (so_bits x) := by
  have hr := b8_r h
  have := bc_all ⟨x.toNat, by omega⟩
  simp only [Int.toNat_of_nonneg hr.1] at this
  exact this
