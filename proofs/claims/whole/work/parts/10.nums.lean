/-! MODULE 6: numbers: bits of ints and longs. -/
theorem bv_nat (m : Nat) : (Int32.ofInt (m : Int)).toBitVec = BitVec.ofNat 32 m := by rw [Int32.toBitVec_ofInt, BitVec.ofInt_natCast]
theorem ti_bv (x : Int32) : x.toInt = x.toBitVec.toInt := rfl
theorem bv_small {b : BitVec 32} (h : b.toNat < 2147483648) : b.toInt = (b.toNat : Int) := BitVec.toInt_eq_toNat_of_lt (by omega)
theorem band_nat {m n : Nat} (hm : m < 2147483648) (hn : n < 2147483648) : band m n = ((m &&& n : Nat) : Int) := by
  have h1 : (BitVec.ofNat 32 m &&& BitVec.ofNat 32 n).toNat = m &&& n := by
    rw [BitVec.toNat_and, BitVec.toNat_ofNat, BitVec.toNat_ofNat, Nat.mod_eq_of_lt (by omega), Nat.mod_eq_of_lt (by omega)]
  have h2 : m &&& n ≤ m := Nat.and_le_left
  unfold band
  rw [ti_bv, Int32.toBitVec_and, bv_nat, bv_nat, bv_small (by rw [h1]; omega), h1]
theorem bor_nat {m n : Nat} (hm : m < 2147483648) (hn : n < 2147483648) : bor m n = ((m ||| n : Nat) : Int) := by
  have h1 : (BitVec.ofNat 32 m ||| BitVec.ofNat 32 n).toNat = m ||| n := by
    rw [BitVec.toNat_or, BitVec.toNat_ofNat, BitVec.toNat_ofNat, Nat.mod_eq_of_lt (by omega), Nat.mod_eq_of_lt (by omega)]
  have h2 : m ||| n < 2 ^ 31 := Nat.or_lt_two_pow (by omega) (by omega)
  unfold bor
  rw [ti_bv, Int32.toBitVec_or, bv_nat, bv_nat, bv_small (by rw [h1]; omega), h1]
theorem sh_amount : ∀ k : Fin 32, (Int32.ofInt ((k.val : Nat) : Int) &&& 31).toBitVec.smod 32 = BitVec.ofNat 32 k.val := by decide +kernel
theorem shr_int {a : Int} {k : Nat} (h1 : -2147483648 ≤ a) (h2 : a < 2147483648) (hk : k < 32) : shr a k = a >>> k := by
  have h3 := sh_amount ⟨k, hk⟩
  have h4 : (Int32.ofInt a >>> (Int32.ofInt (k : Int) &&& 31)).toBitVec = BitVec.sshiftRight' (Int32.ofInt a).toBitVec ((Int32.ofInt (k : Int) &&& 31).toBitVec.smod 32) := rfl
  unfold shr
  rw [ti_bv, h4, h3]
  show ((Int32.ofInt a).toBitVec.sshiftRight (BitVec.ofNat 32 k).toNat).toInt = a >>> k
  rw [BitVec.toInt_sshiftRight, ← ti_bv, oi h1 h2, BitVec.toNat_ofNat, Nat.mod_eq_of_lt (by omega)]
theorem shr_nat {m k : Nat} (h2 : m < 2147483648) (hk : k < 32) : shr m k = ((m >>> k : Nat) : Int) := by
  rw [shr_int (by omega) (by omega) hk, Int.natCast_shiftRight]
theorem shl_one : ∀ k : Fin 31, shl 1 ((k.val : Nat) : Int) = ((2 ^ k.val : Nat) : Int) := by decide +kernel
theorem shl_1 {k : Nat} (h : k < 31) : shl 1 k = ((2 ^ k : Nat) : Int) := shl_one ⟨k, h⟩
/-- whether bit k of m is set, as the code asks -/
theorem bit_1 {m k : Nat} (hm : m < 2147483648) (hk : k < 32) : band (shr m k) 1 = if m.testBit k then 1 else 0 := by
  have h1 : m >>> k ≤ m := Nat.shiftRight_le m k
  rw [shr_nat hm hk, show (1 : Int) = ((1 : Nat) : Int) from rfl, band_nat (by omega) (by omega), Nat.and_one_is_mod, Nat.testBit_eq_decide_div_mod_eq, Nat.shiftRight_eq_div_pow]
  by_cases h : m / 2 ^ k % 2 = 1
  · simp [h]
  · have : m / 2 ^ k % 2 = 0 := by omega
    simp [this]
/-! longs -/
def un (x : Int64) : Nat := x.toBitVec.toNat
theorem un_lt (x : Int64) : un x < 2 ^ 64 := x.toBitVec.isLt
theorem un_inj {x y : Int64} (h : un x = un y) : x = y := Int64.toBitVec_inj.mp (BitVec.eq_of_toNat_eq h)
theorem lsh_amount : ∀ k : Fin 64, ((Int32.ofInt ((k.val : Nat) : Int)).toInt64.toUInt64 &&& Int64.toUInt64 63) = UInt64.ofNat k.val := by decide +kernel
theorem lsh_amount2 : ∀ k : Fin 64, ((Int32.ofInt ((k.val : Nat) : Int)).toInt64 &&& 63).toBitVec.smod 64 = BitVec.ofNat 64 k.val := by decide +kernel
theorem un_lushr {x : Int64} {k : Nat} (hk : k < 64) : un (lushr x k) = un x >>> k := by
  unfold lushr un
  rw [lsh_amount ⟨k, hk⟩]
  show (x.toUInt64 >>> UInt64.ofNat k).toNat = _
  rw [UInt64.toNat_shiftRight]
  show x.toBitVec.toNat >>> ((UInt64.ofNat k).toNat % 64) = _
  rw [UInt64.toNat_ofNat', Nat.mod_eq_of_lt (show k < 2 ^ 64 by omega), Nat.mod_eq_of_lt hk]
theorem un_255 (x : Int64) : un (x &&& 255) = un x % 256 := by
  show (x.toBitVec &&& (255 : Int64).toBitVec).toNat = _
  rw [BitVec.toNat_and]
  exact Nat.and_two_pow_sub_one_eq_mod _ 8
theorem l2i_small {y : Int64} (h : un y < 2147483648) : y.toInt32.toInt = (un y : Int) := by
  have h1 : y.toInt32.toBitVec.toNat = un y := by
    show (y.toBitVec.signExtend 32).toNat = un y
    rw [BitVec.signExtend_eq_setWidth_of_le _ (by omega), BitVec.toNat_setWidth, Nat.mod_eq_of_lt (show y.toBitVec.toNat < 2 ^ 32 by unfold un at h; omega)]
    rfl
  rw [ti_bv, bv_small (by rw [h1]; exact h), h1]
/-- byte i of a long -/
def byt (x : Int64) (i : Nat) : Nat := un x >>> (8 * i) % 256
theorem byt_lt (x : Int64) (i : Nat) : byt x i < 256 := Nat.mod_lt _ (by decide)
theorem byt_u {x : Int64} {i : Nat} (hi : i < 8) : (lushr x ((8 * i : Nat) : Int) &&& 255).toInt32.toInt = (byt x i : Int) := by
  have h1 : un (lushr x ((8 * i : Nat) : Int) &&& 255) = byt x i := by rw [un_255, un_lushr (by omega)]; rfl
  have h2 := byt_lt x i
  rw [l2i_small (by omega), h1]
theorem byt_s {x : Int64} {i : Nat} (hi : i < 8) : (lshr x ((8 * i : Nat) : Int) &&& 255).toInt32.toInt = (byt x i : Int) := by
  have h1 : (lshr x ((8 * i : Nat) : Int) &&& 255) = (lushr x ((8 * i : Nat) : Int) &&& 255) := by
    apply Int64.toBitVec_inj.mp
    have e1 : (lshr x ((8 * i : Nat) : Int)).toBitVec = x.toBitVec.sshiftRight (8 * i) := by
      show BitVec.sshiftRight' x.toBitVec (((Int32.ofInt ((8 * i : Nat) : Int)).toInt64 &&& 63).toBitVec.smod 64) = _
      rw [lsh_amount2 ⟨8 * i, by omega⟩]
      show x.toBitVec.sshiftRight (BitVec.ofNat 64 (8 * i)).toNat = _
      rw [BitVec.toNat_ofNat, Nat.mod_eq_of_lt (by omega)]
    have e2 : (lushr x ((8 * i : Nat) : Int)).toBitVec = x.toBitVec >>> (8 * i) := by
      apply BitVec.eq_of_toNat_eq
      rw [BitVec.toNat_ushiftRight]
      exact un_lushr (by omega)
    show (lshr x ((8 * i : Nat) : Int)).toBitVec &&& (255 : Int64).toBitVec = (lushr x ((8 * i : Nat) : Int)).toBitVec &&& (255 : Int64).toBitVec
    rw [e1, e2]
    apply BitVec.eq_of_getLsbD_eq
    intro j hj
    rw [BitVec.getLsbD_and, BitVec.getLsbD_and, BitVec.getLsbD_sshiftRight, BitVec.getLsbD_ushiftRight]
    by_cases h8 : j < 8
    · simp [show 8 * i + j < 64 by omega, hj, show ¬ 64 ≤ j by omega]
    · have : ((255 : Int64).toBitVec).getLsbD j = false := by
        show ((BitVec.ofNat 64 255)).getLsbD j = false
        rw [BitVec.getLsbD_ofNat]
        have : Nat.testBit 255 j = false := Nat.testBit_lt_two_pow (Nat.lt_of_lt_of_le (show 255 < 2 ^ 8 by decide) (Nat.pow_le_pow_right (by decide) (by omega)))
        simp [this]
      rw [this, Bool.and_false, Bool.and_false]
  rw [h1, byt_u hi]
theorem lcmp_0 {x y : Int64} : (lg_cmp x y).toInt = 0 ↔ x = y := by
  unfold lg_cmp
  by_cases h : x > y
  · rw [if_pos h]
    refine ⟨fun z => absurd z (by decide), fun z => ?_⟩
    subst z
    exact absurd h Int64.lt_irrefl
  · rw [if_neg h]
    by_cases h2 : x = y
    · rw [if_pos h2]; exact ⟨fun _ => h2, fun _ => rfl⟩
    · rw [if_neg h2]; exact ⟨fun z => absurd z (by decide), fun z => absurd z h2⟩
theorem lcmp_r (x y : Int64) : -2147483648 ≤ (lg_cmp x y).toInt ∧ (lg_cmp x y).toInt < 2147483648 := ⟨Int32.le_toInt _, Int32.toInt_lt _⟩
theorem lushr_0 {x : Int64} {k : Nat} (hk : k < 64) : lushr x k = 0 ↔ un x >>> k = 0 := by
  rw [← un_lushr hk]
  refine ⟨fun h => by rw [h]; rfl, fun h => un_inj (by rw [h]; rfl)⟩
/-- a person's number in a way, as the class keeps it -/
def dig (x : Int64) (r : Nat) : Nat := un x >>> (4 * r) % 16
theorem dig_i {x : Int64} {r : Nat} (hr : r < 16) : band (lushr x ((4 * r : Nat) : Int)).toInt32.toInt 15 = (dig x r : Int) := by
  have h0 : ∀ y : Int64, band y.toInt32.toInt 15 = ((un y % 16 : Nat) : Int) := by
    intro y
    unfold band
    rw [Int32.ofInt_toInt, ti_bv, Int32.toBitVec_and]
    have h1 : (y.toInt32.toBitVec &&& (Int32.ofInt 15).toBitVec).toNat = un y % 16 := by
      rw [BitVec.toNat_and]
      show (y.toBitVec.signExtend 32).toNat &&& 15 = un y % 16
      rw [BitVec.signExtend_eq_setWidth_of_le _ (by omega), BitVec.toNat_setWidth, show (15 : Nat) = 2 ^ 4 - 1 from rfl, Nat.and_two_pow_sub_one_eq_mod]
      show un y % 2 ^ 32 % 2 ^ 4 = un y % 16
      omega
    have h2 : un y % 16 < 16 := Nat.mod_lt _ (by decide)
    rw [bv_small (by rw [h1]; omega), h1]
  rw [h0, un_lushr (by omega)]
  rfl
