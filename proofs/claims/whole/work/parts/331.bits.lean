/-! the machine's bit operations on small numbers -/
theorem i32_bv (x : Nat) : (Int32.ofInt (x : Int)).toBitVec = BitVec.ofNat 32 x := by
  show BitVec.ofInt 32 (x : Int) = _
  exact BitVec.ofInt_natCast 32 x
theorem i64_bv (x : Nat) : (Int64.ofInt (x : Int)).toBitVec = BitVec.ofNat 64 x := by
  show BitVec.ofInt 64 (x : Int) = _
  exact BitVec.ofInt_natCast 64 x
theorem i32_toI {z : Int32} {n : Nat} (h : z.toBitVec.toNat = n) (hn : n < 2147483648) : z.toInt = (n : Int) := by
  show z.toBitVec.toInt = _
  rw [BitVec.toInt_eq_toNat_of_lt (by omega), h]
theorem i64_toI {z : Int64} {n : Nat} (h : z.toBitVec.toNat = n) (hn : n < 9223372036854775808) : z.toInt = (n : Int) := by
  show z.toBitVec.toInt = _
  rw [BitVec.toInt_eq_toNat_of_lt (by omega), h]
theorem a_and_n {x y : Nat} (hx : x < 2147483648) (hy : y < 2147483648) : a_and x y = ((x &&& y : Nat) : Int) := by
  unfold a_and
  refine i32_toI ?_ (Nat.lt_of_le_of_lt Nat.and_le_left hx)
  rw [Int32.toBitVec_and, i32_bv, i32_bv, BitVec.toNat_and, BitVec.toNat_ofNat, BitVec.toNat_ofNat, Nat.mod_eq_of_lt (by omega), Nat.mod_eq_of_lt (by omega)]
theorem a_or_n {x y : Nat} (hx : x < 2147483648) (hy : y < 2147483648) : a_or x y = ((x ||| y : Nat) : Int) := by
  unfold a_or
  refine i32_toI ?_ (Nat.or_lt_two_pow (n := 31) hx hy)
  rw [Int32.toBitVec_or, i32_bv, i32_bv, BitVec.toNat_or, BitVec.toNat_ofNat, BitVec.toNat_ofNat, Nat.mod_eq_of_lt (by omega), Nat.mod_eq_of_lt (by omega)]
theorem a_xor_n {x y : Nat} (hx : x < 2147483648) (hy : y < 2147483648) : a_xor x y = ((x ^^^ y : Nat) : Int) := by
  unfold a_xor
  refine i32_toI ?_ (Nat.xor_lt_two_pow (n := 31) hx hy)
  rw [Int32.toBitVec_xor, i32_bv, i32_bv, BitVec.toNat_xor, BitVec.toNat_ofNat, BitVec.toNat_ofNat, Nat.mod_eq_of_lt (by omega), Nat.mod_eq_of_lt (by omega)]
theorem a_land_n {x y : Nat} (hx : x < 9223372036854775808) (hy : y < 9223372036854775808) : a_land x y = ((x &&& y : Nat) : Int) := by
  unfold a_land
  refine i64_toI ?_ (Nat.lt_of_le_of_lt Nat.and_le_left hx)
  rw [Int64.toBitVec_and, i64_bv, i64_bv, BitVec.toNat_and, BitVec.toNat_ofNat, BitVec.toNat_ofNat, Nat.mod_eq_of_lt (by omega), Nat.mod_eq_of_lt (by omega)]
theorem a_lor_n {x y : Nat} (hx : x < 9223372036854775808) (hy : y < 9223372036854775808) : a_lor x y = ((x ||| y : Nat) : Int) := by
  unfold a_lor
  refine i64_toI ?_ (Nat.or_lt_two_pow (n := 63) hx hy)
  rw [Int64.toBitVec_or, i64_bv, i64_bv, BitVec.toNat_or, BitVec.toNat_ofNat, BitVec.toNat_ofNat, Nat.mod_eq_of_lt (by omega), Nat.mod_eq_of_lt (by omega)]
theorem a_lxor_n {x y : Nat} (hx : x < 9223372036854775808) (hy : y < 9223372036854775808) : a_lxor x y = ((x ^^^ y : Nat) : Int) := by
  unfold a_lxor
  refine i64_toI ?_ (Nat.xor_lt_two_pow (n := 63) hx hy)
  rw [Int64.toBitVec_xor, i64_bv, i64_bv, BitVec.toNat_xor, BitVec.toNat_ofNat, BitVec.toNat_ofNat, Nat.mod_eq_of_lt (by omega), Nat.mod_eq_of_lt (by omega)]
theorem and31 : ∀ k : Nat, k < 32 → (BitVec.ofNat 32 k &&& 31#32).smod 32 = BitVec.ofNat 32 k := by decide
theorem and63 : ∀ k : Nat, k < 64 → ((BitVec.ofNat 32 k).signExtend 64 &&& 63#64).smod 64 = BitVec.ofNat 64 k := by decide
theorem a_shl_n {x k : Nat} (hk : k < 32) (hx : x * 2 ^ k < 2147483648) : a_shl x k = ((x * 2 ^ k : Nat) : Int) := by
  unfold a_shl
  refine i32_toI ?_ hx
  have hp : 0 < 2 ^ k := Nat.two_pow_pos k
  have hx2 : x < 4294967296 := Nat.lt_of_le_of_lt (Nat.le_mul_of_pos_right x hp) (by omega)
  have h31 : (Int32.ofInt (k : Int) &&& 31).toBitVec.smod 32 = BitVec.ofNat 32 k := by
    rw [Int32.toBitVec_and, i32_bv]; exact and31 k hk
  rw [Int32.toBitVec_shiftLeft, h31, i32_bv, BitVec.shiftLeft_eq', BitVec.toNat_shiftLeft, BitVec.toNat_ofNat, BitVec.toNat_ofNat, Nat.mod_eq_of_lt (show x < 2 ^ 32 by omega), Nat.mod_eq_of_lt (show k < 2 ^ 32 by omega), Nat.shiftLeft_eq, Nat.mod_eq_of_lt (by omega)]
theorem a_shr_n {x k : Nat} (hk : k < 32) (hx : x < 2147483648) : a_shr x k = ((x / 2 ^ k : Nat) : Int) := by
  unfold a_shr
  refine i32_toI ?_ (Nat.lt_of_le_of_lt (Nat.div_le_self _ _) hx)
  have h31 : (Int32.ofInt (k : Int) &&& 31).toBitVec.smod 32 = BitVec.ofNat 32 k := by
    rw [Int32.toBitVec_and, i32_bv]; exact and31 k hk
  have hm : (BitVec.ofNat 32 x).msb = false := by
    rw [BitVec.msb_eq_decide, BitVec.toNat_ofNat, Nat.mod_eq_of_lt (show x < 2 ^ 32 by omega)]
    exact decide_eq_false (by omega)
  rw [Int32.toBitVec_shiftRight, h31, i32_bv, BitVec.sshiftRight'_ofNat_eq_sshiftRight, BitVec.toNat_sshiftRight_of_msb_false hm, BitVec.toNat_ofNat, Nat.mod_eq_of_lt (show x < 2 ^ 32 by omega), Nat.mod_eq_of_lt (show k < 2 ^ 32 by omega), Nat.shiftRight_eq_div_pow]
theorem a_lshl_n {x k : Nat} (hk : k < 63) (hx : x * 2 ^ k < 9223372036854775808) : a_lshl x k = ((x * 2 ^ k : Nat) : Int) := by
  unfold a_lshl
  refine i64_toI ?_ hx
  have hp : 0 < 2 ^ k := Nat.two_pow_pos k
  have hx2 : x < 9223372036854775808 := Nat.lt_of_le_of_lt (Nat.le_mul_of_pos_right x hp) hx
  have h63 : ((Int32.ofInt (k : Int)).toInt64 &&& 63).toBitVec.smod 64 = BitVec.ofNat 64 k := by
    rw [Int64.toBitVec_and, Int32.toBitVec_toInt64, i32_bv]; exact and63 k (by omega)
  rw [Int64.toBitVec_shiftLeft, h63, i64_bv, BitVec.shiftLeft_eq', BitVec.toNat_shiftLeft, BitVec.toNat_ofNat, BitVec.toNat_ofNat, Nat.mod_eq_of_lt (show x < 2 ^ 64 by omega), Nat.mod_eq_of_lt (show k < 2 ^ 64 by omega), Nat.shiftLeft_eq, Nat.mod_eq_of_lt (by omega)]
theorem a_lshr_n {x k : Nat} (hk : k < 64) (hx : x < 9223372036854775808) : a_lshr x k = ((x / 2 ^ k : Nat) : Int) := by
  unfold a_lshr
  refine i64_toI ?_ (Nat.lt_of_le_of_lt (Nat.div_le_self _ _) hx)
  have h63 : ((Int32.ofInt (k : Int)).toInt64 &&& 63).toBitVec.smod 64 = BitVec.ofNat 64 k := by
    rw [Int64.toBitVec_and, Int32.toBitVec_toInt64, i32_bv]; exact and63 k hk
  have hm : (BitVec.ofNat 64 x).msb = false := by
    rw [BitVec.msb_eq_decide, BitVec.toNat_ofNat, Nat.mod_eq_of_lt (show x < 2 ^ 64 by omega)]
    exact decide_eq_false (by omega)
  rw [Int64.toBitVec_shiftRight, h63, i64_bv, BitVec.sshiftRight'_ofNat_eq_sshiftRight, BitVec.toNat_sshiftRight_of_msb_false hm, BitVec.toNat_ofNat, Nat.mod_eq_of_lt (show x < 2 ^ 64 by omega), Nat.mod_eq_of_lt (show k < 2 ^ 64 by omega), Nat.shiftRight_eq_div_pow]
theorem w64_n {x : Nat} (hx : x < 9223372036854775808) : w64 x = x := w64_id (by omega) (by omega)
theorem w32_n {x : Nat} (hx : x < 2147483648) : w32 x = x := w32_id (by omega) (by omega)
theorem nn {x : Int} (h : 0 ≤ x) : ∃ n : Nat, x = n := ⟨x.toNat, by omega⟩
theorem v_Mth_floorMod_0 (d : Nat) (p0 p1 : Int) (σ : am_S) (K : Int → am_S → Prop) (h :
  p1 ≠ 0 ∧
  ((0 ≤ (a_xor p0 p1) →
    K (Int.tmod p0 p1) σ) ∧
  (¬ (0 ≤ (a_xor p0 p1)) →
    (((Int.tmod p0 p1) = 0 →
      K (Int.tmod p0 p1) σ) ∧
    (¬ ((Int.tmod p0 p1) = 0) →
      (-2147483648 ≤ (Int.tmod p0 p1) + p1 ∧ (Int.tmod p0 p1) + p1 < 2147483648) ∧
      K ((Int.tmod p0 p1) + p1) σ))))) : am_Runs PP MLL d m_Mth_floorMod 0 [some (qi p0), some (qi p1), none] [] σ (kI K) := am_wEF_ok (orc []) 200 (⟨h.1, ⟨fun c1 => (h.2.1 c1), fun c1 => ⟨fun c2 => ((h.2.2 c1).1 c2), fun c2 => ⟨⟨((h.2.2 c1).2 c2).1.1, ((h.2.2 c1).2 c2).1.2⟩, ((h.2.2 c1).2 c2).2⟩⟩⟩⟩)

theorem c_floorMod (d : Nat) {a b : Int} {σ : am_S} {K : Int → am_S → Prop} (h0 : 0 < b) (h2 : b ≤ 100) (h1 : 0 ≤ a) (h3 : a ≤ 100) (h : K (a % b) σ) : am_Calls PP MLL (d + 1) m_Mth_floorMod [qi a, qi b] σ (kI K) := by
  refine v_Mth_floorMod_0 d a b σ K ⟨by omega, fun _ => ?_, fun c => absurd ?_ c⟩
  · rw [Int.tmod_eq_emod_of_nonneg h1]; exact h
  · obtain ⟨x, rfl⟩ := nn h1
    obtain ⟨y, rfl⟩ := nn (show 0 ≤ b by omega)
    rw [a_xor_n (by omega) (by omega)]
    omega
