/-! bits are counted: Integer.bitCount, Long.bitCount -/
theorem u31 : ∀ k : Nat, k < 32 → (BitVec.ofNat 32 k &&& 31#32) % 32 = BitVec.ofNat 32 k := by decide
theorem u63 : ∀ k : Nat, k < 64 → ((BitVec.ofNat 32 k).signExtend 64 &&& 63#64) % 64 = BitVec.ofNat 64 k := by decide
theorem a_ushr_n {x k : Nat} (hk : k < 32) (hx : x < 2147483648) : a_ushr x k = ((x / 2 ^ k : Nat) : Int) := by
  unfold a_ushr
  refine i32_toI ?_ (Nat.lt_of_le_of_lt (Nat.div_le_self _ _) hx)
  show ((Int32.ofInt (x : Int)).toBitVec >>> (((Int32.ofInt (k : Int)).toBitVec &&& 31#32) % 32)).toNat = _
  rw [i32_bv, i32_bv, u31 k hk, BitVec.ushiftRight_eq', BitVec.toNat_ushiftRight, BitVec.toNat_ofNat, BitVec.toNat_ofNat, Nat.mod_eq_of_lt (show x < 2 ^ 32 by omega), Nat.mod_eq_of_lt (show k < 2 ^ 32 by omega), Nat.shiftRight_eq_div_pow]
theorem a_lushr_n {x k : Nat} (hk : k < 64) (hx : x < 9223372036854775808) : a_lushr x k = ((x / 2 ^ k : Nat) : Int) := by
  unfold a_lushr
  refine i64_toI ?_ (Nat.lt_of_le_of_lt (Nat.div_le_self _ _) hx)
  show ((Int64.ofInt (x : Int)).toBitVec >>> (((Int32.ofInt (k : Int)).toBitVec.signExtend 64 &&& 63#64) % 64)).toNat = _
  rw [i64_bv, i32_bv, u63 k hk, BitVec.ushiftRight_eq', BitVec.toNat_ushiftRight, BitVec.toNat_ofNat, BitVec.toNat_ofNat, Nat.mod_eq_of_lt (show x < 2 ^ 64 by omega), Nat.mod_eq_of_lt (show k < 2 ^ 64 by omega), Nat.shiftRight_eq_div_pow]
theorem and_split {a r m M : Nat} (ha : a < 256) (hm : m < 256) : (a + 256 * r) &&& (m + 256 * M) = (a &&& m) + 256 * (r &&& M) := by
  have h1 : ∀ (u v : Nat), u < 256 → ∀ j, (u + 256 * v).testBit j = if j < 8 then u.testBit j else v.testBit (j - 8) := by
    intro u v hu j
    rw [Nat.add_comm]
    exact Nat.testBit_two_pow_mul_add v (i := 8) hu j
  refine Nat.eq_of_testBit_eq fun j => ?_
  rw [Nat.testBit_and, h1 _ _ ha, h1 _ _ hm, h1 _ _ (Nat.lt_of_le_of_lt Nat.and_le_left ha)]
  split
  · rw [Nat.testBit_and]
  · rw [Nat.testBit_and]
def m5 : Nat → Nat
  | 0 => 0
  | n + 1 => 85 + 256 * m5 n
def m3 : Nat → Nat
  | 0 => 0
  | n + 1 => 51 + 256 * m3 n
def mF : Nat → Nat
  | 0 => 0
  | n + 1 => 15 + 256 * mF n
def s1 (n x : Nat) : Nat := x - (x / 2 &&& m5 n)
def s2 (n p : Nat) : Nat := (p &&& m3 n) + (p / 4 &&& m3 n)
def s3 (n q : Nat) : Nat := (q + q / 16) &&& mF n
def g8 (a : Nat) : Nat := s3 1 (s2 1 (s1 1 a))
def gs : Nat → Nat → Nat
  | 0, _ => 0
  | n + 1, x => g8 (x % 256) + 256 * gs n (x / 256)
theorem d1 : ∀ a, a < 256 → (a / 2 &&& 85) ≤ a ∧ a - (a / 2 &&& 85) < 256 ∧ (a / 2 + 128 &&& 85) = (a / 2 &&& 85) ∧ (a / 2 &&& 85) < 256 := by decide +kernel
theorem d2 : ∀ a, a < 256 → (a / 4 + 64 &&& 51) = (a / 4 &&& 51) ∧ (a / 4 + 128 &&& 51) = (a / 4 &&& 51) ∧ (a / 4 + 192 &&& 51) = (a / 4 &&& 51) ∧ (a &&& 51) + (a / 4 &&& 51) ≤ 102 ∧ ((a &&& 51) + (a / 4 &&& 51)) % 16 ≤ 6 := by decide +kernel
theorem s1_split {n a r : Nat} (ha : a < 256) : s1 (n + 1) (a + 256 * r) = s1 1 a + 256 * s1 n r := by
  obtain ⟨h1, h2, h3, h4⟩ := d1 a ha
  have e1 : (a + 256 * r) / 2 = (a / 2 + 128 * (r % 2)) + 256 * (r / 2) := by omega
  have e2 : (a / 2 + 128 * (r % 2) &&& 85) = (a / 2 &&& 85) := by
    rcases (show r % 2 = 0 ∨ r % 2 = 1 by omega) with h | h
    · rw [h, Nat.mul_zero, Nat.add_zero]
    · rw [h]; exact h3
  have e3 : (r / 2 &&& m5 n) ≤ r := Nat.le_trans Nat.and_le_left (Nat.div_le_self _ _)
  show a + 256 * r - ((a + 256 * r) / 2 &&& (85 + 256 * m5 n)) = (a - (a / 2 &&& 85)) + 256 * (r - (r / 2 &&& m5 n))
  rw [e1, and_split (by omega) (by omega), e2]
  omega
theorem s2_split {n a r : Nat} (ha : a < 256) : s2 (n + 1) (a + 256 * r) = s2 1 a + 256 * s2 n r := by
  obtain ⟨h1, h2, h3, h4, h5⟩ := d2 a ha
  have e1 : (a + 256 * r) / 4 = (a / 4 + 64 * (r % 4)) + 256 * (r / 4) := by omega
  have e2 : (a / 4 + 64 * (r % 4) &&& 51) = (a / 4 &&& 51) := by
    rcases (show r % 4 = 0 ∨ r % 4 = 1 ∨ r % 4 = 2 ∨ r % 4 = 3 by omega) with h | h | h | h
    · rw [h, Nat.mul_zero, Nat.add_zero]
    · rw [h]; exact h1
    · rw [h]; exact h2
    · rw [h]; exact h3
  show ((a + 256 * r) &&& (51 + 256 * m3 n)) + ((a + 256 * r) / 4 &&& (51 + 256 * m3 n)) = ((a &&& 51) + (a / 4 &&& 51)) + 256 * ((r &&& m3 n) + (r / 4 &&& m3 n))
  rw [e1, and_split ha (by omega), and_split (by omega) (by omega), e2]
  omega
theorem s2_16 (n p : Nat) : s2 n p % 16 ≤ 6 := by
  cases n with
  | zero =>
    unfold s2 m3
    rw [Nat.and_zero, Nat.and_zero]
    omega
  | succ n =>
    have e : p = p % 256 + 256 * (p / 256) := by omega
    rw [e, s2_split (by omega)]
    have h := (d2 (p % 256) (by omega)).2.2.2.2
    have e2 : s2 1 (p % 256) = (p % 256 &&& 51) + (p % 256 / 4 &&& 51) := rfl
    omega
theorem s3_split {n a r : Nat} (ha : a ≤ 102) (hr : r % 16 ≤ 6) : s3 (n + 1) (a + 256 * r) = s3 1 a + 256 * s3 n r := by
  have e1 : a + 256 * r + (a + 256 * r) / 16 = (a + a / 16 + 16 * (r % 16)) + 256 * (r + r / 16) := by omega
  show ((a + 256 * r) + (a + 256 * r) / 16 &&& (15 + 256 * mF n)) = ((a + a / 16) &&& 15) + 256 * ((r + r / 16) &&& mF n)
  rw [e1, and_split (by omega) (by omega)]
  have q : ∀ v, v &&& 15 = v % 16 := fun v => Nat.and_two_pow_sub_one_eq_mod v 4
  rw [q, q]
  omega
theorem gs_eq : ∀ n x, x < 256 ^ n → s3 n (s2 n (s1 n x)) = gs n x
  | 0, x, h => by
    have : x = 0 := by
      rw [Nat.pow_zero] at h
      omega
    subst this
    rfl
  | n + 1, x, h => by
    have e : x = x % 256 + 256 * (x / 256) := by omega
    have h2 : x / 256 < 256 ^ n := by
      rw [Nat.pow_succ] at h
      omega
    have ih := gs_eq n (x / 256) h2
    have hd := d1 (x % 256) (by omega)
    have hs1 : s1 1 (x % 256) < 256 := hd.2.1
    have hs2 := (d2 (s1 1 (x % 256)) hs1).2.2.2.1
    have hs2' : s2 1 (s1 1 (x % 256)) ≤ 102 := hs2
    have l : s3 (n + 1) (s2 (n + 1) (s1 (n + 1) x)) = s3 (n + 1) (s2 (n + 1) (s1 (n + 1) (x % 256 + 256 * (x / 256)))) := by rw [← e]
    rw [l, s1_split (by omega), s2_split hs1, s3_split hs2' (s2_16 _ _), ih]
    rfl
theorem g8_sm : ∀ a, a < 256 → (g8 a : Int) = sm (bt a) 8 ∧ g8 a ≤ 8 := by decide +kernel
/-- bits over bytes -/
theorem bt_lo {a r c : Nat} (ha : a < 256) (hc : c < 8) : bt (a + 256 * r) c = bt a c := by
  unfold bt
  rcases (show c = 0 ∨ c = 1 ∨ c = 2 ∨ c = 3 ∨ c = 4 ∨ c = 5 ∨ c = 6 ∨ c = 7 by omega) with rfl | rfl | rfl | rfl | rfl | rfl | rfl | rfl <;> omega
theorem bt_hi {a r c : Nat} (ha : a < 256) : bt (a + 256 * r) (8 + c) = bt r c := by
  unfold bt
  rw [Nat.pow_add, ← Nat.div_div_eq_div_mul, show (a + 256 * r) / 2 ^ 8 = r by omega]
theorem sm_add (f : Nat → Int) (k : Nat) : ∀ n, sm f (k + n) = sm f k + sm (fun c => f (k + c)) n
  | 0 => by rw [Nat.add_zero]; exact (Int.add_zero _).symm
  | n + 1 => by
    show sm f (k + n) + f (k + n) = sm f k + (sm (fun c => f (k + c)) n + f (k + n))
    rw [sm_add f k n]
    omega
theorem pc_byte {a r n : Nat} (ha : a < 256) : sm (bt (a + 256 * r)) (8 + n) = sm (bt a) 8 + sm (bt r) n := by
  rw [sm_add, sm_congr 8 (fun c hc => bt_lo ha hc), sm_congr n (fun c _ => bt_hi ha)]
/-- the bytes' counts together -/
def tot : Nat → Nat → Nat
  | 0, _ => 0
  | n + 1, x => g8 (x % 256) + tot n (x / 256)
theorem tot_sm : ∀ n x, x < 256 ^ n → (tot n x : Int) = sm (bt x) (8 * n)
  | 0, x, _ => rfl
  | n + 1, x, h => by
    have e : x = x % 256 + 256 * (x / 256) := by omega
    have h2 : x / 256 < 256 ^ n := by
      rw [Nat.pow_succ] at h
      omega
    have ih := tot_sm n (x / 256) h2
    have l : sm (bt x) (8 * (n + 1)) = sm (bt (x % 256 + 256 * (x / 256))) (8 + 8 * n) := by rw [← e, show 8 * (n + 1) = 8 + 8 * n by omega]
    rw [l, pc_byte (by omega), ← (g8_sm (x % 256) (by omega)).1, ← ih]
    show ((g8 (x % 256) + tot n (x / 256) : Nat) : Int) = _
    omega
theorem m5_4 : m5 4 = 1431655765 ∧ m3 4 = 858993459 ∧ mF 4 = 252645135 ∧ m5 8 = 6148914691236517205 ∧ m3 8 = 3689348814741910323 ∧ mF 8 = 1085102592571150095 := by decide

theorem v_Int_bitCount_0 (d : Nat) (p0 : Int) (σ : am_S) (K : Int → am_S → Prop) (h :
  (-2147483648 ≤ p0 - (a_and (a_ushr p0 1) 1431655765) ∧ p0 - (a_and (a_ushr p0 1) 1431655765) < 2147483648) ∧
  ∀ q1 : Int, q1 = p0 - (a_and (a_ushr p0 1) 1431655765) →
  (-2147483648 ≤ (a_and q1 858993459) + (a_and (a_ushr q1 2) 858993459) ∧ (a_and q1 858993459) + (a_and (a_ushr q1 2) 858993459) < 2147483648) ∧
  ∀ q2 : Int, q2 = (a_and q1 858993459) + (a_and (a_ushr q1 2) 858993459) →
  (-2147483648 ≤ q2 + (a_ushr q2 4) ∧ q2 + (a_ushr q2 4) < 2147483648) ∧
  ∀ q3 : Int, q3 = a_and (q2 + (a_ushr q2 4)) 252645135 →
  (-2147483648 ≤ q3 + (a_ushr q3 8) ∧ q3 + (a_ushr q3 8) < 2147483648) ∧
  ∀ q4 : Int, q4 = q3 + (a_ushr q3 8) →
  (-2147483648 ≤ q4 + (a_ushr q4 16) ∧ q4 + (a_ushr q4 16) < 2147483648) ∧
  ∀ q5 : Int, q5 = q4 + (a_ushr q4 16) →
  K (a_and q5 63) σ) : am_Runs PP MLL d m_Int_bitCount 0 [some (qi p0)] [] σ (kI K) := am_wEF_ok (orc []) 200 (⟨⟨h.1.1, h.1.2⟩, ⟨⟨(h.2 _ rfl).1.1, (h.2 _ rfl).1.2⟩, ⟨⟨((h.2 _ rfl).2 _ rfl).1.1, ((h.2 _ rfl).2 _ rfl).1.2⟩, ⟨⟨(((h.2 _ rfl).2 _ rfl).2 _ rfl).1.1, (((h.2 _ rfl).2 _ rfl).2 _ rfl).1.2⟩, ⟨⟨((((h.2 _ rfl).2 _ rfl).2 _ rfl).2 _ rfl).1.1, ((((h.2 _ rfl).2 _ rfl).2 _ rfl).2 _ rfl).1.2⟩, (((((h.2 _ rfl).2 _ rfl).2 _ rfl).2 _ rfl).2 _ rfl)⟩⟩⟩⟩⟩)

theorem cast_and {x y : Nat} (hx : x < 2147483648) (hy : y < 2147483648) {z : Int} (hz : z = (y : Int)) : a_and x z = ((x &&& y : Nat) : Int) := by rw [hz]; exact a_and_n hx hy
theorem c_ibitCount (d : Nat) {x : Nat} {σ : am_S} {K : Int → am_S → Prop} (hx : x < 2147483648) (h : K (sm (bt x) 32) σ) : am_Calls PP MLL (d + 1) m_Int_bitCount [qi (x : Int)] σ (kI K) := by
  refine v_Int_bitCount_0 d x σ K ?_
  obtain ⟨e5, e3, eF, _, _, _⟩ := m5_4
  have hgs := gs_eq 4 x (by omega)
  have htot := tot_sm 4 x (by omega)
  have z1 : x - (x / 2 ^ 1 &&& 1431655765) = s1 4 x := by unfold s1; rw [e5]
  have l1 : (x / 2 ^ 1 &&& 1431655765) ≤ x := Nat.le_trans Nat.and_le_left (Nat.div_le_self _ _)
  have u1 : a_and (a_ushr x 1) 1431655765 = ((x / 2 ^ 1 &&& 1431655765 : Nat) : Int) := by
    rw [show (1 : Int) = ((1 : Nat) : Int) from rfl, a_ushr_n (by omega) hx, cast_and (Nat.lt_of_le_of_lt (Nat.div_le_self _ _) hx) (y := 1431655765) (z := 1431655765) (by omega) rfl]
  rw [u1]
  refine ⟨by omega, fun q1 hq1 => ?_⟩
  have hq1 : q1 = ((s1 4 x : Nat) : Int) := by rw [hq1, ← z1]; omega
  subst hq1
  obtain ⟨p, hp⟩ : ∃ p, p = s1 4 x := ⟨_, rfl⟩
  have hpb : p < 2147483648 := by rw [hp]; unfold s1; omega
  rw [← hp] at hgs ⊢
  have u2 : a_and (p : Int) 858993459 = ((p &&& 858993459 : Nat) : Int) := cast_and hpb (by omega) rfl
  have u3 : a_and (a_ushr (p : Int) 2) 858993459 = ((p / 2 ^ 2 &&& 858993459 : Nat) : Int) := by
    rw [show (2 : Int) = ((2 : Nat) : Int) from rfl, a_ushr_n (by omega) hpb, cast_and (Nat.lt_of_le_of_lt (Nat.div_le_self _ _) hpb) (y := 858993459) (z := 858993459) (by omega) rfl]
  have b1 : (p &&& 858993459) ≤ 858993459 := Nat.and_le_right
  have b2 : (p / 2 ^ 2 &&& 858993459) ≤ 858993459 := Nat.and_le_right
  rw [u2, u3]
  refine ⟨by omega, fun q2 hq2 => ?_⟩
  obtain ⟨q, hq⟩ : ∃ q, q = s2 4 p := ⟨_, rfl⟩
  have hq' : q = (p &&& 858993459) + (p / 2 ^ 2 &&& 858993459) := by rw [hq]; unfold s2; rw [e3]
  have hq2 : q2 = (q : Int) := by rw [hq2, hq']; omega
  subst hq2
  rw [← hq] at hgs
  have hqb : q ≤ 1717986918 := by omega
  have u4 : a_ushr (q : Int) 4 = ((q / 2 ^ 4 : Nat) : Int) := by rw [show (4 : Int) = ((4 : Nat) : Int) from rfl, a_ushr_n (by omega) (by omega)]
  rw [u4, ← Int.natCast_add]
  refine ⟨by omega, fun q3 hq3 => ?_⟩
  have u5 : a_and ((q + q / 2 ^ 4 : Nat) : Int) 252645135 = ((q + q / 2 ^ 4 &&& 252645135 : Nat) : Int) := cast_and (by omega) (by omega) rfl
  have hr : (q + q / 2 ^ 4 &&& 252645135) = gs 4 x := by
    rw [← hgs]; unfold s3; rw [eF]
  rw [u5, hr] at hq3
  subst hq3
  have c0 := (g8_sm (x % 256) (by omega)).2
  have c1 := (g8_sm (x / 256 % 256) (by omega)).2
  have c2 := (g8_sm (x / 256 / 256 % 256) (by omega)).2
  have c3 := (g8_sm (x / 256 / 256 / 256 % 256) (by omega)).2
  have ey : gs 4 x = g8 (x % 256) + 256 * (g8 (x / 256 % 256) + 256 * (g8 (x / 256 / 256 % 256) + 256 * (g8 (x / 256 / 256 / 256 % 256) + 256 * 0))) := rfl
  have et : tot 4 x = g8 (x % 256) + (g8 (x / 256 % 256) + (g8 (x / 256 / 256 % 256) + (g8 (x / 256 / 256 / 256 % 256) + 0))) := rfl
  obtain ⟨k0, hk0⟩ : ∃ k, k = g8 (x % 256) := ⟨_, rfl⟩
  obtain ⟨k1, hk1⟩ : ∃ k, k = g8 (x / 256 % 256) := ⟨_, rfl⟩
  obtain ⟨k2, hk2⟩ : ∃ k, k = g8 (x / 256 / 256 % 256) := ⟨_, rfl⟩
  obtain ⟨k3, hk3⟩ : ∃ k, k = g8 (x / 256 / 256 / 256 % 256) := ⟨_, rfl⟩
  rw [← hk0, ← hk1, ← hk2, ← hk3] at ey et
  rw [← hk0] at c0
  rw [← hk1] at c1
  rw [← hk2] at c2
  rw [← hk3] at c3
  obtain ⟨y, hy⟩ : ∃ y, y = gs 4 x := ⟨_, rfl⟩
  rw [← hy] at ey ⊢
  have u6 : a_ushr (y : Int) 8 = ((y / 2 ^ 8 : Nat) : Int) := by rw [show (8 : Int) = ((8 : Nat) : Int) from rfl, a_ushr_n (by omega) (by omega)]
  rw [u6, ← Int.natCast_add]
  refine ⟨by omega, fun q4 hq4 => ?_⟩
  subst hq4
  have v1 : y / 2 ^ 8 = k1 + 256 * (k2 + 256 * k3) := by omega
  have u7 : a_ushr ((y + y / 2 ^ 8 : Nat) : Int) 16 = (((y + y / 2 ^ 8) / 2 ^ 16 : Nat) : Int) := by rw [show (16 : Int) = ((16 : Nat) : Int) from rfl, a_ushr_n (by omega) (by omega)]
  rw [u7, ← Int.natCast_add]
  refine ⟨by omega, fun q5 hq5 => ?_⟩
  subst hq5
  have v2 : (y + y / 2 ^ 8) / 2 ^ 16 = (k2 + k3) + 256 * k3 := by omega
  rw [cast_and (y := 63) (z := 63) (by omega) (by omega) rfl, show (63 : Nat) = 2 ^ 6 - 1 from rfl, Nat.and_two_pow_sub_one_eq_mod]
  refine kEq h ?_ rfl
  rw [show 32 = 8 * 4 from rfl, ← htot, et, v2, v1, ey]
  omega
