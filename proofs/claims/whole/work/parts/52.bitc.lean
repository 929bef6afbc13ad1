/-! bits are counted: Long.bitCount -/
set_option maxRecDepth 100000 in
theorem v_Lng_bitCount_0 (d : Nat) (p0 : Int) (σ : am_S) (K : Int → am_S → Prop) (h :
  ∀ q1 : Int, q1 = w64 (p0 - (a_land (a_lushr p0 1) 6148914691236517205)) →
  ∀ q2 : Int, q2 = w64 ((a_land q1 3689348814741910323) + (a_land (a_lushr q1 2) 3689348814741910323)) →
  ∀ q3 : Int, q3 = a_land (w64 (q2 + (a_lushr q2 4))) 1085102592571150095 →
  ∀ q4 : Int, q4 = w64 (q3 + (a_lushr q3 8)) →
  ∀ q5 : Int, q5 = w64 (q4 + (a_lushr q4 16)) →
  ∀ q6 : Int, q6 = w64 (q5 + (a_lushr q5 32)) →
  K (a_and (w32 q6) 127) σ) : am_Runs PP MLL d m_Lng_bitCount 0 [some (ql p0), none] [] σ (kI K) := am_wEF_ok (orc []) 200 (((((((h _ rfl) _ rfl) _ rfl) _ rfl) _ rfl) _ rfl))

theorem bv_w32 (z : Nat) : (BitVec.ofInt 32 (w32 z)).toNat = z % 4294967296 := by
  rw [BitVec.toNat_ofInt]
  unfold w32
  omega
theorem and_w32 {z y : Nat} (hy : y < 2147483648) : a_and (w32 z) y = ((z % 4294967296 &&& y : Nat) : Int) := by
  unfold a_and
  refine i32_toI ?_ (Nat.lt_of_le_of_lt Nat.and_le_right hy)
  rw [Int32.toBitVec_and, i32_bv, BitVec.toNat_and, BitVec.toNat_ofNat, Nat.mod_eq_of_lt (show y < 2 ^ 32 by omega)]
  have e : (Int32.ofInt (w32 z)).toBitVec.toNat = z % 4294967296 := bv_w32 z
  rw [e]
theorem L_1 {x M : Nat} (hM : M = m5 8) (hb : M < 9223372036854775808) (hx : x < 1099511627776) : w64 ((x : Int) - a_land (a_lushr x 1) (M : Int)) = ((s1 8 x : Nat) : Int) := by
  have l1 : (x / 2 ^ 1 &&& M) ≤ x := Nat.le_trans Nat.and_le_left (Nat.div_le_self _ _)
  have hd : x / 2 ^ 1 < 9223372036854775808 := Nat.lt_of_le_of_lt (Nat.div_le_self _ _) (by omega)
  have u := a_lushr_n (x := x) (k := 1) (by omega) (by omega)
  have u : a_lushr (x : Int) 1 = ((x / 2 ^ 1 : Nat) : Int) := u
  rw [u, a_land_n hd hb, w64_id (by omega) (by omega)]
  unfold s1
  rw [← hM]
  have : x / 2 ^ 1 = x / 2 := rfl
  rw [this] at l1 ⊢
  omega
theorem L_2 {p M : Nat} (hM : M = m3 8) (hb : M < 4611686018427387904) (hp : p < 1099511627776) : w64 (a_land (p : Int) (M : Int) + a_land (a_lushr p 2) (M : Int)) = ((s2 8 p : Nat) : Int) := by
  have l1 : (p / 2 ^ 2 &&& M) ≤ p := Nat.le_trans Nat.and_le_left (Nat.div_le_self _ _)
  have l2 : (p &&& M) ≤ p := Nat.and_le_left
  have hd : p / 2 ^ 2 < 9223372036854775808 := Nat.lt_of_le_of_lt (Nat.div_le_self _ _) (by omega)
  have u := a_lushr_n (x := p) (k := 2) (by omega) (by omega)
  have u : a_lushr (p : Int) 2 = ((p / 2 ^ 2 : Nat) : Int) := u
  rw [u, a_land_n hd (by omega), a_land_n (by omega) (by omega), w64_id (by omega) (by omega)]
  unfold s2
  rw [← hM]
  have : p / 2 ^ 2 = p / 4 := rfl
  rw [this]
  omega
theorem L_4 {y k : Nat} (hk : k < 64) (hy : y < 4611686018427387904) : w64 ((y : Int) + a_lushr y k) = ((y + y / 2 ^ k : Nat) : Int) := by
  have hd : y / 2 ^ k ≤ y := Nat.div_le_self _ _
  rw [a_lushr_n hk (by omega)]
  obtain ⟨v, hv⟩ : ∃ v, v = y / 2 ^ k := ⟨_, rfl⟩
  rw [← hv] at hd ⊢
  rw [w64_id (by omega) (by omega)]
  omega
theorem L_3 {q M : Nat} (hM : M = mF 8) (hb : M < 9223372036854775808) (hq : q < 4611686018427387904) : a_land (w64 ((q : Int) + a_lushr q 4)) (M : Int) = ((s3 8 q : Nat) : Int) := by
  have e := L_4 (y := q) (k := 4) (by omega) hq
  have e : w64 ((q : Int) + a_lushr q 4) = ((q + q / 2 ^ 4 : Nat) : Int) := e
  have hd : q / 2 ^ 4 ≤ q := Nat.div_le_self _ _
  rw [e, a_land_n (by omega) hb]
  unfold s3
  rw [← hM]
theorem sum5 {k0 k1 k2 k3 k4 y y4 y5 y6 : Nat} (c0 : k0 ≤ 8) (c1 : k1 ≤ 8) (c2 : k2 ≤ 8) (c3 : k3 ≤ 8) (c4 : k4 ≤ 8) (hy : y = k0 + 256 * (k1 + 256 * (k2 + 256 * (k3 + 256 * k4)))) (h4 : y4 = y + y / 2 ^ 8) (h5 : y5 = y4 + y4 / 2 ^ 16) (h6 : y6 = y5 + y5 / 2 ^ 32) : y6 % 128 = k0 + k1 + k2 + k3 + k4 ∧ y < 1099511627776 ∧ y4 < 1099511627776 ∧ y5 < 1099511627776 ∧ y6 < 1099511627776 := by
  have a1 : y / 2 ^ 8 = k1 + 256 * (k2 + 256 * (k3 + 256 * k4)) := by omega
  have a2 : y4 = (k0 + k1) + 256 * (k1 + k2) + 65536 * ((k2 + k3) + 256 * ((k3 + k4) + 256 * k4)) := by omega
  have a3 : y4 / 2 ^ 16 = (k2 + k3) + 256 * ((k3 + k4) + 256 * k4) := by omega
  have a4 : y5 = ((k0 + k1 + k2 + k3) + 256 * (k1 + k2 + k3 + k4) + 65536 * (k2 + k3 + k4) + 16777216 * (k3 + k4)) + 4294967296 * k4 := by omega
  have a5 : y5 / 2 ^ 32 = k4 := by omega
  have a6 : y6 = (k0 + k1 + k2 + k3 + k4) + 128 * (2 * (k1 + k2 + k3 + k4) + 512 * (k2 + k3 + k4) + 131072 * (k3 + k4) + 33554432 * k4) := by omega
  refine ⟨?_, by omega, by omega, by omega, by omega⟩
  rw [a6, Nat.add_mul_mod_self_left, Nat.mod_eq_of_lt (by omega)]
theorem s2_40 {n p : Nat} (h : p < 1099511627776) : s2 n p < 4611686018427387904 := by
  have l1 : (p / 4 &&& m3 n) ≤ p := Nat.le_trans Nat.and_le_left (Nat.div_le_self _ _)
  have l2 : (p &&& m3 n) ≤ p := Nat.and_le_left
  unfold s2
  omega
theorem s1_le (n x : Nat) : s1 n x ≤ x := Nat.sub_le _ _
theorem gs_s (n x : Nat) : gs (n + 1) x = g8 (x % 256) + 256 * gs n (x / 256) := rfl
theorem tot_s (n x : Nat) : tot (n + 1) x = g8 (x % 256) + tot n (x / 256) := rfl
theorem gs_5 {x : Nat} (hx : x < 1099511627776) : ∃ k0 k1 k2 k3 k4, k0 ≤ 8 ∧ k1 ≤ 8 ∧ k2 ≤ 8 ∧ k3 ≤ 8 ∧ k4 ≤ 8 ∧ gs (3 + 1 + 1 + 1 + 1 + 1) x = k0 + 256 * (k1 + 256 * (k2 + 256 * (k3 + 256 * k4))) ∧ tot (0 + 1 + 1 + 1 + 1 + 1) x = k0 + k1 + k2 + k3 + k4 := by
  refine ⟨g8 (x % 256), g8 (x / 256 % 256), g8 (x / 256 / 256 % 256), g8 (x / 256 / 256 / 256 % 256), g8 (x / 256 / 256 / 256 / 256 % 256), (g8_sm _ (Nat.mod_lt _ (by decide))).2, (g8_sm _ (Nat.mod_lt _ (by decide))).2, (g8_sm _ (Nat.mod_lt _ (by decide))).2, (g8_sm _ (Nat.mod_lt _ (by decide))).2, (g8_sm _ (Nat.mod_lt _ (by decide))).2, ?_, ?_⟩
  · rw [gs_s, gs_s, gs_s, gs_s, gs_s]
    have z0 : x / 256 / 256 / 256 / 256 / 256 = 0 := by omega
    have gz : gs 3 0 = 0 := by decide
    rw [z0, gz, Nat.mul_zero, Nat.add_zero]
  · rw [tot_s, tot_s, tot_s, tot_s, tot_s]
    show g8 (x % 256) + (g8 (x / 256 % 256) + (g8 (x / 256 / 256 % 256) + (g8 (x / 256 / 256 / 256 % 256) + (g8 (x / 256 / 256 / 256 / 256 % 256) + 0)))) = _
    omega
theorem lbc {x M5 M3 MF : Nat} (hx : x < 1099511627776) (e5 : M5 = m5 8) (e3 : M3 = m3 8) (eF : MF = mF 8) (b5 : M5 < 9223372036854775808) (b3 : M3 < 4611686018427387904) (bF : MF < 9223372036854775808) {q1 q2 q3 q4 q5 q6 : Int} (h1 : q1 = w64 ((x : Int) - a_land (a_lushr x 1) (M5 : Int))) (h2 : q2 = w64 (a_land q1 (M3 : Int) + a_land (a_lushr q1 2) (M3 : Int))) (h3 : q3 = a_land (w64 (q2 + a_lushr q2 4)) (MF : Int)) (h4 : q4 = w64 (q3 + a_lushr q3 8)) (h5 : q5 = w64 (q4 + a_lushr q4 16)) (h6 : q6 = w64 (q5 + a_lushr q5 32)) : a_and (w32 q6) 127 = sm (bt x) 40 := by
  have hgs : s3 8 (s2 8 (s1 8 x)) = gs (3 + 1 + 1 + 1 + 1 + 1) x := gs_eq 8 x (by omega)
  have htot : ((tot (0 + 1 + 1 + 1 + 1 + 1) x : Nat) : Int) = sm (bt x) 40 := tot_sm 5 x (by omega)
  obtain ⟨k0, k1, k2, k3, k4, c0, c1, c2, c3, c4, ey, et⟩ := gs_5 hx
  obtain ⟨y, hy⟩ : ∃ y, y = gs (3 + 1 + 1 + 1 + 1 + 1) x := ⟨_, rfl⟩
  obtain ⟨t, htt⟩ : ∃ t, t = tot (0 + 1 + 1 + 1 + 1 + 1) x := ⟨_, rfl⟩
  rw [← hy] at hgs ey
  rw [← htt] at htot et
  clear hy htt
  rw [L_1 e5 b5 hx] at h1
  subst h1
  have hp := s1_le 8 x
  rw [L_2 e3 b3 (by omega)] at h2
  subst h2
  rw [L_3 eF bF (s2_40 (by omega)), hgs] at h3
  subst h3
  clear hgs hp e5 e3 eF b5 b3 bF
  obtain ⟨y4, hy4⟩ : ∃ y4, y4 = y + y / 2 ^ 8 := ⟨_, rfl⟩
  obtain ⟨y5, hy5⟩ : ∃ y5, y5 = y4 + y4 / 2 ^ 16 := ⟨_, rfl⟩
  obtain ⟨y6, hy6⟩ : ∃ y6, y6 = y5 + y5 / 2 ^ 32 := ⟨_, rfl⟩
  obtain ⟨s6, b0, b4, b5, b6⟩ := sum5 c0 c1 c2 c3 c4 ey hy4 hy5 hy6
  have w4 := L_4 (y := y) (k := 8) (by omega) (by omega)
  rw [← hy4] at w4
  have h4 : q4 = (y4 : Int) := h4.trans w4
  subst h4
  have w5 := L_4 (y := y4) (k := 16) (by omega) (by omega)
  rw [← hy5] at w5
  have h5 : q5 = (y5 : Int) := h5.trans w5
  subst h5
  have w6 := L_4 (y := y5) (k := 32) (by omega) (by omega)
  rw [← hy6] at w6
  have h6 : q6 = (y6 : Int) := h6.trans w6
  subst h6
  have w7 := and_w32 (z := y6) (y := 127) (by omega)
  have e7 : (y6 % 4294967296 &&& 127) = y6 % 128 := by
    have := Nat.and_two_pow_sub_one_eq_mod (y6 % 4294967296) 7
    have e : y6 % 4294967296 % 2 ^ 7 = y6 % 128 := by omega
    exact this.trans e
  rw [e7, s6, ← et, htot] at w7
  exact w7
theorem c_lbitCount (d : Nat) {x : Nat} {σ : am_S} {K : Int → am_S → Prop} (hx : x < 1099511627776) (h : K (sm (bt x) 40) σ) : am_Calls PP MLL (d + 1) m_Lng_bitCount [ql (x : Int)] σ (kI K) := by
  refine v_Lng_bitCount_0 d x σ K ?_
  obtain ⟨_, _, _, e5, e3, eF⟩ := m5_4
  intro q1 h1 q2 h2 q3 h3 q4 h4 q5 h5 q6 h6
  exact kEq h (lbc (M5 := 6148914691236517205) (M3 := 3689348814741910323) (MF := 1085102592571150095) hx e5.symm e3.symm eF.symm (by decide) (by decide) (by decide) h1 h2 h3 h4 h5 h6).symm rfl
