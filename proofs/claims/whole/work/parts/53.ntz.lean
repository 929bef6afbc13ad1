/-! the lowest bit: numberOfTrailingZeros -/
theorem v_Int_numberOfTrailingZeros_0 (d : Nat) (p0 : Int) (σ : am_S) (K : Int → am_S → Prop) (h :
  ∀ q1 : Int, q1 = a_and (a_xor p0 (-1)) (w32 (p0 - 1)) →
  ((0 < q1 →
    ((q1 ≤ 65536 →
      ((q1 ≤ 256 →
        ((q1 ≤ 16 →
          ((q1 ≤ 4 →
            K (w32 (1 + (a_ushr q1 1))) σ) ∧
          (¬ (q1 ≤ 4) →
            ∀ q7 : Int, q7 = a_ushr q1 2 →
            K (w32 (3 + (a_ushr q7 1))) σ))) ∧
        (¬ (q1 ≤ 16) →
          ∀ q8 : Int, q8 = a_ushr q1 4 →
          ((q8 ≤ 4 →
            K (w32 (5 + (a_ushr q8 1))) σ) ∧
          (¬ (q8 ≤ 4) →
            ∀ q10 : Int, q10 = a_ushr q8 2 →
            K (w32 (7 + (a_ushr q10 1))) σ))))) ∧
      (¬ (q1 ≤ 256) →
        ∀ q11 : Int, q11 = a_ushr q1 8 →
        ((q11 ≤ 16 →
          ((q11 ≤ 4 →
            K (w32 (9 + (a_ushr q11 1))) σ) ∧
          (¬ (q11 ≤ 4) →
            ∀ q14 : Int, q14 = a_ushr q11 2 →
            K (w32 (11 + (a_ushr q14 1))) σ))) ∧
        (¬ (q11 ≤ 16) →
          ∀ q15 : Int, q15 = a_ushr q11 4 →
          ((q15 ≤ 4 →
            K (w32 (13 + (a_ushr q15 1))) σ) ∧
          (¬ (q15 ≤ 4) →
            ∀ q17 : Int, q17 = a_ushr q15 2 →
            K (w32 (15 + (a_ushr q17 1))) σ))))))) ∧
    (¬ (q1 ≤ 65536) →
      ∀ q18 : Int, q18 = a_ushr q1 16 →
      ((q18 ≤ 256 →
        ((q18 ≤ 16 →
          ((q18 ≤ 4 →
            K (w32 (17 + (a_ushr q18 1))) σ) ∧
          (¬ (q18 ≤ 4) →
            ∀ q22 : Int, q22 = a_ushr q18 2 →
            K (w32 (19 + (a_ushr q22 1))) σ))) ∧
        (¬ (q18 ≤ 16) →
          ∀ q23 : Int, q23 = a_ushr q18 4 →
          ((q23 ≤ 4 →
            K (w32 (21 + (a_ushr q23 1))) σ) ∧
          (¬ (q23 ≤ 4) →
            ∀ q25 : Int, q25 = a_ushr q23 2 →
            K (w32 (23 + (a_ushr q25 1))) σ))))) ∧
      (¬ (q18 ≤ 256) →
        ∀ q26 : Int, q26 = a_ushr q18 8 →
        ((q26 ≤ 16 →
          ((q26 ≤ 4 →
            K (w32 (25 + (a_ushr q26 1))) σ) ∧
          (¬ (q26 ≤ 4) →
            ∀ q29 : Int, q29 = a_ushr q26 2 →
            K (w32 (27 + (a_ushr q29 1))) σ))) ∧
        (¬ (q26 ≤ 16) →
          ∀ q30 : Int, q30 = a_ushr q26 4 →
          ((q30 ≤ 4 →
            K (w32 (29 + (a_ushr q30 1))) σ) ∧
          (¬ (q30 ≤ 4) →
            ∀ q32 : Int, q32 = a_ushr q30 2 →
            K (w32 (31 + (a_ushr q32 1))) σ))))))))) ∧
  (¬ (0 < q1) →
    K (a_and q1 32) σ))) : am_Runs PP MLL d m_Int_numberOfTrailingZeros 0 [some (qi p0), none] [] σ (kI K) := am_wE_ok 200 (⟨fun c2 => ⟨fun c3 => ⟨fun c4 => ⟨fun c5 => ⟨fun c6 => ((((((h _ rfl).1 c2).1 c3).1 c4).1 c5).1 c6), fun c6 => (((((((h _ rfl).1 c2).1 c3).1 c4).1 c5).2 c6) _ rfl)⟩, fun c5 => ⟨fun c9 => (((((((h _ rfl).1 c2).1 c3).1 c4).2 c5) _ rfl).1 c9), fun c9 => ((((((((h _ rfl).1 c2).1 c3).1 c4).2 c5) _ rfl).2 c9) _ rfl)⟩⟩, fun c4 => ⟨fun c12 => ⟨fun c13 => (((((((h _ rfl).1 c2).1 c3).2 c4) _ rfl).1 c12).1 c13), fun c13 => ((((((((h _ rfl).1 c2).1 c3).2 c4) _ rfl).1 c12).2 c13) _ rfl)⟩, fun c12 => ⟨fun c16 => ((((((((h _ rfl).1 c2).1 c3).2 c4) _ rfl).2 c12) _ rfl).1 c16), fun c16 => (((((((((h _ rfl).1 c2).1 c3).2 c4) _ rfl).2 c12) _ rfl).2 c16) _ rfl)⟩⟩⟩, fun c3 => ⟨fun c19 => ⟨fun c20 => ⟨fun c21 => (((((((h _ rfl).1 c2).2 c3) _ rfl).1 c19).1 c20).1 c21), fun c21 => ((((((((h _ rfl).1 c2).2 c3) _ rfl).1 c19).1 c20).2 c21) _ rfl)⟩, fun c20 => ⟨fun c24 => ((((((((h _ rfl).1 c2).2 c3) _ rfl).1 c19).2 c20) _ rfl).1 c24), fun c24 => (((((((((h _ rfl).1 c2).2 c3) _ rfl).1 c19).2 c20) _ rfl).2 c24) _ rfl)⟩⟩, fun c19 => ⟨fun c27 => ⟨fun c28 => ((((((((h _ rfl).1 c2).2 c3) _ rfl).2 c19) _ rfl).1 c27).1 c28), fun c28 => (((((((((h _ rfl).1 c2).2 c3) _ rfl).2 c19) _ rfl).1 c27).2 c28) _ rfl)⟩, fun c27 => ⟨fun c31 => (((((((((h _ rfl).1 c2).2 c3) _ rfl).2 c19) _ rfl).2 c27) _ rfl).1 c31), fun c31 => ((((((((((h _ rfl).1 c2).2 c3) _ rfl).2 c19) _ rfl).2 c27) _ rfl).2 c31) _ rfl)⟩⟩⟩⟩, fun c2 => ((h _ rfl).2 c2)⟩)

theorem v_Lng_numberOfTrailingZeros_0 (d : Nat) (p0 : Int) (σ : am_S) (K : Int → am_S → Prop) (h :
  (((w32 p0) = 0 →
    am_Calls PP MLL (d + 1) m_Int_numberOfTrailingZeros [qi (w32 (a_lushr p0 32))] σ (kI fun x3 s3 =>
      (-2147483648 ≤ 32 + x3 ∧ 32 + x3 < 2147483648) ∧
      K (32 + x3) s3)) ∧
  (¬ ((w32 p0) = 0) →
    am_Calls PP MLL (d + 1) m_Int_numberOfTrailingZeros [qi (w32 p0)] σ (kI fun x4 s4 =>
      K x4 s4)))) : am_Runs PP MLL (d + 1) m_Lng_numberOfTrailingZeros 0 [some (ql p0), none, none] [] σ (kI K) := am_wEF_ok (orc []) 200 (⟨fun c2 => (am_cI (h.1 c2) fun x3 s3 h3 => ⟨⟨h3.1.1, h3.1.2⟩, h3.2⟩), fun c2 => (am_cI (h.2 c2) fun x4 s4 h4 => h4)⟩)

theorem low_bits {u k q : Nat} (hu : u = 2 ^ k * (2 * q + 1)) (hb : u < 2 ^ 32) : (2 ^ 32 - (u + 1)) &&& (u - 1) = 2 ^ k - 1 := by
  have hp : 0 < 2 ^ k := Nat.two_pow_pos k
  have t1 : ∀ j, u.testBit j = if j < k then false else (2 * q + 1).testBit (j - k) := by
    intro j
    have := Nat.testBit_two_pow_mul_add (2 * q + 1) (i := k) (b := 0) hp j
    rw [Nat.add_zero] at this
    rw [hu, this, Nat.zero_testBit]
  have e : u - 1 = 2 ^ k * (2 * q) + (2 ^ k - 1) := by
    rw [hu, Nat.mul_add, Nat.mul_one]
    omega
  have t2 : ∀ j, (u - 1).testBit j = if j < k then true else (2 * q).testBit (j - k) := by
    intro j
    rw [e, Nat.testBit_two_pow_mul_add _ (by omega) j, Nat.testBit_two_pow_sub_one]
    split
    · rename_i h; rw [decide_eq_true h]
    · rfl
  refine Nat.eq_of_testBit_eq fun j => ?_
  rw [Nat.testBit_and, Nat.testBit_two_pow_sub_succ hb, t1, t2, Nat.testBit_two_pow_sub_one]
  by_cases h : j < k
  · have hk : k < 32 := by
      by_cases c : k < 32
      · exact c
      · have := Nat.pow_le_pow_right (n := 2) (by omega) (show 32 ≤ k by omega)
        have : 2 ^ k ≤ u := by rw [hu]; exact Nat.le_mul_of_pos_right _ (by omega)
        omega
    rw [if_pos h, if_pos h, decide_eq_true h, decide_eq_true (show j < 32 by omega)]
    rfl
  · rw [if_neg h, if_neg h, decide_eq_false h]
    cases hj : j - k with
    | zero =>
      rw [Nat.testBit_zero, Nat.testBit_zero]
      have a : (2 * q + 1) % 2 = 1 := by omega
      have b : (2 * q) % 2 = 0 := by omega
      rw [a, b]
      cases decide (j < 32) <;> rfl
    | succ i =>
      rw [Nat.testBit_succ, Nat.testBit_succ, show (2 * q + 1) / 2 = q by omega, show 2 * q / 2 = q by omega]
      cases decide (j < 32) <;> cases q.testBit i <;> rfl
def ntzf (q : Int) : Int := if 0 < q then (
  let q2 := if q ≤ 65536 then q else a_ushr q 16
  let n2 : Int := if q ≤ 65536 then 1 else 17
  let q3 := if q2 ≤ 256 then q2 else a_ushr q2 8
  let n3 : Int := if q2 ≤ 256 then n2 else w32 (n2 + 8)
  let q4 := if q3 ≤ 16 then q3 else a_ushr q3 4
  let n4 : Int := if q3 ≤ 16 then n3 else w32 (n3 + 4)
  let q5 := if q4 ≤ 4 then q4 else a_ushr q4 2
  let n5 : Int := if q4 ≤ 4 then n4 else w32 (n4 + 2)
  w32 (n5 + a_ushr q5 1)) else a_and q 32
theorem ntzf_ok : ∀ k : Nat, k < 32 → ntzf ((2 ^ k - 1 : Nat) : Int) = k := by decide +kernel

theorem w32_mod (z : Int) : (BitVec.ofInt 32 (w32 z)) = BitVec.ofInt 32 z := by
  apply BitVec.eq_of_toNat_eq
  rw [BitVec.toNat_ofInt, BitVec.toNat_ofInt]
  unfold w32
  congr 1
  omega
theorem c_intz (d : Nat) {u k q : Nat} {i : Int} {σ : am_S} {K : Int → am_S → Prop} (hi : (BitVec.ofInt 32 i).toNat = u) (hu : u = 2 ^ k * (2 * q + 1)) (hb : u < 2 ^ 32) (hk : k < 32) (h : K k σ) : am_Calls PP MLL (d + 1) m_Int_numberOfTrailingZeros [qi i] σ (kI K) := by
  refine v_Int_numberOfTrailingZeros_0 d i σ K ?_
  have hp : 0 < 2 ^ k := Nat.two_pow_pos k
  have hu0 : 0 < u := by rw [hu]; exact Nat.mul_pos hp (by omega)
  have h2k : 2 ^ k - 1 < 2147483648 := by
    have := Nat.pow_le_pow_right (n := 2) (by omega) (show k ≤ 31 by omega)
    omega
  have hv : a_and (a_xor i (-1)) (w32 (i - 1)) = ((2 ^ k - 1 : Nat) : Int) := by
    unfold a_and a_xor
    refine i32_toI ?_ h2k
    have e1 : (Int32.ofInt (w32 (i - 1))).toBitVec.toNat = u - 1 := by
      show (BitVec.ofInt 32 (w32 (i - 1))).toNat = u - 1
      rw [w32_mod, BitVec.toNat_ofInt]
      rw [BitVec.toNat_ofInt] at hi
      omega
    have e2 : (Int32.ofInt (Int32.ofInt i ^^^ Int32.ofInt (-1)).toInt).toBitVec.toNat = 2 ^ 32 - (u + 1) := by
      have e3 : Int32.ofInt (Int32.ofInt i ^^^ Int32.ofInt (-1)).toInt = (Int32.ofInt i ^^^ Int32.ofInt (-1)) := Int32.ofInt_toInt _
      rw [e3, Int32.toBitVec_xor]
      have e4 : (Int32.ofInt (-1)).toBitVec = BitVec.allOnes 32 := by decide
      rw [e4, BitVec.xor_allOnes, BitVec.toNat_not]
      show 2 ^ 32 - 1 - (BitVec.ofInt 32 i).toNat = _
      rw [hi]
      omega
    rw [Int32.toBitVec_and, BitVec.toNat_and, e1, e2]
    exact low_bits hu hb
  intro q1 hq1
  rw [hv] at hq1
  have key : K (ntzf q1) σ := by rw [hq1, ntzf_ok k hk]; exact h
  clear hq1 hv h
  repeat' first | apply And.intro | intro _
  all_goals
    refine kEq key ?_ rfl
    subst_vars
    simp only [ntzf, *, if_true, if_false]
    try rfl
theorem c_lntz (d : Nat) {x k q : Nat} {σ : am_S} {K : Int → am_S → Prop} (hx : x < 1099511627776) (hu : x = 2 ^ k * (2 * q + 1)) (h : K k σ) : am_Calls PP MLL (d + 2) m_Lng_numberOfTrailingZeros [ql (x : Int)] σ (kI K) := by
  have hp : 0 < 2 ^ k := Nat.two_pow_pos k
  have hk40 : k < 40 := by
    by_cases c : k < 40
    · exact c
    · have h1 := Nat.pow_le_pow_right (n := 2) (by omega) (show 40 ≤ k by omega)
      have h2 : 2 ^ k ≤ x := by rw [hu]; exact Nat.le_mul_of_pos_right _ (by omega)
      omega
  have hw : w32 (x : Int) = 0 ↔ x % 4294967296 = 0 := by
    unfold w32
    omega
  refine v_Lng_numberOfTrailingZeros_0 d x σ K ⟨fun c => ?_, fun c => ?_⟩
  · have c := hw.mp c
    have hk : 32 ≤ k := by
      by_cases c2 : 32 ≤ k
      · exact c2
      · exfalso
        have e : 4294967296 = 2 ^ k * 2 ^ (32 - k) := by rw [← Nat.pow_add, show k + (32 - k) = 32 by omega]
        have hd : 4294967296 ∣ x := Nat.dvd_of_mod_eq_zero c
        rw [e, hu] at hd
        have hd := Nat.dvd_of_mul_dvd_mul_left hp hd
        have e2 : 2 ^ (32 - k) = 2 * 2 ^ (31 - k) := by rw [← Nat.pow_succ', show (31 - k).succ = 32 - k by omega]
        rw [e2] at hd
        obtain ⟨v, hv⟩ := hd
        rw [Nat.mul_assoc] at hv
        omega
    have u : a_lushr (x : Int) 32 = ((x / 2 ^ 32 : Nat) : Int) := a_lushr_n (x := x) (k := 32) (by omega) (by omega)
    have hdiv : x / 2 ^ 32 = 2 ^ (k - 32) * (2 * q + 1) := by
      have e : 2 ^ k = 2 ^ 32 * 2 ^ (k - 32) := by rw [← Nat.pow_add, show 32 + (k - 32) = k by omega]
      rw [hu, e, Nat.mul_assoc, Nat.mul_div_cancel_left _ (by decide)]
    have hlt : x / 2 ^ 32 < 256 := by omega
    rw [u]
    refine c_intz d (u := x / 2 ^ 32) (k := k - 32) (q := q) ?_ hdiv (by omega) (by omega) ⟨by omega, ?_⟩
    · rw [w32_mod, BitVec.toNat_ofInt]
      omega
    · exact kEq h (by omega) rfl
  · have c : ¬ x % 4294967296 = 0 := fun q => c (hw.mpr q)
    have hk : k < 32 := by
      by_cases c2 : k < 32
      · exact c2
      · exfalso
        apply c
        have e : 2 ^ k = 4294967296 * 2 ^ (k - 32) := by
          have : 2 ^ k = 2 ^ 32 * 2 ^ (k - 32) := by rw [← Nat.pow_add, show 32 + (k - 32) = k by omega]
          exact this
        rw [hu, e, Nat.mul_assoc]
        exact Nat.mul_mod_right _ _
    have hm : ∃ q', x % 4294967296 = 2 ^ k * (2 * q' + 1) := by
      have e : 4294967296 = 2 ^ k * (2 * 2 ^ (31 - k)) := by
        have : 4294967296 = 2 ^ k * 2 ^ (32 - k) := by rw [← Nat.pow_add, show k + (32 - k) = 32 by omega]
        rw [this, ← Nat.pow_succ', show (31 - k).succ = 32 - k by omega]
      refine ⟨q % 2 ^ (31 - k), ?_⟩
      rw [hu, e, Nat.mul_mod_mul_left]
      congr 1
      have hpp : 0 < 2 ^ (31 - k) := Nat.two_pow_pos _
      have ed := Nat.div_add_mod q (2 ^ (31 - k))
      have em := Nat.mod_lt q hpp
      have e3 : 2 * q + 1 = (2 * (q % 2 ^ (31 - k)) + 1) + 2 * 2 ^ (31 - k) * (q / 2 ^ (31 - k)) := by
        rw [Nat.mul_assoc]
        omega
      rw [e3, Nat.add_mul_mod_self_left, Nat.mod_eq_of_lt (by omega)]
    obtain ⟨q', hq'⟩ := hm
    refine c_intz d (u := x % 4294967296) (k := k) (q := q') ?_ hq' (by omega) hk h
    rw [w32_mod, BitVec.toNat_ofInt]
    omega
