/-! the calls in pairs: fix -/
theorem v_C_fix_0 (d : Nat) (β μ κ ρ : Nat → Nat) (me : Nat → Nat → Nat) (aH nH aL nL aY nY aS nS n : Nat) (p1 p2 p4 : Int) (σ : am_S) (K : Int → am_S → Prop) (hR : TR σ aH nH aL nL aY nY aS nS) (hB : BS σ β μ κ ρ me n) (h :
  ((p1 < 0 →
    K (-1001) σ) ∧
  (¬ (p1 < 0) →
    ((p1 < 6 →
      (((a_cmp (a_land (a_lor p2 p4) (a_lxor (w64 ((a_lshl 1 (sI σ 3 0)) - 1)) (-1))) 0) = 0 →
        (((a_cmp (a_land p2 p4) 0) = 0 →
          (((a_cmp p2 0) = 0 →
            K (-1001) σ) ∧
          (¬ ((a_cmp p2 0) = 0) →
            (0 ≤ p2 ∧ p2 < 1099511627776) ∧
            (0 ≤ p4 ∧ p4 < 1099511627776) ∧
            (((pc (Int.toNat p2)) = (pc (Int.toNat p4)) →
              0 ≤ p1 ∧
              K 1 (putI (putI σ 27 (Int.toNat p1) p2) 28 (Int.toNat p1) p4)) ∧
            (¬ ((pc (Int.toNat p2)) = (pc (Int.toNat p4))) →
              K (-1001) σ))))) ∧
        (¬ ((a_cmp (a_land p2 p4) 0) = 0) →
          K (-1001) σ))) ∧
      (¬ ((a_cmp (a_land (a_lor p2 p4) (a_lxor (w64 ((a_lshl 1 (sI σ 3 0)) - 1)) (-1))) 0) = 0) →
        K (-1001) σ))) ∧
    (¬ (p1 < 6) →
      K (-1001) σ))))) : am_Runs PP MLL (d + 1) m_C_fix 0 [some (qr (2, 11, 10)), some (qi p1), some (ql p2), none, some (ql p4), none, none, none] [] σ (kI K) := am_wEF_ok (orc [(9, 3, 9, 11), (45, 26, 1, 8), (46, 27, 21, 6), (51, 26, 1, 8), (52, 28, 21, 6)]) 200 (⟨fun c1 => (h.1 c1), fun c1 => ⟨fun c2 => ⟨⟨rfl, (hR.1 2 0 _ rfl)⟩, ⟨rfl, ⟨fun c3 => ⟨fun c4 => ⟨fun c5 => (((((h.2 c1).1 c2).1 c3).1 c4).1 c5), fun c5 => c_lbcI _ (((((h.2 c1).1 c2).1 c3).1 c4).2 c5).1.1 (((((h.2 c1).1 c2).1 c3).1 c4).2 c5).1.2 (c_lbcI _ (((((h.2 c1).1 c2).1 c3).1 c4).2 c5).2.1.1 (((((h.2 c1).1 c2).1 c3).1 c4).2 c5).2.1.2 (⟨fun c6 => ⟨⟨rfl, (hR.1 2 4 _ rfl)⟩, ⟨⟨rfl, (hR.1 26 0 _ rfl)⟩, ⟨⟨rfl, ((((((h.2 c1).1 c2).1 c3).1 c4).2 c5).2.2.1 c6).1, c2⟩, ⟨⟨rfl, (hR.1 2 4 _ rfl)⟩, ⟨⟨rfl, (hR.1 26 1 _ rfl)⟩, ⟨⟨rfl, ((((((h.2 c1).1 c2).1 c3).1 c4).2 c5).2.2.1 c6).1, c2⟩, ((((((h.2 c1).1 c2).1 c3).1 c4).2 c5).2.2.1 c6).2⟩⟩⟩⟩⟩⟩, fun c6 => ((((((h.2 c1).1 c2).1 c3).1 c4).2 c5).2.2.2 c6)⟩))⟩, fun c4 => ((((h.2 c1).1 c2).1 c3).2 c4)⟩, fun c3 => (((h.2 c1).1 c2).2 c3)⟩⟩⟩, fun c2 => ((h.2 c1).2 c2)⟩⟩)

theorem v_M_fix_0 (d : Nat) (p1 p2 p4 : Int) (σ : am_S) (K : Int → am_S → Prop) (hF : MF σ) (hT : sI σ 31 26 = 0) (h :
  ((p1 < 0 →
    K (-1001) σ) ∧
  (¬ (p1 < 0) →
    ((5 < p1 →
      K (-1001) σ) ∧
    (¬ (5 < p1) →
      (((a_cmp (a_lshr p2 (sI σ 31 2)) 0) = 0 →
        (((a_cmp (a_lshr p4 (sI σ 31 2)) 0) = 0 →
          (((a_cmp (a_land p2 p4) 0) = 0 →
            (((a_cmp p2 0) = 0 →
              K (-1001) σ) ∧
            (¬ ((a_cmp p2 0) = 0) →
              am_Calls PP MLL (d + 1) m_M_bitsIn [qr (31, 12, 89), ql p2] σ (kI fun x7 s7 =>
                (MF s7 ∧ sI s7 31 26 = 0) ∧
                am_Calls PP MLL (d + 1) m_M_bitsIn [qr (31, 12, 89), ql p4] s7 (kI fun x8 s8 =>
                  (MF s8 ∧ sI s8 31 26 = 0) ∧
                  ((x7 = x8 →
                    (0 ≤ p1 ∧ p1 < 6) ∧
                    K 1 (putI (putI s8 83 (Int.toNat p1) p2) 84 (Int.toNat p1) p4)) ∧
                  (¬ (x7 = x8) →
                    K (-1001) s8))))))) ∧
          (¬ ((a_cmp (a_land p2 p4) 0) = 0) →
            K (-1001) σ))) ∧
        (¬ ((a_cmp (a_lshr p4 (sI σ 31 2)) 0) = 0) →
          K (-1001) σ))) ∧
      (¬ ((a_cmp (a_lshr p2 (sI σ 31 2)) 0) = 0) →
        K (-1001) σ))))))) : am_Runs PP MLL (d + 1) m_M_fix 0 [some (qr (31, 12, 89)), some (qi p1), some (ql p2), none, some (ql p4), none] [] σ (kI K) := am_wEF_ok (orc [(41, 83, 21, 6), (46, 84, 21, 6)]) 200 (am_wEF_ok (orc []) 200 (⟨fun c1 => ⟨(Or.inl rfl), ⟨fun _ => (h.1 c1), fun c => absurd (by decide : (0 : Int) = 0) c⟩⟩, fun c1 => ⟨fun c2 => ⟨(Or.inl rfl), ⟨fun _ => ((h.2 c1).1 c2), fun c => absurd (by decide : (0 : Int) = 0) c⟩⟩, fun c2 => ⟨(Or.inr rfl), ⟨fun c => absurd c (by decide : ¬ ((1 : Int) = 0)), fun _ => ⟨rfl, ⟨fun c3 => ⟨rfl, ⟨fun c4 => ⟨fun c5 => ⟨fun c6 => ((((((h.2 c1).2 c2).1 c3).1 c4).1 c5).1 c6), fun c6 => ⟨rfl, (am_cI ((((((h.2 c1).2 c2).1 c3).1 c4).1 c5).2 c6) fun x7 s7 h7 => ⟨rfl, (am_cI h7.2 fun x8 s8 h8 => ⟨fun c9 => ⟨⟨rfl, (h8.1.1 81)⟩, ⟨⟨rfl, (h8.2.1 c9).1.1, (h8.2.1 c9).1.2⟩, ⟨⟨rfl, (h8.1.1 82)⟩, ⟨⟨rfl, (h8.2.1 c9).1.1, (h8.2.1 c9).1.2⟩, (h8.2.1 c9).2⟩⟩⟩⟩, fun c9 => (h8.2.2 c9)⟩)⟩)⟩⟩, fun c5 => (((((h.2 c1).2 c2).1 c3).1 c4).2 c5)⟩, fun c4 => ((((h.2 c1).2 c2).1 c3).2 c4)⟩⟩, fun c3 => (((h.2 c1).2 c2).2 c3)⟩⟩⟩⟩⟩⟩))

theorem i64_in {p : Int} (h1 : -9223372036854775808 ≤ p) (h2 : p < 9223372036854775808) : (BitVec.ofInt 64 p).toInt = p := by
  rw [BitVec.toInt_ofInt]
  exact Int.bmod_eq_of_le (by omega) (by omega)
theorem bv_pos {x : BitVec 64} {N : Nat} (hN : N ≤ 40) (h : ∀ i, N ≤ i → i < 64 → x.getLsbD i = false) : 0 ≤ x.toInt ∧ x.toInt < 2 ^ N := by
  have hx : x.toNat < 2 ^ N := by
    refine Nat.lt_pow_two_of_testBit _ (fun i hi => ?_)
    rw [BitVec.testBit_toNat]
    by_cases h64 : i < 64
    · exact h i hi h64
    · exact BitVec.getLsbD_of_ge x i (by omega)
  have hp : (2 : Nat) ^ N ≤ 2 ^ 40 := Nat.pow_le_pow_right (by decide) hN
  have h40 : (2 : Nat) ^ 40 = 1099511627776 := by decide
  rw [BitVec.toInt_eq_toNat_of_lt (by omega)]
  have e : ((2 ^ N : Nat) : Int) = 2 ^ N := by push_cast; rfl
  omega
theorem bv_small {p : Int} {N : Nat} (h0 : 0 ≤ p) (h1 : p < 2 ^ N) (hN : N ≤ 40) : ∀ i, N ≤ i → (BitVec.ofInt 64 p).getLsbD i = false := by
  intro i hi
  obtain ⟨k, ek⟩ : ∃ k : Nat, p = k := ⟨p.toNat, by omega⟩
  have e : ((2 ^ N : Nat) : Int) = 2 ^ N := by push_cast; rfl
  have hk : k < 2 ^ N := by omega
  rw [ek, BitVec.ofInt_natCast, ← BitVec.testBit_toNat, BitVec.toNat_ofNat]
  have hp : (2 : Nat) ^ N ≤ 2 ^ 40 := Nat.pow_le_pow_right (by decide) hN
  have h40 : (2 : Nat) ^ 40 = 1099511627776 := by decide
  rw [Nat.mod_eq_of_lt (by omega)]
  exact Nat.testBit_lt_two_pow (Nat.lt_of_lt_of_le hk (Nat.pow_le_pow_right (by decide) hi))
theorem bv_mask {N : Nat} (hN : N ≤ 40) (i : Nat) : (BitVec.ofNat 64 (2 ^ N - 1)).getLsbD i = decide (i < N) := by
  have hp : (2 : Nat) ^ N ≤ 2 ^ 40 := Nat.pow_le_pow_right (by decide) hN
  have h40 : (2 : Nat) ^ 40 = 1099511627776 := by decide
  rw [← BitVec.testBit_toNat, BitVec.toNat_ofNat, Nat.mod_eq_of_lt (by omega), Nat.testBit_two_pow_sub_one]
theorem fix_bits {p q : Int} {N : Nat} (hN : N ≤ 40) (p1 : -9223372036854775808 ≤ p) (p2 : p < 9223372036854775808) (q1 : -9223372036854775808 ≤ q) (q2 : q < 9223372036854775808) : a_land (a_lor p q) (a_lxor (w64 ((a_lshl 1 (N : Int)) - 1)) (-1)) = 0 ↔ (0 ≤ p ∧ p < 2 ^ N) ∧ (0 ≤ q ∧ q < 2 ^ N) := by
  have hp : (2 : Nat) ^ N ≤ 2 ^ 40 := Nat.pow_le_pow_right (by decide) hN
  have h40 : (2 : Nat) ^ 40 = 1099511627776 := by decide
  have h0 : 0 < (2 : Nat) ^ N := Nat.two_pow_pos N
  have eM : w64 ((a_lshl 1 (N : Int)) - 1) = ((2 ^ N - 1 : Nat) : Int) := by
    have := @a_lshl_n 1 N (by omega) (by rw [Nat.one_mul]; omega)
    rw [Nat.one_mul] at this
    rw [show ((1 : Int)) = ((1 : Nat) : Int) from rfl, this, w64_id (by omega) (by omega)]
    omega
  rw [eM]
  unfold a_land a_lor a_lxor
  rw [Int64.ofInt_toInt, Int64.ofInt_toInt]
  show BitVec.toInt ((BitVec.ofInt 64 p ||| BitVec.ofInt 64 q) &&& (BitVec.ofInt 64 ((2 ^ N - 1 : Nat) : Int) ^^^ BitVec.ofInt 64 (-1))) = 0 ↔ _
  rw [BitVec.ofInt_natCast, show BitVec.ofInt 64 (-1) = BitVec.allOnes 64 by decide]
  constructor
  · intro h
    have hz : (BitVec.ofInt 64 p ||| BitVec.ofInt 64 q) &&& (BitVec.ofNat 64 (2 ^ N - 1) ^^^ BitVec.allOnes 64) = 0#64 := BitVec.eq_of_toInt_eq (by rw [h]; decide)
    have bits : ∀ i, N ≤ i → i < 64 → (BitVec.ofInt 64 p).getLsbD i = false ∧ (BitVec.ofInt 64 q).getLsbD i = false := by
      intro i hi h64
      have := congrArg (fun z => z.getLsbD i) hz
      simp only [BitVec.getLsbD_and, BitVec.getLsbD_or, BitVec.getLsbD_xor, BitVec.getLsbD_allOnes, BitVec.getLsbD_zero] at this
      rw [bv_mask hN, decide_eq_false (by omega), decide_eq_true h64] at this
      cases hx : (BitVec.ofInt 64 p).getLsbD i <;> cases hy : (BitVec.ofInt 64 q).getLsbD i <;> rw [hx, hy] at this <;> first | exact ⟨rfl, rfl⟩ | exact absurd this (by decide)
    have r1 := bv_pos hN (fun i hi h6 => (bits i hi h6).1)
    have r2 := bv_pos hN (fun i hi h6 => (bits i hi h6).2)
    rw [i64_in p1 p2] at r1
    rw [i64_in q1 q2] at r2
    exact ⟨r1, r2⟩
  · rintro ⟨⟨u1, u2⟩, u3, u4⟩
    have hz : (BitVec.ofInt 64 p ||| BitVec.ofInt 64 q) &&& (BitVec.ofNat 64 (2 ^ N - 1) ^^^ BitVec.allOnes 64) = 0#64 := by
      refine BitVec.eq_of_getLsbD_eq (fun i hi => ?_)
      simp only [BitVec.getLsbD_and, BitVec.getLsbD_or, BitVec.getLsbD_xor, BitVec.getLsbD_allOnes, BitVec.getLsbD_zero]
      rw [bv_mask hN, decide_eq_true hi]
      by_cases e : i < N
      · rw [decide_eq_true e]
        simp
      · rw [bv_small u1 u2 hN i (by omega), bv_small u3 u4 hN i (by omega)]
        rfl
    rw [hz]
    decide
theorem shr_bits {p : Int} {N : Nat} (hN : N ≤ 40) (p1 : -9223372036854775808 ≤ p) (p2 : p < 9223372036854775808) : a_lshr p (N : Int) = 0 ↔ 0 ≤ p ∧ p < 2 ^ N := by
  unfold a_lshr
  have h63 : ((Int32.ofInt (N : Int)).toInt64 &&& 63).toBitVec.smod 64 = BitVec.ofNat 64 N := by
    rw [Int64.toBitVec_and, Int32.toBitVec_toInt64, i32_bv]; exact and63 N (by omega)
  show BitVec.toInt (Int64.toBitVec (Int64.ofInt p >>> ((Int32.ofInt (N : Int)).toInt64 &&& 63))) = 0 ↔ _
  rw [Int64.toBitVec_shiftRight, h63, BitVec.sshiftRight'_ofNat_eq_sshiftRight, Nat.mod_eq_of_lt (show N < 2 ^ 64 by omega), BitVec.toInt_sshiftRight]
  show (BitVec.ofInt 64 p).toInt >>> N = 0 ↔ _
  rw [i64_in p1 p2, Int.shiftRight_eq_div_pow]
  have e : ((2 ^ N : Nat) : Int) = 2 ^ N := by push_cast; rfl
  have h0 : 0 < (2 : Nat) ^ N := Nat.two_pow_pos N
  constructor
  · intro h
    have a := Int.emod_def p ((2 ^ N : Nat) : Int)
    have b := Int.emod_nonneg p (show ((2 ^ N : Nat) : Int) ≠ 0 by omega)
    have c := Int.emod_lt_of_pos p (show 0 < ((2 ^ N : Nat) : Int) by omega)
    rw [h, Int.mul_zero] at a
    omega
  · rintro ⟨u1, u2⟩
    exact Int.ediv_eq_zero_of_lt u1 (by omega)
theorem pc_N {x N : Nat} (hN : N ≤ 40) (hx : x < 2 ^ N) : sm (bt x) N = pc x := by
  unfold pc
  refine (sm_ge N 40 hN (fun q hq => ?_)).symm
  unfold bt
  rw [Nat.div_eq_of_lt (Nat.lt_of_lt_of_le hx (Nat.pow_le_pow_right (by decide) hq))]
  rfl
theorem p_fix (d : Nat) {xs : Nat → Int} {c : Nat} {σ : am_S} {p1 p2 p4 : Int} (hI : INV xs σ c) (hc : c + 1 ≤ 600) (r1 : -9223372036854775808 ≤ p2) (r2 : p2 < 9223372036854775808) (r3 : -9223372036854775808 ≤ p4) (r4 : p4 < 9223372036854775808) : PR d xs m_C_fix m_M_fix [qi p1, ql p2, ql p4] σ c := by
  have hs := INV_s hI hc
  obtain ⟨own, β, μ, κ, ρ, me, n, aH, nH, aL, nL, aY, nY, aS, nS, N, l, m, T, W, kd, aR, nR, aV, nV, aI, nI, aQ, nQ, g, w, hx⟩ := hI
  have hx0 := hx
  obtain ⟨⟨hF, hab, hxs⟩, it, il, ib, im, ij, sc, rz, is, ir, hc6⟩ := hx
  have it0 := it
  obtain ⟨hR, ow, ti, kt, ks, ⟨w1, w2, w3, w4, w5, w6, w7, w8⟩, ⟨l1, l2, l3, l4⟩, lz, ⟨q1, q2, q3, q4⟩, h87⟩ := it
  have o1 := ow.1
  have ib0 := ib
  obtain ⟨a1, a2, a3, ⟨n12, a4, a5⟩, bd, a6, a7, a8, a9, a10⟩ := ib
  obtain ⟨m1, ⟨m2, T26⟩, m3, m4, m5, m6⟩ := im
  have tN := ti.2.2.2.2.1
  have tT := ti.2.2.2.2.2.2.1
  have T4 := ti.2.2.2.2.2.2.2.2.1
  have im0 := (⟨m1, ⟨m2, T26⟩, m3, m4, m5, m6⟩ : IM σ c)
  have n40 := ti.1
  have hp : (2 : Nat) ^ N ≤ 2 ^ 40 := Nat.pow_le_pow_right (by decide) n40
  have h40 : (2 : Nat) ^ 40 = 1099511627776 := by decide
  have eN : ((2 ^ N : Nat) : Int) = 2 ^ N := by push_cast; rfl
  have bad : ∀ x : Int, x = -1001 → (p1 < 0 ∨ 5 < p1 ∨ ¬ ((0 ≤ p2 ∧ p2 < 2 ^ N) ∧ (0 ≤ p4 ∧ p4 < 2 ^ N)) ∨ a_land p2 p4 ≠ 0 ∨ p2 = 0 ∨ pc p2.toNat ≠ pc p4.toNat) → am_Calls PP MLL (d + 30) m_M_fix [qr (31, 12, 89), qi p1, ql p2, ql p4] σ (kI fun y t => x = y ∧ INV xs t (c + 1)) := by
    intro xx exx hb
    refine v_M_fix_0 (d + 28) p1 p2 p4 σ _ hF T26 ?_
    rw [tN]
    simp only [cmp0]
    refine ⟨fun _ => ⟨exx, hs⟩, fun c1 => ⟨fun _ => ⟨exx, hs⟩, fun c2 => ⟨fun c3 => ⟨fun c4 => ⟨fun c5 => ⟨fun _ => ⟨exx, hs⟩, fun c6 => ?_⟩, fun _ => ⟨exx, hs⟩⟩, fun _ => ⟨exx, hs⟩⟩, fun _ => ⟨exx, hs⟩⟩⟩⟩
    have u2 := (shr_bits n40 r1 r2).1 c3
    have u4 := (shr_bits n40 r3 r4).1 c4
    obtain ⟨x, ex⟩ : ∃ x : Nat, p2 = x := ⟨p2.toNat, by omega⟩
    obtain ⟨y, ey⟩ : ∃ y : Nat, p4 = y := ⟨p4.toNat, by omega⟩
    subst ex
    subst ey
    refine c_M_bitsIn (d + 28) hF (by omega) tN n40 ⟨⟨hF, T26⟩, c_M_bitsIn (d + 28) hF (by omega) tN n40 ⟨⟨hF, T26⟩, fun q => ?_, fun _ => ⟨exx, hs⟩⟩⟩
    rw [pc_N n40 (by omega), pc_N n40 (by omega)] at q
    rw [Int.toNat_natCast, Int.toNat_natCast] at hb
    rcases hb with h | h | h | h | h | h
    · exact absurd h c1
    · exact absurd h c2
    · exact absurd ⟨u2, u4⟩ h
    · exact absurd c5 h
    · exact absurd h c6
    · exact absurd q h
  refine v_C_fix_0 (d + 28) β μ κ ρ me aH nH aL nL aY nY aS nS n p1 p2 p4 σ _ hR a1 ?_
  rw [w2]
  simp only [cmp0]
  refine ⟨fun c1 => ⟨hxs, bad _ rfl (Or.inl c1)⟩, fun c1 => ⟨fun c2 => ⟨fun c3 => ⟨fun c4 => ⟨fun c5 => ⟨hxs, bad _ rfl (Or.inr (Or.inr (Or.inr (Or.inr (Or.inl c5)))))⟩, fun c5 => ?_⟩, fun c4 => ⟨hxs, bad _ rfl (Or.inr (Or.inr (Or.inr (Or.inl c4))))⟩⟩, fun c3 => ⟨hxs, bad _ rfl (Or.inr (Or.inr (Or.inl (fun q => c3 ((fix_bits n40 r1 r2 r3 r4).2 q)))))⟩⟩, fun c2 => ⟨hxs, bad _ rfl (Or.inr (Or.inl (by omega)))⟩⟩⟩
  have u := (fix_bits n40 r1 r2 r3 r4).1 c3
  refine ⟨by omega, by omega, fun c6 => ⟨by omega, ?_⟩, fun c6 => ⟨hxs, bad _ rfl (Or.inr (Or.inr (Or.inr (Or.inr (Or.inr c6)))))⟩⟩
  refine ⟨by rw [put_ne (by decide), put_ne (by decide)]; exact hxs, ?_⟩
  have e31 : sI (putI (putI σ 27 p1.toNat p2) 28 p1.toNat p4) 31 = sI σ 31 := by rw [put_ne (by decide), put_ne (by decide)]
  have hF' : MF (putI (putI σ 27 p1.toNat p2) 28 p1.toNat p4) := MF_I hF rfl
  have T26' : sI (putI (putI σ 27 p1.toNat p2) 28 p1.toNat p4) 31 26 = 0 := by rw [e31]; exact T26
  refine v_M_fix_0 (d + 28) p1 p2 p4 _ _ hF' T26' ?_
  rw [e31, tN]
  simp only [cmp0]
  refine ⟨fun q => absurd q c1, fun _ => ⟨fun q => by omega, fun _ => ⟨fun _ => ⟨fun _ => ⟨fun _ => ⟨fun q => absurd q c5, fun _ => ?_⟩, fun q => absurd c4 q⟩, fun q => absurd ((shr_bits n40 r3 r4).2 u.2) q⟩, fun q => absurd ((shr_bits n40 r1 r2).2 u.1) q⟩⟩⟩
  obtain ⟨x, ex⟩ : ∃ x : Nat, p2 = x := ⟨p2.toNat, by omega⟩
  obtain ⟨y, ey⟩ : ∃ y : Nat, p4 = y := ⟨p4.toNat, by omega⟩
  obtain ⟨k, ek⟩ : ∃ k : Nat, p1 = k := ⟨p1.toNat, by omega⟩
  subst ex
  subst ey
  subst ek
  rw [Int.toNat_natCast, Int.toNat_natCast] at c6
  rw [Int.toNat_natCast] at hF' T26' e31 ⊢
  have tN' : sI (putI (putI σ 27 k (x : Int)) 28 k (y : Int)) 31 2 = N := by rw [e31]; exact tN
  refine c_M_bitsIn (d + 28) hF' (by omega) tN' n40 ⟨⟨hF', T26'⟩, c_M_bitsIn (d + 28) hF' (by omega) tN' n40 ⟨⟨hF', T26'⟩, fun _ => ⟨by omega, trivial, ?_⟩, fun q => absurd (by rw [pc_N n40 (by omega), pc_N n40 (by omega)]; exact c6) q⟩⟩
  obtain ⟨Z, eZ⟩ : ∃ Z, Z = putI (putI (putI (putI σ 27 k (x : Int)) 28 k (y : Int)) 83 k (x : Int)) 84 k (y : Int) := ⟨_, rfl⟩
  rw [← eZ]
  have Z2 : Z.2 = σ.2 := by rw [eZ]; rfl
  have Zo : ∀ x, x ≠ 27 → x ≠ 28 → x ≠ 83 → x ≠ 84 → sI Z x = sI σ x := fun x h1 h2 h3 h4 => by rw [eZ, put_ne h4, put_ne h3, put_ne h2, put_ne h1]
  have Zf : ∀ x, own x ≠ 27 → own x ≠ 28 → own x ≠ 83 → own x ≠ 84 → sI Z x = sI σ x := fun x r1 r2 r3 r4 => Zo x (fun e => by rw [e, o1 27 (by decide)] at r1; omega) (fun e => by rw [e, o1 28 (by decide)] at r2; omega) (fun e => by rw [e, o1 83 (by decide)] at r3; omega) (fun e => by rw [e, o1 84 (by decide)] at r4; omega)
  have z27 : ∀ j, sI Z 27 j = if j = k then (x : Int) else sI σ 27 j := fun j => by rw [eZ, put_ne (by decide), put_ne (by decide), put_ne (by decide), put_at]
  have z28 : ∀ j, sI Z 28 j = if j = k then (y : Int) else sI σ 28 j := fun j => by rw [eZ, put_ne (by decide), put_ne (by decide), put_at, put_ne (by decide)]
  have z83 : ∀ j, sI Z 83 j = if j = k then (x : Int) else sI σ 83 j := fun j => by rw [eZ, put_ne (by decide), put_at, put_ne (by decide), put_ne (by decide)]
  have z84 : ∀ j, sI Z 84 j = if j = k then (y : Int) else sI σ 84 j := fun j => by rw [eZ, put_at, put_ne (by decide), put_ne (by decide), put_ne (by decide)]
  have z31 := Zo 31 (by decide) (by decide) (by decide) (by decide)
  refine INV_mk hx0 hc ⟨Z2, fun x' _ hr => Zf x' (by omega) (by omega) (by omega) (by omega), fun x' g' _ hr => by rw [Zf x' (by omega) (by omega) (by omega) (by omega)]; exact ⟨rfl, rfl⟩, by rw [Zo 10 (by decide) (by decide) (by decide) (by decide)], fun j _ => by rw [z31], by rw [z31]; exact Int.le_refl _, fun b _ => by rw [Zo 41 (by decide) (by decide) (by decide) (by decide), Zo 47 (by decide) (by decide) (by decide) (by decide)]; exact ⟨rfl, rfl⟩, fun i _ => by rw [Zo 46 (by decide) (by decide) (by decide) (by decide)]⟩ (IB_K Z2 (fun x' _ hr => Zf x' (by omega) (by omega) (by omega) (by omega)) (fun x' x1 x2 => Zo x' (by omega) (by omega) (by omega) (by omega)) (by rw [Zo 2 (by decide) (by decide) (by decide) (by decide)]) (by rw [z31]) ib0) (IM_K (Zo 10 (by decide) (by decide) (by decide) (by decide)) (Zo 11 (by decide) (by decide) (by decide) (by decide)) (Zo 48 (by decide) (by decide) (by decide) (by decide)) (fun j _ => by rw [Zo 2 (by decide) (by decide) (by decide) (by decide)]) (fun j _ => by rw [z31]) im0) ?_
  obtain ⟨r1', r2', r3'⟩ := R2 Z2
  obtain ⟨j1, j2, j3, j4, j5, j6, j7, j8, j9, j10, j11, j12, j13, j14, j15⟩ := ij
  refine ⟨by rw [r1']; exact j1, by rw [r1']; exact j2, j3, j4, by omega, by omega, j7, j8, by rw [Zf aV (by omega) (by omega) (by omega) (by omega)]; exact j9, by rw [Zo 85 (by decide) (by decide) (by decide) (by decide)]; exact j10, fun i hi => ?_, fun i => ?_, fun i q => ?_, by rw [Zo 26 (by decide) (by decide) (by decide) (by decide), z31]; exact j14, by rw [Zo 26 (by decide) (by decide) (by decide) (by decide), z31]; exact j15⟩
  · rw [z27, z28, z83, z84]
    by_cases e : i = k
    · rw [if_pos e, if_pos e, if_pos e, if_pos e]; exact ⟨rfl, rfl⟩
    · rw [if_neg e, if_neg e, if_neg e, if_neg e]; exact j11 i hi
  · rw [z83, z84]
    by_cases e : i = k
    · rw [if_pos e, if_pos e]; omega
    · rw [if_neg e, if_neg e]; exact j12 i
  · rw [z83, z84]
    by_cases e : i = k
    · rw [if_pos e, if_pos e, Int.toNat_natCast, Int.toNat_natCast, ← bt_and]
      rw [a_land_n (by omega) (by omega)] at c4
      rw [show x &&& y = 0 by omega]
      exact bt_0 q
    · rw [if_neg e, if_neg e]; exact j13 i q
