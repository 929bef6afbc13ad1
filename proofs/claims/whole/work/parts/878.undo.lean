/-! the calls in pairs: undo -/
theorem v_C_undo_0 (d : Nat) (β μ κ ρ : Nat → Nat) (me : Nat → Nat → Nat) (aH nH aL nL aY nY aS nS n : Nat) (σ : am_S) (K : Int → am_S → Prop) (hR : TR σ aH nH aL nL aY nY aS nS) (hB : BS σ β μ κ ρ me n) (h :
  (((sI σ 3 3) = 0 →
    K (-1002) σ) ∧
  (¬ ((sI σ 3 3) = 0) →
    am_Calls PP MLL (d + 1) m_Truths_goBack [qr (3, 9, 11)] σ (kV fun s2 =>
      (TR s2 aH nH aL nL aY nY aS nS ∧ BS s2 β μ κ ρ me n) ∧
      K (sI s2 3 2) (putI (putR s2 12 6 none) 12 13 0))))) : am_Runs PP MLL (d + 1) m_C_undo 0 [some (qr (2, 11, 10))] [] σ (kI K) := am_wEF_ok (orc [(1, 3, 9, 11), (7, 3, 9, 11), (10, 12, 5, 18), (13, 3, 9, 11)]) 200 (⟨⟨rfl, (hR.1 2 0 _ rfl)⟩, ⟨rfl, ⟨fun c1 => (h.1 c1), fun c1 => ⟨⟨rfl, (hR.1 2 0 _ rfl)⟩, ⟨rfl, (am_cV (h.2 c1) fun s2 h2 => ⟨⟨rfl, (h2.1.1.1 2 3 _ rfl)⟩, ⟨rfl, am_wEF_ok (orc []) 200 (⟨rfl, ⟨⟨rfl, (Or.inl rfl)⟩, ⟨⟨rfl, (h2.1.1.1 2 0 _ rfl)⟩, ⟨rfl, h2.2⟩⟩⟩⟩)⟩⟩)⟩⟩⟩⟩⟩)

theorem v_M_undoT_0 (d : Nat) (σ : am_S) (K : Int → am_S → Prop) (hF : MF σ) (hT : sI σ 31 26 = 0) (h :
  (((sI σ 31 13) = 0 →
    K (-1002) σ) ∧
  (¬ ((sI σ 31 13) = 0) →
    (-2147483648 ≤ (sI σ 31 13) - 1 ∧ (sI σ 31 13) - 1 < 2147483648) ∧
    am_Runs PP MLL (d + 2) m_M_undo 13 [some (qr (31, 12, 89)), some (qi 0)] [] (putI σ 31 13 ((sI σ 31 13) - 1)) (kI K)))) : am_Runs PP MLL (d + 2) m_M_undo 0 [some (qr (31, 12, 89)), none] [] σ (kI K) := am_wEF_ok (orc []) 200 (⟨rfl, ⟨fun c1 => (h.1 c1), fun c1 => ⟨rfl, ⟨⟨(h.2 c1).1.1, (h.2 c1).1.2⟩, ⟨rfl, (h.2 c1).2⟩⟩⟩⟩⟩)

theorem lf_bd (g : Nat → Int) (T : Nat) : 0 ≤ lf g T ∧ lf g T ≤ T := sm_le1 (fun t => if g t < 0 then 1 else 0) (fun t => by show 0 ≤ (if g t < 0 then (1 : Int) else 0) ∧ (if g t < 0 then (1 : Int) else 0) ≤ 1; split <;> omega) T
/-- a bit taken away -/
theorem clr_and {y k : Nat} (hy : y < 2147483648) (hk : k < 31) : ∃ z : Nat, a_and (y : Int) (a_xor ((2 ^ k : Nat) : Int) (-1)) = z ∧ z < 2147483648 ∧ ∀ c, bt z c = if c = k then 0 else bt y c := by
  have hp : (2 : Nat) ^ k < 2 ^ 31 := Nat.pow_lt_pow_right (by decide) hk
  have h31 : (2 : Nat) ^ 31 = 2147483648 := by decide
  have h32 : (2 : Nat) ^ 32 = 4294967296 := by decide
  obtain ⟨M, eM⟩ : ∃ M : Nat, M = 2 ^ 32 - 1 := ⟨_, rfl⟩
  have hM : M = 4294967295 := by rw [eM]
  have key : (Int32.ofInt (y : Int) &&& Int32.ofInt (a_xor ((2 ^ k : Nat) : Int) (-1))).toBitVec.toNat = y &&& (2 ^ k ^^^ M) := by
    unfold a_xor
    rw [Int32.ofInt_toInt, Int32.toBitVec_and, Int32.toBitVec_xor, i32_bv, i32_bv]
    show ((BitVec.ofNat 32 y) &&& ((BitVec.ofNat 32 (2 ^ k)) ^^^ (BitVec.ofInt 32 (-1)))).toNat = _
    rw [show BitVec.ofInt 32 (-1) = BitVec.ofNat 32 (2 ^ 32 - 1) by decide, BitVec.toNat_and, BitVec.toNat_xor, BitVec.toNat_ofNat, BitVec.toNat_ofNat, BitVec.toNat_ofNat, ← eM, Nat.mod_eq_of_lt (by omega), Nat.mod_eq_of_lt (by omega), Nat.mod_eq_of_lt (by omega)]
  have lt : y &&& (2 ^ k ^^^ M) < 2147483648 := Nat.lt_of_le_of_lt Nat.and_le_left hy
  refine ⟨y &&& (2 ^ k ^^^ M), ?_, lt, fun c => ?_⟩
  · unfold a_and
    exact i32_toI key lt
  · rw [bt_and, bt_xor, bt_pow]
    have hb := bt_01 y c
    by_cases hc : c < 32
    · have e1 : bt M c = 1 := by
        rw [bt_tb, eM, Nat.testBit_two_pow_sub_one, decide_eq_true hc]
        rfl
      rw [e1]
      split
      · omega
      · show bt y c * 1 = bt y c
        exact Int.mul_one _
    · have e0 : bt y c = 0 := by
        rw [bt_tb, Nat.testBit_lt_two_pow (Nat.lt_of_lt_of_le (show y < 2 ^ 31 by omega) (Nat.pow_le_pow_right (by decide) (by omega)))]
        rfl
      rw [e0, Int.zero_mul]
      split <;> rfl
theorem clr_xor {y k : Nat} (hy : y < 2147483648) (hk : k < 31) (h1 : bt y k = 1) : ∃ z : Nat, a_xor (y : Int) ((2 ^ k : Nat) : Int) = z ∧ ∀ c, bt z c = if c = k then 0 else bt y c := by
  have hp : (2 : Nat) ^ k < 2 ^ 31 := Nat.pow_lt_pow_right (by decide) hk
  have h31 : (2 : Nat) ^ 31 = 2147483648 := by decide
  refine ⟨y ^^^ 2 ^ k, a_xor_n hy (by omega), fun c => ?_⟩
  rw [bt_xor, bt_pow]
  split
  · rename_i e
    rw [e, h1]
    decide
  · omega
theorem clr_lt {y z k : Nat} (hy : y < 2 ^ (k + 1)) (h : ∀ c, bt z c = if c = k then 0 else bt y c) : z < 2 ^ k := by
  refine Nat.lt_pow_two_of_testBit _ (fun i hi => ?_)
  have := h i
  rw [bt_tb] at this
  cases e : z.testBit i
  · rfl
  · rw [e] at this
    by_cases q : i = k
    · rw [if_pos q] at this
      exact absurd this (by decide)
    · rw [if_neg q, bt_tb, Nat.testBit_lt_two_pow (Nat.lt_of_lt_of_le hy (Nat.pow_le_pow_right (by decide) (by omega)))] at this
      exact absurd this (by decide)
theorem clr_pc {y z k : Nat} (hk : k < 40) (h : ∀ c, bt z c = if c = k then 0 else bt y c) : pc z = pc y - bt y k := by
  unfold pc
  have : sm (bt z) 40 = sm (fun c => bt y c - (if c = k then bt y k else 0)) 40 := sm_congr 40 (fun c _ => by
    rw [h c]
    split
    · rename_i e
      rw [e]
      omega
    · omega)
  rw [this, sm_sub (bt y) (fun c => if c = k then bt y k else 0) 40, sm_one, if_pos hk]
/-- one truth, a weighing taken back -/
theorem undo_1 {y W : Nat} {v : Int} (hW : 1 ≤ W ∧ W ≤ 30) (hy : y < 2 ^ W) (hp : pc y = v) : ∃ z : Nat, a_and (y : Int) (a_xor (a_shl 1 ((W : Int) - 1)) (-1)) = z ∧ (if a_and (a_shr (y : Int) ((W : Int) - 1)) 1 = 1 then a_xor (y : Int) (a_shl 1 ((W : Int) - 1)) else (y : Int)) = z ∧ z < 2 ^ (W - 1) ∧ pc z = (if a_and (a_shr (y : Int) ((W : Int) - 1)) 1 = 1 then v - 1 else v) := by
  obtain ⟨k, ek⟩ : ∃ k, W = k + 1 := ⟨W - 1, by omega⟩
  subst ek
  have e1 : ((k + 1 : Nat) : Int) - 1 = (k : Int) := by omega
  have hp30 : (2 : Nat) ^ (k + 1) ≤ 2 ^ 30 := Nat.pow_le_pow_right (by decide) hW.2
  have h30 : (2 : Nat) ^ 30 = 1073741824 := by decide
  have hk2 : (2 : Nat) ^ k ≤ 2 ^ 30 := Nat.pow_le_pow_right (by decide) (by omega)
  have es : a_shl 1 (k : Int) = ((2 ^ k : Nat) : Int) := by
    have := @a_shl_n 1 k (by omega) (by rw [Nat.one_mul]; omega)
    rw [Nat.one_mul] at this
    exact this
  have eb : a_and (a_shr (y : Int) (k : Int)) 1 = bt y k := by
    have l : y / 2 ^ k < 2147483648 := Nat.lt_of_le_of_lt (Nat.div_le_self _ _) (by omega)
    rw [a_shr_n (by omega) (by omega), show (1 : Int) = ((1 : Nat) : Int) from rfl, a_and_n l (by decide), Nat.and_one_is_mod]
    rfl
  rw [e1, es, eb]
  obtain ⟨z, z1, z2, z3⟩ := clr_and (y := y) (k := k) (by omega) (by omega)
  refine ⟨z, z1, ?_, by rw [Nat.add_sub_cancel]; exact clr_lt hy z3, ?_⟩
  · by_cases q : bt y k = 1
    · rw [if_pos q]
      obtain ⟨z', a, b⟩ := clr_xor (y := y) (k := k) (by omega) (by omega) q
      rw [a]
      have : z' = z := bt_ext (fun c => by rw [b, z3])
      rw [this]
    · rw [if_neg q]
      have q0 : bt y k = 0 := by have := bt_01 y k; omega
      have : y = z := bt_ext (fun c => by
        rw [z3]
        split
        · rename_i e
          rw [e, q0]
        · rfl)
      rw [← this]
  · rw [clr_pc (by omega) z3, hp]
    by_cases q : bt y k = 1
    · rw [if_pos q, q]
    · rw [if_neg q]
      have := bt_01 y k
      omega
theorem p_undo (d : Nat) {xs : Nat → Int} {c : Nat} {σ : am_S} (hI : INV xs σ c) (hc : c + 1 ≤ 600) : PR d xs m_C_undo m_M_undo [] σ c := by
  have hs := INV_s hI hc
  obtain ⟨own, β, μ, κ, ρ, me, n, aH, nH, aL, nL, aY, nY, aS, nS, N, l, m, T, W, kd, aR, nR, aV, nV, aI, nI, aQ, nQ, g, w, hx⟩ := hI
  have hx0 := hx
  obtain ⟨⟨hF, hab, hxs⟩, it, il, ib, im, ij, sc, rz, is, ir, hc6⟩ := hx
  have it0 := it
  obtain ⟨hR, ow, ti, kt, ks, ⟨w1, w2, w3, w4, w5, w6, w7, w8⟩, ⟨l1, l2, l3, l4⟩, lz, ⟨q1, q2, q3, q4⟩, h87⟩ := it
  have o1 := ow.1
  have ib0 := ib
  obtain ⟨a1, a2, a3, ⟨n12, a4, a5⟩, bd, a6, a7, a8, a9, a10⟩ := ib
  obtain ⟨m1, ⟨m2, T26⟩, m3, m4, m5, m6⟩ := im
  have tN := ti.2.2.2.2.1
  have tT := ti.2.2.2.2.2.2.1
  have T4 := ti.2.2.2.2.2.2.2.2.1
  have im0 := (⟨m1, ⟨m2, T26⟩, m3, m4, m5, m6⟩ : IM σ c)
  by_cases W0 : W = 0
  · refine v_C_undo_0 (d + 28) β μ κ ρ me aH nH aL nL aY nY aS nS n σ _ hR a1 ⟨fun _ => ⟨hxs, v_M_undoT_0 (d + 27) σ _ hF T26 ⟨fun _ => ⟨rfl, hs⟩, fun q => absurd (by rw [w6, W0]; rfl) q⟩⟩, fun q => absurd (by rw [w5, W0]; rfl) q⟩
  obtain ⟨ow1, ow2, ow3, ow4, ow5⟩ := ow
  have ow' : OW own aH aL aY aS := ⟨ow1, ow2, ow3, ow4, ow5⟩
  have pw := p30 w1
  have lfT := lf_bd (sI σ 37) T
  refine v_C_undo_0 (d + 28) β μ κ ρ me aH nH aL nL aY nY aS nS n σ _ hR a1 ⟨fun q => by omega, fun _ => c_goBack (W := W) (d + 28) hR ow' T4 ⟨by omega, w1⟩ w3 w5 (by rw [w4]; omega) l3 l4 ?_⟩
  obtain ⟨S, eS⟩ : ∃ S, S = putI (BT σ aY aS W T) 3 3 ((W : Int) - 1) := ⟨_, rfl⟩
  rw [← eS]
  have nYS : aS ≠ aY := own_ne ow5 ow4 (by decide)
  have nY3 : aY ≠ 3 := own_ne ow4 (o1 3 (by decide)) (by decide)
  have nS3 : aS ≠ 3 := own_ne ow5 (o1 3 (by decide)) (by decide)
  have S2 : S.2 = σ.2 := by rw [eS]; rfl
  have So : ∀ x, x ≠ aY → x ≠ aS → x ≠ 3 → sI S x = sI σ x := fun x h1 h2 h3 => by rw [eS, put_ne h3]; unfold BT; rw [put_ne h3, row_ne h1, row_ne h2]
  have SY : ∀ t, t < T → sI S aY t = bY σ aY W t := fun t ht => by rw [eS, put_ne nY3]; unfold BT; rw [put_ne nY3, row_at]; exact if_pos ht
  have SS : ∀ t, t < T → sI S aS t = bS σ aS W t := fun t ht => by rw [eS, put_ne nS3]; unfold BT; rw [put_ne nS3, row_ne nYS, row_at]; exact if_pos ht
  have S3 : ∀ j, sI S 3 j = if j = 3 then (W : Int) - 1 else if j = 2 then sI σ 3 2 + bN σ aS W T else sI σ 3 j := fun j => by rw [eS, put_at]; unfold BT; rw [put_at, row_ne nY3.symm, row_ne nS3.symm]
  have nlow : ∀ x, x < 87 → x ≠ 3 → ¬ (4 ≤ x ∧ x ≤ 7) → x ≠ aY ∧ x ≠ aS := fun x hx' h3 h4 => by
    have := o1 x hx'
    exact ⟨fun e => by rw [e] at this; omega, fun e => by rw [e] at this; omega⟩
  have Sl : ∀ x, x < 87 → x ≠ 3 → ¬ (4 ≤ x ∧ x ≤ 7) → sI S x = sI σ x := fun x hx' h3 h4 => So x (nlow x hx' h3 h4).1 (nlow x hx' h3 h4).2 h3
  refine ⟨⟨TR_2 S2 hR, BS_2 S2 a1⟩, ?_, ?_⟩
  · rw [put_ne (by decide)]
    show sI S 0 = xs
    rw [Sl 0 (by decide) (by decide) (by omega)]
    exact hxs
  have s31 := Sl 31 (by decide) (by decide) (by omega)
  have FS : MF S := MF_I hF S2
  obtain ⟨U, eU⟩ : ∃ U, U = putI (putR S 12 6 none) 12 13 0 := ⟨_, rfl⟩
  rw [← eU]
  have Us : ∀ x, x ≠ 12 → sI U x = sI S x := fun x h => by rw [eU, put_ne h]; rfl
  have FU : MF U := fun j => by rw [eU]; exact FS j
  have u31 := Us 31 (by decide)
  refine v_M_undoT_0 (d + 27) U _ FU (by rw [u31, s31]; exact T26) ?_
  rw [u31, s31, w6]
  refine ⟨fun q => by omega, fun _ => ⟨by omega, ?_⟩⟩
  obtain ⟨Q, eQ⟩ : ∃ Q, Q = putI U 31 13 ((W : Int) - 1) := ⟨_, rfl⟩
  rw [← eQ]
  have Qo : ∀ x, x ≠ 12 → x ≠ 31 → sI Q x = sI S x := fun x h1 h2 => by rw [eQ, put_ne h2, Us x h1]
  have Q31 : ∀ j, sI Q 31 j = if j = 13 then (W : Int) - 1 else sI σ 31 j := fun j => by rw [eQ, put_at, u31, s31]
  have q36 : sI Q 36 = sI σ 36 := by rw [Qo 36 (by decide) (by decide), Sl 36 (by decide) (by decide) (by omega)]
  have q37 : sI Q 37 = sI σ 37 := by rw [Qo 37 (by decide) (by decide), Sl 37 (by decide) (by decide) (by omega)]
  have q38 : sI Q 38 = sI σ 38 := by rw [Qo 38 (by decide) (by decide), Sl 38 (by decide) (by decide) (by omega)]
  have b36 : ∀ t, t < T → 0 ≤ sI σ 36 t ∧ sI σ 36 t ≤ 1000 := fun t ht => by
    obtain ⟨k1, k2, k3, k4, k5, k6, k7⟩ := ks t ht
    have := pc_bd (sI σ 38 t).toNat
    omega
  have one : ∀ t, t < T → ∃ z : Nat, bY σ aY W t = z ∧ u38 Q t = z ∧ z < 2 ^ (W - 1) ∧ pc z = u36 Q t := fun t ht => by
    obtain ⟨k1, k2, k3, k4, k5, k6, k7⟩ := ks t ht
    obtain ⟨y, ey⟩ : ∃ y : Nat, sI σ 38 t = y := ⟨(sI σ 38 t).toNat, by omega⟩
    have hy : y < 2 ^ W := by
      have e : ((2 ^ W : Nat) : Int) = 2 ^ W := by push_cast; rfl
      omega
    obtain ⟨z, z1, z2, z3, z4⟩ := undo_1 (y := y) (W := W) (v := sI σ 36 t) ⟨by omega, w1⟩ hy (by rw [ey, Int.toNat_natCast] at k7; exact k7)
    refine ⟨z, ?_, ?_, z3, ?_⟩
    · unfold bY
      rw [k4, ey]
      exact z1
    · unfold u38
      rw [q38, Q31, if_pos rfl, ey]
      exact z2
    · unfold u36
      rw [q38, q36, Q31, if_pos rfl, ey]
      exact z4
  have two : ∀ t, t < T → bS σ aS W t = u37 Q t + 1 ∧ -1 ≤ u37 Q t ∧ u37 Q t < (W : Int) - 1 := fun t ht => by
    obtain ⟨k1, k2, k3, k4, k5, k6, k7⟩ := ks t ht
    unfold bS u37
    rw [q37, Q31, if_pos rfl, k1]
    by_cases e : sI σ 37 t = (W : Int) - 1
    · rw [if_pos e, if_pos (by omega)]
      omega
    · rw [if_neg e, if_neg (by omega)]
      omega
  have elf : sI σ 3 2 + bN σ aS W T = lf (up (sI Q 37) (u37 Q) T) T := by
    rw [w4]
    unfold lf bN
    rw [← sm_lin]
    refine sm_congr T (fun t ht => ?_)
    obtain ⟨k1, k2, k3, k4, k5, k6, k7⟩ := ks t ht
    show (if sI σ 37 t < 0 then (1 : Int) else 0) + (if sI σ aS t = (W : Int) then 1 else 0) = if up (sI Q 37) (u37 Q) T t < 0 then 1 else 0
    rw [show up (sI Q 37) (u37 Q) T t = u37 Q t from if_pos ht]
    unfold u37
    rw [q37, Q31, if_pos rfl, k1]
    by_cases e : sI σ 37 t = (W : Int) - 1
    · rw [if_pos e, if_neg (by omega), if_pos (by omega), if_pos (by decide)]
      rfl
    · rw [if_neg e, if_neg (show ¬ sI σ 37 t + 1 = (W : Int) by omega)]
      omega
  have QT : sI Q 31 5 = T := by rw [Q31, if_neg (by decide)]; exact tT
  refine l_M_undo (d + 27) (MF_I FU (by rw [eQ]; rfl)) QT T4 (fun t ht => by rw [q36]; exact b36 t ht) ⟨by rw [S3, if_neg (by decide), if_pos rfl]; exact elf, ?_⟩
  obtain ⟨Z, eZ⟩ : ∃ Z, Z = mEnd (uRows (putI (putI S 12 13 0) 31 13 ((W : Int) - 1)) T) := ⟨_, rfl⟩
  have eF : mEnd (uRows Q T) = putR Z 12 6 none := by rw [eZ, eQ, eU]; rfl
  rw [eF]
  have Z2 : Z.2 = σ.2 := by rw [eZ]; exact S2
  have ZQ : ∀ x, sI Z x = sI (mEnd (uRows Q T)) x := fun x => by rw [eF]; rfl
  have Zo : ∀ x, x ≠ 31 → x ≠ 36 → x ≠ 37 → x ≠ 38 → sI Z x = sI Q x := fun x h1 h2 h3 h4 => by
    rw [ZQ]
    unfold mEnd uRows rows3
    rw [put_ne h1, put_ne h1, put_ne h1, put_ne h1, put_ne h1, put_ne h1, put_ne h1, put_ne h1, row_ne h2, row_ne h4, row_ne h3]
  have Z36 : ∀ t, t < T → sI Z 36 t = u36 Q t := fun t ht => by
    rw [ZQ]
    unfold mEnd uRows rows3
    rw [put_ne (by decide), put_ne (by decide), put_ne (by decide), put_ne (by decide), put_ne (by decide), put_ne (by decide), put_ne (by decide), put_ne (by decide), row_at]
    exact if_pos ht
  have Z37 : ∀ t, t < T → sI Z 37 t = u37 Q t := fun t ht => by
    rw [ZQ]
    unfold mEnd uRows rows3
    rw [put_ne (by decide), put_ne (by decide), put_ne (by decide), put_ne (by decide), put_ne (by decide), put_ne (by decide), put_ne (by decide), put_ne (by decide), row_ne (by decide), row_ne (by decide), row_at]
    exact if_pos ht
  have Z38 : ∀ t, t < T → sI Z 38 t = u38 Q t := fun t ht => by
    rw [ZQ]
    unfold mEnd uRows rows3
    rw [put_ne (by decide), put_ne (by decide), put_ne (by decide), put_ne (by decide), put_ne (by decide), put_ne (by decide), put_ne (by decide), put_ne (by decide), row_ne (by decide), row_at]
    exact if_pos ht
  have Z31 : ∀ j, sI Z 31 j = if j = 78 then 0 else if j = 77 then 0 else if j = 76 then 0 else if j = 73 then 0 else if j = 37 then 0 else if j = 35 then -1000 else if j = 34 then 0 else if j = 33 then 0 else if j = 13 then (W : Int) - 1 else sI σ 31 j := fun j => by
    rw [ZQ]
    unfold mEnd uRows rows3
    rw [put_at, put_at, put_at, put_at, put_at, put_at, put_at, put_at, row_ne (by decide), row_ne (by decide), row_ne (by decide), Q31]
  have z31 : ∀ j, j ≠ 13 → (j < 33 ∨ 78 < j ∨ (37 < j ∧ j < 73)) → sI Z 31 j = sI σ 31 j := fun j h1 h2 => by rw [Z31, if_neg (by omega), if_neg (by omega), if_neg (by omega), if_neg (by omega), if_neg (by omega), if_neg (by omega), if_neg (by omega), if_neg (by omega), if_neg h1]
  have ZS : ∀ x, x ≠ 31 → x ≠ 36 → x ≠ 37 → x ≠ 38 → x ≠ 12 → sI Z x = sI S x := fun x h1 h2 h3 h4 h5 => by rw [Zo x h1 h2 h3 h4, Qo x h5 h1]
  have Zf : ∀ x, x < sN σ → own x ≠ 31 → own x ≠ 36 → own x ≠ 37 → own x ≠ 38 → own x ≠ 12 → own x ≠ 3 → own x ≠ 6 → own x ≠ 7 → sI Z x = sI σ x := fun x hx' r1 r2 r3 r4 r5 r6 r7 r8 => by
    rw [ZS x (fun e => by rw [e, o1 31 (by decide)] at r1; omega) (fun e => by rw [e, o1 36 (by decide)] at r2; omega) (fun e => by rw [e, o1 37 (by decide)] at r3; omega) (fun e => by rw [e, o1 38 (by decide)] at r4; omega) (fun e => by rw [e, o1 12 (by decide)] at r5; omega), So x (fun e => by rw [e] at r7; omega) (fun e => by rw [e] at r8; omega) (fun e => by rw [e, o1 3 (by decide)] at r6; omega)]
  have row : ∀ x, x < 87 → x ≠ 31 → x ≠ 36 → x ≠ 37 → x ≠ 38 → x ≠ 12 → x ≠ 3 → x ≠ 6 → x ≠ 7 → sI Z x = sI σ x := fun x hx' h1 h2 h3 h4 h5 h6 h7 h8 => by
    have e := o1 x hx'
    exact Zf x (by omega) (by omega) (by omega) (by omega) (by omega) (by omega) (by omega) (by omega) (by omega)
  have aYl : ∀ x, x < 87 → ¬ (4 ≤ x ∧ x ≤ 7) → aY ≠ x ∧ aS ≠ x := fun x hx' h => by
    have := o1 x hx'
    exact ⟨fun e => by rw [← e] at this; omega, fun e => by rw [← e] at this; omega⟩
  have ZY : sI Z aY = sI S aY := ZS aY (aYl 31 (by decide) (by omega)).1 (aYl 36 (by decide) (by omega)).1 (aYl 37 (by decide) (by omega)).1 (aYl 38 (by decide) (by omega)).1 (aYl 12 (by decide) (by omega)).1
  have ZSs : sI Z aS = sI S aS := ZS aS (aYl 31 (by decide) (by omega)).2 (aYl 36 (by decide) (by omega)).2 (aYl 37 (by decide) (by omega)).2 (aYl 38 (by decide) (by omega)).2 (aYl 12 (by decide) (by omega)).2
  have Z3 : sI Z 3 = sI S 3 := ZS 3 (by decide) (by decide) (by decide) (by decide) (by decide)
  obtain ⟨r1, r2, r3⟩ := R2 Z2
  have hW' : ((W - 1 : Nat) : Int) = (W : Int) - 1 := by omega
  have itZ : IT Z own aH nH aL nL aY nY aS nS N l m T (W - 1) kd := by
    refine ⟨TR_2 Z2 hR, ow', ?_, ?_, fun t ht => ?_, ⟨by omega, ?_, ?_, ?_, ?_, ?_, ?_, ?_⟩, ⟨l1, l2, l3, l4⟩, lz, by omega, by omega⟩
    · unfold TI CT at ti ⊢
      rw [z31 2 (by decide) (by omega), z31 3 (by decide) (by omega), z31 5 (by decide) (by omega), row 32 (by decide) (by decide) (by decide) (by decide) (by decide) (by decide) (by decide) (by decide) (by decide), row 33 (by decide) (by decide) (by decide) (by decide) (by decide) (by decide) (by decide) (by decide) (by decide), row 34 (by decide) (by decide) (by decide) (by decide) (by decide) (by decide) (by decide) (by decide) (by decide), row 35 (by decide) (by decide) (by decide) (by decide) (by decide) (by decide) (by decide) (by decide) (by decide)]
      exact ti
    · unfold KTt at kt ⊢
      rw [Zf aH q1 (by omega) (by omega) (by omega) (by omega) (by omega) (by omega) (by omega) (by omega), Zf aL q2 (by omega) (by omega) (by omega) (by omega) (by omega) (by omega) (by omega) (by omega)]
      exact kt
    · obtain ⟨z, z1, z2, z3, z4⟩ := one t ht
      obtain ⟨v1, v2, v3⟩ := two t ht
      have e : ((2 ^ (W - 1) : Nat) : Int) = 2 ^ (W - 1) := by push_cast; rfl
      rw [ZSs, ZY, SS t ht, SY t ht, Z36 t ht, Z37 t ht, Z38 t ht, z1, z2, Int.toNat_natCast]
      exact ⟨v1, v2, by omega, rfl, by omega, by omega, z4⟩
    · rw [Z3, S3]; exact w2
    · rw [Z3, S3]; exact w3
    · rw [Z3, S3, if_neg (by decide), if_pos rfl, elf]
      unfold lf
      refine sm_congr T (fun t ht => ?_)
      show (if up (sI Q 37) (u37 Q) T t < 0 then (1 : Int) else 0) = if sI Z 37 t < 0 then 1 else 0
      rw [Z37 t ht, show up (sI Q 37) (u37 Q) T t = u37 Q t from if_pos ht]
    · rw [Z3, S3, if_pos rfl, hW']
    · rw [Z31, if_neg (by decide), if_neg (by decide), if_neg (by decide), if_neg (by decide), if_neg (by decide), if_neg (by decide), if_neg (by decide), if_neg (by decide), if_pos rfl, hW']
    · rw [Z3, S3]; exact w7
    · rw [Z3, S3]; exact w8
  refine INV_off (INVp_g hx0 hc Z2 (row 0 (by decide) (by decide) (by decide) (by decide) (by decide) (by decide) (by decide) (by decide) (by decide)) (row 1 (by decide) (by decide) (by decide) (by decide) (by decide) (by decide) (by decide) (by decide) (by decide)) (row 64 (by decide) (by decide) (by decide) (by decide) (by decide) (by decide) (by decide) (by decide) (by decide)) (row 65 (by decide) (by decide) (by decide) (by decide) (by decide) (by decide) (by decide) (by decide) (by decide)) itZ ?_ (IB_K Z2 (fun x hx' hr => Zf x hx' (by omega) (by omega) (by omega) (by omega) (by omega) (by omega) (by omega) (by omega)) (fun x x1 x2 => row x (by omega) (by omega) (by omega) (by omega) (by omega) (by omega) (by omega) (by omega) (by omega)) (by rw [row 2 (by decide) (by decide) (by decide) (by decide) (by decide) (by decide) (by decide) (by decide) (by decide)]) (z31 16 (by decide) (by omega)) ib0) (IM_K (row 10 (by decide) (by decide) (by decide) (by decide) (by decide) (by decide) (by decide) (by decide) (by decide)) (row 11 (by decide) (by decide) (by decide) (by decide) (by decide) (by decide) (by decide) (by decide) (by decide)) (row 48 (by decide) (by decide) (by decide) (by decide) (by decide) (by decide) (by decide) (by decide) (by decide)) (fun j _ => by rw [row 2 (by decide) (by decide) (by decide) (by decide) (by decide) (by decide) (by decide) (by decide) (by decide)]) (fun j hj => z31 j (by omega) (by omega)) im0) (IJ_K Z2 (fun x hx' hr => Zf x hx' (by omega) (by omega) (by omega) (by omega) (by omega) (by omega) (by omega) (by omega)) o1 h87 (fun j hj => z31 j (by omega) (by omega)) ij)) ?_
  · intro t ht
    rw [Z36 t ht, z31 4 (by decide) (by omega)]
    have := il t ht
    unfold u36
    rw [q36]
    split <;> omega
  · refine ⟨?_, ?_, ?_, ?_, ?_, ?_, ?_, ?_, ?_⟩
    · rw [Zo 12 (by decide) (by decide) (by decide) (by decide), eQ, put_ne (by decide), eU, put_at, if_pos rfl]
    all_goals (rw [Z31]; rfl)
