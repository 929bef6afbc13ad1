/-! the class: a truth with two coins exchanged -/
theorem low_clear {u k q : Nat} (hu : u = 2 ^ k * (2 * q + 1)) : u &&& (u - 1) = 2 ^ (k + 1) * q := by
  have hp : 0 < 2 ^ k := Nat.two_pow_pos k
  have t1 : ∀ j, u.testBit j = if j < k then false else (2 * q + 1).testBit (j - k) := by
    intro j
    have := Nat.testBit_two_pow_mul_add (2 * q + 1) (i := k) (b := 0) hp j
    rw [Nat.add_zero] at this
    rw [hu, this, Nat.zero_testBit]
  have e : u - 1 = 2 ^ k * (2 * q) + (2 ^ k - 1) := by
    rw [hu, Nat.mul_add, Nat.mul_one]
    omega
  have t2 : ∀ j, (u - 1).testBit j = if j < k then true else (2 * q).testBit (j - k) := by
    intro j
    rw [e, Nat.testBit_two_pow_mul_add _ (by omega) j, Nat.testBit_two_pow_sub_one]
    split
    · rename_i h; rw [decide_eq_true h]
    · rfl
  have e3 : 2 ^ (k + 1) * q = 2 ^ k * (2 * q) := by rw [Nat.pow_succ, Nat.mul_assoc]
  refine Nat.eq_of_testBit_eq fun j => ?_
  have t3 := Nat.testBit_two_pow_mul_add (2 * q) (i := k) (b := 0) hp j
  rw [Nat.add_zero] at t3
  rw [Nat.testBit_and, t1, t2, e3, t3, Nat.zero_testBit]
  by_cases h : j < k
  · rw [if_pos h, if_pos h, if_pos h]; rfl
  · rw [if_neg h, if_neg h, if_neg h]
    cases hj : j - k with
    | zero =>
      rw [Nat.testBit_zero, Nat.testBit_zero]
      have b : (2 * q) % 2 = 0 := by omega
      rw [b]
      simp
    | succ i =>
      rw [Nat.testBit_succ, Nat.testBit_succ, show (2 * q + 1) / 2 = q by omega, show 2 * q / 2 = q by omega]
      cases q.testBit i <;> rfl
theorem pow_split {x y : Nat} (h : x < y) : 2 ^ y = 2 ^ (x + 1) * 2 ^ (y - x - 1) := by rw [← Nat.pow_add, show x + 1 + (y - x - 1) = y by omega]
theorem HB_or {H L f x y z w : Nat} {kd : Int} (hb : HB H L f x y z w kd) (c : Nat) : bt (H ||| L) c = if sig f x y z kd w c = 0 then 0 else 1 := by
  have h := hb.2.2 c
  have q1 := bt_01 H c
  have q2 := bt_01 L c
  rw [bt_or, h.2]
  rw [← h.1]
  rcases (show bt H c = 0 ∨ bt H c = 1 by omega) with e1 | e1 <;> rcases (show bt L c = 0 ∨ bt L c = 1 by omega) with e2 | e2
  · rw [e1, e2]; rfl
  · rw [e1, e2]; rfl
  · rw [e1, e2]; rfl
  · exfalso
    have := h.2
    rw [e1, e2] at this
    revert this; decide
theorem HB_L {H L f x y z w : Nat} {kd : Int} (hb : HB H L f x y z w kd) {c : Nat} {g : Int} (hg : sig f x y z kd w c = g) (hg2 : g = 1 ∨ g = -1) : bt L c = if 0 ≤ g then 0 else 1 := by
  have h := hb.2.2 c
  have q1 := bt_01 H c
  have q2 := bt_01 L c
  rw [hg] at h
  rcases hg2 with rfl | rfl
  · rw [if_pos (by decide)]; omega
  · rw [if_neg (by decide)]; omega
theorem sgw_pm (kd : Int) (f w i : Nat) : sgw kd f w i = 1 ∨ sgw kd f w i = -1 := by
  unfold sgw
  (repeat' split) <;> simp
theorem HB_rest {n l m H L f x y z w : Nat} {kd : Int} (hn : n ≤ 40) (hv : Vc n l m kd f x y z w) (hb : HB H L f x y z w kd) : (f = 0 → (H ||| L) = 0) ∧ (f = 1 → (H ||| L) = 2 ^ x * (2 * 0 + 1)) ∧ (f = 2 → (H ||| L) = 2 ^ x * (2 * 2 ^ (y - x - 1) + 1)) ∧ (f = 3 → (H ||| L) = 2 ^ x * (2 * (2 ^ (y - x - 1) + 2 ^ (z - x - 1)) + 1)) := by
  obtain ⟨_, _, a3, a4, a5, a6, _, _, _, _⟩ := hv
  have key : ∀ c, bt (H ||| L) c = if ((0 < f ∧ c = x) ∨ (1 < f ∧ c = y) ∨ (2 < f ∧ c = z)) then 1 else 0 := by
    intro c
    rw [HB_or hb c]
    have := sig_nz (f := f) (x := x) (y := y) (z := z) (w := w) (c := c) (kd := kd)
    by_cases h : sig f x y z kd w c = 0
    · rw [if_pos h, if_neg (fun q => this.mpr q h)]
    · rw [if_neg h, if_pos (this.mp h)]
  have or2 : ∀ {p q : Nat}, p < 2 ^ q → p ||| 2 ^ q = p + 2 ^ q := by
    intro p q hpq
    have := Nat.two_pow_add_eq_or_of_lt hpq 1
    rw [Nat.mul_one] at this
    rw [Nat.or_comm, ← this, Nat.add_comm]
  refine ⟨fun e => ?_, fun e => ?_, fun e => ?_, fun e => ?_⟩
  · subst e
    refine bt_ext fun c => ?_
    rw [key c, if_neg (by omega), bt_0]
  · subst e
    rw [show 2 ^ x * (2 * 0 + 1) = 2 ^ x by omega]
    refine bt_ext fun c => ?_
    rw [key c, bt_pow]
    by_cases h : c = x
    · rw [if_pos h, if_pos (by omega)]
    · rw [if_neg h, if_neg (by omega)]
  · subst e
    have h5 := a5 (by omega)
    have e2 : (H ||| L) = 2 ^ x ||| 2 ^ y := by
      refine bt_ext fun c => ?_
      rw [key c, bt_or, bt_pow, bt_pow]
      by_cases h : c = x
      · rw [if_pos (by omega), if_pos h, if_neg (by omega)]; rfl
      · by_cases h2 : c = y
        · rw [if_pos (by omega), if_neg h, if_pos h2]; rfl
        · rw [if_neg (by omega), if_neg h, if_neg h2]; rfl
    have e3 : 2 ^ x ||| 2 ^ y = 2 ^ x + 2 ^ y := or2 (Nat.pow_lt_pow_right (a := 2) (by omega) h5.1)
    rw [e2, e3, pow_split h5.1, Nat.pow_succ, Nat.mul_add, Nat.mul_one, Nat.mul_assoc]
    omega
  · subst e
    have h5 := a5 (by omega)
    have h6 := a6 (by omega)
    have e2 : (H ||| L) = (2 ^ x ||| 2 ^ y) ||| 2 ^ z := by
      refine bt_ext fun c => ?_
      rw [key c, bt_or, bt_or, bt_pow, bt_pow, bt_pow]
      by_cases h : c = x
      · rw [if_pos (by omega), if_pos h, if_neg (by omega), if_neg (by omega)]; rfl
      · by_cases h2 : c = y
        · rw [if_pos (by omega), if_neg h, if_pos h2, if_neg (by omega)]; rfl
        · by_cases h3 : c = z
          · rw [if_pos (by omega), if_neg h, if_neg h2, if_pos h3]; rfl
          · rw [if_neg (by omega), if_neg h, if_neg h2, if_neg h3]; rfl
    have e3 : 2 ^ x ||| 2 ^ y = 2 ^ x + 2 ^ y := or2 (Nat.pow_lt_pow_right (a := 2) (by omega) h5.1)
    have e4 : (2 ^ x ||| 2 ^ y) ||| 2 ^ z = (2 ^ x ||| 2 ^ y) + 2 ^ z := by
      refine or2 ?_
      have k1 := Nat.pow_lt_pow_right (a := 2) (by omega) h5.1
      have k2 := Nat.pow_le_pow_right (n := 2) (by omega) (show y + 1 ≤ z by omega)
      rw [Nat.pow_succ] at k2
      rw [e3]
      omega
    rw [e2, e4, e3, pow_split h5.1, pow_split (show x < z by omega), Nat.pow_succ, Nat.mul_add, Nat.mul_one, Nat.mul_add 2, Nat.mul_add, Nat.mul_assoc, Nat.mul_assoc]
    omega
theorem HB_pc {n l m H L f x y z w : Nat} {kd : Int} (hn : n ≤ 40) (hv : Vc n l m kd f x y z w) (hb : HB H L f x y z w kd) : pc (H ||| L) = f := by
  obtain ⟨_, _, a3, a4, a5, a6, _, _, _, _⟩ := hv
  have e : ∀ c, bt (H ||| L) c = ((if c = x then (if 0 < f then 1 else 0) else 0) + (if c = y then (if 1 < f then 1 else 0) else 0)) + (if c = z then (if 2 < f then (1 : Int) else 0) else 0) := by
    intro c
    rw [HB_or hb c]
    have := sig_nz (f := f) (x := x) (y := y) (z := z) (w := w) (c := c) (kd := kd)
    by_cases h : sig f x y z kd w c = 0
    · rw [if_pos h]
      have h' : ¬ ((0 < f ∧ c = x) ∨ (1 < f ∧ c = y) ∨ (2 < f ∧ c = z)) := fun q => this.mpr q h
      (repeat' split) <;> first | rfl | (exfalso; omega)
    · rw [if_neg h]
      have h' := this.mp h
      (repeat' split) <;> first | rfl | (exfalso; omega)
  unfold pc
  rw [sm_congr 40 (fun c _ => e c), sm_lin, sm_lin, sm_one, sm_one, sm_one]
  (repeat' split) <;> omega

theorem v_Truths_numberOf_0 (d : Nat) (aH nH aL nL aY nY aS nS : Nat) (p1 p3 : Int) (σ : am_S) (K : Int → am_S → Prop) (hR : TR σ aH nH aL nL aY nY aS nS) (h :
  (0 ≤ (a_lor p1 p3) ∧ (a_lor p1 p3) < 1099511627776) ∧
  am_Calls PP MLL (d + 2) m_Truths_choices [qi (sI σ 3 0), qi (pc (Int.toNat (a_lor p1 p3)))] σ (kI fun x1 s1 =>
    (TR s1 aH nH aL nL aY nY aS nS) ∧
    (-2147483648 ≤ x1 - 1 ∧ x1 - 1 < 2147483648) ∧
    am_Runs PP MLL (d + 2) m_Truths_numberOf 18 [some (qr (3, 9, 11)), some (ql p1), none, some (ql p3), none, some (ql (a_lor p1 p3)), none, some (qi (pc (Int.toNat (a_lor p1 p3)))), some (qi (x1 - 1)), some (qi 0), some (qi 0), none] [] s1 (kI K))) : am_Runs PP MLL (d + 2) m_Truths_numberOf 0 [some (qr (3, 9, 11)), some (ql p1), none, some (ql p3), none, none, none, none, none, none, none, none] [] σ (kI K) := am_wEC_ok (orc []) [62] 200 (c_lbcI _ h.1.1 h.1.2 (⟨rfl, (am_cI h.2 fun x1 s1 h1 => ⟨⟨h1.2.1.1, h1.2.1.2⟩, h1.2.2⟩)⟩))

theorem v_Truths_numberOf_18 (d : Nat) (aH nH aL nL aY nY aS nS : Nat) (p3 v5 v7 v8 v9 v10 : Int) (z1 z2 z4 z6 z11 : Option am_V) (σ : am_S) (K : Int → am_S → Prop) (hR : TR σ aH nH aL nL aY nY aS nS) (h :
  ((v7 ≤ v10 →
    (-2147483648 ≤ v7 - 1 ∧ v7 - 1 < 2147483648) ∧
    am_Calls PP MLL (d + 2) m_Truths_howMany [qi (sI σ 3 0), qi (sI σ 3 4), qi (v7 - 1), qi (sI σ 3 5)] σ (kI fun x4 s4 =>
      (TR s4 aH nH aL nL aY nY aS nS) ∧
      (-2147483648 ≤ v8 * (if (sI s4 3 5) = 3 then (a_shl 1 v7 : Int) else 1) ∧ v8 * (if (sI s4 3 5) = 3 then (a_shl 1 v7 : Int) else 1) < 2147483648 ∧ -2147483648 ≤ x4 + (v8 * (if (sI s4 3 5) = 3 then (a_shl 1 v7 : Int) else 1)) ∧ x4 + (v8 * (if (sI s4 3 5) = 3 then (a_shl 1 v7 : Int) else 1)) < 2147483648 ∧ -2147483648 ≤ (x4 + (v8 * (if (sI s4 3 5) = 3 then (a_shl 1 v7 : Int) else 1))) + (if (sI σ 3 5) = 3 then (v9 : Int) else 0) ∧ (x4 + (v8 * (if (sI s4 3 5) = 3 then (a_shl 1 v7 : Int) else 1))) + (if (sI σ 3 5) = 3 then (v9 : Int) else 0) < 2147483648) ∧
      K ((x4 + (v8 * (if (sI s4 3 5) = 3 then (a_shl 1 v7 : Int) else 1))) + (if (sI σ 3 5) = 3 then (v9 : Int) else 0)) s4)) ∧
  (¬ (v7 ≤ v10) →
    am_Calls PP MLL (d + 2) m_Lng_numberOfTrailingZeros [ql v5] σ (kI fun x8 s8 =>
      (TR s8 aH nH aL nL aY nY aS nS) ∧
      (-2147483648 ≤ (sI s8 3 0) - 1 ∧ (sI s8 3 0) - 1 < 2147483648 ∧ -2147483648 ≤ ((sI s8 3 0) - 1) - x8 ∧ ((sI s8 3 0) - 1) - x8 < 2147483648 ∧ -2147483648 ≤ v7 - v10 ∧ v7 - v10 < 2147483648) ∧
      am_Calls PP MLL (d + 2) m_Truths_choices [qi (((sI s8 3 0) - 1) - x8), qi (v7 - v10)] s8 (kI fun x9 s9 =>
        (TR s9 aH nH aL nL aY nY aS nS) ∧
        (-2147483648 ≤ v8 - x9 ∧ v8 - x9 < 2147483648 ∧ -2147483648 ≤ 2 * v9 ∧ 2 * v9 < 2147483648 ∧ -2147483648 ≤ (2 * v9) + (w32 (a_land (a_lshr p3 x8) 1)) ∧ (2 * v9) + (w32 (a_land (a_lshr p3 x8) 1)) < 2147483648 ∧ -2147483648 ≤ v10 + 1 ∧ v10 + 1 < 2147483648) ∧
        am_Runs PP MLL (d + 2) m_Truths_numberOf 18 [some (qr (3, 9, 11)), z1, z2, some (ql p3), (am_cl z4), some (ql (a_land v5 (w64 (v5 - 1)))), none, some (qi v7), some (qi (v8 - x9)), some (qi ((2 * v9) + (w32 (a_land (a_lshr p3 x8) 1)))), some (qi (v10 + 1)), some (qi x8)] [] s9 (kI K)))))) : am_Runs PP MLL (d + 2) m_Truths_numberOf 18 [some (qr (3, 9, 11)), z1, z2, some (ql p3), z4, some (ql v5), z6, some (qi v7), some (qi v8), some (qi v9), some (qi v10), z11] [] σ (kI K) := am_wEC_ok (orc []) [62] 200 (⟨fun c2 => ⟨rfl, am_use (fun H7 => ⟨fun c3 => (Eq.mp (congrArg (fun z => am_Runs _ _ _ _ _ [_, _, _, _, _, _, _, _, _, some (qi z), _, _] _ _ _) (if_pos c3 : (if (sI σ 3 5) = 3 then (v9 : Int) else 0) = v9)) H7), fun c3 => (Eq.mp (congrArg (fun z => am_Runs _ _ _ _ _ [_, _, _, _, _, _, _, _, _, some (qi z), _, _] _ _ _) (if_neg c3 : (if (sI σ 3 5) = 3 then (v9 : Int) else 0) = 0)) H7)⟩) (am_wEC_ok (orc []) [62] 200 (⟨rfl, ⟨rfl, ⟨⟨(h.1 c2).1.1, (h.1 c2).1.2⟩, ⟨rfl, (am_cI (h.1 c2).2 fun x4 s4 h4 => ⟨rfl, am_wEC_ok (orc []) [8] 200 (am_use (fun H6 => ⟨fun c5 => (Eq.mp (congrArg (fun z => am_Runs _ _ _ _ _ _ (qi z :: _) _ _) (if_pos c5 : (if (sI s4 3 5) = 3 then (a_shl 1 v7 : Int) else 1) = a_shl 1 v7)) H6), fun c5 => (Eq.mp (congrArg (fun z => am_Runs _ _ _ _ _ _ (qi z :: _) _ _) (if_neg c5 : (if (sI s4 3 5) = 3 then (a_shl 1 v7 : Int) else 1) = 1)) H6)⟩) (am_wEC_ok (orc []) [8] 200 (⟨⟨h4.2.1.1, h4.2.1.2.1⟩, ⟨⟨h4.2.1.2.2.1, h4.2.1.2.2.2.1⟩, ⟨⟨h4.2.1.2.2.2.2.1, h4.2.1.2.2.2.2.2⟩, h4.2.2⟩⟩⟩)))⟩)⟩⟩⟩⟩))⟩, fun c2 => (am_cI (h.2 c2) fun x8 s8 h8 => ⟨rfl, ⟨⟨h8.2.1.1, h8.2.1.2.1⟩, ⟨⟨h8.2.1.2.2.1, h8.2.1.2.2.2.1⟩, ⟨⟨h8.2.1.2.2.2.2.1, h8.2.1.2.2.2.2.2⟩, (am_cI h8.2.2 fun x9 s9 h9 => ⟨⟨h9.2.1.1, h9.2.1.2.1⟩, ⟨⟨h9.2.1.2.2.1, h9.2.1.2.2.2.1⟩, ⟨⟨h9.2.1.2.2.2.2.1, h9.2.1.2.2.2.2.2.1⟩, ⟨⟨h9.2.1.2.2.2.2.2.2.1, h9.2.1.2.2.2.2.2.2.2⟩, h9.2.2⟩⟩⟩⟩)⟩⟩⟩⟩)⟩)

theorem c_numberOf (d : Nat) {aH nH aL nL aY nY aS nS : Nat} {n l m H L f x y z w : Nat} {kd : Int} {σ : am_S} {K : Int → am_S → Prop} (hR : TR σ aH nH aL nL aY nY aS nS) (hn : sI σ 3 0 = n) (hn2 : n ≤ 40) (hl : sI σ 3 4 = l) (hkd : sI σ 3 5 = kd) (hk : kd = 1 ∨ kd = 2 ∨ kd = 3) (hv : Vc n l m kd f x y z w) (hb : HB H L f x y z w kd) (h : K (Nm n l kd f x y z w : Nat) σ) : am_Calls PP MLL (d + 3) m_Truths_numberOf [qr (3, 9, 11), ql (H : Int), ql (L : Int)] σ (kI K) := by
  have hv0 := hv
  obtain ⟨v1, v2, v3, v4, v5, v6, v7, v8, v9, v10⟩ := hv
  have hor : (H ||| L) < 1099511627776 := Nat.or_lt_two_pow (n := 40) hb.1 hb.2.1
  obtain ⟨r0, r1, r2, r3⟩ := HB_rest hn2 hv0 hb
  refine v_Truths_numberOf_0 d aH nH aL nL aY nY aS nS H L σ K hR ?_
  have hH := hb.1
  have hL := hb.2.1
  rw [a_lor_n (by omega) (by omega), Int.toNat_natCast, HB_pc hn2 hv0 hb, hn]
  refine ⟨by omega, ?_⟩
  have hcb := ch_bd n (by omega)
  have hrk := rk_lt v3 v4 v5 v6
  have hrn := rk_nn (kd := kd) hn2 v3 v4 v5 v6
  have hch : ch n f ≤ 9880 := by
    unfold ch
    (repeat' split) <;> omega
  refine c_choices (d + 1) hn2 v3 ⟨hR, by omega, ?_⟩
  -- the way
  have hws : (if kd = 3 then ws (fun i => sgw kd f w i) f else 0) = w := by
    have q := sgw_ws hk v3 (fun i _ => sgw_ok kd f w i)
    exact way_inj hk v3 q.1 v10 (fun i hi => q.2 i hi)
  -- the end
  have fin : ∀ (r : Int) (wv : Nat) z1 z2 z4 z6 z11, (kd = 3 → wv = w) → wv ≤ 8 → am_Runs PP MLL (d + 2) m_Truths_numberOf 18 [some (qr (3, 9, 11)), z1, z2, some (ql (L : Int)), z4, some (ql r), z6, some (qi (f : Int)), some (qi ((rk n f x y z : Nat) : Int)), some (qi (wv : Int)), some (qi (f : Int)), z11] [] σ (kI K) := by
    intro r wv z1 z2 z4 z6 z11 hwv hw8
    refine v_Truths_numberOf_18 d aH nH aL nL aY nY aS nS L r f _ _ _ z1 z2 z4 z6 z11 σ K hR ⟨fun _ => ⟨by omega, ?_⟩, fun c => absurd (Int.le_refl _) c⟩
    rw [hn, hl, hkd]
    refine c_howMany d hn2 (by omega) ⟨hR, ?_⟩
    rw [hkd, wy_eq v3, ← Int.natCast_mul, show ((f : Int) - 1 + 1).toNat = f by omega]
    have hbb := bs_bd (n := n) (l := l) (kd := kd) hn2 (show f ≤ 4 by omega)
    have e : ((bs n l kd f : Nat) : Int) + ((rk n f x y z * wy kd f : Nat) : Int) + (if kd = 3 then (wv : Int) else 0) = ((Nm n l kd f x y z w : Nat) : Int) := by
      unfold Nm
      rcases hk with rfl | rfl | rfl
      · have : wy 1 f = 1 := rfl
        rw [if_neg (by decide)]; omega
      · have : wy 2 f = 1 := rfl
        rw [if_neg (by decide)]; omega
      · rw [if_pos rfl, hwv rfl]; omega
    refine ⟨?_, kEq h e.symm rfl⟩
    split <;> omega
  -- one coin
  have step : ∀ (k q i : Nat) (s wv : Nat) (r : Nat) z1 z2 z4 z6 z11, r < 1099511627776 → r = 2 ^ k * (2 * q + 1) → k < n → i < f → s ≤ 10000 → ch (n - 1 - k) (f - i) ≤ s → wv ≤ 8 → (∀ z4 z6 z11, am_Runs PP MLL (d + 2) m_Truths_numberOf 18 [some (qr (3, 9, 11)), z1, z2, some (ql (L : Int)), z4, some (ql ((2 ^ (k + 1) * q : Nat) : Int)), z6, some (qi (f : Int)), some (qi ((s - ch (n - 1 - k) (f - i) : Nat) : Int)), some (qi (2 * (wv : Int) + bt L k)), some (qi ((i + 1 : Nat) : Int)), z11] [] σ (kI K)) → am_Runs PP MLL (d + 2) m_Truths_numberOf 18 [some (qr (3, 9, 11)), z1, z2, some (ql (L : Int)), z4, some (ql (r : Int)), z6, some (qi (f : Int)), some (qi (s : Int)), some (qi (wv : Int)), some (qi (i : Int)), z11] [] σ (kI K) := by
    intro k q i s wv r z1 z2 z4 z6 z11 hr1 hr hkn hif hs hcs hw8 hnext
    have hbL := bt_01 L k
    refine v_Truths_numberOf_18 d aH nH aL nL aY nY aS nS L r f _ _ _ z1 z2 z4 z6 z11 σ K hR ⟨fun c => absurd c (by omega), fun _ => ?_⟩
    refine c_lntz d hr1 hr ⟨hR, ?_⟩
    rw [hn, show ((n : Int) - 1 - (k : Int)) = ((n - 1 - k : Nat) : Int) by omega, show ((f : Int) - (i : Int)) = ((f - i : Nat) : Int) by omega]
    refine ⟨by omega, ?_⟩
    refine c_choices (d + 1) (by omega) (by omega) ⟨hR, ?_⟩
    have hr0 : 1 ≤ r := by
      rw [hr]
      exact Nat.mul_pos (Nat.two_pow_pos k) (by omega)
    have e1 : a_land (r : Int) (w64 ((r : Int) - 1)) = ((2 ^ (k + 1) * q : Nat) : Int) := by
      rw [show (r : Int) - 1 = ((r - 1 : Nat) : Int) by omega, w64_n (by omega), a_land_n (by omega) (by omega), low_clear hr]
    rw [lbit (by omega) (by omega), w32_id (by omega) (by omega), e1, show ((s : Int) - ((ch (n - 1 - k) (f - i) : Nat) : Int)) = ((s - ch (n - 1 - k) (f - i) : Nat) : Int) by omega]
    exact ⟨by omega, hnext _ _ _⟩
  have hbl : ∀ {c i : Nat}, sig f x y z kd w c = sgw kd f w i → bt L c = if 0 ≤ sgw kd f w i then 0 else 1 := fun hs => HB_L hb hs (sgw_pm _ _ _ _)
  have c2s : ∀ {a : Nat}, a < n → C2 (n - a) = C2 (n - 1 - a) + (n - 1 - a) := fun ha => C2_s (by omega)
  have c3s : ∀ {a : Nat}, a < n → C3 (n - a) = C3 (n - 1 - a) + C2 (n - 1 - a) := fun ha => C3_s (by omega)
  rcases (show f = 0 ∨ f = 1 ∨ f = 2 ∨ f = 3 by omega) with rfl | rfl | rfl | rfl
  · have hw0 : kd = 3 → 0 = w := by
      intro e
      have e0 : wy kd 0 = 1 := by
        unfold wy
        rw [if_pos e]
      omega
    exact fin _ 0 _ _ _ _ _ hw0 (by omega)
  · have h1 := v4 (by omega)
    have s0 : sig 1 x y z kd w x = sgw kd 1 w 0 := by unfold sig; rw [if_pos ⟨by omega, rfl⟩]
    have ec : ch n 1 = n := rfl
    have ec2 : ch (n - 1 - x) (1 - 0) = n - 1 - x := rfl
    rw [show ((ch n 1 : Nat) : Int) - 1 = ((n - 1 : Nat) : Int) by omega]
    refine step x 0 0 (n - 1) 0 _ _ _ _ _ _ hor (r1 rfl) h1 (by omega) (by omega) (by omega) (by omega) (fun z4 z6 z11 => ?_)
    have er : n - 1 - ch (n - 1 - x) (1 - 0) = rk n 1 x y z := by
      show n - 1 - (n - 1 - x) = x
      omega
    have hbx := hbl s0
    have ew : 2 * (((0 : Nat) : Int)) + bt L x = ((ws (fun i => sgw kd 1 w i) 1 : Nat) : Int) := by
      rw [hbx]
      show _ = ((2 * 0 + (if 0 ≤ sgw kd 1 w 0 then 0 else 1) : Nat) : Int)
      split <;> rfl
    rw [er, ew]
    refine fin _ _ _ _ _ _ _ (fun e => by rw [if_pos e] at hws; exact hws) ?_
    have := ws_lt (fun i => sgw kd 1 w i) 1
    omega
  · have h1 := v4 (by omega)
    have h2 := v5 (by omega)
    have s0 : sig 2 x y z kd w x = sgw kd 2 w 0 := by unfold sig; rw [if_pos ⟨by omega, rfl⟩]
    have s1 : sig 2 x y z kd w y = sgw kd 2 w 1 := by unfold sig; rw [if_neg (by omega), if_pos ⟨by omega, rfl⟩]
    have ec : ch n 2 = C2 n := rfl
    have ec2 : ch (n - 1 - x) (2 - 0) = C2 (n - 1 - x) := rfl
    have ec3 : ch (n - 1 - y) (2 - 1) = n - 1 - y := rfl
    have m1 := C2_mono (show n - x ≤ n by omega)
    have m2 := c2s h1
    rw [show ((ch n 2 : Nat) : Int) - 1 = ((C2 n - 1 : Nat) : Int) by omega]
    refine step x _ 0 (C2 n - 1) 0 _ _ _ _ _ _ hor (r2 rfl) h1 (by omega) (by omega) (by omega) (by omega) (fun z4 z6 z11 => ?_)
    have hbx := hbl s0
    have hby := hbl s1
    obtain ⟨b0, hb0⟩ : ∃ b0 : Nat, bt L x = b0 ∧ b0 ≤ 1 ∧ b0 = (if 0 ≤ sgw kd 2 w 0 then 0 else 1) := by
      rw [hbx]
      by_cases q : 0 ≤ sgw kd 2 w 0
      · exact ⟨0, by rw [if_pos q]; rfl, by omega, by rw [if_pos q]⟩
      · exact ⟨1, by rw [if_neg q]; rfl, by omega, by rw [if_neg q]⟩
    rw [hb0.1, show 2 * (((0 : Nat) : Int)) + (b0 : Int) = (b0 : Int) by omega, ← pow_split h2.1]
    have ep : 2 ^ y = 2 ^ y * (2 * 0 + 1) := by omega
    refine step y 0 1 _ b0 _ _ _ _ _ _ (p40 (by omega)) ep (by omega) (by omega) (by omega) (by omega) (by omega) (fun z4 z6 z11 => ?_)
    have er : C2 n - 1 - ch (n - 1 - x) (2 - 0) - ch (n - 1 - y) (2 - 1) = rk n 2 x y z := by
      show C2 n - 1 - C2 (n - 1 - x) - (n - 1 - y) = C2 n - C2 (n - x) + (y - x - 1)
      omega
    have ew : 2 * (b0 : Int) + bt L y = ((ws (fun i => sgw kd 2 w i) 2 : Nat) : Int) := by
      rw [hby]
      show _ = ((2 * (2 * 0 + (if 0 ≤ sgw kd 2 w 0 then 0 else 1)) + (if 0 ≤ sgw kd 2 w 1 then 0 else 1) : Nat) : Int)
      rw [← hb0.2.2]
      split <;> omega
    rw [er, ew]
    refine fin _ _ _ _ _ _ _ (fun e => by rw [if_pos e] at hws; exact hws) ?_
    have := ws_lt (fun i => sgw kd 2 w i) 2
    omega
  · have h1 := v4 (by omega)
    have h2 := v5 (by omega)
    have h3 := v6 (by omega)
    have s0 : sig 3 x y z kd w x = sgw kd 3 w 0 := by unfold sig; rw [if_pos ⟨by omega, rfl⟩]
    have s1 : sig 3 x y z kd w y = sgw kd 3 w 1 := by unfold sig; rw [if_neg (by omega), if_pos ⟨by omega, rfl⟩]
    have s2 : sig 3 x y z kd w z = sgw kd 3 w 2 := by unfold sig; rw [if_neg (by omega), if_neg (by omega), if_pos ⟨by omega, rfl⟩]
    have ec : ch n 3 = C3 n := rfl
    have ec2 : ch (n - 1 - x) (3 - 0) = C3 (n - 1 - x) := rfl
    have ec3 : ch (n - 1 - y) (3 - 1) = C2 (n - 1 - y) := rfl
    have ec4 : ch (n - 1 - z) (3 - 2) = n - 1 - z := rfl
    have m1 := C3_mono (show n - x ≤ n by omega)
    have m2 := c3s h1
    have m3 := c2s h2.2
    have m4 := C2_mono (show n - y ≤ n - 1 - x by omega)
    rw [show ((ch n 3 : Nat) : Int) - 1 = ((C3 n - 1 : Nat) : Int) by omega]
    refine step x _ 0 (C3 n - 1) 0 _ _ _ _ _ _ hor (r3 rfl) h1 (by omega) (by omega) (by omega) (by omega) (fun z4 z6 z11 => ?_)
    have hbx := hbl s0
    have hby := hbl s1
    have hbz := hbl s2
    obtain ⟨b0, hb0⟩ : ∃ b0 : Nat, bt L x = b0 ∧ b0 ≤ 1 ∧ b0 = (if 0 ≤ sgw kd 3 w 0 then 0 else 1) := by
      rw [hbx]
      by_cases q : 0 ≤ sgw kd 3 w 0
      · exact ⟨0, by rw [if_pos q]; rfl, by omega, by rw [if_pos q]⟩
      · exact ⟨1, by rw [if_neg q]; rfl, by omega, by rw [if_neg q]⟩
    obtain ⟨b1, hb1⟩ : ∃ b1 : Nat, bt L y = b1 ∧ b1 ≤ 1 ∧ b1 = (if 0 ≤ sgw kd 3 w 1 then 0 else 1) := by
      rw [hby]
      by_cases q : 0 ≤ sgw kd 3 w 1
      · exact ⟨0, by rw [if_pos q]; rfl, by omega, by rw [if_pos q]⟩
      · exact ⟨1, by rw [if_neg q]; rfl, by omega, by rw [if_neg q]⟩
    have e2 : 2 ^ (x + 1) * (2 ^ (y - x - 1) + 2 ^ (z - x - 1)) = 2 ^ y * (2 * 2 ^ (z - y - 1) + 1) := by
      rw [Nat.mul_add, ← pow_split h2.1, ← pow_split (show x < z by omega), pow_split h3.1, Nat.pow_succ, Nat.mul_add, Nat.mul_one, Nat.mul_assoc]
      omega
    have hlt2 : 2 ^ y * (2 * 2 ^ (z - y - 1) + 1) < 1099511627776 := by
      have q1 : 2 ^ y * (2 * 2 ^ (z - y - 1) + 1) = 2 ^ z + 2 ^ y := by
        rw [Nat.mul_add, Nat.mul_one, pow_split h3.1, Nat.pow_succ, Nat.mul_assoc]
      have q2 := Nat.pow_lt_pow_right (a := 2) (by omega) h3.1
      have q3 := Nat.pow_le_pow_right (n := 2) (by omega) (show z + 1 ≤ 40 by omega)
      rw [Nat.pow_succ] at q3
      omega
    rw [hb0.1, show 2 * (((0 : Nat) : Int)) + (b0 : Int) = (b0 : Int) by omega, e2]
    refine step y _ 1 _ b0 _ _ _ _ _ _ hlt2 rfl (by omega) (by omega) (by omega) (by omega) (by omega) (fun z4 z6 z11 => ?_)
    rw [hb1.1, show 2 * (b0 : Int) + (b1 : Int) = ((2 * b0 + b1 : Nat) : Int) by omega, ← pow_split h3.1]
    have ep : 2 ^ z = 2 ^ z * (2 * 0 + 1) := by omega
    refine step z 0 2 _ (2 * b0 + b1) _ _ _ _ _ _ (p40 (by omega)) ep (by omega) (by omega) (by omega) (by omega) (by omega) (fun z4 z6 z11 => ?_)
    have er : C3 n - 1 - ch (n - 1 - x) (3 - 0) - ch (n - 1 - y) (3 - 1) - ch (n - 1 - z) (3 - 2) = rk n 3 x y z := by
      show C3 n - 1 - C3 (n - 1 - x) - C2 (n - 1 - y) - (n - 1 - z) = C3 n - C3 (n - x) + (C2 (n - 1 - x) - C2 (n - y)) + (z - y - 1)
      omega
    have ew : 2 * ((2 * b0 + b1 : Nat) : Int) + bt L z = ((ws (fun i => sgw kd 3 w i) 3 : Nat) : Int) := by
      rw [hbz]
      show _ = ((2 * (2 * (2 * 0 + (if 0 ≤ sgw kd 3 w 0 then 0 else 1)) + (if 0 ≤ sgw kd 3 w 1 then 0 else 1)) + (if 0 ≤ sgw kd 3 w 2 then 0 else 1) : Nat) : Int)
      rw [← hb0.2.2, ← hb1.2.2]
      split <;> omega
    rw [er, ew]
    refine fin _ _ _ _ _ _ _ (fun e => by rw [if_pos e] at hws; exact hws) ?_
    have := ws_lt (fun i => sgw kd 3 w i) 3
    omega
