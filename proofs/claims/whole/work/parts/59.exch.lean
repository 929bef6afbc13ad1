/-! the class: exchanged, exchangeable -/
theorem cmp0 {x y : Int} : a_cmp x y = 0 ↔ x = y := by
  unfold a_cmp
  split
  · constructor
    · intro h; omega
    · intro h; omega
  · split
    · rename_i h; exact ⟨fun _ => h, fun _ => rfl⟩
    · rename_i h; exact ⟨fun q => absurd q (by decide), fun q => absurd q h⟩
/-- bits with two coins exchanged -/
def exb (a b X : Nat) : Nat := if X &&& (2 ^ a ||| 2 ^ b) = 0 ∨ X &&& (2 ^ a ||| 2 ^ b) = (2 ^ a ||| 2 ^ b) then X else X ^^^ (2 ^ a ||| 2 ^ b)
theorem bt_two (a b c : Nat) : bt (2 ^ a ||| 2 ^ b) c = if c = a ∨ c = b then 1 else 0 := by
  rw [bt_or, bt_pow, bt_pow]
  by_cases h1 : c = a
  · by_cases h2 : c = b
    · rw [if_pos h1, if_pos h2, if_pos (Or.inl h1)]; rfl
    · rw [if_pos h1, if_neg h2, if_pos (Or.inl h1)]; rfl
  · by_cases h2 : c = b
    · rw [if_neg h1, if_pos h2, if_pos (Or.inr h2)]; rfl
    · rw [if_neg h1, if_neg h2, if_neg (by omega)]; rfl
theorem exb_bt (a b X c : Nat) : bt (exb a b X) c = bt X (ex a b c) := by
  have ka := bt_01 X a
  have kb := bt_01 X b
  have ta : bt (X &&& (2 ^ a ||| 2 ^ b)) a = bt X a := by rw [bt_and, bt_two, if_pos (Or.inl rfl), Int.mul_one]
  have tb : bt (X &&& (2 ^ a ||| 2 ^ b)) b = bt X b := by rw [bt_and, bt_two, if_pos (Or.inr rfl), Int.mul_one]
  have da : bt (2 ^ a ||| 2 ^ b) a = 1 := by rw [bt_two, if_pos (Or.inl rfl)]
  have db : bt (2 ^ a ||| 2 ^ b) b = 1 := by rw [bt_two, if_pos (Or.inr rfl)]
  have same : bt X a = bt X b → bt X c = bt X (ex a b c) := by
    intro h
    unfold ex
    split
    · rename_i e; rw [e, h]
    · split
      · rename_i e; rw [e, h]
      · rfl
  unfold exb
  split
  · rename_i h
    refine same ?_
    rcases h with h | h
    · rw [h] at ta tb
      rw [← ta, ← tb, bt_0, bt_0]
    · rw [h] at ta tb
      rw [← ta, ← tb, da, db]
  · rename_i h
    have hd : bt X a ≠ bt X b := by
      intro e
      apply h
      rcases (show bt X a = 0 ∨ bt X a = 1 by omega) with e0 | e0
      · left
        refine bt_ext fun k => ?_
        rw [bt_and, bt_two, bt_0]
        split
        · rename_i q
          rcases q with q | q
          · rw [q, e0]; rfl
          · rw [q, ← e, e0]; rfl
        · exact Int.mul_zero _
      · right
        refine bt_ext fun k => ?_
        rw [bt_and, bt_two]
        split
        · rename_i q
          rcases q with q | q
          · rw [q, e0]; rfl
          · rw [q, ← e, e0]; rfl
        · exact Int.mul_zero _
    rw [bt_xor, bt_two]
    unfold ex
    by_cases h1 : c = a
    · rw [if_pos (Or.inl h1), if_pos h1, h1]
      omega
    · by_cases h2 : c = b
      · rw [if_pos (Or.inr h2), if_neg h1, if_pos h2, h2]
        omega
      · rw [if_neg (by omega), if_neg h1, if_neg h2]
        omega
theorem exb_lt {a b X : Nat} (ha : a < 40) (hb : b < 40) (hX : X < 1099511627776) : exb a b X < 1099511627776 := by
  unfold exb
  split
  · exact hX
  · exact Nat.xor_lt_two_pow (n := 40) hX (Nat.or_lt_two_pow (n := 40) (p40 ha) (p40 hb))
theorem exb_eq {a b X : Nat} (ha : a < 40) (hb : b < 40) (hX : X < 1099511627776) : (if a_cmp (a_land (X : Int) (a_lor (a_lshl 1 (a : Int)) (a_lshl 1 (b : Int)))) 0 = 0 then (X : Int) else (if a_cmp (a_land (X : Int) (a_lor (a_lshl 1 (a : Int)) (a_lshl 1 (b : Int)))) (a_lor (a_lshl 1 (a : Int)) (a_lshl 1 (b : Int))) = 0 then (X : Int) else (a_lxor (X : Int) (a_lor (a_lshl 1 (a : Int)) (a_lshl 1 (b : Int)))))) = ((exb a b X : Nat) : Int) := by
  have p1 := p40 ha
  have p2 := p40 hb
  have p3 : (2 ^ a ||| 2 ^ b) < 1099511627776 := Nat.or_lt_two_pow (n := 40) p1 p2
  have e1 : a_lshl 1 (a : Int) = ((2 ^ a : Nat) : Int) := by
    have := a_lshl_n (x := 1) (k := a) (by omega) (by omega)
    rw [Nat.one_mul] at this
    exact this
  have e2 : a_lshl 1 (b : Int) = ((2 ^ b : Nat) : Int) := by
    have := a_lshl_n (x := 1) (k := b) (by omega) (by omega)
    rw [Nat.one_mul] at this
    exact this
  rw [e1, e2, a_lor_n (by omega) (by omega), a_land_n (by omega) (by omega), a_lxor_n (by omega) (by omega)]
  unfold exb
  by_cases h1 : X &&& (2 ^ a ||| 2 ^ b) = 0
  · rw [if_pos (Or.inl h1), if_pos (cmp0.mpr (by rw [h1]; rfl))]
  · by_cases h2 : X &&& (2 ^ a ||| 2 ^ b) = (2 ^ a ||| 2 ^ b)
    · rw [if_pos (Or.inr h2), if_neg (fun q => h1 (by have := cmp0.mp q; omega)), if_pos (cmp0.mpr (by rw [h2]))]
    · have h3 : ¬ (X &&& (2 ^ a ||| 2 ^ b) = 0 ∨ X &&& (2 ^ a ||| 2 ^ b) = (2 ^ a ||| 2 ^ b)) := fun q => q.elim h1 h2
      rw [if_neg h3, if_neg (fun q => h1 (by have := cmp0.mp q; omega)), if_neg (fun q => h2 (by have := cmp0.mp q; omega))]
/-- the class's rows of what is false, as the truths are numbered -/
def KTt (σ : am_S) (aH aL n l m : Nat) (kd : Int) (T : Nat) : Prop := ∀ t, t < T → 0 ≤ sI σ aH t ∧ 0 ≤ sI σ aL t ∧ ∀ f x y z w, Vc n l m kd f x y z w → t = Nm n l kd f x y z w → HB (sI σ aH t).toNat (sI σ aL t).toNat f x y z w kd
theorem TI_has {σ : am_S} {n l m T : Nat} {kd : Int} (h : TI σ n l m kd T) {t : Nat} (ht : t < T) : ∃ f x y z w, Vc n l m kd f x y z w ∧ t = Nm n l kd f x y z w ∧ CT σ t f x y z kd w := h.2.2.2.2.2.2.2.2.2.2 t ht
theorem calls_out {d m : Nat} {vs : List am_V} {σ : am_S} {p : Prop} (h : am_Calls PP MLL d m vs σ (kI fun _ _ => p)) : p := by
  cases d with
  | zero => exact absurd h id
  | succ d =>
    unfold am_Calls at h
    dsimp only at h
    split at h
    · exact absurd h id
    · obtain ⟨k, r, _, h2⟩ := h
      obtain ⟨v, s⟩ := r
      rcases v with _ | x | x | x
      · exact absurd h2 id
      · exact h2
      · exact absurd h2 id
      · exact absurd h2 id
theorem EX_has {σ : am_S} {n l m T t f x y z w a b : Nat} {kd : Int} (hF : MF σ) (h : TI σ n l m kd T) (ht : t < T) (hv : Vc n l m kd f x y z w) (hN : t = Nm n l kd f x y z w) (hc : CT σ t f x y z kd w) (ha : a < n) (hb : b < n) : ∃ u, EX n l m kd f x y z w a b u := by
  obtain ⟨h1, h2, h3, h4, h5, h6, h7, h8, h9, h10, h11⟩ := h
  exact calls_out (c_M_exchanged 0 hF h5 h1 h6 h2 (by omega) hv hc (h10 f hv.1 hv.2.1) hN ha hb (K := fun _ _ => ∃ u, EX n l m kd f x y z w a b u) (fun s u _ hx => ⟨u, hx⟩))

theorem v_Truths_exchanged_0 (d : Nat) (aH nH aL nL aY nY aS nS : Nat) (p1 p2 p3 : Int) (σ : am_S) (K : Int → am_S → Prop) (hR : TR σ aH nH aL nL aY nY aS nS) (h :
  (0 ≤ p1 ∧ p1 < ((nH : Nat) : Int)) ∧
  p1 < ((nL : Nat) : Int) ∧
  (((a_cmp (if (a_cmp (a_land (sI σ aH (Int.toNat p1)) (a_lor (a_lshl 1 p2) (a_lshl 1 p3))) 0) = 0 then (sI σ aH (Int.toNat p1) : Int) else (if (a_cmp (a_land (sI σ aH (Int.toNat p1)) (a_lor (a_lshl 1 p2) (a_lshl 1 p3))) (a_lor (a_lshl 1 p2) (a_lshl 1 p3))) = 0 then (sI σ aH (Int.toNat p1) : Int) else (a_lxor (sI σ aH (Int.toNat p1)) (a_lor (a_lshl 1 p2) (a_lshl 1 p3))))) (sI σ aH (Int.toNat p1))) = 0 →
    (((a_cmp (if (a_cmp (a_land (sI σ aL (Int.toNat p1)) (a_lor (a_lshl 1 p2) (a_lshl 1 p3))) 0) = 0 then (sI σ aL (Int.toNat p1) : Int) else (if (a_cmp (a_land (sI σ aL (Int.toNat p1)) (a_lor (a_lshl 1 p2) (a_lshl 1 p3))) (a_lor (a_lshl 1 p2) (a_lshl 1 p3))) = 0 then (sI σ aL (Int.toNat p1) : Int) else (a_lxor (sI σ aL (Int.toNat p1)) (a_lor (a_lshl 1 p2) (a_lshl 1 p3))))) (sI σ aL (Int.toNat p1))) = 0 →
      K p1 σ) ∧
    (¬ ((a_cmp (if (a_cmp (a_land (sI σ aL (Int.toNat p1)) (a_lor (a_lshl 1 p2) (a_lshl 1 p3))) 0) = 0 then (sI σ aL (Int.toNat p1) : Int) else (if (a_cmp (a_land (sI σ aL (Int.toNat p1)) (a_lor (a_lshl 1 p2) (a_lshl 1 p3))) (a_lor (a_lshl 1 p2) (a_lshl 1 p3))) = 0 then (sI σ aL (Int.toNat p1) : Int) else (a_lxor (sI σ aL (Int.toNat p1)) (a_lor (a_lshl 1 p2) (a_lshl 1 p3))))) (sI σ aL (Int.toNat p1))) = 0) →
      am_Calls PP MLL (d + 3) m_Truths_numberOf [qr (3, 9, 11), ql (if (a_cmp (a_land (sI σ aH (Int.toNat p1)) (a_lor (a_lshl 1 p2) (a_lshl 1 p3))) 0) = 0 then (sI σ aH (Int.toNat p1) : Int) else (if (a_cmp (a_land (sI σ aH (Int.toNat p1)) (a_lor (a_lshl 1 p2) (a_lshl 1 p3))) (a_lor (a_lshl 1 p2) (a_lshl 1 p3))) = 0 then (sI σ aH (Int.toNat p1) : Int) else (a_lxor (sI σ aH (Int.toNat p1)) (a_lor (a_lshl 1 p2) (a_lshl 1 p3))))), ql (if (a_cmp (a_land (sI σ aL (Int.toNat p1)) (a_lor (a_lshl 1 p2) (a_lshl 1 p3))) 0) = 0 then (sI σ aL (Int.toNat p1) : Int) else (if (a_cmp (a_land (sI σ aL (Int.toNat p1)) (a_lor (a_lshl 1 p2) (a_lshl 1 p3))) (a_lor (a_lshl 1 p2) (a_lshl 1 p3))) = 0 then (sI σ aL (Int.toNat p1) : Int) else (a_lxor (sI σ aL (Int.toNat p1)) (a_lor (a_lshl 1 p2) (a_lshl 1 p3)))))] σ (kI fun x10 s10 =>
        (TR s10 aH nH aL nL aY nY aS nS) ∧
        K x10 s10)))) ∧
  (¬ ((a_cmp (if (a_cmp (a_land (sI σ aH (Int.toNat p1)) (a_lor (a_lshl 1 p2) (a_lshl 1 p3))) 0) = 0 then (sI σ aH (Int.toNat p1) : Int) else (if (a_cmp (a_land (sI σ aH (Int.toNat p1)) (a_lor (a_lshl 1 p2) (a_lshl 1 p3))) (a_lor (a_lshl 1 p2) (a_lshl 1 p3))) = 0 then (sI σ aH (Int.toNat p1) : Int) else (a_lxor (sI σ aH (Int.toNat p1)) (a_lor (a_lshl 1 p2) (a_lshl 1 p3))))) (sI σ aH (Int.toNat p1))) = 0) →
    am_Calls PP MLL (d + 3) m_Truths_numberOf [qr (3, 9, 11), ql (if (a_cmp (a_land (sI σ aH (Int.toNat p1)) (a_lor (a_lshl 1 p2) (a_lshl 1 p3))) 0) = 0 then (sI σ aH (Int.toNat p1) : Int) else (if (a_cmp (a_land (sI σ aH (Int.toNat p1)) (a_lor (a_lshl 1 p2) (a_lshl 1 p3))) (a_lor (a_lshl 1 p2) (a_lshl 1 p3))) = 0 then (sI σ aH (Int.toNat p1) : Int) else (a_lxor (sI σ aH (Int.toNat p1)) (a_lor (a_lshl 1 p2) (a_lshl 1 p3))))), ql (if (a_cmp (a_land (sI σ aL (Int.toNat p1)) (a_lor (a_lshl 1 p2) (a_lshl 1 p3))) 0) = 0 then (sI σ aL (Int.toNat p1) : Int) else (if (a_cmp (a_land (sI σ aL (Int.toNat p1)) (a_lor (a_lshl 1 p2) (a_lshl 1 p3))) (a_lor (a_lshl 1 p2) (a_lshl 1 p3))) = 0 then (sI σ aL (Int.toNat p1) : Int) else (a_lxor (sI σ aL (Int.toNat p1)) (a_lor (a_lshl 1 p2) (a_lshl 1 p3)))))] σ (kI fun x11 s11 =>
      (TR s11 aH nH aL nL aY nY aS nS) ∧
      K x11 s11)))) : am_Runs PP MLL (d + 3) m_Truths_exchanged 0 [some (qr (3, 9, 11)), some (qi p1), some (qi p2), some (qi p3), none, none, none, none, none, none] [] σ (kI K) := am_wEF_ok (orc [(9, aH, 21, nH), (16, aL, 21, nL), (24, aH, 21, nH), (31, aL, 21, nL)]) 200 (⟨⟨rfl, hR.2.1⟩, ⟨⟨rfl, h.1.1, h.1.2⟩, am_wEC_ok (orc []) [17] 200 (am_use (fun H13 => ⟨fun c1 => (Eq.mp (congrArg (fun z => am_Runs _ _ _ _ _ _ (ql z :: _) _ _) (if_pos c1 : (if (a_cmp (a_land (sI σ aH (Int.toNat p1)) (a_lor (a_lshl 1 p2) (a_lshl 1 p3))) 0) = 0 then (sI σ aH (Int.toNat p1) : Int) else if (a_cmp (a_land (sI σ aH (Int.toNat p1)) (a_lor (a_lshl 1 p2) (a_lshl 1 p3))) (a_lor (a_lshl 1 p2) (a_lshl 1 p3))) = 0 then (sI σ aH (Int.toNat p1) : Int) else (a_lxor (sI σ aH (Int.toNat p1)) (a_lor (a_lshl 1 p2) (a_lshl 1 p3)))) = sI σ aH (Int.toNat p1))) H13), fun c1 => ⟨fun c2 => (Eq.mp (congrArg (fun z => am_Runs _ _ _ _ _ _ (ql z :: _) _ _) (Eq.trans (if_neg c1 : (if (a_cmp (a_land (sI σ aH (Int.toNat p1)) (a_lor (a_lshl 1 p2) (a_lshl 1 p3))) 0) = 0 then (sI σ aH (Int.toNat p1) : Int) else if (a_cmp (a_land (sI σ aH (Int.toNat p1)) (a_lor (a_lshl 1 p2) (a_lshl 1 p3))) (a_lor (a_lshl 1 p2) (a_lshl 1 p3))) = 0 then (sI σ aH (Int.toNat p1) : Int) else (a_lxor (sI σ aH (Int.toNat p1)) (a_lor (a_lshl 1 p2) (a_lshl 1 p3)))) = if (a_cmp (a_land (sI σ aH (Int.toNat p1)) (a_lor (a_lshl 1 p2) (a_lshl 1 p3))) (a_lor (a_lshl 1 p2) (a_lshl 1 p3))) = 0 then (sI σ aH (Int.toNat p1) : Int) else (a_lxor (sI σ aH (Int.toNat p1)) (a_lor (a_lshl 1 p2) (a_lshl 1 p3)))) (if_pos c2 : (if (a_cmp (a_land (sI σ aH (Int.toNat p1)) (a_lor (a_lshl 1 p2) (a_lshl 1 p3))) (a_lor (a_lshl 1 p2) (a_lshl 1 p3))) = 0 then (sI σ aH (Int.toNat p1) : Int) else a_lxor (sI σ aH (Int.toNat p1)) (a_lor (a_lshl 1 p2) (a_lshl 1 p3))) = sI σ aH (Int.toNat p1)))) H13), fun c2 => (Eq.mp (congrArg (fun z => am_Runs _ _ _ _ _ _ (ql z :: _) _ _) (Eq.trans (if_neg c1 : (if (a_cmp (a_land (sI σ aH (Int.toNat p1)) (a_lor (a_lshl 1 p2) (a_lshl 1 p3))) 0) = 0 then (sI σ aH (Int.toNat p1) : Int) else if (a_cmp (a_land (sI σ aH (Int.toNat p1)) (a_lor (a_lshl 1 p2) (a_lshl 1 p3))) (a_lor (a_lshl 1 p2) (a_lshl 1 p3))) = 0 then (sI σ aH (Int.toNat p1) : Int) else (a_lxor (sI σ aH (Int.toNat p1)) (a_lor (a_lshl 1 p2) (a_lshl 1 p3)))) = if (a_cmp (a_land (sI σ aH (Int.toNat p1)) (a_lor (a_lshl 1 p2) (a_lshl 1 p3))) (a_lor (a_lshl 1 p2) (a_lshl 1 p3))) = 0 then (sI σ aH (Int.toNat p1) : Int) else (a_lxor (sI σ aH (Int.toNat p1)) (a_lor (a_lshl 1 p2) (a_lshl 1 p3)))) (if_neg c2 : (if (a_cmp (a_land (sI σ aH (Int.toNat p1)) (a_lor (a_lshl 1 p2) (a_lshl 1 p3))) (a_lor (a_lshl 1 p2) (a_lshl 1 p3))) = 0 then (sI σ aH (Int.toNat p1) : Int) else a_lxor (sI σ aH (Int.toNat p1)) (a_lor (a_lshl 1 p2) (a_lshl 1 p3))) = a_lxor (sI σ aH (Int.toNat p1)) (a_lor (a_lshl 1 p2) (a_lshl 1 p3))))) H13)⟩⟩) (am_wEC_ok (orc []) [17] 200 (⟨⟨rfl, hR.2.2.1⟩, ⟨⟨rfl, h.1.1, h.2.1⟩, am_wEC_ok (orc []) [17] 200 (am_use (fun H12 => ⟨fun c3 => (Eq.mp (congrArg (fun z => am_Runs _ _ _ _ _ _ (ql z :: _) _ _) (if_pos c3 : (if (a_cmp (a_land (sI σ aL (Int.toNat p1)) (a_lor (a_lshl 1 p2) (a_lshl 1 p3))) 0) = 0 then (sI σ aL (Int.toNat p1) : Int) else if (a_cmp (a_land (sI σ aL (Int.toNat p1)) (a_lor (a_lshl 1 p2) (a_lshl 1 p3))) (a_lor (a_lshl 1 p2) (a_lshl 1 p3))) = 0 then (sI σ aL (Int.toNat p1) : Int) else (a_lxor (sI σ aL (Int.toNat p1)) (a_lor (a_lshl 1 p2) (a_lshl 1 p3)))) = sI σ aL (Int.toNat p1))) H12), fun c3 => ⟨fun c4 => (Eq.mp (congrArg (fun z => am_Runs _ _ _ _ _ _ (ql z :: _) _ _) (Eq.trans (if_neg c3 : (if (a_cmp (a_land (sI σ aL (Int.toNat p1)) (a_lor (a_lshl 1 p2) (a_lshl 1 p3))) 0) = 0 then (sI σ aL (Int.toNat p1) : Int) else if (a_cmp (a_land (sI σ aL (Int.toNat p1)) (a_lor (a_lshl 1 p2) (a_lshl 1 p3))) (a_lor (a_lshl 1 p2) (a_lshl 1 p3))) = 0 then (sI σ aL (Int.toNat p1) : Int) else (a_lxor (sI σ aL (Int.toNat p1)) (a_lor (a_lshl 1 p2) (a_lshl 1 p3)))) = if (a_cmp (a_land (sI σ aL (Int.toNat p1)) (a_lor (a_lshl 1 p2) (a_lshl 1 p3))) (a_lor (a_lshl 1 p2) (a_lshl 1 p3))) = 0 then (sI σ aL (Int.toNat p1) : Int) else (a_lxor (sI σ aL (Int.toNat p1)) (a_lor (a_lshl 1 p2) (a_lshl 1 p3)))) (if_pos c4 : (if (a_cmp (a_land (sI σ aL (Int.toNat p1)) (a_lor (a_lshl 1 p2) (a_lshl 1 p3))) (a_lor (a_lshl 1 p2) (a_lshl 1 p3))) = 0 then (sI σ aL (Int.toNat p1) : Int) else a_lxor (sI σ aL (Int.toNat p1)) (a_lor (a_lshl 1 p2) (a_lshl 1 p3))) = sI σ aL (Int.toNat p1)))) H12), fun c4 => (Eq.mp (congrArg (fun z => am_Runs _ _ _ _ _ _ (ql z :: _) _ _) (Eq.trans (if_neg c3 : (if (a_cmp (a_land (sI σ aL (Int.toNat p1)) (a_lor (a_lshl 1 p2) (a_lshl 1 p3))) 0) = 0 then (sI σ aL (Int.toNat p1) : Int) else if (a_cmp (a_land (sI σ aL (Int.toNat p1)) (a_lor (a_lshl 1 p2) (a_lshl 1 p3))) (a_lor (a_lshl 1 p2) (a_lshl 1 p3))) = 0 then (sI σ aL (Int.toNat p1) : Int) else (a_lxor (sI σ aL (Int.toNat p1)) (a_lor (a_lshl 1 p2) (a_lshl 1 p3)))) = if (a_cmp (a_land (sI σ aL (Int.toNat p1)) (a_lor (a_lshl 1 p2) (a_lshl 1 p3))) (a_lor (a_lshl 1 p2) (a_lshl 1 p3))) = 0 then (sI σ aL (Int.toNat p1) : Int) else (a_lxor (sI σ aL (Int.toNat p1)) (a_lor (a_lshl 1 p2) (a_lshl 1 p3)))) (if_neg c4 : (if (a_cmp (a_land (sI σ aL (Int.toNat p1)) (a_lor (a_lshl 1 p2) (a_lshl 1 p3))) (a_lor (a_lshl 1 p2) (a_lshl 1 p3))) = 0 then (sI σ aL (Int.toNat p1) : Int) else a_lxor (sI σ aL (Int.toNat p1)) (a_lor (a_lshl 1 p2) (a_lshl 1 p3))) = a_lxor (sI σ aL (Int.toNat p1)) (a_lor (a_lshl 1 p2) (a_lshl 1 p3))))) H12)⟩⟩) (am_wEC_ok (orc []) [17] 200 (⟨⟨rfl, hR.2.1⟩, ⟨⟨rfl, h.1.1, h.1.2⟩, ⟨fun c7 => ⟨⟨rfl, hR.2.2.1⟩, ⟨⟨rfl, h.1.1, h.2.1⟩, ⟨fun c9 => ((h.2.2.1 c7).1 c9), fun c9 => ⟨rfl, (am_cI ((h.2.2.1 c7).2 c9) fun x10 s10 h10 => h10.2)⟩⟩⟩⟩, fun c7 => ⟨rfl, (am_cI (h.2.2.2 c7) fun x11 s11 h11 => h11.2)⟩⟩⟩⟩)))⟩⟩)))⟩⟩)

theorem c_exchanged (d : Nat) {aH nH aL nL aY nY aS nS : Nat} {n l m T t a b : Nat} {kd : Int} {σ : am_S} {K : Int → am_S → Prop} (hR : TR σ aH nH aL nL aY nY aS nS) (hF : MF σ) (hT : TI σ n l m kd T) (hK : KTt σ aH aL n l m kd T) (h30 : sI σ 3 0 = n) (h34 : sI σ 3 4 = l) (h35 : sI σ 3 5 = kd) (hH : T ≤ nH) (hL : T ≤ nL) (ht : t < T) (ha : a < n) (hb : b < n) (h : ∀ u, XR σ n l m kd a b t u → K (u : Int) σ) : am_Calls PP MLL (d + 4) m_Truths_exchanged [qr (3, 9, 11), qi (t : Int), qi (a : Int), qi (b : Int)] σ (kI K) := by
  have hT0 := hT
  obtain ⟨h1, h2, h3, h4, h5, h6, h7, h8, h9, h10, h11⟩ := hT
  obtain ⟨f, x, y, z, w, hv, hN, hc⟩ := h11 t ht
  obtain ⟨u, x', y', z', w', hv', hu, hs⟩ := EX_has hF hT0 ht hv hN hc ha hb
  obtain ⟨k1, k2, k3⟩ := hK t ht
  have hb0 := k3 f x y z w hv hN
  obtain ⟨H, eH⟩ : ∃ H : Nat, sI σ aH t = H := ⟨_, (Int.toNat_of_nonneg k1).symm⟩
  obtain ⟨L, eL⟩ : ∃ L : Nat, sI σ aL t = L := ⟨_, (Int.toNat_of_nonneg k2).symm⟩
  rw [eH, eL, Int.toNat_natCast, Int.toNat_natCast] at hb0
  have hx : XR σ n l m kd a b t u := ⟨f, x, y, z, w, hv, hc, x', y', z', w', hv', hu, hs⟩
  have hb1 : HB (exb a b H) (exb a b L) f x' y' z' w' kd := by
    refine ⟨exb_lt (by omega) (by omega) hb0.1, exb_lt (by omega) (by omega) hb0.2.1, fun c => ?_⟩
    rw [exb_bt, exb_bt, hs c]
    exact hb0.2.2 (ex a b c)
  have same : exb a b H = H → exb a b L = L → u = t := by
    intro e1 e2
    rw [e1, e2] at hb1
    have q : ∀ c, sig f x' y' z' kd w' c = sig f x y z kd w c := fun c => by rw [← (hb1.2.2 c).1, ← (hb0.2.2 c).1]
    obtain ⟨_, e3, e4, e5, e6⟩ := sig_inj h2 hv' hv q
    rw [hu, hN, e3, e4, e5, e6]
  refine v_Truths_exchanged_0 d aH nH aL nL aY nY aS nS t a b σ K hR ?_
  rw [Int.toNat_natCast, eH, eL]
  rw [exb_eq (by omega) (by omega) hb0.1, exb_eq (by omega) (by omega) hb0.2.1]
  refine ⟨by omega, by omega, ?_⟩
  have num := c_numberOf d hR h30 h1 h34 h35 h2 hv' hb1 (K := fun x s => TR s aH nH aL nL aY nY aS nS ∧ K x s) ⟨hR, by rw [← hu]; exact h u hx⟩
  refine ⟨fun c => ⟨fun c2 => ?_, fun _ => num⟩, fun _ => num⟩
  have k1 : exb a b H = H := by have := cmp0.mp c; omega
  have k2 : exb a b L = L := by have := cmp0.mp c2; omega
  have q := h u hx
  rw [same k1 k2] at q
  exact q
/-- THE CASE in the class and in the reference -/
def KS (σ : am_S) (aY aS T W : Nat) : Prop := ∀ t, t < T → sI σ aS t = sI σ 37 t + 1 ∧ -1 ≤ sI σ 37 t ∧ sI σ 37 t < W ∧ sI σ aY t = sI σ 38 t ∧ 0 ≤ sI σ 38 t ∧ sI σ 38 t < 2 ^ W ∧ pc (sI σ 38 t).toNat = sI σ 36 t
theorem p30 {W : Nat} (h : W ≤ 30) : (2 : Int) ^ W ≤ 1073741824 := by
  have := Nat.pow_le_pow_right (n := 2) (by omega) h
  have e : ((2 ^ W : Nat) : Int) = (2 : Int) ^ W := by norm_cast
  rw [← e]
  omega

theorem v_Truths_exchangeable_0 (d : Nat) (aH nH aL nL aY nY aS nS : Nat) (p1 p2 : Int) (σ : am_S) (K : Int → am_S → Prop) (hR : TR σ aH nH aL nL aY nY aS nS) (h :
  am_Runs PP MLL (d + 4) m_Truths_exchangeable 2 [some (qr (3, 9, 11)), some (qi p1), some (qi p2), some (qi 0), none] [] σ (kI K)) : am_Runs PP MLL (d + 4) m_Truths_exchangeable 0 [some (qr (3, 9, 11)), some (qi p1), some (qi p2), none, none] [] σ (kI K) := am_wEF_ok (orc []) 200 (h)

theorem v_Truths_exchangeable_2 (d : Nat) (aH nH aL nL aY nY aS nS : Nat) (p1 p2 v3 : Int) (z4 : Option am_V) (σ : am_S) (K : Int → am_S → Prop) (hR : TR σ aH nH aL nL aY nY aS nS) (h :
  (((sI σ 3 1) ≤ v3 →
    K 1 σ) ∧
  (¬ ((sI σ 3 1) ≤ v3) →
    (0 ≤ v3 ∧ v3 < ((nS : Nat) : Int)) ∧
    (((sI σ aS (Int.toNat v3)) = 0 →
      am_Calls PP MLL (d + 4) m_Truths_exchanged [qr (3, 9, 11), qi v3, qi p1, qi p2] σ (kI fun x3 s3 =>
        (TR s3 aH nH aL nL aY nY aS nS) ∧
        (0 ≤ x3 ∧ x3 < ((nS : Nat) : Int)) ∧
        (((sI s3 aS (Int.toNat x3)) = 0 →
          x3 < ((nY : Nat) : Int) ∧
          (0 ≤ (sI s3 aY (Int.toNat x3)) ∧ (sI s3 aY (Int.toNat x3)) < 1073741824) ∧
          v3 < ((nY : Nat) : Int) ∧
          (0 ≤ (sI s3 aY (Int.toNat v3)) ∧ (sI s3 aY (Int.toNat v3)) < 1073741824) ∧
          (((pc (Int.toNat (sI s3 aY (Int.toNat x3)))) = (pc (Int.toNat (sI s3 aY (Int.toNat v3)))) →
            (-2147483648 ≤ v3 + 1 ∧ v3 + 1 < 2147483648) ∧
            am_Runs PP MLL (d + 4) m_Truths_exchangeable 2 [some (qr (3, 9, 11)), some (qi p1), some (qi p2), some (qi (v3 + 1)), some (qi x3)] [] s3 (kI K)) ∧
          (¬ ((pc (Int.toNat (sI s3 aY (Int.toNat x3)))) = (pc (Int.toNat (sI s3 aY (Int.toNat v3))))) →
            K 0 s3))) ∧
        (¬ ((sI s3 aS (Int.toNat x3)) = 0) →
          K 0 s3)))) ∧
    (¬ ((sI σ aS (Int.toNat v3)) = 0) →
      (-2147483648 ≤ v3 + 1 ∧ v3 + 1 < 2147483648) ∧
      am_Runs PP MLL (d + 4) m_Truths_exchangeable 2 [some (qr (3, 9, 11)), some (qi p1), some (qi p2), some (qi (v3 + 1)), z4] [] σ (kI K)))))) : am_Runs PP MLL (d + 4) m_Truths_exchangeable 2 [some (qr (3, 9, 11)), some (qi p1), some (qi p2), some (qi v3), z4] [] σ (kI K) := am_wEF_ok (orc []) 200 (⟨rfl, ⟨fun c1 => ⟨(Or.inr rfl), (h.1 c1)⟩, fun c1 => ⟨rfl, am_wEF_ok (orc [(1, aS, 20, nS)]) 200 (⟨⟨rfl, hR.2.2.2.2⟩, ⟨⟨rfl, (h.2 c1).1.1, (h.2 c1).1.2⟩, ⟨fun c2 => ⟨(Or.inr rfl), ⟨fun c => absurd c (by decide : ¬ ((1 : Int) = 0)), fun _ => ⟨rfl, (am_cI ((h.2 c1).2.1 c2) fun x3 s3 h3 => ⟨rfl, am_wEF_ok (orc [(1, aS, 20, nS)]) 200 (⟨⟨rfl, h3.1.2.2.2.2⟩, ⟨⟨rfl, h3.2.1.1, h3.2.1.2⟩, ⟨fun c4 => ⟨(Or.inr rfl), ⟨fun c => absurd c (by decide : ¬ ((1 : Int) = 0)), fun _ => ⟨rfl, am_wEF_ok (orc [(1, aY, 20, nY)]) 200 (⟨⟨rfl, h3.1.2.2.2.1⟩, ⟨⟨rfl, h3.2.1.1, (h3.2.2.1 c4).1⟩, c_ibcI _ (h3.2.2.1 c4).2.1.1 (h3.2.2.1 c4).2.1.2 (⟨rfl, am_wEF_ok (orc [(1, aY, 20, nY)]) 200 (⟨⟨rfl, h3.1.2.2.2.1⟩, ⟨⟨rfl, (h.2 c1).1.1, (h3.2.2.1 c4).2.2.1⟩, c_ibcI _ (h3.2.2.1 c4).2.2.2.1.1 (h3.2.2.1 c4).2.2.2.1.2 (⟨fun c5 => ⟨⟨((h3.2.2.1 c4).2.2.2.2.1 c5).1.1, ((h3.2.2.1 c4).2.2.2.2.1 c5).1.2⟩, ((h3.2.2.1 c4).2.2.2.2.1 c5).2⟩, fun c5 => ⟨(Or.inl rfl), ((h3.2.2.1 c4).2.2.2.2.2 c5)⟩⟩)⟩⟩)⟩)⟩⟩)⟩⟩⟩, fun c4 => ⟨(Or.inl rfl), ⟨fun _ => ⟨(Or.inl rfl), (h3.2.2.2 c4)⟩, fun c => absurd (by decide : (0 : Int) = 0) c⟩⟩⟩⟩⟩)⟩)⟩⟩⟩, fun c2 => ⟨(Or.inl rfl), ⟨fun _ => ⟨⟨((h.2 c1).2.2 c2).1.1, ((h.2 c1).2.2 c2).1.2⟩, ((h.2 c1).2.2 c2).2⟩, fun c => absurd (by decide : (0 : Int) = 0) c⟩⟩⟩⟩⟩)⟩⟩⟩)

theorem c_exchangeable (d : Nat) {aH nH aL nL aY nY aS nS : Nat} {n l m T W a b : Nat} {kd : Int} {σ : am_S} {K : Int → am_S → Prop} (hR : TR σ aH nH aL nL aY nY aS nS) (hF : MF σ) (hT : TI σ n l m kd T) (hK : KTt σ aH aL n l m kd T) (hS : KS σ aY aS T W) (hW : W ≤ 30) (h30 : sI σ 3 0 = n) (h31 : sI σ 3 1 = T) (h34 : sI σ 3 4 = l) (h35 : sI σ 3 5 = kd) (hH : T ≤ nH) (hL : T ≤ nL) (hY : T ≤ nY) (hSn : T ≤ nS) (ha : a < n) (hb : b < n)
    (h1 : (∀ t, t < T → ∃ u, XR σ n l m kd a b t u ∧ gd σ t u) → K 1 σ) (h0 : (∃ t, t < T ∧ ∃ u, XR σ n l m kd a b t u ∧ ¬ gd σ t u) → K 0 σ) : am_Calls PP MLL (d + 5) m_Truths_exchangeable [qr (3, 9, 11), qi (a : Int), qi (b : Int)] σ (kI K) := by
  have hp := p30 hW
  have hT10 := hT.2.2.2.2.2.2.2.2.1
  have lp0 : ∀ i : Nat, i ≤ T → (∀ t, t < i → sI σ 37 t < 0 → ∃ u, XR σ n l m kd a b t u ∧ sI σ 37 u < 0 ∧ sI σ 36 t = sI σ 36 u) → ∀ z4, am_Runs PP MLL (d + 4) m_Truths_exchangeable 2 [some (qr (3, 9, 11)), some (qi (a : Int)), some (qi (b : Int)), some (qi (i : Int)), z4] [] σ (kI K) := by
    refine lp ?_ ?_
    · intro hi z4
      refine v_Truths_exchangeable_2 d aH nH aL nL aY nY aS nS a b _ z4 σ K hR ⟨fun _ => h1 fun t ht => ?_, fun c => absurd (by omega) c⟩
      by_cases hl : sI σ 37 t < 0
      · obtain ⟨u, q1, q2, q3⟩ := hi t ht hl
        exact ⟨u, q1, ⟨fun _ => q2, fun _ => hl⟩, fun _ => q3⟩
      · obtain ⟨f, x, y, z, w, hv, hN, hc⟩ := TI_has hT ht
        obtain ⟨u, hu⟩ := EX_has hF hT ht hv hN hc ha hb
        have hx : XR σ n l m kd a b t u := ⟨f, x, y, z, w, hv, hc, hu⟩
        refine ⟨u, hx, ⟨fun q => absurd q hl, fun q => ?_⟩, fun q => absurd q hl⟩
        have hx2 := XR_back hT ht hx
        obtain ⟨v, r1, r2, r3⟩ := hi u (XR_lt hT hx) q
        rw [XR_u hT.2.1 r1 hx2] at r2
        exact r2
    · intro i hi ih hl z4
      obtain ⟨s1, s2, s3, s4, s5, s6, s7⟩ := hS i hi
      refine v_Truths_exchangeable_2 d aH nH aL nL aY nY aS nS a b _ z4 σ K hR ⟨fun c => absurd c (by omega), fun _ => ?_⟩
      rw [Int.toNat_natCast]
      refine ⟨by omega, fun c => ?_, fun c => ⟨by omega, ?_⟩⟩
      · refine c_exchanged d hR hF hT hK h30 h34 h35 hH hL hi ha hb fun u hu => ⟨hR, ?_⟩
        have hul := XR_lt hT hu
        obtain ⟨r1, r2, r3, r4, r5, r6, r7⟩ := hS u hul
        rw [Int.toNat_natCast]
        refine ⟨by omega, fun c2 => ⟨by omega, by omega, by omega, by omega, ?_⟩, fun c2 => ?_⟩
        · rw [s4, r4, s7, r7]
          refine ⟨fun c3 => ⟨by omega, ?_⟩, fun c3 => ?_⟩
          · refine ih ?_ _
            intro t ht hlt
            by_cases e : t = i
            · subst e
              exact ⟨u, hu, by omega, c3.symm⟩
            · exact hl t (by omega) hlt
          · exact h0 ⟨i, hi, u, hu, fun g => c3 (g.2 (by omega)).symm⟩
        · exact h0 ⟨i, hi, u, hu, fun g => by have := g.1.mp (by omega); omega⟩
      · refine ih ?_ _
        intro t ht hlt
        by_cases e : t = i
        · subst e
          omega
        · exact hl t (by omega) hlt
  refine v_Truths_exchangeable_0 d aH nH aL nL aY nY aS nS a b σ K hR ?_
  exact lp0 0 (Nat.zero_le _) (fun t ht => absurd ht (Nat.not_lt_zero t)) _
