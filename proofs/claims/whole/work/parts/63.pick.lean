/-! the class: addPicked -/
def hvy (kd : Int) (f w : Nat) (p : Nat → Nat) : Nat → Nat
  | 0 => 0
  | i + 1 => if sgw kd f w i = 1 then hvy kd f w p i ||| 2 ^ p i else hvy kd f w p i
def lgt (kd : Int) (f w : Nat) (p : Nat → Nat) : Nat → Nat
  | 0 => 0
  | i + 1 => if sgw kd f w i = 1 then lgt kd f w p i else lgt kd f w p i ||| 2 ^ p i
theorem hvy_lt {kd : Int} {f w : Nat} {p : Nat → Nat} : ∀ i, (∀ j, j < i → p j < 40) → hvy kd f w p i < 1099511627776 ∧ lgt kd f w p i < 1099511627776
  | 0, _ => ⟨by unfold hvy; omega, by unfold lgt; omega⟩
  | i + 1, h => by
    have ih := hvy_lt (kd := kd) (f := f) (w := w) (p := p) i (fun j hj => h j (by omega))
    have hp := p40 (h i (by omega))
    unfold hvy lgt
    split
    · exact ⟨Nat.or_lt_two_pow (n := 40) ih.1 hp, ih.2⟩
    · exact ⟨ih.1, Nat.or_lt_two_pow (n := 40) ih.2 hp⟩
theorem hl_ok {kd : Int} {f w : Nat} {p : Nat → Nat} : ∀ i, (∀ j k, j < i → k < i → p j = p k → j = k) → ∀ c, bt (hvy kd f w p i) c - bt (lgt kd f w p i) c = sm (fun j => if c = p j then sgw kd f w j else 0) i ∧ bt (hvy kd f w p i) c * bt (lgt kd f w p i) c = 0
  | 0, _, c => by
    show bt 0 c - bt 0 c = 0 ∧ bt 0 c * bt 0 c = 0
    rw [bt_0]
    exact ⟨rfl, rfl⟩
  | i + 1, h, c => by
    have ih := hl_ok (kd := kd) (f := f) (w := w) (p := p) i (fun j k hj hk e => h j k (by omega) (by omega) e) c
    have b1 := bt_01 (hvy kd f w p i) c
    have b2 := bt_01 (lgt kd f w p i) c
    show bt (hvy kd f w p (i + 1)) c - bt (lgt kd f w p (i + 1)) c = sm (fun j => if c = p j then sgw kd f w j else 0) i + (if c = p i then sgw kd f w i else 0) ∧ _
    by_cases e : c = p i
    · have z : sm (fun j => if c = p j then sgw kd f w j else 0) i = 0 := by
        rw [sm_congr i (g := fun _ => 0) (fun j hj => if_neg (fun q => by have := h j i (by omega) (by omega) (by rw [← q, e]); omega)), sm_zero]
      rw [z] at ih ⊢
      rw [if_pos e]
      have z1 : bt (hvy kd f w p i) c = 0 ∧ bt (lgt kd f w p i) c = 0 := by
        rcases (show bt (hvy kd f w p i) c = 0 ∨ bt (hvy kd f w p i) c = 1 by omega) with q | q
        · exact ⟨q, by omega⟩
        · have q2 : bt (lgt kd f w p i) c = 1 := by omega
          have := ih.2
          rw [q, q2] at this
          exact absurd this (by decide)
      unfold hvy lgt
      rcases sgw_pm kd f w i with s | s
      · rw [if_pos s, if_pos s, bt_or, bt_pow, if_pos e, z1.1, z1.2, s]
        decide
      · rw [if_neg (by rw [s]; decide), if_neg (by rw [s]; decide), bt_or, bt_pow, if_pos e, z1.1, z1.2, s]
        decide
    · rw [if_neg e, Int.add_zero]
      unfold hvy lgt
      split
      · rw [bt_or, bt_pow, if_neg e, Int.mul_zero, Int.sub_zero, Int.add_zero]
        exact ih
      · rw [bt_or, bt_pow, if_neg e, Int.mul_zero, Int.sub_zero, Int.add_zero]
        exact ih
def pks (x y z i : Nat) : Nat := if i = 0 then x else if i = 1 then y else z
theorem pks_HB {n l m f x y z w : Nat} {kd : Int} (hn : n ≤ 40) (hv : Vc n l m kd f x y z w) : HB (hvy kd f w (pks x y z) f) (lgt kd f w (pks x y z) f) f x y z w kd := by
  obtain ⟨_, _, a3, a4, a5, a6, _, _, _, _⟩ := hv
  have hlt : ∀ j, j < f → pks x y z j < 40 := by
    intro j hj
    unfold pks
    (repeat' split) <;> omega
  have hinj : ∀ j k, j < f → k < f → pks x y z j = pks x y z k → j = k := by
    intro j k hj hk
    unfold pks
    (repeat' split) <;> omega
  have hb := hvy_lt (kd := kd) (f := f) (w := w) f hlt
  refine ⟨hb.1, hb.2, fun c => ?_⟩
  have ho := hl_ok (kd := kd) (f := f) (w := w) f hinj c
  refine ⟨ho.1.trans ?_, ho.2⟩
  unfold sig
  rcases (show f = 0 ∨ f = 1 ∨ f = 2 ∨ f = 3 by omega) with rfl | rfl | rfl | rfl
  · rw [if_neg (by omega), if_neg (by omega), if_neg (by omega)]
    rfl
  · show (0 : Int) + (if c = x then sgw kd 1 w 0 else 0) = _
    (repeat' split) <;> first | omega | rfl | (exfalso; omega) | simp_all
  · show (0 : Int) + (if c = x then sgw kd 2 w 0 else 0) + (if c = y then sgw kd 2 w 1 else 0) = _
    (repeat' split) <;> first | omega | rfl | (exfalso; omega) | simp_all
  · show (0 : Int) + (if c = x then sgw kd 3 w 0 else 0) + (if c = y then sgw kd 3 w 1 else 0) + (if c = z then sgw kd 3 w 2 else 0) = _
    (repeat' split) <;> first | omega | rfl | (exfalso; omega) | simp_all
/-- the class's store with one truth more -/
def apS (σ : am_S) (aH aL aY aS T H L : Nat) : am_S := putI (putI (putI (putI (putI σ aH T (H : Int)) aL T (L : Int)) aY T 0) aS T 0) 3 1 ((T : Int) + 1)

theorem v_Truths_addPicked_0 (d : Nat) (aH nH aL nL aY nY aS nS : Nat) (p1 p2 : Int) (σ : am_S) (K : am_S → Prop) (hR : TR σ aH nH aL nL aY nY aS nS) (h :
  am_Runs PP MLL d m_Truths_addPicked 6 [some (qr (3, 9, 11)), some (qi p1), some (qi p2), some (ql 0), none, some (ql 0), none, some (qi 0), none] [] σ (kV K)) : am_Runs PP MLL d m_Truths_addPicked 0 [some (qr (3, 9, 11)), some (qi p1), some (qi p2), none, none, none, none, none, none] [] σ (kV K) := am_wEC_ok (orc []) [27] 200 (h)

theorem v_Truths_addPicked_6 (d : Nat) (aH nH aL nL aY nY aS nS : Nat) (p1 p2 v3 v5 v7 : Int) (z4 z6 z8 : Option am_V) (σ : am_S) (K : am_S → Prop) (hR : TR σ aH nH aL nL aY nY aS nS) (h :
  ((p1 ≤ v7 →
    (0 ≤ (sI σ 3 1) ∧ (sI σ 3 1) < ((nH : Nat) : Int) ∧ 0 ≤ (sI (putI σ aH (Int.toNat (sI σ 3 1)) v3) 3 1) ∧ (sI (putI σ aH (Int.toNat (sI σ 3 1)) v3) 3 1) < ((nL : Nat) : Int) ∧ 0 ≤ (sI (putI (putI σ aH (Int.toNat (sI σ 3 1)) v3) aL (Int.toNat (sI (putI σ aH (Int.toNat (sI σ 3 1)) v3) 3 1)) v5) 3 1) ∧ (sI (putI (putI σ aH (Int.toNat (sI σ 3 1)) v3) aL (Int.toNat (sI (putI σ aH (Int.toNat (sI σ 3 1)) v3) 3 1)) v5) 3 1) < ((nY : Nat) : Int) ∧ 0 ≤ (sI (putI (putI (putI σ aH (Int.toNat (sI σ 3 1)) v3) aL (Int.toNat (sI (putI σ aH (Int.toNat (sI σ 3 1)) v3) 3 1)) v5) aY (Int.toNat (sI (putI (putI σ aH (Int.toNat (sI σ 3 1)) v3) aL (Int.toNat (sI (putI σ aH (Int.toNat (sI σ 3 1)) v3) 3 1)) v5) 3 1)) 0) 3 1) ∧ (sI (putI (putI (putI σ aH (Int.toNat (sI σ 3 1)) v3) aL (Int.toNat (sI (putI σ aH (Int.toNat (sI σ 3 1)) v3) 3 1)) v5) aY (Int.toNat (sI (putI (putI σ aH (Int.toNat (sI σ 3 1)) v3) aL (Int.toNat (sI (putI σ aH (Int.toNat (sI σ 3 1)) v3) 3 1)) v5) 3 1)) 0) 3 1) < ((nS : Nat) : Int) ∧ -2147483648 ≤ (sI (putI (putI (putI (putI σ aH (Int.toNat (sI σ 3 1)) v3) aL (Int.toNat (sI (putI σ aH (Int.toNat (sI σ 3 1)) v3) 3 1)) v5) aY (Int.toNat (sI (putI (putI σ aH (Int.toNat (sI σ 3 1)) v3) aL (Int.toNat (sI (putI σ aH (Int.toNat (sI σ 3 1)) v3) 3 1)) v5) 3 1)) 0) aS (Int.toNat (sI (putI (putI (putI σ aH (Int.toNat (sI σ 3 1)) v3) aL (Int.toNat (sI (putI σ aH (Int.toNat (sI σ 3 1)) v3) 3 1)) v5) aY (Int.toNat (sI (putI (putI σ aH (Int.toNat (sI σ 3 1)) v3) aL (Int.toNat (sI (putI σ aH (Int.toNat (sI σ 3 1)) v3) 3 1)) v5) 3 1)) 0) 3 1)) 0) 3 1) + 1 ∧ (sI (putI (putI (putI (putI σ aH (Int.toNat (sI σ 3 1)) v3) aL (Int.toNat (sI (putI σ aH (Int.toNat (sI σ 3 1)) v3) 3 1)) v5) aY (Int.toNat (sI (putI (putI σ aH (Int.toNat (sI σ 3 1)) v3) aL (Int.toNat (sI (putI σ aH (Int.toNat (sI σ 3 1)) v3) 3 1)) v5) 3 1)) 0) aS (Int.toNat (sI (putI (putI (putI σ aH (Int.toNat (sI σ 3 1)) v3) aL (Int.toNat (sI (putI σ aH (Int.toNat (sI σ 3 1)) v3) 3 1)) v5) aY (Int.toNat (sI (putI (putI σ aH (Int.toNat (sI σ 3 1)) v3) aL (Int.toNat (sI (putI σ aH (Int.toNat (sI σ 3 1)) v3) 3 1)) v5) 3 1)) 0) 3 1)) 0) 3 1) + 1 < 2147483648) ∧
    K (putI (putI (putI (putI (putI σ aH (Int.toNat (sI σ 3 1)) v3) aL (Int.toNat (sI (putI σ aH (Int.toNat (sI σ 3 1)) v3) 3 1)) v5) aY (Int.toNat (sI (putI (putI σ aH (Int.toNat (sI σ 3 1)) v3) aL (Int.toNat (sI (putI σ aH (Int.toNat (sI σ 3 1)) v3) 3 1)) v5) 3 1)) 0) aS (Int.toNat (sI (putI (putI (putI σ aH (Int.toNat (sI σ 3 1)) v3) aL (Int.toNat (sI (putI σ aH (Int.toNat (sI σ 3 1)) v3) 3 1)) v5) aY (Int.toNat (sI (putI (putI σ aH (Int.toNat (sI σ 3 1)) v3) aL (Int.toNat (sI (putI σ aH (Int.toNat (sI σ 3 1)) v3) 3 1)) v5) 3 1)) 0) 3 1)) 0) 3 1 ((sI (putI (putI (putI (putI σ aH (Int.toNat (sI σ 3 1)) v3) aL (Int.toNat (sI (putI σ aH (Int.toNat (sI σ 3 1)) v3) 3 1)) v5) aY (Int.toNat (sI (putI (putI σ aH (Int.toNat (sI σ 3 1)) v3) aL (Int.toNat (sI (putI σ aH (Int.toNat (sI σ 3 1)) v3) 3 1)) v5) 3 1)) 0) aS (Int.toNat (sI (putI (putI (putI σ aH (Int.toNat (sI σ 3 1)) v3) aL (Int.toNat (sI (putI σ aH (Int.toNat (sI σ 3 1)) v3) 3 1)) v5) aY (Int.toNat (sI (putI (putI σ aH (Int.toNat (sI σ 3 1)) v3) aL (Int.toNat (sI (putI σ aH (Int.toNat (sI σ 3 1)) v3) 3 1)) v5) 3 1)) 0) 3 1)) 0) 3 1) + 1))) ∧
  (¬ (p1 ≤ v7) →
    ((¬ ((sI σ 3 5) = 2) → -2147483648 ≤ p1 - 1) ∧ (¬ ((sI σ 3 5) = 2) → p1 - 1 < 2147483648) ∧ (¬ ((sI σ 3 5) = 2) → -2147483648 ≤ (p1 - 1) - v7) ∧ (¬ ((sI σ 3 5) = 2) → (p1 - 1) - v7 < 2147483648)) ∧
    (((if (sI σ 3 5) = 2 then (1 : Int) else (if (a_and (a_shr p2 ((p1 - 1) - v7)) 1) = 1 then (1 : Int) else 0)) = 0 →
      (0 ≤ v7 ∧ v7 < 3 ∧ -2147483648 ≤ v7 + 1 ∧ v7 + 1 < 2147483648) ∧
      am_Runs PP MLL d m_Truths_addPicked 6 [some (qr (3, 9, 11)), some (qi p1), some (qi p2), some (ql (a_lor v3 (a_lshl 1 (sI σ 8 (Int.toNat v7))))), none, some (ql v5), (am_cl z6), some (qi (v7 + 1)), some (qi (if (sI σ 3 5) = 2 then (1 : Int) else (if (a_and (a_shr p2 ((p1 - 1) - v7)) 1) = 1 then (1 : Int) else 0)))] [] σ (kV K)) ∧
    (¬ ((if (sI σ 3 5) = 2 then (1 : Int) else (if (a_and (a_shr p2 ((p1 - 1) - v7)) 1) = 1 then (1 : Int) else 0)) = 0) →
      (0 ≤ v7 ∧ v7 < 3 ∧ -2147483648 ≤ v7 + 1 ∧ v7 + 1 < 2147483648) ∧
      am_Runs PP MLL d m_Truths_addPicked 6 [some (qr (3, 9, 11)), some (qi p1), some (qi p2), some (ql v3), (am_cl z4), some (ql (a_lor v5 (a_lshl 1 (sI σ 8 (Int.toNat v7))))), none, some (qi (v7 + 1)), some (qi (if (sI σ 3 5) = 2 then (1 : Int) else (if (a_and (a_shr p2 ((p1 - 1) - v7)) 1) = 1 then (1 : Int) else 0)))] [] σ (kV K)))))) : am_Runs PP MLL d m_Truths_addPicked 6 [some (qr (3, 9, 11)), some (qi p1), some (qi p2), some (ql v3), z4, some (ql v5), z6, some (qi v7), z8] [] σ (kV K) := am_wEC_ok (orc [(52, aH, 21, nH), (58, aL, 21, nL), (64, aY, 20, nY), (70, aS, 20, nS)]) [27] 200 (⟨fun c3 => ⟨⟨rfl, hR.2.1⟩, ⟨rfl, ⟨⟨rfl, (h.1 c3).1.1, (h.1 c3).1.2.1⟩, ⟨⟨rfl, hR.2.2.1⟩, ⟨rfl, ⟨⟨rfl, (h.1 c3).1.2.2.1, (h.1 c3).1.2.2.2.1⟩, ⟨⟨rfl, hR.2.2.2.1⟩, ⟨rfl, ⟨⟨rfl, (h.1 c3).1.2.2.2.2.1, (h.1 c3).1.2.2.2.2.2.1⟩, ⟨⟨rfl, hR.2.2.2.2⟩, ⟨rfl, ⟨⟨rfl, (h.1 c3).1.2.2.2.2.2.2.1, (h.1 c3).1.2.2.2.2.2.2.2.1⟩, ⟨rfl, ⟨⟨(h.1 c3).1.2.2.2.2.2.2.2.2.1, (h.1 c3).1.2.2.2.2.2.2.2.2.2⟩, ⟨rfl, (h.1 c3).2⟩⟩⟩⟩⟩⟩⟩⟩⟩⟩⟩⟩⟩⟩⟩, fun c3 => ⟨rfl, am_use (fun H8 => ⟨fun c4 => (Eq.mp (congrArg (fun z => am_Runs _ _ _ _ _ _ (qi z :: _) _ _) (if_pos c4 : (if (sI σ 3 5) = 2 then (1 : Int) else if (a_and (a_shr p2 ((p1 - 1) - v7)) 1) = 1 then (1 : Int) else 0) = 1)) H8), fun c4 => ⟨⟨((h.2 c3).1.1 c4), ((h.2 c3).1.2.1 c4)⟩, ⟨⟨((h.2 c3).1.2.2.1 c4), ((h.2 c3).1.2.2.2 c4)⟩, ⟨fun c5 => (Eq.mp (congrArg (fun z => am_Runs _ _ _ _ _ _ (qi z :: _) _ _) (Eq.trans (if_neg c4 : (if (sI σ 3 5) = 2 then (1 : Int) else if (a_and (a_shr p2 ((p1 - 1) - v7)) 1) = 1 then (1 : Int) else 0) = if (a_and (a_shr p2 ((p1 - 1) - v7)) 1) = 1 then (1 : Int) else 0) (if_pos c5 : (if (a_and (a_shr p2 ((p1 - 1) - v7)) 1) = 1 then (1 : Int) else 0) = 1))) H8), fun c5 => (Eq.mp (congrArg (fun z => am_Runs _ _ _ _ _ _ (qi z :: _) _ _) (Eq.trans (if_neg c4 : (if (sI σ 3 5) = 2 then (1 : Int) else if (a_and (a_shr p2 ((p1 - 1) - v7)) 1) = 1 then (1 : Int) else 0) = if (a_and (a_shr p2 ((p1 - 1) - v7)) 1) = 1 then (1 : Int) else 0) (if_neg c5 : (if (a_and (a_shr p2 ((p1 - 1) - v7)) 1) = 1 then (1 : Int) else 0) = 0))) H8)⟩⟩⟩⟩) (am_wEC_ok (orc [(33, 8, 20, 3), (43, 8, 20, 3)]) [27] 200 (⟨fun c7 => ⟨⟨rfl, (hR.1 3 10 _ rfl)⟩, ⟨⟨rfl, ((h.2 c3).2.1 c7).1.1, ((h.2 c3).2.1 c7).1.2.1⟩, ⟨⟨((h.2 c3).2.1 c7).1.2.2.1, ((h.2 c3).2.1 c7).1.2.2.2⟩, ((h.2 c3).2.1 c7).2⟩⟩⟩, fun c7 => ⟨⟨rfl, (hR.1 3 10 _ rfl)⟩, ⟨⟨rfl, ((h.2 c3).2.2 c7).1.1, ((h.2 c3).2.2 c7).1.2.1⟩, ⟨⟨((h.2 c3).2.2 c7).1.2.2.1, ((h.2 c3).2.2 c7).1.2.2.2⟩, ((h.2 c3).2.2 c7).2⟩⟩⟩⟩))⟩⟩)

theorem c_addPicked (d : Nat) {own : Nat → Nat} {aH nH aL nL aY nY aS nS : Nat} {n l m f x y z w T : Nat} {kd : Int} {σ : am_S} {K : am_S → Prop} (hR : TR σ aH nH aL nL aY nY aS nS) (hO : OW own aH aL aY aS) (hn : n ≤ 40) (hk : kd = 1 ∨ kd = 2 ∨ kd = 3) (hkd : sI σ 3 5 = kd) (h31 : sI σ 3 1 = T) (hT : T < 10000) (hH : T < nH) (hL : T < nL) (hY : T < nY) (hS : T < nS) (hv : Vc n l m kd f x y z w) (hp : ∀ i, i < f → sI σ 8 i = pks x y z i)
    (h : ∀ H L : Nat, HB H L f x y z w kd → K (apS σ aH aL aY aS T H L)) : am_Calls PP MLL (d + 1) m_Truths_addPicked [qr (3, 9, 11), qi (f : Int), qi (w : Int)] σ (kV K) := by
  obtain ⟨o1, o2, o3, o4, o5⟩ := hO
  have nH3 : 3 ≠ aH := own_ne (o1 3 (by decide)) o2 (by decide)
  have nL3 : 3 ≠ aL := own_ne (o1 3 (by decide)) o3 (by decide)
  have nY3 : 3 ≠ aY := own_ne (o1 3 (by decide)) o4 (by decide)
  have nS3 : 3 ≠ aS := own_ne (o1 3 (by decide)) o5 (by decide)
  have hv0 := hv
  obtain ⟨_, _, a3, a4, a5, a6, _, _, _, a10⟩ := hv
  have hw8 := wy_le (kd := kd) a3
  have hlt : ∀ j, j < f → pks x y z j < 40 := by
    intro j hj
    unfold pks
    (repeat' split) <;> omega
  have lp0 : ∀ i : Nat, i ≤ f → ∀ z4 z6 z8, am_Runs PP MLL d m_Truths_addPicked 6 [some (qr (3, 9, 11)), some (qi (f : Int)), some (qi (w : Int)), some (ql ((hvy kd f w (pks x y z) i : Nat) : Int)), z4, some (ql ((lgt kd f w (pks x y z) i : Nat) : Int)), z6, some (qi (i : Int)), z8] [] σ (kV K) := by
    refine lp ?_ ?_
    · intro z4 z6 z8
      refine v_Truths_addPicked_6 d aH nH aL nL aY nY aS nS f w _ _ _ z4 z6 z8 σ K hR ⟨fun _ => ?_, fun c => absurd (Int.le_refl _) c⟩
      have hq := h _ _ (pks_HB hn hv0)
      unfold apS at hq
      simp only [put_ne nH3, put_ne nL3, put_ne nY3, put_ne nS3, h31, Int.toNat_natCast]
      exact ⟨by omega, hq⟩
    · intro i hi ih z4 z6 z8
      have hb := hvy_lt (kd := kd) (f := f) (w := w) (p := pks x y z) i (fun j hj => hlt j (by omega))
      have hpi := hlt i hi
      have hp40 := p40 hpi
      refine v_Truths_addPicked_6 d aH nH aL nL aY nY aS nS f w _ _ _ z4 z6 z8 σ K hR ⟨fun c => absurd c (by omega), fun _ => ?_⟩
      have e1 : a_and (a_shr (w : Int) ((f : Int) - 1 - (i : Int))) 1 = bt w (f - 1 - i) := by
        rw [show (f : Int) - 1 - (i : Int) = ((f - 1 - i : Nat) : Int) by omega]
        exact ibit (by omega) (by omega)
      have e2 : a_lshl 1 (sI σ 8 i) = ((2 ^ pks x y z i : Nat) : Int) := by
        rw [hp i hi]
        have := a_lshl_n (x := 1) (k := pks x y z i) (by omega) (by omega)
        rw [Nat.one_mul] at this
        exact this
      have hbt := bt_01 w (f - 1 - i)
      have hw1 : kd = 1 → bt w (f - 1 - i) = 0 := by
        intro e
        have : w = 0 := by
          have : wy kd f = 1 := by unfold wy; rw [if_neg (by rw [e]; decide)]
          omega
        rw [this, bt_0]
      rw [Int.toNat_natCast, e1, e2, hkd, a_lor_n (by omega) (by omega), a_lor_n (by omega) (by omega)]
      have hs : (if kd = 2 then (1 : Int) else (if bt w (f - 1 - i) = 1 then (1 : Int) else 0)) = 0 ↔ sgw kd f w i = 1 := by
        unfold sgw
        rcases hk with e | e | e
        · rw [e, if_neg (by decide), if_pos rfl, hw1 e]
          decide
        · rw [e, if_pos rfl, if_neg (by decide), if_pos rfl]
          decide
        · rw [e]
          rcases (show bt w (f - 1 - i) = 0 ∨ bt w (f - 1 - i) = 1 by omega) with q | q
          · rw [q]; decide
          · rw [q]; decide
      have ih : ∀ z4 z6 z8, am_Runs PP MLL d m_Truths_addPicked 6 [some (qr (3, 9, 11)), some (qi (f : Int)), some (qi (w : Int)), some (ql (((if sgw kd f w i = 1 then hvy kd f w (pks x y z) i ||| 2 ^ pks x y z i else hvy kd f w (pks x y z) i) : Nat) : Int)), z4, some (ql (((if sgw kd f w i = 1 then lgt kd f w (pks x y z) i else lgt kd f w (pks x y z) i ||| 2 ^ pks x y z i) : Nat) : Int)), z6, some (qi ((i + 1 : Nat) : Int)), z8] [] σ (kV K) := ih
      refine ⟨by omega, fun c => ⟨by omega, ?_⟩, fun c => ⟨by omega, ?_⟩⟩
      · rw [if_pos (hs.mp c), if_pos (hs.mp c)] at ih
        exact ih _ _ _
      · rw [if_neg (fun q => c (hs.mpr q)), if_neg (fun q => c (hs.mpr q))] at ih
        exact ih _ _ _
  exact v_Truths_addPicked_0 d aH nH aL nL aY nY aS nS f w σ K hR (lp0 0 (Nat.zero_le _) _ _ _)
