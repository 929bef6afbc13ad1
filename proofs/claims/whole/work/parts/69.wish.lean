/-! the class: wishes and their trace -/
/-- the class's store with the numbers L traced (six at most) -/
def trC (σ : am_S) (L : List Int) : am_S := putI (rowI σ 11 (fun i => if i < L.length ∧ i < 6 then L.getD i 0 else sI σ 11 i)) 10 1 ((min L.length 6 : Nat) : Int)
theorem trC_25 {σ : am_S} {L : List Int} : sI (trC σ L) 10 1 = ((min L.length 6 : Nat) : Int) := rfl
theorem trC_31 {σ : am_S} {L : List Int} {j : Nat} (h : j ≠ 1) : sI (trC σ L) 10 j = sI σ 10 j := by
  unfold trC
  rw [put_at, if_neg h, row_ne (by decide)]
theorem trC_o {σ : am_S} {L : List Int} {a : Nat} (h : a ≠ 10) (h2 : a ≠ 11) : sI (trC σ L) a = sI σ a := by
  unfold trC
  rw [put_ne h, row_ne h2]
theorem trC_add {σ : am_S} {L : List Int} {x : Int} (h : L.length < 6) : putI (putI (trC σ L) 11 L.length x) 10 1 ((L.length : Int) + 1) = trC σ (L ++ [x]) := by
  refine sto_ext (fun a j => ?_) rfl
  by_cases h31 : a = 10
  · subst h31
    by_cases h25 : j = 1
    · subst h25
      rw [trC_25, put_at, if_pos rfl, List.length_append, List.length_singleton]
      omega
    · rw [trC_31 h25, put_at, if_neg h25, put_ne (by decide), trC_31 h25]
  · by_cases h48 : a = 11
    · subst h48
      unfold trC
      rw [put_ne (by decide), put_at, put_ne (by decide), row_at, put_ne (by decide), row_at, List.length_append, List.length_singleton, getD_app]
      by_cases e : j = L.length
      · rw [if_pos e, if_pos (by omega), if_neg (by omega), if_pos e]
      · rw [if_neg e]
        by_cases e2 : j < L.length
        · rw [if_pos (by omega), if_pos (by omega), if_pos e2]
        · rw [if_neg (by omega), if_neg (by omega)]
    · rw [trC_o h31 h48, put_ne h31, put_ne h48, trC_o h31 h48]
theorem trC_full {σ : am_S} {L : List Int} {x : Int} (h : 6 ≤ L.length) : trC σ L = trC σ (L ++ [x]) := by
  refine sto_ext (fun a j => ?_) rfl
  unfold trC
  rw [List.length_append, List.length_singleton]
  by_cases h31 : a = 10
  · subst h31
    rw [put_at, put_at, row_ne (by decide), row_ne (by decide)]
    split
    · omega
    · rfl
  · rw [put_ne h31, put_ne h31]
    by_cases h48 : a = 11
    · subst h48
      rw [row_at, row_at, getD_app]
      by_cases e : j < 6
      · rw [if_pos (by omega), if_pos (by omega), if_pos (by omega)]
      · rw [if_neg (by omega), if_neg (by omega)]
    · rw [row_ne h48, row_ne h48]
theorem trC_nil {σ : am_S} : trC σ [] = putI σ 10 1 0 := by
  refine sto_ext (fun a j => ?_) rfl
  by_cases h31 : a = 10
  · subst h31
    unfold trC
    rw [put_at, put_at, row_ne (by decide)]
    rfl
  · unfold trC
    rw [put_ne h31, put_ne h31]
    by_cases h48 : a = 11
    · subst h48
      rw [row_at, if_neg (by simp)]
    · rw [row_ne h48]
theorem apc1 {σ : am_S} {L : List Int} {x y : Int} : trC σ ((L ++ [x]) ++ [y]) = trC σ (L ++ [x, y]) := by rw [List.append_assoc]; rfl
theorem apc2 {σ : am_S} {L : List Int} {x y z : Int} : trC σ (((L ++ [x]) ++ [y]) ++ [z]) = trC σ (L ++ [x, y, z]) := by rw [List.append_assoc, List.append_assoc]; rfl
theorem v_Trace_note_0 (d : Nat) (p1 : Int) (σ : am_S) (L : List Int) (K : am_S → Prop) (hC : CF σ) (h :
  (((sI (trC σ L) 10 2) = 0 →
    K (trC σ L)) ∧
  (¬ ((sI (trC σ L) 10 2) = 0) →
    ((6 ≤ (sI (trC σ L) 10 1) →
      K (trC σ L)) ∧
    (¬ (6 ≤ (sI (trC σ L) 10 1)) →
      (0 ≤ (sI (trC σ L) 10 1) ∧ (sI (trC σ L) 10 1) < 6 ∧ -2147483648 ≤ (sI (trC σ L) 10 1) + 1 ∧ (sI (trC σ L) 10 1) + 1 < 2147483648) ∧
      K (putI (putI (trC σ L) 11 (Int.toNat (sI (trC σ L) 10 1)) p1) 10 1 ((sI (trC σ L) 10 1) + 1))))))) : am_Runs PP MLL d m_Trace_note 0 [some (qr (10, 7, 3)), some (qi p1)] [] (trC σ L) (kV K) := am_wEF_ok (orc [(6, 11, 20, 6), (10, 11, 20, 6)]) 200 (⟨rfl, ⟨fun c3 => (h.1 c3), fun c3 => ⟨rfl, ⟨⟨rfl, (hC 10 0 _ rfl)⟩, ⟨⟨(by decide : 20 ≤ 20), (by decide : 20 < 25)⟩, ⟨fun c5 => ((h.2 c3).1 c5), fun c5 => ⟨⟨rfl, (hC 10 0 _ rfl)⟩, ⟨rfl, ⟨⟨rfl, ((h.2 c3).2 c5).1.1, ((h.2 c3).2 c5).1.2.1⟩, ⟨rfl, ⟨⟨((h.2 c3).2 c5).1.2.2.1, ((h.2 c3).2 c5).1.2.2.2⟩, ⟨rfl, ((h.2 c3).2 c5).2⟩⟩⟩⟩⟩⟩⟩⟩⟩⟩⟩⟩)

theorem c_note (d : Nat) {x : Int} {σ : am_S} {L : List Int} {K : am_S → Prop} (hC : CF σ) (hT : ¬ (sI σ 10 2 = 0)) (h : K (trC σ (L ++ [x]))) : am_Calls PP MLL (d + 1) m_Trace_note [qr (10, 7, 3), qi x] (trC σ L) (kV K) := by
  refine v_Trace_note_0 d x σ L K hC ?_
  rw [trC_25]
  refine ⟨fun c => absurd ((trC_31 (σ := σ) (L := L) (by decide)).symm.trans c) hT, fun _ => ⟨fun c => ?_, fun c => ⟨by omega, ?_⟩⟩⟩
  · rw [trC_full (x := x) (by omega)]; exact h
  · have e : (min L.length 6 : Nat) = L.length := by omega
    rw [e, Int.toNat_natCast, trC_add (by omega)]
    exact h
theorem v_Balance_tellsO_0 (d : Nat) (β μ κ ρ : Nat → Nat) (me : Nat → Nat → Nat) (b n : Nat) (p1 : Int) (σ : am_S) (L : List Int) (K : Int → am_S → Prop) (hC : CF σ) (hB : BS σ β μ κ ρ me n) (hT : ¬ (sI σ 10 2 = 0)) (h :
  (((sI (trC σ L) (β b) 0) = 1 →
    b < n ∧
    K p1 (trC σ (L ++ [11]))) ∧
  (¬ ((sI (trC σ L) (β b) 0) = 1) →
  (((sI (trC σ L) (β b) 0) = 2 →
    b < n ∧
    (-2147483648 ≤ Int.tdiv p1 2 ∧ Int.tdiv p1 2 < 2147483648) ∧
    K (Int.tdiv p1 2) (trC σ ((L ++ [12]) ++ [11]))) ∧
  (¬ ((sI (trC σ L) (β b) 0) = 2) →
  (((sI (trC σ L) (β b) 0) = 3 →
    b < n ∧
    (-2147483648 ≤ Int.tdiv p1 2 ∧ Int.tdiv p1 2 < 2147483648) ∧
    K (Int.tdiv p1 2) (trC σ ((L ++ [12]) ++ [11]))) ∧
  (¬ ((sI (trC σ L) (β b) 0) = 3) →
  (((sI (trC σ L) (β b) 0) = 4 →
    b < n ∧
    ((p1 < (-1) →
      K (if p1 ≤ 0 then (if 0 ≤ p1 then (0 : Int) else (-1) : Int) else 1) (trC σ ((L ++ [14]) ++ [10]))) ∧
    (¬ (p1 < (-1)) →
      ((1 < p1 →
        K (if p1 ≤ 0 then (if 0 ≤ p1 then (0 : Int) else (-1) : Int) else 1) (trC σ ((L ++ [14]) ++ [10]))) ∧
      (¬ (1 < p1) →
        K 0 (trC σ (L ++ [14]))))))) ∧
  (¬ ((sI (trC σ L) (β b) 0) = 4) →
  b < n ∧
  K (if p1 ≤ 0 then (if 0 ≤ p1 then (0 : Int) else (-1) : Int) else 1) (trC σ (L ++ [10]))))))))))) : am_Runs PP MLL (d + 3) m_Balance_tells 0 [some (qr (β b, 0, 9)), some (qi p1)] [] (trC σ L) (kI K) := am_wEF_ok (orc []) 200 (⟨rfl, ⟨fun c1 => ⟨rfl, am_wEF_ok (orc [(1, 10, 7, 3)]) 200 (⟨⟨rfl, (hB b (h.1 c1).1).2.2.1⟩, ⟨rfl, c_note _ hC hT ((h.1 c1).2)⟩⟩)⟩, fun c1 => ⟨fun c2 => ⟨rfl, am_wEF_ok (orc [(1, 10, 7, 3)]) 200 (⟨⟨rfl, (hB b ((h.2 c1).1 c2).1).2.2.1⟩, ⟨rfl, c_note _ hC hT (⟨rfl, am_wEF_ok (orc [(1, 10, 7, 3)]) 200 (⟨⟨rfl, (hB b ((h.2 c1).1 c2).1).2.2.1⟩, ⟨rfl, c_note _ hC hT (⟨⟨(by decide : (2 : Int) ≠ 0), ((h.2 c1).1 c2).2.1.1, ((h.2 c1).1 c2).2.1.2⟩, ((h.2 c1).1 c2).2.2⟩)⟩⟩)⟩)⟩⟩)⟩, fun c2 => ⟨fun c3 => ⟨rfl, am_wEF_ok (orc [(1, 10, 7, 3)]) 200 (⟨⟨rfl, (hB b (((h.2 c1).2 c2).1 c3).1).2.2.1⟩, ⟨rfl, c_note _ hC hT (⟨rfl, am_wEF_ok (orc [(1, 10, 7, 3)]) 200 (⟨⟨rfl, (hB b (((h.2 c1).2 c2).1 c3).1).2.2.1⟩, ⟨rfl, c_note _ hC hT (⟨⟨(by decide : (2 : Int) ≠ 0), (((h.2 c1).2 c2).1 c3).2.1.1, (((h.2 c1).2 c2).1 c3).2.1.2⟩, (((h.2 c1).2 c2).1 c3).2.2⟩)⟩⟩)⟩)⟩⟩)⟩, fun c3 => ⟨fun c4 => ⟨rfl, am_wEF_ok (orc [(1, 10, 7, 3)]) 200 (⟨⟨rfl, (hB b ((((h.2 c1).2 c2).2 c3).1 c4).1).2.2.1⟩, ⟨rfl, c_note _ hC hT (⟨fun c6 => ⟨rfl, am_wEC_ok (orc [(1, 10, 7, 3)]) [13] 200 (⟨⟨rfl, (hB b ((((h.2 c1).2 c2).2 c3).1 c4).1).2.2.1⟩, ⟨rfl, c_note _ hC hT (am_use (fun H9 => ⟨fun c7 => ⟨fun c8 => (Eq.mp (congrArg (fun z => am_Runs _ _ _ _ _ _ (qi z :: _) _ _) (Eq.trans (if_pos c7 : (if p1 ≤ 0 then (if 0 ≤ p1 then (0 : Int) else (-1) : Int) else 1) = if 0 ≤ p1 then (0 : Int) else (-1)) (if_pos c8 : (if 0 ≤ p1 then (0 : Int) else (-1)) = 0))) H9), fun c8 => (Eq.mp (congrArg (fun z => am_Runs _ _ _ _ _ _ (qi z :: _) _ _) (Eq.trans (if_pos c7 : (if p1 ≤ 0 then (if 0 ≤ p1 then (0 : Int) else (-1) : Int) else 1) = if 0 ≤ p1 then (0 : Int) else (-1)) (if_neg c8 : (if 0 ≤ p1 then (0 : Int) else (-1)) = (-1)))) H9)⟩, fun c7 => (Eq.mp (congrArg (fun z => am_Runs _ _ _ _ _ _ (qi z :: _) _ _) (if_neg c7 : (if p1 ≤ 0 then (if 0 ≤ p1 then (0 : Int) else (-1) : Int) else 1) = 1)) H9)⟩) (am_wEC_ok (orc []) [13] 200 ((((((h.2 c1).2 c2).2 c3).1 c4).2.1 c6))))⟩⟩)⟩, fun c6 => ⟨fun c11 => ⟨rfl, am_wEC_ok (orc [(1, 10, 7, 3)]) [13] 200 (⟨⟨rfl, (hB b ((((h.2 c1).2 c2).2 c3).1 c4).1).2.2.1⟩, ⟨rfl, c_note _ hC hT (am_use (fun H14 => ⟨fun c12 => ⟨fun c13 => (Eq.mp (congrArg (fun z => am_Runs _ _ _ _ _ _ (qi z :: _) _ _) (Eq.trans (if_pos c12 : (if p1 ≤ 0 then (if 0 ≤ p1 then (0 : Int) else (-1) : Int) else 1) = if 0 ≤ p1 then (0 : Int) else (-1)) (if_pos c13 : (if 0 ≤ p1 then (0 : Int) else (-1)) = 0))) H14), fun c13 => (Eq.mp (congrArg (fun z => am_Runs _ _ _ _ _ _ (qi z :: _) _ _) (Eq.trans (if_pos c12 : (if p1 ≤ 0 then (if 0 ≤ p1 then (0 : Int) else (-1) : Int) else 1) = if 0 ≤ p1 then (0 : Int) else (-1)) (if_neg c13 : (if 0 ≤ p1 then (0 : Int) else (-1)) = (-1)))) H14)⟩, fun c12 => (Eq.mp (congrArg (fun z => am_Runs _ _ _ _ _ _ (qi z :: _) _ _) (if_neg c12 : (if p1 ≤ 0 then (if 0 ≤ p1 then (0 : Int) else (-1) : Int) else 1) = 1)) H14)⟩) (am_wEC_ok (orc []) [13] 200 (((((((h.2 c1).2 c2).2 c3).1 c4).2.2 c6).1 c11))))⟩⟩)⟩, fun c11 => ((((((h.2 c1).2 c2).2 c3).1 c4).2.2 c6).2 c11)⟩⟩)⟩⟩)⟩, fun c4 => ⟨rfl, am_wEC_ok (orc [(1, 10, 7, 3)]) [13] 200 (⟨⟨rfl, (hB b ((((h.2 c1).2 c2).2 c3).2 c4).1).2.2.1⟩, ⟨rfl, c_note _ hC hT (am_use (fun H17 => ⟨fun c15 => ⟨fun c16 => (Eq.mp (congrArg (fun z => am_Runs _ _ _ _ _ _ (qi z :: _) _ _) (Eq.trans (if_pos c15 : (if p1 ≤ 0 then (if 0 ≤ p1 then (0 : Int) else (-1) : Int) else 1) = if 0 ≤ p1 then (0 : Int) else (-1)) (if_pos c16 : (if 0 ≤ p1 then (0 : Int) else (-1)) = 0))) H17), fun c16 => (Eq.mp (congrArg (fun z => am_Runs _ _ _ _ _ _ (qi z :: _) _ _) (Eq.trans (if_pos c15 : (if p1 ≤ 0 then (if 0 ≤ p1 then (0 : Int) else (-1) : Int) else 1) = if 0 ≤ p1 then (0 : Int) else (-1)) (if_neg c16 : (if 0 ≤ p1 then (0 : Int) else (-1)) = (-1)))) H17)⟩, fun c15 => (Eq.mp (congrArg (fun z => am_Runs _ _ _ _ _ _ (qi z :: _) _ _) (if_neg c15 : (if p1 ≤ 0 then (if 0 ≤ p1 then (0 : Int) else (-1) : Int) else 1) = 1)) H17)⟩) (am_wEC_ok (orc []) [13] 200 (((((h.2 c1).2 c2).2 c3).2 c4).2)))⟩⟩)⟩⟩⟩⟩⟩⟩)

theorem c_tellsO (d : Nat) {β μ κ ρ : Nat → Nat} {me : Nat → Nat → Nat} {b n : Nat} {x : Int} {σ : am_S} {L : List Int} {K : Int → am_S → Prop} (hC : CF σ) (hB : BS σ β μ κ ρ me n) (hT : ¬ (sI σ 10 2 = 0)) (hb : b < n) (n1 : β b ≠ 10) (n2 : β b ≠ 11) (hx : -100 ≤ x ∧ x ≤ 100) (h : K (tl (sI σ (β b) 0) x) (trC σ (L ++ tlL (sI σ (β b) 0) x))) : am_Calls PP MLL (d + 4) m_Balance_tells [qr (β b, 0, 9), qi x] (trC σ L) (kI K) := by
  refine v_Balance_tellsO_0 d β μ κ ρ me b n x σ L K hC hB hT ?_
  have hd := tdiv2_bd hx
  rw [trC_o n1 n2]
  repeat' first | apply And.intro | intro _
  all_goals try omega
  all_goals
    refine kEq h ?_ ?_
    · unfold tl sgn
      (repeat' split) <;> first | omega | rfl
    · unfold tlL
      (repeat' split) <;> first | (exfalso; omega) | rfl | exact apc1.symm | exact apc2.symm
theorem v_Balance_mostAloneO_0 (d : Nat) (β μ κ ρ : Nat → Nat) (me : Nat → Nat → Nat) (b n : Nat) (σ : am_S) (L : List Int) (K : Int → am_S → Prop) (hC : CF σ) (hB : BS σ β μ κ ρ me n) (hT : ¬ (sI σ 10 2 = 0)) (h :
  (((sI (trC σ L) (β b) 0) = 1 →
    b < n ∧
    K 3 (trC σ ((L ++ [21]) ++ [20]))) ∧
  (¬ ((sI (trC σ L) (β b) 0) = 1) →
  (((sI (trC σ L) (β b) 0) = 2 →
    b < n ∧
    (-2147483648 ≤ Int.tdiv 3 2 ∧ Int.tdiv 3 2 < 2147483648) ∧
    K (Int.tdiv 3 2) (trC σ (((L ++ [22]) ++ [21]) ++ [20]))) ∧
  (¬ ((sI (trC σ L) (β b) 0) = 2) →
  (((sI (trC σ L) (β b) 0) = 3 →
    b < n ∧
    (-2147483648 ≤ Int.tdiv 3 2 ∧ Int.tdiv 3 2 < 2147483648) ∧
    K (Int.tdiv 3 2) (trC σ (((L ++ [22]) ++ [21]) ++ [20]))) ∧
  (¬ ((sI (trC σ L) (β b) 0) = 3) →
  b < n ∧
  K 1 (trC σ (L ++ [20]))))))))) : am_Runs PP MLL (d + 4) m_Balance_mostAlone 0 [some (qr (β b, 0, 9))] [] (trC σ L) (kI K) := am_wEF_ok (orc []) 200 (⟨rfl, ⟨fun c1 => ⟨rfl, am_wEF_ok (orc [(1, 10, 7, 3)]) 200 (⟨⟨rfl, (hB b (h.1 c1).1).2.2.1⟩, ⟨rfl, c_note _ hC hT (⟨rfl, am_wEF_ok (orc [(1, 10, 7, 3)]) 200 (⟨⟨rfl, (hB b (h.1 c1).1).2.2.1⟩, ⟨rfl, c_note _ hC hT (⟨⟨(by decide : (-2147483648 : Int) ≤ 3), (by decide : (3 : Int) < 2147483648)⟩, (h.1 c1).2⟩)⟩⟩)⟩)⟩⟩)⟩, fun c1 => ⟨fun c2 => ⟨rfl, am_wEF_ok (orc [(1, 10, 7, 3)]) 200 (⟨⟨rfl, (hB b ((h.2 c1).1 c2).1).2.2.1⟩, ⟨rfl, c_note _ hC hT (⟨rfl, am_wEF_ok (orc [(1, 10, 7, 3)]) 200 (⟨⟨rfl, (hB b ((h.2 c1).1 c2).1).2.2.1⟩, ⟨rfl, c_note _ hC hT (⟨rfl, am_wEF_ok (orc [(1, 10, 7, 3)]) 200 (⟨⟨rfl, (hB b ((h.2 c1).1 c2).1).2.2.1⟩, ⟨rfl, c_note _ hC hT (⟨⟨(by decide : (-2147483648 : Int) ≤ 3), (by decide : (3 : Int) < 2147483648)⟩, ⟨⟨(by decide : (2 : Int) ≠ 0), ((h.2 c1).1 c2).2.1.1, ((h.2 c1).1 c2).2.1.2⟩, ((h.2 c1).1 c2).2.2⟩⟩)⟩⟩)⟩)⟩⟩)⟩)⟩⟩)⟩, fun c2 => ⟨fun c3 => ⟨rfl, am_wEF_ok (orc [(1, 10, 7, 3)]) 200 (⟨⟨rfl, (hB b (((h.2 c1).2 c2).1 c3).1).2.2.1⟩, ⟨rfl, c_note _ hC hT (⟨rfl, am_wEF_ok (orc [(1, 10, 7, 3)]) 200 (⟨⟨rfl, (hB b (((h.2 c1).2 c2).1 c3).1).2.2.1⟩, ⟨rfl, c_note _ hC hT (⟨rfl, am_wEF_ok (orc [(1, 10, 7, 3)]) 200 (⟨⟨rfl, (hB b (((h.2 c1).2 c2).1 c3).1).2.2.1⟩, ⟨rfl, c_note _ hC hT (⟨⟨(by decide : (-2147483648 : Int) ≤ 3), (by decide : (3 : Int) < 2147483648)⟩, ⟨⟨(by decide : (2 : Int) ≠ 0), (((h.2 c1).2 c2).1 c3).2.1.1, (((h.2 c1).2 c2).1 c3).2.1.2⟩, (((h.2 c1).2 c2).1 c3).2.2⟩⟩)⟩⟩)⟩)⟩⟩)⟩)⟩⟩)⟩, fun c3 => ⟨rfl, am_wEF_ok (orc [(1, 10, 7, 3)]) 200 (⟨⟨rfl, (hB b (((h.2 c1).2 c2).2 c3).1).2.2.1⟩, ⟨rfl, c_note _ hC hT ((((h.2 c1).2 c2).2 c3).2)⟩⟩)⟩⟩⟩⟩⟩)

theorem c_mostAloneO (d : Nat) {β μ κ ρ : Nat → Nat} {me : Nat → Nat → Nat} {b n : Nat} {σ : am_S} {L : List Int} {K : Int → am_S → Prop} (hC : CF σ) (hB : BS σ β μ κ ρ me n) (hT : ¬ (sI σ 10 2 = 0)) (hb : b < n) (n1 : β b ≠ 10) (n2 : β b ≠ 11) (h : K (mo (sI σ (β b) 0)) (trC σ (L ++ moL (sI σ (β b) 0)))) : am_Calls PP MLL (d + 5) m_Balance_mostAlone [qr (β b, 0, 9)] (trC σ L) (kI K) := by
  refine v_Balance_mostAloneO_0 d β μ κ ρ me b n σ L K hC hB hT ?_
  rw [trC_o n1 n2]
  repeat' first | apply And.intro | intro _
  all_goals try (first | omega | decide)
  all_goals
    refine kEq h ?_ ?_
    · unfold mo
      (repeat' split) <;> first | omega | rfl
    · unfold moL
      (repeat' split) <;> first | (exfalso; omega) | rfl | exact apc1.symm | exact apc2.symm
theorem v_Balance_plainCost_0 (d : Nat) (β μ κ ρ : Nat → Nat) (me : Nat → Nat → Nat) (b n : Nat) (σ : am_S) (L : List Int) (K : Int → am_S → Prop) (hC : CF σ) (hB : BS σ β μ κ ρ me n) (hT : ¬ (sI σ 10 2 = 0)) (h :
  b < n ∧
  am_Calls PP MLL (d + 1) m_Pan_load [qr (ρ b, 2, 2)] (trC σ (L ++ [30])) (kI fun x1 s1 =>
    (CF s1 ∧ BS s1 β μ κ ρ me n) ∧
    am_Calls PP MLL (d + 1) m_Pan_load [qr (ρ b + 2, 2, 2)] s1 (kI fun x2 s2 =>
      (CF s2 ∧ BS s2 β μ κ ρ me n) ∧
      (-2147483648 ≤ x1 + x2 ∧ x1 + x2 < 2147483648 ∧ -2147483648 ≤ Int.tdiv (x1 + x2) 2 ∧ Int.tdiv (x1 + x2) 2 < 2147483648 ∧ -2147483648 ≤ 1 + (Int.tdiv (x1 + x2) 2) ∧ 1 + (Int.tdiv (x1 + x2) 2) < 2147483648) ∧
      K (1 + (Int.tdiv (x1 + x2) 2)) s2))) : am_Runs PP MLL (d + 1) m_Balance_plainCost 0 [some (qr (β b, 0, 9))] [] (trC σ L) (kI K) := am_wEF_ok (orc [(1, 10, 7, 3), (6, ρ b, 2, 2), (9, ρ b + 2, 2, 2)]) 200 (⟨⟨rfl, (hB b h.1).2.2.1⟩, ⟨rfl, c_note _ hC hT (⟨⟨rfl, (hB b h.1).2.2.2.1⟩, ⟨rfl, (am_cI h.2 fun x1 s1 h1 => ⟨⟨rfl, (h1.1.2 b h.1).2.2.2.2.1⟩, ⟨rfl, (am_cI h1.2 fun x2 s2 h2 => ⟨⟨h2.2.1.1, h2.2.1.2.1⟩, ⟨⟨(by decide : (2 : Int) ≠ 0), h2.2.1.2.2.1, h2.2.1.2.2.2.1⟩, ⟨⟨h2.2.1.2.2.2.2.1, h2.2.1.2.2.2.2.2⟩, h2.2.2⟩⟩⟩)⟩⟩)⟩⟩)⟩⟩)

theorem v_Balance_wornCost_0 (d : Nat) (β μ κ ρ : Nat → Nat) (me : Nat → Nat → Nat) (b n : Nat) (σ : am_S) (L : List Int) (K : Int → am_S → Prop) (hC : CF σ) (hB : BS σ β μ κ ρ me n) (hT : ¬ (sI σ 10 2 = 0)) (h :
  b < n ∧
  am_Calls PP MLL (d + 2) m_Balance_plainCost [qr (β b, 0, 9)] (trC σ (L ++ [33])) (kI fun x1 s1 =>
    (CF s1 ∧ BS s1 β μ κ ρ me n) ∧
    (-2147483648 ≤ 3 * x1 ∧ 3 * x1 < 2147483648 ∧ -2147483648 ≤ (3 * x1) + (sI s1 (β b) 7) ∧ (3 * x1) + (sI s1 (β b) 7) < 2147483648) ∧
    K ((3 * x1) + (sI s1 (β b) 7)) s1)) : am_Runs PP MLL (d + 2) m_Balance_wornCost 0 [some (qr (β b, 0, 9))] [] (trC σ L) (kI K) := am_wEF_ok (orc [(1, 10, 7, 3)]) 200 (⟨⟨rfl, (hB b h.1).2.2.1⟩, ⟨rfl, c_note _ hC hT (⟨rfl, (am_cI h.2 fun x1 s1 h1 => ⟨⟨h1.2.1.1, h1.2.1.2.1⟩, ⟨rfl, ⟨⟨h1.2.1.2.2.1, h1.2.1.2.2.2⟩, h1.2.2⟩⟩⟩)⟩)⟩⟩)

theorem v_Balance_lyingCost_0 (d : Nat) (β μ κ ρ : Nat → Nat) (me : Nat → Nat → Nat) (b n : Nat) (σ : am_S) (L : List Int) (K : Int → am_S → Prop) (hC : CF σ) (hB : BS σ β μ κ ρ me n) (hT : ¬ (sI σ 10 2 = 0)) (h :
  b < n ∧
  am_Calls PP MLL (d + 2) m_Balance_plainCost [qr (β b, 0, 9)] (trC σ (L ++ [35])) (kI fun x1 s1 =>
    (CF s1 ∧ BS s1 β μ κ ρ me n) ∧
    (-2147483648 ≤ Int.tdiv x1 2 ∧ Int.tdiv x1 2 < 2147483648) ∧
    K (Int.tdiv x1 2) s1)) : am_Runs PP MLL (d + 2) m_Balance_lyingCost 0 [some (qr (β b, 0, 9))] [] (trC σ L) (kI K) := am_wEF_ok (orc [(1, 10, 7, 3)]) 200 (⟨⟨rfl, (hB b h.1).2.2.1⟩, ⟨rfl, c_note _ hC hT (⟨rfl, (am_cI h.2 fun x1 s1 h1 => ⟨⟨(by decide : (2 : Int) ≠ 0), h1.2.1.1, h1.2.1.2⟩, h1.2.2⟩)⟩)⟩⟩)

theorem v_Balance_costAlone_0 (d : Nat) (β μ κ ρ : Nat → Nat) (me : Nat → Nat → Nat) (b n : Nat) (σ : am_S) (L : List Int) (K : Int → am_S → Prop) (hC : CF σ) (hB : BS σ β μ κ ρ me n) (hT : ¬ (sI σ 10 2 = 0)) (h :
  (((sI (trC σ L) (β b) 0) = 3 →
    am_Calls PP MLL (d + 3) m_Balance_wornCost [qr (β b, 0, 9)] (trC σ L) (kI fun x2 s2 =>
      (CF s2 ∧ BS s2 β μ κ ρ me n) ∧
      K x2 s2)) ∧
  (¬ ((sI (trC σ L) (β b) 0) = 3) →
  (((sI (trC σ L) (β b) 0) = 5 →
    am_Calls PP MLL (d + 3) m_Balance_lyingCost [qr (β b, 0, 9)] (trC σ L) (kI fun x4 s4 =>
      (CF s4 ∧ BS s4 β μ κ ρ me n) ∧
      K x4 s4)) ∧
  (¬ ((sI (trC σ L) (β b) 0) = 5) →
  am_Calls PP MLL (d + 3) m_Balance_plainCost [qr (β b, 0, 9)] (trC σ L) (kI fun x5 s5 =>
    (CF s5 ∧ BS s5 β μ κ ρ me n) ∧
    K x5 s5)))))) : am_Runs PP MLL (d + 3) m_Balance_costAlone 0 [some (qr (β b, 0, 9))] [] (trC σ L) (kI K) := am_wEF_ok (orc []) 200 (⟨rfl, ⟨fun c1 => ⟨rfl, (am_cI (h.1 c1) fun x2 s2 h2 => h2.2)⟩, fun c1 => ⟨fun c3 => ⟨rfl, (am_cI ((h.2 c1).1 c3) fun x4 s4 h4 => h4.2)⟩, fun c3 => ⟨rfl, (am_cI ((h.2 c1).2 c3) fun x5 s5 h5 => h5.2)⟩⟩⟩⟩)

/-- how many coins lie on both pans of a balance -/
def pld (σ : am_S) (ρ : Nat → Nat) (b : Nat) : Int := ldn (sI σ (ρ b + 1)) (sI σ (ρ b) 1) + ldn (sI σ (ρ b + 3)) (sI σ (ρ b + 2) 1)
/-- a balance's cells are none of the trace's -/
def nT (β ρ : Nat → Nat) (b : Nat) : Prop := (β b ≠ 10 ∧ β b ≠ 11) ∧ (ρ b ≠ 10 ∧ ρ b ≠ 11) ∧ (ρ b + 1 ≠ 10 ∧ ρ b + 1 ≠ 11) ∧ (ρ b + 2 ≠ 10 ∧ ρ b + 2 ≠ 11) ∧ (ρ b + 3 ≠ 10 ∧ ρ b + 3 ≠ 11)
/-- what is on its pans is as it should be -/
def PV (σ : am_S) (ρ : Nat → Nat) (b : Nat) : Prop := (sI σ (ρ b) 1 ≤ 20 ∧ sI σ (ρ b + 2) 1 ≤ 20) ∧ (∀ i, -1 ≤ sI σ (ρ b + 1) i ∧ sI σ (ρ b + 1) i < 40) ∧ ∀ i, -1 ≤ sI σ (ρ b + 3) i ∧ sI σ (ρ b + 3) i < 40
theorem pld_bd {σ : am_S} {ρ : Nat → Nat} {b : Nat} (h : PV σ ρ b) : 0 ≤ pld σ ρ b ∧ pld σ ρ b ≤ 40 := by
  have h0 := ldn_bd (sI σ (ρ b + 1)) h.1.1
  have h1 := ldn_bd (sI σ (ρ b + 3)) h.1.2
  unfold pld
  omega
theorem c_plainCost (d : Nat) {β μ κ ρ : Nat → Nat} {me : Nat → Nat → Nat} {b n : Nat} {σ : am_S} {L : List Int} {K : Int → am_S → Prop} (hC : CF σ) (hB : BS σ β μ κ ρ me n) (hT : ¬ (sI σ 10 2 = 0)) (hb : b < n) (hn : nT β ρ b) (hp : PV σ ρ b) (h : K (1 + Int.tdiv (pld σ ρ b) 2) (trC σ (L ++ [30]))) : am_Calls PP MLL (d + 2) m_Balance_plainCost [qr (β b, 0, 9)] (trC σ L) (kI K) := by
  obtain ⟨pf1, pf2⟩ := BS_pan hB hb
  obtain ⟨n1, n2, n3, n4, n5⟩ := hn
  have hb2 := pld_bd hp
  have e0 := tdiv_n hb2.1
  obtain ⟨⟨p1, p2⟩, p3, p4⟩ := hp
  refine v_Balance_plainCost_0 d β μ κ ρ me b n σ L K hC hB hT ⟨hb, ?_⟩
  have q1 : sI (trC σ (L ++ [30])) (ρ b) = sI σ (ρ b) := trC_o n2.1 n2.2
  have q2 : sI (trC σ (L ++ [30])) (ρ b + 1) = sI σ (ρ b + 1) := trC_o n3.1 n3.2
  have q3 : sI (trC σ (L ++ [30])) (ρ b + 2) = sI σ (ρ b + 2) := trC_o n4.1 n4.2
  have q4 : sI (trC σ (L ++ [30])) (ρ b + 3) = sI σ (ρ b + 3) := trC_o n5.1 n5.2
  refine c_Pan_load d pf1 (by rw [q1]; exact p1) (by rw [q2]; exact fun i => (p3 i).1) ⟨⟨hC, hB⟩, ?_⟩
  refine c_Pan_load d pf2 (by rw [q3]; exact p2) (by rw [q4]; exact fun i => (p4 i).1) ⟨⟨hC, hB⟩, ?_⟩
  rw [q1, q2, q3, q4]
  have e : ldn (sI σ (ρ b + 1)) (sI σ (ρ b) 1) + ldn (sI σ (ρ b + 3)) (sI σ (ρ b + 2) 1) = pld σ ρ b := rfl
  rw [e]
  exact ⟨by omega, h⟩
theorem c_costAlone (d : Nat) {β μ κ ρ : Nat → Nat} {me : Nat → Nat → Nat} {b n : Nat} {σ : am_S} {L : List Int} {K : Int → am_S → Prop} (hC : CF σ) (hB : BS σ β μ κ ρ me n) (hT : ¬ (sI σ 10 2 = 0)) (hb : b < n) (hn : nT β ρ b) (hp : PV σ ρ b) (hu : 0 ≤ sI σ (β b) 7 ∧ sI σ (β b) 7 ≤ 1000) (h : K (coV (sI σ (β b) 0) (sI σ (β b) 7) (pld σ ρ b)) (trC σ (L ++ coL (sI σ (β b) 0)))) : am_Calls PP MLL (d + 4) m_Balance_costAlone [qr (β b, 0, 9)] (trC σ L) (kI K) := by
  have n1 := hn.1
  have hb2 := pld_bd hp
  have e0 := tdiv_n hb2.1
  have e1 : 0 ≤ 1 + Int.tdiv (pld σ ρ b) 2 ∧ 1 + Int.tdiv (pld σ ρ b) 2 ≤ 21 := by omega
  have e2 := tdiv_n e1.1
  refine v_Balance_costAlone_0 d β μ κ ρ me b n σ L K hC hB hT ?_
  rw [trC_o n1.1 n1.2]
  refine ⟨fun c => ?_, fun c => ⟨fun c1 => ?_, fun c1 => ?_⟩⟩
  · refine v_Balance_wornCost_0 d β μ κ ρ me b n σ L _ hC hB hT ⟨hb, ?_⟩
    refine c_plainCost d hC hB hT hb hn hp ⟨⟨hC, hB⟩, ?_⟩
    rw [trC_o n1.1 n1.2]
    refine ⟨by omega, ⟨hC, hB⟩, kEq h ?_ ?_⟩
    · unfold coV
      rw [if_pos c]
    · unfold coL
      rw [if_pos c]
      exact apc1.symm
  · refine v_Balance_lyingCost_0 d β μ κ ρ me b n σ L _ hC hB hT ⟨hb, ?_⟩
    refine c_plainCost d hC hB hT hb hn hp ⟨⟨hC, hB⟩, ?_⟩
    refine ⟨by omega, ⟨hC, hB⟩, kEq h ?_ ?_⟩
    · unfold coV
      rw [if_neg c, if_pos c1]
    · unfold coL
      rw [if_neg c, if_pos c1]
      exact apc1.symm
  · refine c_plainCost (d + 1) hC hB hT hb hn hp ⟨⟨hC, hB⟩, kEq h ?_ ?_⟩
    · unfold coV
      rw [if_neg c, if_neg c1]
    · unfold coL
      rw [if_neg c, if_neg c1]
theorem v_Balance_most_0 (d : Nat) (β μ κ ρ : Nat → Nat) (me : Nat → Nat → Nat) (b n : Nat) (σ : am_S) (L : List Int) (K : Int → am_S → Prop) (hC : CF σ) (hB : BS σ β μ κ ρ me n) (hT : ¬ (sI σ 10 2 = 0)) (h :
  (((sI (trC σ L) (β b) 0) = 6 →
    b < n ∧
    am_Runs PP MLL (d + 5) m_Balance_most 21 [some (qr (β b, 0, 9)), some (qi 0), some (qr (μ b, 22, κ b)), some (qi ((κ b : Nat) : Int)), some (qi 0), none] [] (trC σ (L ++ [26])) (kI K)) ∧
  (¬ ((sI (trC σ L) (β b) 0) = 6) →
    am_Calls PP MLL (d + 5) m_Balance_mostAlone [qr (β b, 0, 9)] (trC σ L) (kI fun x2 s2 =>
      (CF s2 ∧ BS s2 β μ κ ρ me n) ∧
      K x2 s2)))) : am_Runs PP MLL (d + 5) m_Balance_most 0 [some (qr (β b, 0, 9)), none, none, none, none, none] [] (trC σ L) (kI K) := am_wEF_ok (orc [(8, 10, 7, 3), (14, μ b, 22, κ b)]) 200 (⟨rfl, ⟨fun c1 => ⟨⟨rfl, (hB b (h.1 c1).1).2.2.1⟩, ⟨rfl, c_note _ hC hT (⟨⟨rfl, (hB b (h.1 c1).1).2.1⟩, ⟨⟨(by decide : 20 ≤ 22), (by decide : 22 < 25)⟩, (h.1 c1).2⟩⟩)⟩⟩, fun c1 => ⟨rfl, (am_cI (h.2 c1) fun x2 s2 h2 => h2.2)⟩⟩⟩)

theorem v_Balance_most_21 (d : Nat) (β μ κ ρ : Nat → Nat) (me : Nat → Nat → Nat) (b n : Nat) (v1 v3 v4 : Int) (z0 z5 : Option am_V) (σ : am_S) (L : List Int) (K : Int → am_S → Prop) (hC : CF σ) (hB : BS σ β μ κ ρ me n) (hT : ¬ (sI σ 10 2 = 0)) (h :
  ((v3 ≤ v4 →
    K v1 (trC σ L)) ∧
  (¬ (v3 ≤ v4) →
    (0 ≤ v4 ∧ v4 < ((κ b : Nat) : Int) ∧ b < n ∧ (Int.toNat v4) < κ b) ∧
    (((sI (trC σ L) (β (me b (Int.toNat v4))) 6) = 0 →
      am_Calls PP MLL (d + 5) m_Balance_mostAlone [qr (β (me b (Int.toNat v4)), 0, 9)] (trC σ L) (kI fun x3 s3 =>
        (CF s3 ∧ BS s3 β μ κ ρ me n) ∧
        (-2147483648 ≤ v4 + 1 ∧ v4 + 1 < 2147483648) ∧
        am_Runs PP MLL (d + 5) m_Balance_most 21 [(am_cl z0), some (qi (if v1 < x3 then (x3 : Int) else v1)), some (qr (μ b, 22, κ b)), some (qi v3), some (qi (v4 + 1)), some (qr (β (me b (Int.toNat v4)), 0, 9))] [] s3 (kI K))) ∧
    (¬ ((sI (trC σ L) (β (me b (Int.toNat v4))) 6) = 0) →
      K (-1000) (trC σ L)))))) : am_Runs PP MLL (d + 5) m_Balance_most 21 [z0, some (qi v1), some (qr (μ b, 22, κ b)), some (qi v3), some (qi v4), z5] [] (trC σ L) (kI K) := am_wEF_ok (orc [(26, β (me b (Int.toNat v4)), 0, 9)]) 200 (⟨fun c1 => (h.1 c1), fun c1 => ⟨⟨rfl, (h.2 c1).1.1, (h.2 c1).1.2.1, (hB b (h.2 c1).1.2.2.1).2.2.2.2.2.2.2 (Int.toNat v4) (h.2 c1).1.2.2.2⟩, ⟨rfl, ⟨fun c2 => ⟨rfl, (am_cI ((h.2 c1).2.1 c2) fun x3 s3 h3 => c_max _  (⟨⟨h3.2.1.1, h3.2.1.2⟩, h3.2.2⟩))⟩, fun c2 => ((h.2 c1).2.2 c2)⟩⟩⟩⟩)

theorem v_Balance_cost_0 (d : Nat) (β μ κ ρ : Nat → Nat) (me : Nat → Nat → Nat) (b n : Nat) (σ : am_S) (L : List Int) (K : Int → am_S → Prop) (hC : CF σ) (hB : BS σ β μ κ ρ me n) (hT : ¬ (sI σ 10 2 = 0)) (h :
  (((sI (trC σ L) (β b) 0) = 6 →
    b < n ∧
    am_Runs PP MLL (d + 4) m_Balance_cost 21 [some (qr (β b, 0, 9)), some (qi 0), some (qr (μ b, 22, κ b)), some (qi ((κ b : Nat) : Int)), some (qi 0), none] [] (trC σ (L ++ [36])) (kI K)) ∧
  (¬ ((sI (trC σ L) (β b) 0) = 6) →
    am_Calls PP MLL (d + 4) m_Balance_costAlone [qr (β b, 0, 9)] (trC σ L) (kI fun x2 s2 =>
      (CF s2 ∧ BS s2 β μ κ ρ me n) ∧
      K x2 s2)))) : am_Runs PP MLL (d + 4) m_Balance_cost 0 [some (qr (β b, 0, 9)), none, none, none, none, none] [] (trC σ L) (kI K) := am_wEF_ok (orc [(8, 10, 7, 3), (14, μ b, 22, κ b)]) 200 (⟨rfl, ⟨fun c1 => ⟨⟨rfl, (hB b (h.1 c1).1).2.2.1⟩, ⟨rfl, c_note _ hC hT (⟨⟨rfl, (hB b (h.1 c1).1).2.1⟩, ⟨⟨(by decide : 20 ≤ 22), (by decide : 22 < 25)⟩, (h.1 c1).2⟩⟩)⟩⟩, fun c1 => ⟨rfl, (am_cI (h.2 c1) fun x2 s2 h2 => h2.2)⟩⟩⟩)

theorem v_Balance_cost_21 (d : Nat) (β μ κ ρ : Nat → Nat) (me : Nat → Nat → Nat) (b n : Nat) (v1 v3 v4 : Int) (z0 z5 : Option am_V) (σ : am_S) (L : List Int) (K : Int → am_S → Prop) (hC : CF σ) (hB : BS σ β μ κ ρ me n) (hT : ¬ (sI σ 10 2 = 0)) (h :
  ((v3 ≤ v4 →
    K v1 (trC σ L)) ∧
  (¬ (v3 ≤ v4) →
    (0 ≤ v4 ∧ v4 < ((κ b : Nat) : Int) ∧ b < n ∧ (Int.toNat v4) < κ b) ∧
    (((sI (trC σ L) (β (me b (Int.toNat v4))) 6) = 0 →
      am_Calls PP MLL (d + 4) m_Balance_costAlone [qr (β (me b (Int.toNat v4)), 0, 9)] (trC σ L) (kI fun x3 s3 =>
        (CF s3 ∧ BS s3 β μ κ ρ me n) ∧
        (-2147483648 ≤ v1 + x3 ∧ v1 + x3 < 2147483648 ∧ -2147483648 ≤ v4 + 1 ∧ v4 + 1 < 2147483648) ∧
        am_Runs PP MLL (d + 4) m_Balance_cost 21 [(am_cl z0), some (qi (v1 + x3)), some (qr (μ b, 22, κ b)), some (qi v3), some (qi (v4 + 1)), some (qr (β (me b (Int.toNat v4)), 0, 9))] [] s3 (kI K))) ∧
    (¬ ((sI (trC σ L) (β (me b (Int.toNat v4))) 6) = 0) →
      K (-1000) (trC σ L)))))) : am_Runs PP MLL (d + 4) m_Balance_cost 21 [z0, some (qi v1), some (qr (μ b, 22, κ b)), some (qi v3), some (qi v4), z5] [] (trC σ L) (kI K) := am_wEF_ok (orc [(26, β (me b (Int.toNat v4)), 0, 9)]) 200 (⟨fun c1 => (h.1 c1), fun c1 => ⟨⟨rfl, (h.2 c1).1.1, (h.2 c1).1.2.1, (hB b (h.2 c1).1.2.2.1).2.2.2.2.2.2.2 (Int.toNat v4) (h.2 c1).1.2.2.2⟩, ⟨rfl, ⟨fun c2 => ⟨rfl, (am_cI ((h.2 c1).2.1 c2) fun x3 s3 h3 => ⟨⟨h3.2.1.1, h3.2.1.2.1⟩, ⟨⟨h3.2.1.2.2.1, h3.2.1.2.2.2⟩, h3.2.2⟩⟩)⟩, fun c2 => ((h.2 c1).2.2 c2)⟩⟩⟩⟩)

theorem v_Balance_sure_0 (d : Nat) (β μ κ ρ : Nat → Nat) (me : Nat → Nat → Nat) (b n : Nat) (σ : am_S) (L : List Int) (K : Int → am_S → Prop) (hC : CF σ) (hB : BS σ β μ κ ρ me n) (hT : ¬ (sI σ 10 2 = 0)) (h :
  b < n ∧
  K (if (sI (trC σ (L ++ [if (sI (trC σ L) (β b) 0) = 5 then (45 : Int) else 40])) (β b) 0) = 5 then (0 : Int) else 1) (trC σ (L ++ [if (sI (trC σ L) (β b) 0) = 5 then (45 : Int) else 40]))) : am_Runs PP MLL (d + 1) m_Balance_sure 0 [some (qr (β b, 0, 9))] [] (trC σ L) (kI K) := am_wEC_ok (orc [(1, 10, 7, 3)]) [9, 17] 200 (⟨⟨rfl, (hB b h.1).2.2.1⟩, ⟨rfl, am_use (fun H4 => ⟨fun c1 => (Eq.mp (congrArg (fun z => am_Runs _ _ _ _ _ _ (qi z :: _) _ _) (if_pos c1 : (if (sI (trC σ L) (β b) 0) = 5 then (45 : Int) else 40) = 45)) H4), fun c1 => (Eq.mp (congrArg (fun z => am_Runs _ _ _ _ _ _ (qi z :: _) _ _) (if_neg c1 : (if (sI (trC σ L) (β b) 0) = 5 then (45 : Int) else 40) = 40)) H4)⟩) (am_wEC_ok (orc []) [9, 17] 200 (⟨rfl, c_note _ hC hT (⟨rfl, am_use (fun H3 => ⟨fun c2 => (Eq.mp (congrArg (fun z => am_Runs _ _ _ _ _ _ (qi z :: _) _ _) (if_pos c2 : (if (sI (trC σ (L ++ [if (sI (trC σ L) (β b) 0) = 5 then (45 : Int) else 40])) (β b) 0) = 5 then (0 : Int) else 1) = 0)) H3), fun c2 => (Eq.mp (congrArg (fun z => am_Runs _ _ _ _ _ _ (qi z :: _) _ _) (if_neg c2 : (if (sI (trC σ (L ++ [if (sI (trC σ L) (β b) 0) = 5 then (45 : Int) else 40])) (β b) 0) = 5 then (0 : Int) else 1) = 1)) H3)⟩) (am_wEC_ok (orc []) [9, 17] 200 (h.2))⟩)⟩))⟩⟩)

theorem v_Balance_answer_0 (d : Nat) (β μ κ ρ : Nat → Nat) (me : Nat → Nat → Nat) (b n : Nat) (p1 p2 : Int) (σ : am_S) (L : List Int) (K : Int → am_S → Prop) (hC : CF σ) (hB : BS σ β μ κ ρ me n) (hT : ¬ (sI σ 10 2 = 0)) (h :
  ((p1 = 0 →
    am_Calls PP MLL (d + 6) m_Balance_tells [qr (β b, 0, 9), qi p2] (trC σ L) (kI fun x2 s2 =>
      (CF s2 ∧ BS s2 β μ κ ρ me n) ∧
      K x2 s2)) ∧
  (¬ (p1 = 0) →
  ((p1 = 1 →
    am_Calls PP MLL (d + 6) m_Balance_most [qr (β b, 0, 9)] (trC σ L) (kI fun x4 s4 =>
      (CF s4 ∧ BS s4 β μ κ ρ me n) ∧
      K x4 s4)) ∧
  (¬ (p1 = 1) →
  ((p1 = 2 →
    am_Calls PP MLL (d + 6) m_Balance_cost [qr (β b, 0, 9)] (trC σ L) (kI fun x6 s6 =>
      (CF s6 ∧ BS s6 β μ κ ρ me n) ∧
      K x6 s6)) ∧
  (¬ (p1 = 2) →
  ((p1 = 3 →
    am_Calls PP MLL (d + 6) m_Balance_sure [qr (β b, 0, 9)] (trC σ L) (kI fun x8 s8 =>
      (CF s8 ∧ BS s8 β μ κ ρ me n) ∧
      K x8 s8)) ∧
  (¬ (p1 = 3) →
  K (sI (trC σ L) (β b) 7) (trC σ L)))))))))) : am_Runs PP MLL (d + 6) m_Balance_answer 0 [some (qr (β b, 0, 9)), some (qi p1), some (qi p2)] [] (trC σ L) (kI K) := am_wEF_ok (orc []) 200 (⟨fun c1 => ⟨rfl, (am_cI (h.1 c1) fun x2 s2 h2 => h2.2)⟩, fun c1 => ⟨fun c3 => ⟨rfl, (am_cI ((h.2 c1).1 c3) fun x4 s4 h4 => h4.2)⟩, fun c3 => ⟨fun c5 => ⟨rfl, (am_cI (((h.2 c1).2 c3).1 c5) fun x6 s6 h6 => h6.2)⟩, fun c5 => ⟨fun c7 => ⟨rfl, (am_cI ((((h.2 c1).2 c3).2 c5).1 c7) fun x8 s8 h8 => h8.2)⟩, fun c7 => ⟨rfl, ((((h.2 c1).2 c3).2 c5).2 c7)⟩⟩⟩⟩⟩)

