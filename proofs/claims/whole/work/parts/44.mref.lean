/-! the reference: wishes and their trace -/
/-- the reference's store with the numbers L traced (six at most) -/
def trM (σ : am_S) (L : List Int) : am_S := putI (rowI σ 48 (fun i => if i < L.length ∧ i < 6 then L.getD i 0 else sI σ 48 i)) 31 25 ((min L.length 6 : Nat) : Int)
theorem getD_app {L : List Int} {x : Int} {i : Nat} : (L ++ [x]).getD i 0 = if i < L.length then L.getD i 0 else if i = L.length then x else 0 := by
  by_cases h : i < L.length
  · rw [if_pos h, List.getD_eq_getElem?_getD, List.getElem?_append_left h, ← List.getD_eq_getElem?_getD]
  · rw [if_neg h, List.getD_eq_getElem?_getD, List.getElem?_append_right (by omega), ← List.getD_eq_getElem?_getD]
    by_cases h2 : i = L.length
    · rw [if_pos h2, h2, Nat.sub_self]; rfl
    · rw [if_neg h2]
      obtain ⟨k, hk⟩ : ∃ k, i - L.length = k + 1 := ⟨i - L.length - 1, by omega⟩
      rw [hk]; rfl
theorem v_M_begins_0 (d : Nat) (p1 : Int) (σ : am_S) (L : List Int) (K : am_S → Prop) (hF : MF σ) (h :
  (((sI (trM σ L) 31 26) = 0 →
    K (trM σ L)) ∧
  (¬ ((sI (trM σ L) 31 26) = 0) →
    ((6 ≤ (sI (trM σ L) 31 25) →
      K (trM σ L)) ∧
    (¬ (6 ≤ (sI (trM σ L) 31 25)) →
      (0 ≤ (sI (trM σ L) 31 25) ∧ (sI (trM σ L) 31 25) < 40 ∧ -2147483648 ≤ (sI (trM σ L) 31 25) + 1 ∧ (sI (trM σ L) 31 25) + 1 < 2147483648) ∧
      K (putI (putI (trM σ L) 48 (Int.toNat (sI (trM σ L) 31 25)) p1) 31 25 ((sI (trM σ L) 31 25) + 1))))))) : am_Runs PP MLL d m_M_begins 0 [some (qr (31, 12, 89)), some (qi p1)] [] (trM σ L) (kV K) := am_wEF_ok (orc [(8, 48, 20, 40)]) 200 (⟨rfl, ⟨fun c3 => (h.1 c3), fun c3 => ⟨rfl, ⟨fun c5 => ((h.2 c3).1 c5), fun c5 => ⟨⟨rfl, (hF 24)⟩, ⟨rfl, ⟨⟨rfl, ((h.2 c3).2 c5).1.1, ((h.2 c3).2 c5).1.2.1⟩, ⟨rfl, ⟨⟨((h.2 c3).2 c5).1.2.2.1, ((h.2 c3).2 c5).1.2.2.2⟩, ⟨rfl, ((h.2 c3).2 c5).2⟩⟩⟩⟩⟩⟩⟩⟩⟩⟩)

theorem trM_25 {σ : am_S} {L : List Int} : sI (trM σ L) 31 25 = ((min L.length 6 : Nat) : Int) := rfl
theorem trM_31 {σ : am_S} {L : List Int} {j : Nat} (h : j ≠ 25) : sI (trM σ L) 31 j = sI σ 31 j := by
  unfold trM
  rw [put_at, if_neg h, row_ne (by decide)]
theorem trM_o {σ : am_S} {L : List Int} {a : Nat} (h : a ≠ 31) (h2 : a ≠ 48) : sI (trM σ L) a = sI σ a := by
  unfold trM
  rw [put_ne h, row_ne h2]
theorem trM_add {σ : am_S} {L : List Int} {x : Int} (h : L.length < 6) : putI (putI (trM σ L) 48 L.length x) 31 25 ((L.length : Int) + 1) = trM σ (L ++ [x]) := by
  refine sto_ext (fun a j => ?_) rfl
  by_cases h31 : a = 31
  · subst h31
    by_cases h25 : j = 25
    · subst h25
      rw [trM_25, put_at, if_pos rfl, List.length_append, List.length_singleton]
      omega
    · rw [trM_31 h25, put_at, if_neg h25, put_ne (by decide), trM_31 h25]
  · by_cases h48 : a = 48
    · subst h48
      unfold trM
      rw [put_ne (by decide), put_at, put_ne (by decide), row_at, put_ne (by decide), row_at, List.length_append, List.length_singleton, getD_app]
      by_cases e : j = L.length
      · rw [if_pos e, if_pos (by omega), if_neg (by omega), if_pos e]
      · rw [if_neg e]
        by_cases e2 : j < L.length
        · rw [if_pos (by omega), if_pos (by omega), if_pos e2]
        · rw [if_neg (by omega), if_neg (by omega)]
    · rw [trM_o h31 h48, put_ne h31, put_ne h48, trM_o h31 h48]
theorem trM_full {σ : am_S} {L : List Int} {x : Int} (h : 6 ≤ L.length) : trM σ L = trM σ (L ++ [x]) := by
  refine sto_ext (fun a j => ?_) rfl
  unfold trM
  rw [List.length_append, List.length_singleton]
  by_cases h31 : a = 31
  · subst h31
    rw [put_at, put_at, row_ne (by decide), row_ne (by decide)]
    split
    · omega
    · rfl
  · rw [put_ne h31, put_ne h31]
    by_cases h48 : a = 48
    · subst h48
      rw [row_at, row_at, getD_app]
      by_cases e : j < 6
      · rw [if_pos (by omega), if_pos (by omega), if_pos (by omega)]
      · rw [if_neg (by omega), if_neg (by omega)]
    · rw [row_ne h48, row_ne h48]
theorem c_M_begins (d : Nat) {x : Int} {σ : am_S} {L : List Int} {K : am_S → Prop} (hF : MF σ) (hT : ¬ (sI σ 31 26 = 0)) (h : K (trM σ (L ++ [x]))) : am_Calls PP MLL (d + 1) m_M_begins [qr (31, 12, 89), qi x] (trM σ L) (kV K) := by
  refine v_M_begins_0 d x σ L K hF ?_
  rw [trM_25]
  refine ⟨fun c => absurd ((trM_31 (σ := σ) (L := L) (by decide)).symm.trans c) hT, fun _ => ⟨fun c => ?_, fun c => ⟨by omega, ?_⟩⟩⟩
  · rw [trM_full (x := x) (by omega)]; exact h
  · have e : (min L.length 6 : Nat) = L.length := by omega
    rw [e, Int.toNat_natCast, trM_add (by omega)]
    exact h
theorem trM_nil {σ : am_S} : trM σ [] = putI σ 31 25 0 := by
  refine sto_ext (fun a j => ?_) rfl
  by_cases h31 : a = 31
  · subst h31
    unfold trM
    rw [put_at, put_at, row_ne (by decide)]
    rfl
  · unfold trM
    rw [put_ne h31, put_ne h31]
    by_cases h48 : a = 48
    · subst h48
      rw [row_at, if_neg (by simp)]
    · rw [row_ne h48]
/-- which bodies a wish goes through -/
def tlL (k x : Int) : List Int := if k = 1 then [11] else if k = 2 then [12, 11] else if k = 3 then [12, 11] else if k = 4 then (if -1 ≤ x ∧ x ≤ 1 then [14] else [14, 10]) else [10]
def moL (k : Int) : List Int := if k = 1 then [21, 20] else if k = 2 then [22, 21, 20] else if k = 3 then [22, 21, 20] else [20]
def coL (k : Int) : List Int := if k = 3 then [33, 30] else if k = 5 then [35, 30] else [30]
/-- what a weighing costs: n coins lie on both pans, u times it was used -/
def coV (k u n : Int) : Int := if k = 3 then 3 * (1 + Int.tdiv n 2) + u else if k = 5 then Int.tdiv (1 + Int.tdiv n 2) 2 else 1 + Int.tdiv n 2
/-- how many coins lie on a pan -/
def ldn (f : Nat → Int) (n : Int) : Int := sm (fun i => if f i < 0 then 0 else 1) n.toNat
theorem ldn_bd (f : Nat → Int) {n : Int} (h : n ≤ 20) : 0 ≤ ldn f n ∧ ldn f n ≤ 20 := by
  have h := sm_bd (f := fun i => if f i < 0 then 0 else 1) (c := 1) n.toNat (fun j _ => by split <;> omega)
  unfold ldn
  omega
theorem app1 {σ : am_S} {L : List Int} {x y : Int} : trM σ ((L ++ [x]) ++ [y]) = trM σ (L ++ [x, y]) := by rw [List.append_assoc]; rfl
theorem app2 {σ : am_S} {L : List Int} {x y z : Int} : trM σ (((L ++ [x]) ++ [y]) ++ [z]) = trM σ (L ++ [x, y, z]) := by rw [List.append_assoc, List.append_assoc]; rfl

theorem v_M_tellsO_0 (d : Nat) (p1 p2 : Int) (σ : am_S) (L : List Int) (K : Int → am_S → Prop) (hF : MF σ) (hT : ¬ (sI σ 31 26 = 0)) (h :
  ((p1 = 1 →
    K p2 (trM σ (L ++ [11]))) ∧
  (¬ (p1 = 1) →
  ((p1 = 2 →
    (-2147483648 ≤ Int.tdiv p2 2 ∧ Int.tdiv p2 2 < 2147483648) ∧
    K (Int.tdiv p2 2) (trM σ ((L ++ [12]) ++ [11]))) ∧
  (¬ (p1 = 2) →
  ((p1 = 3 →
    (-2147483648 ≤ Int.tdiv p2 2 ∧ Int.tdiv p2 2 < 2147483648) ∧
    K (Int.tdiv p2 2) (trM σ ((L ++ [12]) ++ [11]))) ∧
  (¬ (p1 = 3) →
  ((p1 = 4 →
    ((p2 < (-1) →
      K (if p2 ≤ 0 then (if 0 ≤ p2 then (0 : Int) else (-1) : Int) else 1) (trM σ ((L ++ [14]) ++ [10]))) ∧
    (¬ (p2 < (-1)) →
      ((1 < p2 →
        K (if p2 ≤ 0 then (if 0 ≤ p2 then (0 : Int) else (-1) : Int) else 1) (trM σ ((L ++ [14]) ++ [10]))) ∧
      (¬ (1 < p2) →
        K 0 (trM σ (L ++ [14]))))))) ∧
  (¬ (p1 = 4) →
  K (if p2 ≤ 0 then (if 0 ≤ p2 then (0 : Int) else (-1) : Int) else 1) (trM σ (L ++ [10]))))))))))) : am_Runs PP MLL (d + 1) m_M_tells 0 [some (qr (31, 12, 89)), some (qi p1), some (qi p2)] [] (trM σ L) (kI K) := am_wEF_ok (orc []) 200 (⟨fun c1 => ⟨rfl, c_M_begins _ hF hT ((h.1 c1))⟩, fun c1 => ⟨fun c2 => ⟨rfl, c_M_begins _ hF hT (⟨rfl, c_M_begins _ hF hT (⟨⟨(by decide : (2 : Int) ≠ 0), ((h.2 c1).1 c2).1.1, ((h.2 c1).1 c2).1.2⟩, ((h.2 c1).1 c2).2⟩)⟩)⟩, fun c2 => ⟨fun c3 => ⟨rfl, c_M_begins _ hF hT (⟨rfl, c_M_begins _ hF hT (⟨⟨(by decide : (2 : Int) ≠ 0), (((h.2 c1).2 c2).1 c3).1.1, (((h.2 c1).2 c2).1 c3).1.2⟩, (((h.2 c1).2 c2).1 c3).2⟩)⟩)⟩, fun c3 => ⟨fun c4 => ⟨rfl, c_M_begins _ hF hT (am_wEF_ok (orc []) 200 (⟨fun c5 => ⟨(Or.inl rfl), ⟨fun _ => ⟨rfl, c_M_begins _ hF hT (am_wEC_ok (orc []) [9] 200 (am_use (fun H8 => ⟨fun c6 => ⟨fun c7 => (Eq.mp (congrArg (fun z => am_Runs _ _ _ _ _ _ (qi z :: _) _ _) (Eq.trans (if_pos c6 : (if p2 ≤ 0 then (if 0 ≤ p2 then (0 : Int) else (-1) : Int) else 1) = if 0 ≤ p2 then (0 : Int) else (-1)) (if_pos c7 : (if 0 ≤ p2 then (0 : Int) else (-1)) = 0))) H8), fun c7 => (Eq.mp (congrArg (fun z => am_Runs _ _ _ _ _ _ (qi z :: _) _ _) (Eq.trans (if_pos c6 : (if p2 ≤ 0 then (if 0 ≤ p2 then (0 : Int) else (-1) : Int) else 1) = if 0 ≤ p2 then (0 : Int) else (-1)) (if_neg c7 : (if 0 ≤ p2 then (0 : Int) else (-1)) = (-1)))) H8)⟩, fun c6 => (Eq.mp (congrArg (fun z => am_Runs _ _ _ _ _ _ (qi z :: _) _ _) (if_neg c6 : (if p2 ≤ 0 then (if 0 ≤ p2 then (0 : Int) else (-1) : Int) else 1) = 1)) H8)⟩) (am_wEC_ok (orc []) [9] 200 ((((((h.2 c1).2 c2).2 c3).1 c4).1 c5)))))⟩, fun c => absurd (by decide : (0 : Int) = 0) c⟩⟩, fun c5 => ⟨fun c9 => ⟨(Or.inl rfl), ⟨fun _ => ⟨rfl, c_M_begins _ hF hT (am_wEC_ok (orc []) [9] 200 (am_use (fun H12 => ⟨fun c10 => ⟨fun c11 => (Eq.mp (congrArg (fun z => am_Runs _ _ _ _ _ _ (qi z :: _) _ _) (Eq.trans (if_pos c10 : (if p2 ≤ 0 then (if 0 ≤ p2 then (0 : Int) else (-1) : Int) else 1) = if 0 ≤ p2 then (0 : Int) else (-1)) (if_pos c11 : (if 0 ≤ p2 then (0 : Int) else (-1)) = 0))) H12), fun c11 => (Eq.mp (congrArg (fun z => am_Runs _ _ _ _ _ _ (qi z :: _) _ _) (Eq.trans (if_pos c10 : (if p2 ≤ 0 then (if 0 ≤ p2 then (0 : Int) else (-1) : Int) else 1) = if 0 ≤ p2 then (0 : Int) else (-1)) (if_neg c11 : (if 0 ≤ p2 then (0 : Int) else (-1)) = (-1)))) H12)⟩, fun c10 => (Eq.mp (congrArg (fun z => am_Runs _ _ _ _ _ _ (qi z :: _) _ _) (if_neg c10 : (if p2 ≤ 0 then (if 0 ≤ p2 then (0 : Int) else (-1) : Int) else 1) = 1)) H12)⟩) (am_wEC_ok (orc []) [9] 200 (((((((h.2 c1).2 c2).2 c3).1 c4).2 c5).1 c9)))))⟩, fun c => absurd (by decide : (0 : Int) = 0) c⟩⟩, fun c9 => ⟨(Or.inr rfl), ⟨fun c => absurd c (by decide : ¬ ((1 : Int) = 0)), fun _ => ((((((h.2 c1).2 c2).2 c3).1 c4).2 c5).2 c9)⟩⟩⟩⟩))⟩, fun c4 => ⟨rfl, c_M_begins _ hF hT (am_wEC_ok (orc []) [9] 200 (am_use (fun H15 => ⟨fun c13 => ⟨fun c14 => (Eq.mp (congrArg (fun z => am_Runs _ _ _ _ _ _ (qi z :: _) _ _) (Eq.trans (if_pos c13 : (if p2 ≤ 0 then (if 0 ≤ p2 then (0 : Int) else (-1) : Int) else 1) = if 0 ≤ p2 then (0 : Int) else (-1)) (if_pos c14 : (if 0 ≤ p2 then (0 : Int) else (-1)) = 0))) H15), fun c14 => (Eq.mp (congrArg (fun z => am_Runs _ _ _ _ _ _ (qi z :: _) _ _) (Eq.trans (if_pos c13 : (if p2 ≤ 0 then (if 0 ≤ p2 then (0 : Int) else (-1) : Int) else 1) = if 0 ≤ p2 then (0 : Int) else (-1)) (if_neg c14 : (if 0 ≤ p2 then (0 : Int) else (-1)) = (-1)))) H15)⟩, fun c13 => (Eq.mp (congrArg (fun z => am_Runs _ _ _ _ _ _ (qi z :: _) _ _) (if_neg c13 : (if p2 ≤ 0 then (if 0 ≤ p2 then (0 : Int) else (-1) : Int) else 1) = 1)) H15)⟩) (am_wEC_ok (orc []) [9] 200 (((((h.2 c1).2 c2).2 c3).2 c4)))))⟩⟩⟩⟩⟩)

theorem c_M_tellsO (d : Nat) {k x : Int} {σ : am_S} {L : List Int} {K : Int → am_S → Prop} (hF : MF σ) (hT : ¬ (sI σ 31 26 = 0)) (hx : -100 ≤ x ∧ x ≤ 100) (h : K (tl k x) (trM σ (L ++ tlL k x))) : am_Calls PP MLL (d + 2) m_M_tells [qr (31, 12, 89), qi k, qi x] (trM σ L) (kI K) := by
  refine v_M_tellsO_0 d k x σ L K hF hT ?_
  have hd := tdiv2_bd hx
  repeat' first | apply And.intro | intro _
  all_goals try omega
  all_goals
    refine kEq h ?_ ?_
    · unfold tl sgn
      (repeat' split) <;> omega
    · unfold tlL
      (repeat' split) <;> first | (exfalso; omega) | rfl | exact app1.symm | exact app2.symm
theorem v_M_mostOfO_0 (d : Nat) (p1 : Int) (σ : am_S) (L : List Int) (K : Int → am_S → Prop) (hF : MF σ) (hT : ¬ (sI σ 31 26 = 0)) (h :
  ((p1 = 1 →
    K 3 (trM σ ((L ++ [21]) ++ [20]))) ∧
  (¬ (p1 = 1) →
  ((p1 = 2 →
    K 1 (trM σ (((L ++ [22]) ++ [21]) ++ [20]))) ∧
  (¬ (p1 = 2) →
  ((p1 = 3 →
    K 1 (trM σ (((L ++ [22]) ++ [21]) ++ [20]))) ∧
  (¬ (p1 = 3) →
  K 1 (trM σ (L ++ [20]))))))))) : am_Runs PP MLL (d + 1) m_M_mostOf 0 [some (qr (31, 12, 89)), some (qi p1)] [] (trM σ L) (kI K) := am_wEF_ok (orc []) 200 (⟨fun c1 => ⟨rfl, c_M_begins _ hF hT (⟨rfl, c_M_begins _ hF hT ((h.1 c1))⟩)⟩, fun c1 => ⟨fun c2 => ⟨rfl, c_M_begins _ hF hT (⟨rfl, c_M_begins _ hF hT (⟨rfl, c_M_begins _ hF hT (((h.2 c1).1 c2))⟩)⟩)⟩, fun c2 => ⟨fun c3 => ⟨rfl, c_M_begins _ hF hT (⟨rfl, c_M_begins _ hF hT (⟨rfl, c_M_begins _ hF hT ((((h.2 c1).2 c2).1 c3))⟩)⟩)⟩, fun c3 => ⟨rfl, c_M_begins _ hF hT ((((h.2 c1).2 c2).2 c3))⟩⟩⟩⟩)

theorem c_M_mostOfO (d : Nat) {k : Int} {σ : am_S} {L : List Int} {K : Int → am_S → Prop} (hF : MF σ) (hT : ¬ (sI σ 31 26 = 0)) (h : K (mo k) (trM σ (L ++ moL k))) : am_Calls PP MLL (d + 2) m_M_mostOf [qr (31, 12, 89), qi k] (trM σ L) (kI K) := by
  refine v_M_mostOfO_0 d k σ L K hF hT ?_
  repeat' first | apply And.intro | intro _
  all_goals
    refine kEq h ?_ ?_
    · unfold mo
      (repeat' split) <;> omega
    · unfold moL
      (repeat' split) <;> first | (exfalso; omega) | rfl | exact app1.symm | exact app2.symm
theorem v_M_costOf_0 (d : Nat) (p1 : Int) (σ : am_S) (L : List Int) (K : Int → am_S → Prop) (hF : MF σ) (hT : ¬ (sI σ 31 26 = 0)) (h :
  am_Runs PP MLL (d + 1) m_M_costOf 4 [some (qr (31, 12, 89)), some (qi p1), some (qi 0), some (qi 0), none] [] (trM σ L) (kI K)) : am_Runs PP MLL (d + 1) m_M_costOf 0 [some (qr (31, 12, 89)), some (qi p1), none, none, none] [] (trM σ L) (kI K) := am_wEC_ok (orc []) [36] 200 (h)

theorem v_M_costOf_4 (d : Nat) (p1 v2 v3 : Int) (z4 : Option am_V) (σ : am_S) (L : List Int) (K : Int → am_S → Prop) (hF : MF σ) (hT : ¬ (sI σ 31 26 = 0)) (h :
  ((2 ≤ v3 →
    (-2147483648 ≤ Int.tdiv v2 2 ∧ Int.tdiv v2 2 < 2147483648 ∧ -2147483648 ≤ 1 + (Int.tdiv v2 2) ∧ 1 + (Int.tdiv v2 2) < 2147483648 ∧ 0 ≤ p1 ∧ p1 < 12) ∧
    (((sI (trM σ L) 41 (Int.toNat p1)) = 3 →
      (-2147483648 ≤ 3 * (1 + (Int.tdiv v2 2)) ∧ 3 * (1 + (Int.tdiv v2 2)) < 2147483648 ∧ -2147483648 ≤ (3 * (1 + (Int.tdiv v2 2))) + (sI (trM σ (L ++ [33])) 42 (Int.toNat p1)) ∧ (3 * (1 + (Int.tdiv v2 2))) + (sI (trM σ (L ++ [33])) 42 (Int.toNat p1)) < 2147483648) ∧
      K ((3 * (1 + (Int.tdiv v2 2))) + (sI (trM σ (L ++ [33])) 42 (Int.toNat p1))) (trM σ ((L ++ [33]) ++ [30]))) ∧
    (¬ ((sI (trM σ L) 41 (Int.toNat p1)) = 3) →
      (((sI (trM σ L) 41 (Int.toNat p1)) = 5 →
        (-2147483648 ≤ Int.tdiv (1 + (Int.tdiv v2 2)) 2 ∧ Int.tdiv (1 + (Int.tdiv v2 2)) 2 < 2147483648) ∧
        K (Int.tdiv (1 + (Int.tdiv v2 2)) 2) (trM σ ((L ++ [35]) ++ [30]))) ∧
      (¬ ((sI (trM σ L) 41 (Int.toNat p1)) = 5) →
        K (1 + (Int.tdiv v2 2)) (trM σ (L ++ [30]))))))) ∧
  (¬ (2 ≤ v3) →
    am_Runs PP MLL (d + 1) m_M_costOf 9 [some (qr (31, 12, 89)), some (qi p1), some (qi v2), some (qi v3), some (qi 0)] [] (trM σ L) (kI K)))) : am_Runs PP MLL (d + 1) m_M_costOf 4 [some (qr (31, 12, 89)), some (qi p1), some (qi v2), some (qi v3), z4] [] (trM σ L) (kI K) := am_wEC_ok (orc [(49, 41, 20, 12), (61, 42, 20, 12), (68, 41, 20, 12)]) [36] 200 (⟨fun c2 => ⟨⟨(by decide : (2 : Int) ≠ 0), (h.1 c2).1.1, (h.1 c2).1.2.1⟩, ⟨⟨(h.1 c2).1.2.2.1, (h.1 c2).1.2.2.2.1⟩, ⟨⟨rfl, (hF 17)⟩, ⟨⟨rfl, (h.1 c2).1.2.2.2.2.1, (h.1 c2).1.2.2.2.2.2⟩, ⟨fun c4 => ⟨rfl, c_M_begins _ hF hT (⟨⟨((h.1 c2).2.1 c4).1.1, ((h.1 c2).2.1 c4).1.2.1⟩, ⟨⟨rfl, (hF 18)⟩, ⟨⟨rfl, (h.1 c2).1.2.2.2.2.1, (h.1 c2).1.2.2.2.2.2⟩, ⟨⟨((h.1 c2).2.1 c4).1.2.2.1, ((h.1 c2).2.1 c4).1.2.2.2⟩, ⟨rfl, c_M_begins _ hF hT (((h.1 c2).2.1 c4).2)⟩⟩⟩⟩⟩)⟩, fun c4 => ⟨⟨rfl, (hF 17)⟩, ⟨⟨rfl, (h.1 c2).1.2.2.2.2.1, (h.1 c2).1.2.2.2.2.2⟩, ⟨fun c6 => ⟨rfl, c_M_begins _ hF hT (⟨⟨(by decide : (2 : Int) ≠ 0), (((h.1 c2).2.2 c4).1 c6).1.1, (((h.1 c2).2.2 c4).1 c6).1.2⟩, ⟨rfl, c_M_begins _ hF hT ((((h.1 c2).2.2 c4).1 c6).2)⟩⟩)⟩, fun c6 => ⟨rfl, c_M_begins _ hF hT ((((h.1 c2).2.2 c4).2 c6))⟩⟩⟩⟩⟩⟩⟩⟩⟩, fun c2 => (h.2 c2)⟩)

theorem v_M_costOf_9 (d : Nat) (p1 v2 v3 v4 : Int) (σ : am_S) (L : List Int) (K : Int → am_S → Prop) (hF : MF σ) (hT : ¬ (sI σ 31 26 = 0)) (h :
  (-2147483648 ≤ 2 * p1 ∧ 2 * p1 < 2147483648 ∧ -2147483648 ≤ (2 * p1) + v3 ∧ (2 * p1) + v3 < 2147483648 ∧ 0 ≤ ((2 * p1) + v3) ∧ ((2 * p1) + v3) < 24) ∧
  (((sI (trM σ L) 44 (Int.toNat ((2 * p1) + v3))) ≤ v4 →
    (-2147483648 ≤ v3 + 1 ∧ v3 + 1 < 2147483648) ∧
    am_Runs PP MLL (d + 1) m_M_costOf 4 [some (qr (31, 12, 89)), some (qi p1), some (qi v2), some (qi (v3 + 1)), some (qi v4)] [] (trM σ L) (kI K)) ∧
  (¬ ((sI (trM σ L) 44 (Int.toNat ((2 * p1) + v3))) ≤ v4) →
    (-2147483648 ≤ 20 * ((2 * p1) + v3) ∧ 20 * ((2 * p1) + v3) < 2147483648 ∧ -2147483648 ≤ (20 * ((2 * p1) + v3)) + v4 ∧ (20 * ((2 * p1) + v3)) + v4 < 2147483648 ∧ 0 ≤ ((20 * ((2 * p1) + v3)) + v4) ∧ ((20 * ((2 * p1) + v3)) + v4) < 480) ∧
    (-2147483648 ≤ v2 + (if (sI (trM σ L) 45 (Int.toNat ((20 * ((2 * p1) + v3)) + v4))) < 0 then (0 : Int) else 1) ∧ v2 + (if (sI (trM σ L) 45 (Int.toNat ((20 * ((2 * p1) + v3)) + v4))) < 0 then (0 : Int) else 1) < 2147483648 ∧ -2147483648 ≤ v4 + 1 ∧ v4 + 1 < 2147483648) ∧
    am_Runs PP MLL (d + 1) m_M_costOf 9 [some (qr (31, 12, 89)), some (qi p1), some (qi (v2 + (if (sI (trM σ L) 45 (Int.toNat ((20 * ((2 * p1) + v3)) + v4))) < 0 then (0 : Int) else 1))), some (qi v3), some (qi (v4 + 1))] [] (trM σ L) (kI K)))) : am_Runs PP MLL (d + 1) m_M_costOf 9 [some (qr (31, 12, 89)), some (qi p1), some (qi v2), some (qi v3), some (qi v4)] [] (trM σ L) (kI K) := am_wEC_ok (orc [(11, 44, 20, 24), (21, 45, 20, 480)]) [36] 200 (⟨⟨rfl, (hF 20)⟩, ⟨⟨h.1.1, h.1.2.1⟩, ⟨⟨h.1.2.2.1, h.1.2.2.2.1⟩, ⟨⟨rfl, h.1.2.2.2.2.1, h.1.2.2.2.2.2⟩, ⟨fun c3 => ⟨⟨(h.2.1 c3).1.1, (h.2.1 c3).1.2⟩, (h.2.1 c3).2⟩, fun c3 => ⟨⟨rfl, (hF 21)⟩, ⟨⟨h.1.1, h.1.2.1⟩, ⟨⟨h.1.2.2.1, h.1.2.2.2.1⟩, ⟨⟨(h.2.2 c3).1.1, (h.2.2 c3).1.2.1⟩, ⟨⟨(h.2.2 c3).1.2.2.1, (h.2.2 c3).1.2.2.2.1⟩, ⟨⟨rfl, (h.2.2 c3).1.2.2.2.2.1, (h.2.2 c3).1.2.2.2.2.2⟩, am_use (fun H5 => ⟨fun c4 => (Eq.mp (congrArg (fun z => am_Runs _ _ _ _ _ _ (qi z :: _) _ _) (if_pos c4 : (if (sI (trM σ L) 45 (Int.toNat ((20 * ((2 * p1) + v3)) + v4))) < 0 then (0 : Int) else 1) = 0)) H5), fun c4 => (Eq.mp (congrArg (fun z => am_Runs _ _ _ _ _ _ (qi z :: _) _ _) (if_neg c4 : (if (sI (trM σ L) 45 (Int.toNat ((20 * ((2 * p1) + v3)) + v4))) < 0 then (0 : Int) else 1) = 1)) H5)⟩) (am_wEC_ok (orc []) [36] 200 (⟨⟨(h.2.2 c3).2.1.1, (h.2.2 c3).2.1.2.1⟩, ⟨⟨(h.2.2 c3).2.1.2.2.1, (h.2.2 c3).2.1.2.2.2⟩, (h.2.2 c3).2.2⟩⟩))⟩⟩⟩⟩⟩⟩⟩⟩⟩⟩⟩)

theorem tdiv_n {n : Int} (h : 0 ≤ n) : Int.tdiv n 2 = n / 2 := Int.tdiv_eq_ediv_of_nonneg h
theorem c_M_costOf (d : Nat) {b : Nat} {σ : am_S} {L : List Int} {K : Int → am_S → Prop} (hF : MF σ) (hT : ¬ (sI σ 31 26 = 0)) (hb : b < 12) (hp : ∀ k, sI σ 44 k ≤ 20) (hu : ∀ j, 0 ≤ sI σ 42 j ∧ sI σ 42 j ≤ 1000) (h : K (coV (sI σ 41 b) (sI σ 42 b) (ldn (fun i => sI σ 45 (40 * b + i)) (sI σ 44 (2 * b)) + ldn (fun i => sI σ 45 (40 * b + 20 + i)) (sI σ 44 (2 * b + 1)))) (trM σ (L ++ coL (sI σ 41 b)))) : am_Calls PP MLL (d + 2) m_M_costOf [qr (31, 12, 89), qi (b : Int)] (trM σ L) (kI K) := by
  refine v_M_costOf_0 d b σ L K hF hT ?_
  have ho : ∀ a, a ≠ 31 → a ≠ 48 → sI (trM σ L) a = sI σ a := fun a h1 h2 => trM_o h1 h2
  obtain ⟨n0, hn0⟩ : ∃ x, x = ldn (fun i => sI σ 45 (40 * b + i)) (sI σ 44 (2 * b)) := ⟨_, rfl⟩
  obtain ⟨n1, hn1⟩ : ∃ x, x = ldn (fun i => sI σ 45 (40 * b + 20 + i)) (sI σ 44 (2 * b + 1)) := ⟨_, rfl⟩
  have hb0 := ldn_bd (fun i => sI σ 45 (40 * b + i)) (hp (2 * b))
  have hb1 := ldn_bd (fun i => sI σ 45 (40 * b + 20 + i)) (hp (2 * b + 1))
  rw [← hn0, ← hn1] at h
  rw [← hn0] at hb0
  rw [← hn1] at hb1
  have hend : ∀ z4, am_Runs PP MLL (d + 1) m_M_costOf 4 [some (qr (31, 12, 89)), some (qi (b : Int)), some (qi (n0 + n1)), some (qi 2), z4] [] (trM σ L) (kI K) := by
    intro z4
    refine v_M_costOf_4 d b _ _ z4 σ L K hF hT ⟨fun _ => ?_, fun c => absurd (by decide) c⟩
    have hub := hu b
    have e0 := tdiv_n (show 0 ≤ n0 + n1 by omega)
    have e1 : 0 ≤ 1 + Int.tdiv (n0 + n1) 2 ∧ 1 + Int.tdiv (n0 + n1) 2 ≤ 21 := by omega
    have e2 := tdiv_n e1.1
    rw [Int.toNat_natCast, ho 41 (by decide) (by decide), trM_o (L := L ++ [33]) (by decide) (by decide)]
    repeat' first | apply And.intro | intro _
    all_goals try omega
    all_goals
      refine kEq h ?_ ?_
      · unfold coV
        (repeat' split) <;> omega
      · unfold coL
        (repeat' split) <;> first | (exfalso; omega) | rfl | exact app1.symm
  have loop : ∀ (s : Nat) (v : Int), s < 2 → 0 ≤ v → v ≤ 20 → (∀ z4, am_Runs PP MLL (d + 1) m_M_costOf 4 [some (qr (31, 12, 89)), some (qi (b : Int)), some (qi (v + ldn (fun i => sI σ 45 (20 * (2 * b + s) + i)) (sI σ 44 (2 * b + s)))), some (qi ((s : Int) + 1)), z4] [] (trM σ L) (kI K)) → ∀ z4, am_Runs PP MLL (d + 1) m_M_costOf 4 [some (qr (31, 12, 89)), some (qi (b : Int)), some (qi v), some (qi (s : Int)), z4] [] (trM σ L) (kI K) := by
    intro s v hs hv0 hv1 hk z4
    refine v_M_costOf_4 d b _ _ z4 σ L K hF hT ⟨fun c => absurd c (by omega), fun _ => ?_⟩
    have hps := hp (2 * b + s)
    have hS : ∀ i : Nat, i ≤ (sI σ 44 (2 * b + s)).toNat → am_Runs PP MLL (d + 1) m_M_costOf 9 [some (qr (31, 12, 89)), some (qi (b : Int)), some (qi (v + sm (fun i => if sI σ 45 (20 * (2 * b + s) + i) < 0 then 0 else 1) i)), some (qi (s : Int)), some (qi (i : Int))] [] (trM σ L) (kI K) := by
      have e2 : Int.toNat (2 * (b : Int) + (s : Int)) = 2 * b + s := by omega
      refine lp ?_ ?_
      · refine v_M_costOf_9 d b _ s _ σ L K hF hT ⟨by omega, fun _ => ⟨by omega, hk _⟩, fun c => absurd ?_ c⟩
        rw [e2, ho 44 (by decide) (by decide)]; omega
      · intro i hi ih
        have e3 : Int.toNat (20 * (2 * (b : Int) + (s : Int)) + (i : Int)) = 20 * (2 * b + s) + i := by omega
        have hbd := sm_bd (f := fun i => if sI σ 45 (20 * (2 * b + s) + i) < 0 then 0 else 1) (c := 1) i (fun j _ => by split <;> omega)
        refine v_M_costOf_9 d b _ s _ σ L K hF hT ⟨by omega, fun c => absurd c (by rw [e2, ho 44 (by decide) (by decide)]; omega), fun _ => ?_⟩
        rw [e3, ho 45 (by decide) (by decide)]
        refine ⟨by omega, by split <;> omega, ?_⟩
        have e4 : v + sm (fun i => if sI σ 45 (20 * (2 * b + s) + i) < 0 then 0 else 1) i + (if sI σ 45 (20 * (2 * b + s) + i) < 0 then (0 : Int) else 1) = v + sm (fun i => if sI σ 45 (20 * (2 * b + s) + i) < 0 then 0 else 1) (i + 1) := by
          show _ = v + (sm (fun i => if sI σ 45 (20 * (2 * b + s) + i) < 0 then 0 else 1) i + (if sI σ 45 (20 * (2 * b + s) + i) < 0 then (0 : Int) else 1))
          omega
        rw [e4]
        exact ih
    have h0 := hS 0 (Nat.zero_le _)
    have e5 : v + sm (fun i => if sI σ 45 (20 * (2 * b + s) + i) < 0 then 0 else 1) 0 = v := by
      show v + 0 = v
      omega
    rw [e5] at h0
    exact h0
  have ef0 : (fun i => sI σ 45 (20 * (2 * b + 0) + i)) = (fun i => sI σ 45 (40 * b + i)) := by
    funext i
    rw [show 20 * (2 * b + 0) = 40 * b by omega]
  have ef1 : (fun i => sI σ 45 (20 * (2 * b + 1) + i)) = (fun i => sI σ 45 (40 * b + 20 + i)) := by
    funext i
    rw [show 20 * (2 * b + 1) = 40 * b + 20 by omega]
  refine loop 0 0 (by omega) (by omega) (by omega) ?_ none
  rw [ef0]
  show ∀ z4, am_Runs PP MLL (d + 1) m_M_costOf 4 [some (qr (31, 12, 89)), some (qi (b : Int)), some (qi (0 + ldn (fun i => sI σ 45 (40 * b + i)) (sI σ 44 (2 * b)))), some (qi (((0 : Nat) : Int) + 1)), z4] [] (trM σ L) (kI K)
  rw [← hn0, Int.zero_add]
  refine loop 1 n0 (by omega) (by omega) (by omega) ?_
  rw [ef1, ← hn1]
  exact hend
theorem v_M_ofQueue_0 (d : Nat) (p1 p2 : Int) (σ : am_S) (L : List Int) (K : Int → am_S → Prop) (hF : MF σ) (hT : ¬ (sI σ 31 26 = 0)) (h :
  am_Runs PP MLL (d + 2) m_M_ofQueue 11 [some (qr (31, 12, 89)), some (qi p1), some (qi p2), some (qi 0), some (qi 0), none, none] [] (trM σ (L ++ [if p2 = 0 then (26 : Int) else 36])) (kI K)) : am_Runs PP MLL (d + 2) m_M_ofQueue 0 [some (qr (31, 12, 89)), some (qi p1), some (qi p2), none, none, none, none] [] (trM σ L) (kI K) := am_wEC_ok (orc []) [6, 57] 200 (am_use (fun H2 => ⟨fun c1 => (Eq.mp (congrArg (fun z => am_Runs _ _ _ _ _ _ (qi z :: _) _ _) (if_pos c1 : (if p2 = 0 then (26 : Int) else 36) = 26)) H2), fun c1 => (Eq.mp (congrArg (fun z => am_Runs _ _ _ _ _ _ (qi z :: _) _ _) (if_neg c1 : (if p2 = 0 then (26 : Int) else 36) = 36)) H2)⟩) (am_wEC_ok (orc []) [6, 57] 200 (⟨rfl, c_M_begins _ hF hT (h)⟩)))

theorem v_M_ofQueue_11 (d : Nat) (p1 p2 v3 v4 : Int) (z5 z6 : Option am_V) (σ : am_S) (L : List Int) (K : Int → am_S → Prop) (hF : MF σ) (hT : ¬ (sI σ 31 26 = 0)) (h :
  (0 ≤ p1 ∧ p1 < 12) ∧
  (((sI (trM σ L) 47 (Int.toNat p1)) ≤ v4 →
    K v3 (trM σ L)) ∧
  (¬ ((sI (trM σ L) 47 (Int.toNat p1)) ≤ v4) →
    (-2147483648 ≤ 3 * p1 ∧ 3 * p1 < 2147483648 ∧ -2147483648 ≤ (3 * p1) + v4 ∧ (3 * p1) + v4 < 2147483648 ∧ 0 ≤ ((3 * p1) + v4) ∧ ((3 * p1) + v4) < 36) ∧
    (0 ≤ (sI (trM σ L) 46 (Int.toNat ((3 * p1) + v4))) ∧ (sI (trM σ L) 46 (Int.toNat ((3 * p1) + v4))) < 12) ∧
    ((0 ≤ (sI (trM σ L) 41 (Int.toNat (sI (trM σ L) 46 (Int.toNat ((3 * p1) + v4))))) →
      ((p2 = 0 →
        am_Calls PP MLL (d + 2) m_M_mostOf [qr (31, 12, 89), qi (sI (trM σ L) 41 (Int.toNat (sI (trM σ L) 46 (Int.toNat ((3 * p1) + v4)))))] (trM σ L) (kI fun x5 s5 =>
          (MF s5) ∧
          (-2147483648 ≤ v4 + 1 ∧ v4 + 1 < 2147483648) ∧
          am_Runs PP MLL (d + 2) m_M_ofQueue 11 [some (qr (31, 12, 89)), some (qi p1), some (qi p2), some (qi (if x5 ≤ v3 then (v3 : Int) else x5)), some (qi (v4 + 1)), some (qi (sI (trM σ L) 46 (Int.toNat ((3 * p1) + v4)))), some (qi x5)] [] s5 (kI K))) ∧
      (¬ (p2 = 0) →
        am_Calls PP MLL (d + 2) m_M_costOf [qr (31, 12, 89), qi (sI (trM σ L) 46 (Int.toNat ((3 * p1) + v4)))] (trM σ L) (kI fun x8 s8 =>
          (MF s8) ∧
          (-2147483648 ≤ v3 + x8 ∧ v3 + x8 < 2147483648) ∧
          (-2147483648 ≤ v4 + 1 ∧ v4 + 1 < 2147483648) ∧
          am_Runs PP MLL (d + 2) m_M_ofQueue 11 [some (qr (31, 12, 89)), some (qi p1), some (qi p2), some (qi (v3 + x8)), some (qi (v4 + 1)), some (qi (sI (trM σ L) 46 (Int.toNat ((3 * p1) + v4)))), some (qi x8)] [] s8 (kI K))))) ∧
    (¬ (0 ≤ (sI (trM σ L) 41 (Int.toNat (sI (trM σ L) 46 (Int.toNat ((3 * p1) + v4)))))) →
      K (-1000) (trM σ L)))))) : am_Runs PP MLL (d + 2) m_M_ofQueue 11 [some (qr (31, 12, 89)), some (qi p1), some (qi p2), some (qi v3), some (qi v4), z5, z6] [] (trM σ L) (kI K) := am_wEC_ok (orc [(13, 47, 20, 12), (18, 46, 20, 36), (40, 41, 20, 12)]) [6, 57] 200 (⟨⟨rfl, (hF 23)⟩, ⟨⟨rfl, h.1.1, h.1.2⟩, ⟨fun c1 => (h.2.1 c1), fun c1 => ⟨⟨rfl, (hF 22)⟩, ⟨⟨(h.2.2 c1).1.1, (h.2.2 c1).1.2.1⟩, ⟨⟨(h.2.2 c1).1.2.2.1, (h.2.2 c1).1.2.2.2.1⟩, ⟨⟨rfl, (h.2.2 c1).1.2.2.2.2.1, (h.2.2 c1).1.2.2.2.2.2⟩, ⟨rfl, c_M_isThere _ hF (h.2.2 c1).2.1.1 (h.2.2 c1).2.1.2 (fun c2 => ⟨fun c => absurd c (by decide : ¬ ((1 : Int) = 0)), fun _ => ⟨fun c4 => ⟨⟨rfl, (hF 17)⟩, ⟨⟨rfl, (h.2.2 c1).2.1.1, (h.2.2 c1).2.1.2⟩, ⟨rfl, (am_cI (((h.2.2 c1).2.2.1 c2).1 c4) fun x5 s5 h5 => ⟨fun _ => am_use (fun H7 => ⟨fun c6 => (Eq.mp (congrArg (fun z => am_Runs _ _ _ _ _ _ (qi z :: _) _ _) (if_pos c6 : (if x5 ≤ v3 then (v3 : Int) else x5) = v3)) H7), fun c6 => (Eq.mp (congrArg (fun z => am_Runs _ _ _ _ _ _ (qi z :: _) _ _) (if_neg c6 : (if x5 ≤ v3 then (v3 : Int) else x5) = x5)) H7)⟩) (am_wEC_ok (orc []) [6, 57] 200 (⟨⟨h5.2.1.1, h5.2.1.2⟩, h5.2.2⟩)), fun c => absurd c4 c⟩)⟩⟩⟩, fun c4 => ⟨rfl, (am_cI (((h.2.2 c1).2.2.1 c2).2 c4) fun x8 s8 h8 => ⟨fun c => absurd c c4, fun _ => ⟨⟨h8.2.1.1, h8.2.1.2⟩, am_wEC_ok (orc []) [6, 57] 200 (⟨⟨h8.2.2.1.1, h8.2.2.1.2⟩, h8.2.2.2⟩)⟩⟩)⟩⟩⟩) (fun c2 => ⟨fun _ => ((h.2.2 c1).2.2.2 c2), fun c => absurd (by decide : (0 : Int) = 0) c⟩)⟩⟩⟩⟩⟩⟩⟩⟩)

/-- a queue's wish: of each member a number and the bodies that it goes through -/
def oqA (v : Nat → Int) (c : Int) : Nat → Int
  | 0 => 0
  | i + 1 => if c = 0 then (if v i ≤ oqA v c i then oqA v c i else v i) else oqA v c i + v i
def oqL (l : Nat → List Int) : Nat → List Int
  | 0 => []
  | i + 1 => oqL l i ++ l i
theorem oqA_bd {v : Nat → Int} {c : Int} (h : ∀ i, 0 ≤ v i ∧ v i ≤ 10000) : ∀ n : Nat, 0 ≤ oqA v c n ∧ oqA v c n ≤ 10000 * n
  | 0 => by simp [oqA]
  | n + 1 => by
    have h1 := oqA_bd (c := c) h n
    have h2 := h n
    unfold oqA
    (repeat' split) <;> omega
/-- a member's number and bodies -/
def mbV (σ : am_S) (c : Int) (m : Nat) : Int := if c = 0 then mo (sI σ 41 m) else coV (sI σ 41 m) (sI σ 42 m) (ldn (fun i => sI σ 45 (40 * m + i)) (sI σ 44 (2 * m)) + ldn (fun i => sI σ 45 (40 * m + 20 + i)) (sI σ 44 (2 * m + 1)))
def mbL (σ : am_S) (c : Int) (m : Nat) : List Int := if c = 0 then moL (sI σ 41 m) else coL (sI σ 41 m)
theorem coV_bd {k u n : Int} (hu : 0 ≤ u ∧ u ≤ 1000) (hn : 0 ≤ n ∧ n ≤ 40) : 0 ≤ coV k u n ∧ coV k u n ≤ 10000 := by
  have e0 := tdiv_n hn.1
  have e1 : 0 ≤ 1 + Int.tdiv n 2 ∧ 1 + Int.tdiv n 2 ≤ 21 := by omega
  have e2 := tdiv_n e1.1
  unfold coV
  (repeat' split) <;> omega
theorem mbV_bd {σ : am_S} (hp : ∀ k, sI σ 44 k ≤ 20) (hu : ∀ j, 0 ≤ sI σ 42 j ∧ sI σ 42 j ≤ 1000) (c : Int) (m : Nat) : 0 ≤ mbV σ c m ∧ mbV σ c m ≤ 10000 := by
  have h0 := ldn_bd (fun i => sI σ 45 (40 * m + i)) (hp (2 * m))
  have h1 := ldn_bd (fun i => sI σ 45 (40 * m + 20 + i)) (hp (2 * m + 1))
  have h2 := coV_bd (k := sI σ 41 m) (hu m) (show 0 ≤ ldn (fun i => sI σ 45 (40 * m + i)) (sI σ 44 (2 * m)) + ldn (fun i => sI σ 45 (40 * m + 20 + i)) (sI σ 44 (2 * m + 1)) ∧ _ ≤ 40 by omega)
  have h3 := mo_13 (sI σ 41 m)
  unfold mbV
  split <;> omega
def mmb (σ : am_S) (b i : Nat) : Nat := (sI σ 46 (3 * b + i)).toNat
theorem c_M_ofQueue (d : Nat) {b n : Nat} {c : Int} {σ : am_S} {L : List Int} {K : Int → am_S → Prop} (hF : MF σ) (hT : ¬ (sI σ 31 26 = 0)) (hc : c = 0 ∨ c = 1) (hn : n ≤ 12) (hb : b < n) (hq : QV σ n) (h6 : sI σ 41 b = 6) (hp : ∀ k, sI σ 44 k ≤ 20) (hu : ∀ j, 0 ≤ sI σ 42 j ∧ sI σ 42 j ≤ 1000)
    (hstop : ∀ i : Nat, (i : Int) < sI σ 47 b → (∀ j, j < i → 0 ≤ sI σ 41 (mmb σ b j)) → sI σ 41 (mmb σ b i) < 0 → K (-1000) (trM σ (L ++ [if c = 0 then 26 else 36] ++ oqL (fun i => mbL σ c (mmb σ b i)) i)))
    (hend : (∀ j : Nat, (j : Int) < sI σ 47 b → 0 ≤ sI σ 41 (mmb σ b j)) → K (oqA (fun i => mbV σ c (mmb σ b i)) c (sI σ 47 b).toNat) (trM σ (L ++ [if c = 0 then 26 else 36] ++ oqL (fun i => mbL σ c (mmb σ b i)) (sI σ 47 b).toNat))) :
    am_Calls PP MLL (d + 3) m_M_ofQueue [qr (31, 12, 89), qi (b : Int), qi c] (trM σ L) (kI K) := by
  refine v_M_ofQueue_0 d b c σ L K hF hT ?_
  obtain ⟨L1, hL1⟩ : ∃ x, x = L ++ [if c = 0 then (26 : Int) else 36] := ⟨_, rfl⟩
  rw [← hL1] at hstop hend ⊢
  have hqb := hq b hb h6
  have ho : ∀ (L : List Int) a, a ≠ 31 → a ≠ 48 → sI (trM σ L) a = sI σ a := fun L a h1 h2 => trM_o h1 h2
  have hS : ∀ i : Nat, i ≤ (sI σ 47 b).toNat → (∀ j, j < i → 0 ≤ sI σ 41 (mmb σ b j)) → ∀ z5 z6, am_Runs PP MLL (d + 2) m_M_ofQueue 11 [some (qr (31, 12, 89)), some (qi (b : Int)), some (qi c), some (qi (oqA (fun i => mbV σ c (mmb σ b i)) c i)), some (qi (i : Int)), z5, z6] [] (trM σ (L1 ++ oqL (fun i => mbL σ c (mmb σ b i)) i)) (kI K) := by
    refine lp ?_ ?_
    · intro hth z5 z6
      refine v_M_ofQueue_11 d b c _ _ z5 z6 σ _ K hF hT ⟨by omega, fun _ => hend (fun j hj => hth j (by omega)), fun c => absurd ?_ c⟩
      rw [Int.toNat_natCast, ho _ 47 (by decide) (by decide)]; omega
    · intro i hi ih hth z5 z6
      have hmi := hqb.2.2 i (by omega)
      have e3 : Int.toNat (3 * (b : Int) + (i : Int)) = 3 * b + i := by omega
      have em : sI σ 46 (3 * b + i) = ((mmb σ b i : Nat) : Int) := by unfold mmb; omega
      have hbd := oqA_bd (c := c) (fun i => mbV_bd hp hu c (mmb σ b i)) i
      have hv := mbV_bd hp hu c (mmb σ b i)
      refine v_M_ofQueue_11 d b c _ _ z5 z6 σ _ K hF hT ⟨by omega, fun c => absurd c (by rw [Int.toNat_natCast, ho _ 47 (by decide) (by decide)]; omega), fun _ => ?_⟩
      rw [e3, ho _ 46 (by decide) (by decide), em, Int.toNat_natCast, ho _ 41 (by decide) (by decide)]
      refine ⟨by omega, by omega, fun c1 => ?_, fun c1 => hstop i (by omega) hth (by omega)⟩
      have ih := ih (fun j hj => by
        by_cases e : j = i
        · rw [e]; exact c1
        · exact hth j (by omega))
      unfold oqA oqL at ih
      refine ⟨fun c2 => ?_, fun c2 => ?_⟩
      · have e5 : mbV σ c (mmb σ b i) = mo (sI σ 41 (mmb σ b i)) := by unfold mbV; rw [if_pos c2]
        have e6 : mbL σ c (mmb σ b i) = moL (sI σ 41 (mmb σ b i)) := by unfold mbL; rw [if_pos c2]
        refine c_M_mostOfO d hF hT ⟨hF, by omega, ?_⟩
        rw [if_pos c2, e5, e6, ← List.append_assoc] at ih
        exact ih _ _
      · have e5 : mbV σ c (mmb σ b i) = coV (sI σ 41 (mmb σ b i)) (sI σ 42 (mmb σ b i)) (ldn (fun j => sI σ 45 (40 * mmb σ b i + j)) (sI σ 44 (2 * mmb σ b i)) + ldn (fun j => sI σ 45 (40 * mmb σ b i + 20 + j)) (sI σ 44 (2 * mmb σ b i + 1))) := by unfold mbV; rw [if_neg c2]
        have e6 : mbL σ c (mmb σ b i) = coL (sI σ 41 (mmb σ b i)) := by unfold mbL; rw [if_neg c2]
        refine c_M_costOf d hF hT (by omega) hp hu ⟨hF, ?_, by omega, ?_⟩
        · rw [← e5]; omega
        · rw [if_neg c2, e5, e6, ← List.append_assoc] at ih
          exact ih _ _
  have h0 := hS 0 (Nat.zero_le _) (fun j hj => absurd hj (Nat.not_lt_zero j)) none none
  unfold oqL at h0
  rw [List.append_nil] at h0
  exact h0
theorem v_M_wish_0 (d : Nat) (p1 p2 p3 : Int) (σ : am_S) (K : Int → am_S → Prop) (hF : MF σ) (h :
  (-2147483648 ≤ (sI σ 31 16) - 1 ∧ (sI σ 31 16) - 1 < 2147483648) ∧
  ((p1 < 0 →
    K (-1001) σ) ∧
  (¬ (p1 < 0) →
    ((((sI σ 31 16) - 1) < p1 →
      K (-1001) σ) ∧
    (¬ (((sI σ 31 16) - 1) < p1) →
      ((p2 < 0 →
        K (-1001) σ) ∧
      (¬ (p2 < 0) →
        ((4 < p2 →
          K (-1001) σ) ∧
        (¬ (4 < p2) →
          ((p2 = 0 →
            ((p3 < (-3) →
              K (-1001) σ) ∧
            (¬ (p3 < (-3)) →
              ((3 < p3 →
                K (-1001) σ) ∧
              (¬ (3 < p3) →
                (0 ≤ p1 ∧ p1 < 12) ∧
                ((0 ≤ (sI σ 41 (Int.toNat p1)) →
                  ((p2 = 4 →
                    K (sI σ 42 (Int.toNat p1)) (putI σ 31 25 0)) ∧
                  (¬ (p2 = 4) →
                    (((if (sI σ 41 (Int.toNat p1)) = 6 then (1 : Int) else 0) = 0 →
                      am_Calls PP MLL (d + 3) m_M_tells [qr (31, 12, 89), qi (sI σ 41 (Int.toNat p1)), qi p3] (putI (putI σ 31 25 0) 31 26 1) (kI fun x12 s12 =>
                        (MF s12) ∧
                        ((x12 = (-1000) →
                          am_Calls PP MLL (d + 3) m_M_finds [qr (31, 12, 89), qi p1, qi 1] (putI s12 31 26 0) (kI fun x15 s15 =>
                            (MF s15) ∧
                            K x15 s15)) ∧
                        (¬ (x12 = (-1000)) →
                          K x12 (putI s12 31 26 0))))) ∧
                    (¬ ((if (sI σ 41 (Int.toNat p1)) = 6 then (1 : Int) else 0) = 0) →
                      am_Calls PP MLL (d + 3) m_M_finds [qr (31, 12, 89), qi p1, qi 4] (putI σ 31 25 0) (kI fun x16 s16 =>
                        (MF s16) ∧
                        K x16 s16)))))) ∧
                (¬ (0 ≤ (sI σ 41 (Int.toNat p1))) →
                  am_Calls PP MLL (d + 3) m_M_finds [qr (31, 12, 89), qi p1, qi 1] (putI σ 31 25 0) (kI fun x18 s18 =>
                    (MF s18) ∧
                    K x18 s18)))))))) ∧
          (¬ (p2 = 0) →
            (0 ≤ p1 ∧ p1 < 12) ∧
            ((0 ≤ (sI σ 41 (Int.toNat p1)) →
              ((p2 = 4 →
                K (sI σ 42 (Int.toNat p1)) (putI σ 31 25 0)) ∧
              (¬ (p2 = 4) →
                ((p2 = 3 →
                  am_Calls PP MLL (d + 3) m_M_begins [qr (31, 12, 89), qi (if (sI σ 41 (Int.toNat p1)) = 5 then (45 : Int) else 40)] (putI (putI σ 31 25 0) 31 26 1) (kV fun s26 =>
                    (MF s26) ∧
                    (((if (sI s26 41 (Int.toNat p1)) = 5 then (0 : Int) else 1) = (-1000) →
                      am_Calls PP MLL (d + 3) m_M_finds [qr (31, 12, 89), qi p1, qi 1] (putI s26 31 26 0) (kI fun x30 s30 =>
                        (MF s30) ∧
                        K x30 s30)) ∧
                    (¬ ((if (sI s26 41 (Int.toNat p1)) = 5 then (0 : Int) else 1) = (-1000)) →
                      K (if (sI s26 41 (Int.toNat p1)) = 5 then (0 : Int) else 1) (putI s26 31 26 0))))) ∧
                (¬ (p2 = 3) →
                  (((if (sI σ 41 (Int.toNat p1)) = 6 then (1 : Int) else 0) = 0 →
                    ((p2 = 1 →
                      am_Calls PP MLL (d + 3) m_M_mostOf [qr (31, 12, 89), qi (sI σ 41 (Int.toNat p1))] (putI (putI σ 31 25 0) 31 26 1) (kI fun x38 s38 =>
                        (MF s38) ∧
                        ((x38 = (-1000) →
                          am_Calls PP MLL (d + 3) m_M_finds [qr (31, 12, 89), qi p1, qi 1] (putI s38 31 26 0) (kI fun x41 s41 =>
                            (MF s41) ∧
                            K x41 s41)) ∧
                        (¬ (x38 = (-1000)) →
                          K x38 (putI s38 31 26 0))))) ∧
                    (¬ (p2 = 1) →
                      am_Calls PP MLL (d + 3) m_M_costOf [qr (31, 12, 89), qi p1] (putI (putI σ 31 25 0) 31 26 1) (kI fun x42 s42 =>
                        (MF s42) ∧
                        ((x42 = (-1000) →
                          am_Calls PP MLL (d + 3) m_M_finds [qr (31, 12, 89), qi p1, qi 1] (putI s42 31 26 0) (kI fun x45 s45 =>
                            (MF s45) ∧
                            K x45 s45)) ∧
                        (¬ (x42 = (-1000)) →
                          K x42 (putI s42 31 26 0))))))) ∧
                  (¬ ((if (sI σ 41 (Int.toNat p1)) = 6 then (1 : Int) else 0) = 0) →
                    am_Calls PP MLL (d + 3) m_M_ofQueue [qr (31, 12, 89), qi p1, qi (if p2 = 2 then (1 : Int) else 0)] (putI (putI σ 31 25 0) 31 26 1) (kI fun x47 s47 =>
                      (MF s47) ∧
                      ((x47 = (-1000) →
                        am_Calls PP MLL (d + 3) m_M_finds [qr (31, 12, 89), qi p1, qi 1] (putI s47 31 26 0) (kI fun x50 s50 =>
                          (MF s50) ∧
                          K x50 s50)) ∧
                      (¬ (x47 = (-1000)) →
                        K x47 (putI s47 31 26 0))))))))))) ∧
            (¬ (0 ≤ (sI σ 41 (Int.toNat p1))) →
              am_Calls PP MLL (d + 3) m_M_finds [qr (31, 12, 89), qi p1, qi 1] (putI σ 31 25 0) (kI fun x53 s53 =>
                (MF s53) ∧
                K x53 s53)))))))))))))) : am_Runs PP MLL (d + 3) m_M_wish 0 [some (qr (31, 12, 89)), some (qi p1), some (qi p2), some (qi p3), none, none] [] σ (kI K) := am_wEC_ok (orc [(31, 41, 20, 12)]) [39, 86, 96, 108] 200 (⟨rfl, am_wEF_ok (orc []) 200 (⟨rfl, ⟨⟨h.1.1, h.1.2⟩, am_wEF_ok (orc []) 200 (⟨fun c1 => ⟨(Or.inl rfl), ⟨(Or.inl rfl), ⟨fun _ => (h.2.1 c1), fun c => absurd (by decide : (0 : Int) = 0) c⟩⟩⟩, fun c1 => ⟨fun c2 => ⟨(Or.inl rfl), ⟨(Or.inl rfl), ⟨fun _ => ((h.2.2 c1).1 c2), fun c => absurd (by decide : (0 : Int) = 0) c⟩⟩⟩, fun c2 => ⟨(Or.inr rfl), ⟨(Or.inr rfl), ⟨fun c => absurd c (by decide : ¬ ((1 : Int) = 0)), fun _ => am_wEF_ok (orc []) 200 (⟨fun c3 => ⟨(Or.inl rfl), ⟨fun _ => (((h.2.2 c1).2 c2).1 c3), fun c => absurd (by decide : (0 : Int) = 0) c⟩⟩, fun c3 => ⟨fun c4 => ⟨(Or.inl rfl), ⟨fun _ => ((((h.2.2 c1).2 c2).2 c3).1 c4), fun c => absurd (by decide : (0 : Int) = 0) c⟩⟩, fun c4 => ⟨(Or.inr rfl), ⟨fun c => absurd c (by decide : ¬ ((1 : Int) = 0)), fun _ => ⟨fun c5 => am_wEF_ok (orc []) 200 (⟨fun c6 => ⟨(Or.inl rfl), ⟨fun _ => ((((((h.2.2 c1).2 c2).2 c3).2 c4).1 c5).1 c6), fun c => absurd (by decide : (0 : Int) = 0) c⟩⟩, fun c6 => ⟨fun c7 => ⟨(Or.inl rfl), ⟨fun _ => (((((((h.2.2 c1).2 c2).2 c3).2 c4).1 c5).2 c6).1 c7), fun c => absurd (by decide : (0 : Int) = 0) c⟩⟩, fun c7 => ⟨(Or.inr rfl), ⟨fun c => absurd c (by decide : ¬ ((1 : Int) = 0)), fun _ => ⟨rfl, ⟨rfl, c_M_isThere _ hF (((((((h.2.2 c1).2 c2).2 c3).2 c4).1 c5).2 c6).2 c7).1.1 (((((((h.2.2 c1).2 c2).2 c3).2 c4).1 c5).2 c6).2 c7).1.2 (fun c8 => ⟨fun c => absurd c (by decide : ¬ ((1 : Int) = 0)), fun _ => ⟨⟨rfl, (hF 17)⟩, ⟨⟨rfl, (((((((h.2.2 c1).2 c2).2 c3).2 c4).1 c5).2 c6).2 c7).1.1, (((((((h.2.2 c1).2 c2).2 c3).2 c4).1 c5).2 c6).2 c7).1.2⟩, am_use (fun H17 => ⟨fun c9 => (Eq.mp (congrArg (fun z => am_Runs _ _ _ _ _ _ (qi z :: _) _ _) (if_pos c9 : (if (sI σ 41 (Int.toNat p1)) = 6 then (1 : Int) else 0) = 1)) H17), fun c9 => (Eq.mp (congrArg (fun z => am_Runs _ _ _ _ _ _ (qi z :: _) _ _) (if_neg c9 : (if (sI σ 41 (Int.toNat p1)) = 6 then (1 : Int) else 0) = 0)) H17)⟩) (am_wEC_ok (orc [(44, 42, 20, 12), (66, 41, 20, 12)]) [39, 86, 96, 108] 200 (⟨fun c10 => ⟨⟨rfl, (hF 18)⟩, ⟨⟨rfl, (((((((h.2.2 c1).2 c2).2 c3).2 c4).1 c5).2 c6).2 c7).1.1, (((((((h.2.2 c1).2 c2).2 c3).2 c4).1 c5).2 c6).2 c7).1.2⟩, (((((((((h.2.2 c1).2 c2).2 c3).2 c4).1 c5).2 c6).2 c7).2.1 c8).1 c10)⟩⟩, fun c10 => ⟨fun _ => ⟨fun c11 => ⟨⟨rfl, (Or.inr rfl)⟩, ⟨fun _ => ⟨⟨rfl, (hF 17)⟩, ⟨⟨rfl, (((((((h.2.2 c1).2 c2).2 c3).2 c4).1 c5).2 c6).2 c7).1.1, (((((((h.2.2 c1).2 c2).2 c3).2 c4).1 c5).2 c6).2 c7).1.2⟩, ⟨rfl, (am_cI ((((((((((h.2.2 c1).2 c2).2 c3).2 c4).1 c5).2 c6).2 c7).2.1 c8).2 c10).1 c11) fun x12 s12 h12 => ⟨⟨rfl, (Or.inl rfl)⟩, ⟨fun c14 => ⟨rfl, (am_cI (h12.2.1 c14) fun x15 s15 h15 => h15.2)⟩, fun c14 => (h12.2.2 c14)⟩⟩)⟩⟩⟩, fun c => absurd c5 c⟩⟩, fun c11 => ⟨rfl, (am_cI ((((((((((h.2.2 c1).2 c2).2 c3).2 c4).1 c5).2 c6).2 c7).2.1 c8).2 c10).2 c11) fun x16 s16 h16 => h16.2)⟩⟩, fun c => absurd c5 c⟩⟩))⟩⟩⟩) (fun c8 => ⟨fun _ => ⟨rfl, (am_cI ((((((((h.2.2 c1).2 c2).2 c3).2 c4).1 c5).2 c6).2 c7).2.2 c8) fun x18 s18 h18 => h18.2)⟩, fun c => absurd (by decide : (0 : Int) = 0) c⟩)⟩⟩⟩⟩⟩⟩), fun c5 => ⟨rfl, ⟨rfl, c_M_isThere _ hF (((((h.2.2 c1).2 c2).2 c3).2 c4).2 c5).1.1 (((((h.2.2 c1).2 c2).2 c3).2 c4).2 c5).1.2 (fun c19 => ⟨fun c => absurd c (by decide : ¬ ((1 : Int) = 0)), fun _ => ⟨⟨rfl, (hF 17)⟩, ⟨⟨rfl, (((((h.2.2 c1).2 c2).2 c3).2 c4).2 c5).1.1, (((((h.2.2 c1).2 c2).2 c3).2 c4).2 c5).1.2⟩, am_use (fun H52 => ⟨fun c20 => (Eq.mp (congrArg (fun z => am_Runs _ _ _ _ _ _ (qi z :: _) _ _) (if_pos c20 : (if (sI σ 41 (Int.toNat p1)) = 6 then (1 : Int) else 0) = 1)) H52), fun c20 => (Eq.mp (congrArg (fun z => am_Runs _ _ _ _ _ _ (qi z :: _) _ _) (if_neg c20 : (if (sI σ 41 (Int.toNat p1)) = 6 then (1 : Int) else 0) = 0)) H52)⟩) (am_wEC_ok (orc [(44, 42, 20, 12), (78, 41, 20, 12), (116, 41, 20, 12)]) [39, 86, 96, 108] 200 (⟨fun c21 => ⟨⟨rfl, (hF 18)⟩, ⟨⟨rfl, (((((h.2.2 c1).2 c2).2 c3).2 c4).2 c5).1.1, (((((h.2.2 c1).2 c2).2 c3).2 c4).2 c5).1.2⟩, (((((((h.2.2 c1).2 c2).2 c3).2 c4).2 c5).2.1 c19).1 c21)⟩⟩, fun c21 => ⟨fun c => absurd c c5, fun _ => ⟨⟨rfl, (Or.inr rfl)⟩, ⟨fun c => absurd c c5, fun _ => ⟨fun c24 => ⟨⟨rfl, (hF 17)⟩, ⟨⟨rfl, (((((h.2.2 c1).2 c2).2 c3).2 c4).2 c5).1.1, (((((h.2.2 c1).2 c2).2 c3).2 c4).2 c5).1.2⟩, am_use (fun H32 => ⟨fun c25 => (Eq.mp (congrArg (fun z => am_Runs _ _ _ _ _ _ (qi z :: _) _ _) (if_pos c25 : (if (sI σ 41 (Int.toNat p1)) = 5 then (45 : Int) else 40) = 45)) H32), fun c25 => (Eq.mp (congrArg (fun z => am_Runs _ _ _ _ _ _ (qi z :: _) _ _) (if_neg c25 : (if (sI σ 41 (Int.toNat p1)) = 5 then (45 : Int) else 40) = 40)) H32)⟩) (am_wEC_ok (orc [(88, 41, 20, 12)]) [39, 86, 96, 108] 200 (⟨rfl, (am_cV ((((((((h.2.2 c1).2 c2).2 c3).2 c4).2 c5).2.1 c19).2 c21).1 c24) fun s26 h26 => ⟨⟨rfl, (h26.1 17)⟩, ⟨⟨rfl, (((((h.2.2 c1).2 c2).2 c3).2 c4).2 c5).1.1, (((((h.2.2 c1).2 c2).2 c3).2 c4).2 c5).1.2⟩, am_use (fun H31 => ⟨fun c27 => (Eq.mp (congrArg (fun z => am_Runs _ _ _ _ _ _ (qi z :: _) _ _) (if_pos c27 : (if (sI s26 41 (Int.toNat p1)) = 5 then (0 : Int) else 1) = 0)) H31), fun c27 => (Eq.mp (congrArg (fun z => am_Runs _ _ _ _ _ _ (qi z :: _) _ _) (if_neg c27 : (if (sI s26 41 (Int.toNat p1)) = 5 then (0 : Int) else 1) = 1)) H31)⟩) (am_wEC_ok (orc []) [39, 86, 96, 108] 200 (⟨⟨rfl, (Or.inl rfl)⟩, ⟨fun c29 => ⟨rfl, (am_cI (h26.2.1 c29) fun x30 s30 h30 => h30.2)⟩, fun c29 => (h26.2.2 c29)⟩⟩))⟩⟩)⟩))⟩⟩, fun c24 => ⟨fun c35 => ⟨fun c37 => ⟨⟨rfl, (hF 17)⟩, ⟨⟨rfl, (((((h.2.2 c1).2 c2).2 c3).2 c4).2 c5).1.1, (((((h.2.2 c1).2 c2).2 c3).2 c4).2 c5).1.2⟩, ⟨rfl, (am_cI ((((((((((h.2.2 c1).2 c2).2 c3).2 c4).2 c5).2.1 c19).2 c21).2 c24).1 c35).1 c37) fun x38 s38 h38 => ⟨⟨rfl, (Or.inl rfl)⟩, ⟨fun c40 => ⟨rfl, (am_cI (h38.2.1 c40) fun x41 s41 h41 => h41.2)⟩, fun c40 => (h38.2.2 c40)⟩⟩)⟩⟩⟩, fun c37 => ⟨rfl, (am_cI ((((((((((h.2.2 c1).2 c2).2 c3).2 c4).2 c5).2.1 c19).2 c21).2 c24).1 c35).2 c37) fun x42 s42 h42 => ⟨⟨rfl, (Or.inl rfl)⟩, ⟨fun c44 => ⟨rfl, (am_cI (h42.2.1 c44) fun x45 s45 h45 => h45.2)⟩, fun c44 => (h42.2.2 c44)⟩⟩)⟩⟩, fun c35 => am_use (fun H51 => ⟨fun c46 => (Eq.mp (congrArg (fun z => am_Runs _ _ _ _ _ _ (qi z :: _) _ _) (if_pos c46 : (if p2 = 2 then (1 : Int) else 0) = 1)) H51), fun c46 => (Eq.mp (congrArg (fun z => am_Runs _ _ _ _ _ _ (qi z :: _) _ _) (if_neg c46 : (if p2 = 2 then (1 : Int) else 0) = 0)) H51)⟩) (am_wEC_ok (orc []) [39, 86, 96, 108] 200 (⟨rfl, (am_cI (((((((((h.2.2 c1).2 c2).2 c3).2 c4).2 c5).2.1 c19).2 c21).2 c24).2 c35) fun x47 s47 h47 => ⟨⟨rfl, (Or.inl rfl)⟩, ⟨fun c49 => ⟨rfl, (am_cI (h47.2.1 c49) fun x50 s50 h50 => h50.2)⟩, fun c49 => (h47.2.2 c49)⟩⟩)⟩))⟩⟩⟩⟩⟩⟩))⟩⟩⟩) (fun c19 => ⟨fun _ => ⟨rfl, (am_cI ((((((h.2.2 c1).2 c2).2 c3).2 c4).2 c5).2.2 c19) fun x53 s53 h53 => h53.2)⟩, fun c => absurd (by decide : (0 : Int) = 0) c⟩)⟩⟩⟩⟩⟩⟩⟩)⟩⟩⟩⟩⟩)⟩⟩)⟩)

