/-! the reference: weighFault, weigh, parts, undo -/
def up (f g : Nat → Int) (i : Nat) : Nat → Int := fun k => if k < i then g k else f k
def rows3 (σ : am_S) (a b c : Nat) (f g h : Nat → Int) : am_S := rowI (rowI (rowI σ a f) b g) c h
theorem up_at {f g : Nat → Int} {i : Nat} : up f g i i = f i := if_neg (Nat.lt_irrefl i)
theorem up_0 {f g : Nat → Int} : up f g 0 = f := by
  funext k
  exact if_neg (Nat.not_lt_zero k)
theorem up_succ {f g : Nat → Int} {i k : Nat} : up f g (i + 1) k = if k = i then g k else up f g i k := by
  unfold up
  by_cases h : k = i
  · rw [if_pos h, if_pos (by omega)]
  · rw [if_neg h]
    by_cases h2 : k < i
    · rw [if_pos h2, if_pos (by omega)]
    · rw [if_neg h2, if_neg (by omega)]
theorem rows3_0 {σ : am_S} {a b c : Nat} {f' g' h' : Nat → Int} (hab : a ≠ b) (hac : a ≠ c) (hbc : b ≠ c) : rows3 σ a b c (up (sI σ a) f' 0) (up (sI σ b) g' 0) (up (sI σ c) h' 0) = σ := by
  rw [up_0, up_0, up_0]
  refine sto_ext (fun x y => ?_) rfl
  unfold rows3
  simp only [sI_row]
  (repeat' split) <;> simp_all
theorem rows3_step {σ T : am_S} {a b c i : Nat} {f f' g g' h h' : Nat → Int} (hab : a ≠ b) (hac : a ≠ c) (hbc : b ≠ c) (hT : T.2 = σ.2)
    (ha : ∀ k, sI T a k = if k = i then f' i else up f f' i k) (hb : ∀ k, sI T b k = if k = i then g' i else up g g' i k) (hc : ∀ k, sI T c k = if k = i then h' i else up h h' i k) (ho : ∀ x, x ≠ a → x ≠ b → x ≠ c → sI T x = sI σ x) : T = rows3 σ a b c (up f f' (i + 1)) (up g g' (i + 1)) (up h h' (i + 1)) := by
  refine sto_ext (fun x y => ?_) hT
  unfold rows3
  simp only [sI_row]
  split
  · rename_i e; subst e; rw [hc, up_succ]; split
    · rename_i e; rw [e]
    · rfl
  · split
    · rename_i e; subst e; rw [hb, up_succ]; split
      · rename_i e; rw [e]
      · rfl
    · split
      · rename_i e; subst e; rw [ha, up_succ]; split
        · rename_i e; rw [e]
        · rfl
      · rename_i h1 h2 h3
        rw [ho x h3 h2 h1]
/-- which balance weighs: of a queue the one whose turn it is -/
def wr (σ : am_S) (b turn : Nat) : Nat := if sI σ 41 b = 6 then (sI σ 46 (3 * b + turn % (sI σ 47 b).toNat)).toNat else b
/-- queues have two or three members, which came -/
def QV (σ : am_S) (n : Nat) : Prop := ∀ b, b < n → sI σ 41 b = 6 → 2 ≤ sI σ 47 b ∧ sI σ 47 b ≤ 3 ∧ ∀ i : Nat, (i : Int) < sI σ 47 b → 0 ≤ sI σ 46 (3 * b + i) ∧ sI σ 46 (3 * b + i) < n
theorem wr_lt {σ : am_S} {n b turn : Nat} (hq : QV σ n) (hb : b < n) : wr σ b turn < n := by
  unfold wr
  split
  · rename_i h6
    have h := hq b hb h6
    have hm : turn % (sI σ 47 b).toNat < (sI σ 47 b).toNat := Nat.mod_lt _ (by omega)
    have h2 := h.2.2 (turn % (sI σ 47 b).toNat) (by omega)
    omega
  · exact hb

theorem v_M_weighFault_0 (d : Nat) (p1 : Int) (σ : am_S) (K : Int → am_S → Prop) (hF : MF σ) (h :
  (0 ≤ p1 ∧ p1 < 12) ∧
  ((0 ≤ (sI σ 41 (Int.toNat p1)) →
    ((((sI σ 41 (Int.toNat p1)) = 6) → -2147483648 ≤ 3 * p1) ∧ (((sI σ 41 (Int.toNat p1)) = 6) → 3 * p1 < 2147483648) ∧ (((sI σ 41 (Int.toNat p1)) = 6) → (sI σ 47 (Int.toNat p1)) ≠ 0) ∧ (((sI σ 41 (Int.toNat p1)) = 6) → -2147483648 ≤ (3 * p1) + (Int.tmod (sI σ 31 13) (sI σ 47 (Int.toNat p1)))) ∧ (((sI σ 41 (Int.toNat p1)) = 6) → (3 * p1) + (Int.tmod (sI σ 31 13) (sI σ 47 (Int.toNat p1))) < 2147483648) ∧ (((sI σ 41 (Int.toNat p1)) = 6) → 0 ≤ ((3 * p1) + (Int.tmod (sI σ 31 13) (sI σ 47 (Int.toNat p1))))) ∧ (((sI σ 41 (Int.toNat p1)) = 6) → ((3 * p1) + (Int.tmod (sI σ 31 13) (sI σ 47 (Int.toNat p1)))) < 36)) ∧
    (0 ≤ (if (sI σ 41 (Int.toNat p1)) = 6 then (sI σ 46 (Int.toNat ((3 * p1) + (Int.tmod (sI σ 31 13) (sI σ 47 (Int.toNat p1))))) : Int) else p1) ∧ (if (sI σ 41 (Int.toNat p1)) = 6 then (sI σ 46 (Int.toNat ((3 * p1) + (Int.tmod (sI σ 31 13) (sI σ 47 (Int.toNat p1))))) : Int) else p1) < 12) ∧
    ((0 ≤ (sI σ 41 (Int.toNat (if (sI σ 41 (Int.toNat p1)) = 6 then (sI σ 46 (Int.toNat ((3 * p1) + (Int.tmod (sI σ 31 13) (sI σ 47 (Int.toNat p1))))) : Int) else p1))) →
      (-2147483648 ≤ 2 * (if (sI σ 41 (Int.toNat p1)) = 6 then (sI σ 46 (Int.toNat ((3 * p1) + (Int.tmod (sI σ 31 13) (sI σ 47 (Int.toNat p1))))) : Int) else p1) ∧ 2 * (if (sI σ 41 (Int.toNat p1)) = 6 then (sI σ 46 (Int.toNat ((3 * p1) + (Int.tmod (sI σ 31 13) (sI σ 47 (Int.toNat p1))))) : Int) else p1) < 2147483648 ∧ 0 ≤ (2 * (if (sI σ 41 (Int.toNat p1)) = 6 then (sI σ 46 (Int.toNat ((3 * p1) + (Int.tmod (sI σ 31 13) (sI σ 47 (Int.toNat p1))))) : Int) else p1)) ∧ (2 * (if (sI σ 41 (Int.toNat p1)) = 6 then (sI σ 46 (Int.toNat ((3 * p1) + (Int.tmod (sI σ 31 13) (sI σ 47 (Int.toNat p1))))) : Int) else p1)) < 24 ∧ -2147483648 ≤ (2 * (if (sI σ 41 (Int.toNat p1)) = 6 then (sI σ 46 (Int.toNat ((3 * p1) + (Int.tmod (sI σ 31 13) (sI σ 47 (Int.toNat p1))))) : Int) else p1)) + 1 ∧ (2 * (if (sI σ 41 (Int.toNat p1)) = 6 then (sI σ 46 (Int.toNat ((3 * p1) + (Int.tmod (sI σ 31 13) (sI σ 47 (Int.toNat p1))))) : Int) else p1)) + 1 < 2147483648 ∧ 0 ≤ ((2 * (if (sI σ 41 (Int.toNat p1)) = 6 then (sI σ 46 (Int.toNat ((3 * p1) + (Int.tmod (sI σ 31 13) (sI σ 47 (Int.toNat p1))))) : Int) else p1)) + 1) ∧ ((2 * (if (sI σ 41 (Int.toNat p1)) = 6 then (sI σ 46 (Int.toNat ((3 * p1) + (Int.tmod (sI σ 31 13) (sI σ 47 (Int.toNat p1))))) : Int) else p1)) + 1) < 24) ∧
      (((sI σ 44 (Int.toNat (2 * (if (sI σ 41 (Int.toNat p1)) = 6 then (sI σ 46 (Int.toNat ((3 * p1) + (Int.tmod (sI σ 31 13) (sI σ 47 (Int.toNat p1))))) : Int) else p1)))) < 0 →
        K 2 (putI σ 31 28 (if (sI σ 41 (Int.toNat p1)) = 6 then (sI σ 46 (Int.toNat ((3 * p1) + (Int.tmod (sI σ 31 13) (sI σ 47 (Int.toNat p1))))) : Int) else p1))) ∧
      (¬ ((sI σ 44 (Int.toNat (2 * (if (sI σ 41 (Int.toNat p1)) = 6 then (sI σ 46 (Int.toNat ((3 * p1) + (Int.tmod (sI σ 31 13) (sI σ 47 (Int.toNat p1))))) : Int) else p1)))) < 0) →
        ((0 ≤ (sI σ 44 (Int.toNat ((2 * (if (sI σ 41 (Int.toNat p1)) = 6 then (sI σ 46 (Int.toNat ((3 * p1) + (Int.tmod (sI σ 31 13) (sI σ 47 (Int.toNat p1))))) : Int) else p1)) + 1))) →
          am_Calls PP MLL (d + 1) m_M_lay [qr (31, 12, 89), qi (if (sI σ 41 (Int.toNat p1)) = 6 then (sI σ 46 (Int.toNat ((3 * p1) + (Int.tmod (sI σ 31 13) (sI σ 47 (Int.toNat p1))))) : Int) else p1)] (putI σ 31 28 (if (sI σ 41 (Int.toNat p1)) = 6 then (sI σ 46 (Int.toNat ((3 * p1) + (Int.tmod (sI σ 31 13) (sI σ 47 (Int.toNat p1))))) : Int) else p1)) (kV fun s6 =>
            (MF s6) ∧
            K (if (sI s6 31 30) = 0 then (if (sI s6 31 31) = (sI s6 31 32) then (if (sI s6 31 31) = 0 then ((-1002) : Int) else 0 : Int) else (-1002) : Int) else (-1002)) s6)) ∧
        (¬ (0 ≤ (sI σ 44 (Int.toNat ((2 * (if (sI σ 41 (Int.toNat p1)) = 6 then (sI σ 46 (Int.toNat ((3 * p1) + (Int.tmod (sI σ 31 13) (sI σ 47 (Int.toNat p1))))) : Int) else p1)) + 1)))) →
          K 2 (putI σ 31 28 (if (sI σ 41 (Int.toNat p1)) = 6 then (sI σ 46 (Int.toNat ((3 * p1) + (Int.tmod (sI σ 31 13) (sI σ 47 (Int.toNat p1))))) : Int) else p1))))))) ∧
    (¬ (0 ≤ (sI σ 41 (Int.toNat (if (sI σ 41 (Int.toNat p1)) = 6 then (sI σ 46 (Int.toNat ((3 * p1) + (Int.tmod (sI σ 31 13) (sI σ 47 (Int.toNat p1))))) : Int) else p1)))) →
      K 1 (putI σ 31 28 (if (sI σ 41 (Int.toNat p1)) = 6 then (sI σ 46 (Int.toNat ((3 * p1) + (Int.tmod (sI σ 31 13) (sI σ 47 (Int.toNat p1))))) : Int) else p1))))) ∧
  (¬ (0 ≤ (sI σ 41 (Int.toNat p1))) →
    K 1 σ))) : am_Runs PP MLL (d + 1) m_M_weighFault 0 [some (qr (31, 12, 89)), some (qi p1), none, none] [] σ (kI K) := am_wEC_ok (orc [(8, 41, 20, 12), (14, 46, 20, 36), (21, 47, 20, 12)]) [29, 79] 200 (⟨rfl, c_M_isThere _ hF h.1.1 h.1.2 (fun c1 => ⟨fun c => absurd c (by decide : ¬ ((1 : Int) = 0)), fun _ => ⟨⟨rfl, (hF 17)⟩, ⟨⟨rfl, h.1.1, h.1.2⟩, am_use (fun H11 => ⟨fun c2 => ⟨⟨rfl, (hF 22)⟩, ⟨⟨((h.2.1 c1).1.1 c2), ((h.2.1 c1).1.2.1 c2)⟩, ⟨rfl, ⟨⟨rfl, (hF 23)⟩, ⟨⟨rfl, h.1.1, h.1.2⟩, ⟨((h.2.1 c1).1.2.2.1 c2), ⟨⟨((h.2.1 c1).1.2.2.2.1 c2), ((h.2.1 c1).1.2.2.2.2.1 c2)⟩, ⟨⟨rfl, ((h.2.1 c1).1.2.2.2.2.2.1 c2), ((h.2.1 c1).1.2.2.2.2.2.2 c2)⟩, (Eq.mp (congrArg (fun z => am_Runs _ _ _ _ _ _ (qi z :: _) _ _) (if_pos c2 : (if (sI σ 41 (Int.toNat p1)) = 6 then (sI σ 46 (Int.toNat ((3 * p1) + (Int.tmod (sI σ 31 13) (sI σ 47 (Int.toNat p1))))) : Int) else p1) = sI σ 46 (Int.toNat ((3 * p1) + (Int.tmod (sI σ 31 13) (sI σ 47 (Int.toNat p1))))))) H11)⟩⟩⟩⟩⟩⟩⟩⟩, fun c2 => (Eq.mp (congrArg (fun z => am_Runs _ _ _ _ _ _ (qi z :: _) _ _) (if_neg c2 : (if (sI σ 41 (Int.toNat p1)) = 6 then (sI σ 46 (Int.toNat ((3 * p1) + (Int.tmod (sI σ 31 13) (sI σ 47 (Int.toNat p1))))) : Int) else p1) = p1)) H11)⟩) (am_wEC_ok (orc [(38, 44, 20, 24), (46, 44, 20, 24)]) [29, 79] 200 (⟨rfl, ⟨rfl, ⟨rfl, c_M_isThere _ hF (h.2.1 c1).2.1.1 (h.2.1 c1).2.1.2 (fun c3 => ⟨fun c => absurd c (by decide : ¬ ((1 : Int) = 0)), fun _ => ⟨⟨rfl, (hF 20)⟩, ⟨rfl, ⟨⟨((h.2.1 c1).2.2.1 c3).1.1, ((h.2.1 c1).2.2.1 c3).1.2.1⟩, ⟨⟨rfl, ((h.2.1 c1).2.2.1 c3).1.2.2.1, ((h.2.1 c1).2.2.1 c3).1.2.2.2.1⟩, ⟨⟨rfl, (hF 20)⟩, ⟨rfl, ⟨⟨((h.2.1 c1).2.2.1 c3).1.1, ((h.2.1 c1).2.2.1 c3).1.2.1⟩, ⟨⟨((h.2.1 c1).2.2.1 c3).1.2.2.2.2.1, ((h.2.1 c1).2.2.1 c3).1.2.2.2.2.2.1⟩, ⟨⟨rfl, ((h.2.1 c1).2.2.1 c3).1.2.2.2.2.2.2.1, ((h.2.1 c1).2.2.1 c3).1.2.2.2.2.2.2.2⟩, ⟨fun c4 => (((h.2.1 c1).2.2.1 c3).2.1 c4), fun c4 => ⟨fun c5 => ⟨rfl, ⟨rfl, (am_cV ((((h.2.1 c1).2.2.1 c3).2.2 c4).1 c5) fun s6 h6 => ⟨rfl, am_use (fun H10 => ⟨fun c7 => ⟨rfl, ⟨rfl, ⟨fun c8 => ⟨rfl, ⟨fun c9 => (Eq.mp (congrArg (fun z => am_Runs _ _ _ _ _ _ (qi z :: _) _ _) (Eq.trans (if_pos c7 : (if (sI s6 31 30) = 0 then (if (sI s6 31 31) = (sI s6 31 32) then (if (sI s6 31 31) = 0 then ((-1002) : Int) else 0 : Int) else (-1002) : Int) else (-1002)) = if (sI s6 31 31) = (sI s6 31 32) then (if (sI s6 31 31) = 0 then ((-1002) : Int) else 0 : Int) else (-1002)) (Eq.trans (if_pos c8 : (if (sI s6 31 31) = (sI s6 31 32) then (if (sI s6 31 31) = 0 then ((-1002) : Int) else 0 : Int) else (-1002)) = if (sI s6 31 31) = 0 then ((-1002) : Int) else 0) (if_pos c9 : (if (sI s6 31 31) = 0 then ((-1002) : Int) else 0) = (-1002))))) H10), fun c9 => (Eq.mp (congrArg (fun z => am_Runs _ _ _ _ _ _ (qi z :: _) _ _) (Eq.trans (if_pos c7 : (if (sI s6 31 30) = 0 then (if (sI s6 31 31) = (sI s6 31 32) then (if (sI s6 31 31) = 0 then ((-1002) : Int) else 0 : Int) else (-1002) : Int) else (-1002)) = if (sI s6 31 31) = (sI s6 31 32) then (if (sI s6 31 31) = 0 then ((-1002) : Int) else 0 : Int) else (-1002)) (Eq.trans (if_pos c8 : (if (sI s6 31 31) = (sI s6 31 32) then (if (sI s6 31 31) = 0 then ((-1002) : Int) else 0 : Int) else (-1002)) = if (sI s6 31 31) = 0 then ((-1002) : Int) else 0) (if_neg c9 : (if (sI s6 31 31) = 0 then ((-1002) : Int) else 0) = 0)))) H10)⟩⟩, fun c8 => (Eq.mp (congrArg (fun z => am_Runs _ _ _ _ _ _ (qi z :: _) _ _) (Eq.trans (if_pos c7 : (if (sI s6 31 30) = 0 then (if (sI s6 31 31) = (sI s6 31 32) then (if (sI s6 31 31) = 0 then ((-1002) : Int) else 0 : Int) else (-1002) : Int) else (-1002)) = if (sI s6 31 31) = (sI s6 31 32) then (if (sI s6 31 31) = 0 then ((-1002) : Int) else 0 : Int) else (-1002)) (if_neg c8 : (if (sI s6 31 31) = (sI s6 31 32) then (if (sI s6 31 31) = 0 then ((-1002) : Int) else 0 : Int) else (-1002)) = (-1002)))) H10)⟩⟩⟩, fun c7 => (Eq.mp (congrArg (fun z => am_Runs _ _ _ _ _ _ (qi z :: _) _ _) (if_neg c7 : (if (sI s6 31 30) = 0 then (if (sI s6 31 31) = (sI s6 31 32) then (if (sI s6 31 31) = 0 then ((-1002) : Int) else 0 : Int) else (-1002) : Int) else (-1002)) = (-1002))) H10)⟩) (am_wEC_ok (orc []) [29, 79] 200 (h6.2))⟩)⟩⟩, fun c5 => ((((h.2.1 c1).2.2.1 c3).2.2 c4).2 c5)⟩⟩⟩⟩⟩⟩⟩⟩⟩⟩⟩⟩) (fun c3 => ⟨fun _ => ((h.2.1 c1).2.2.2 c3), fun c => absurd (by decide : (0 : Int) = 0) c⟩)⟩⟩⟩))⟩⟩⟩) (fun c1 => ⟨fun _ => (h.2.2 c1), fun c => absurd (by decide : (0 : Int) = 0) c⟩)⟩)

theorem c_M_weighFault (d : Nat) {b t n : Nat} {σ : am_S} {K : Int → am_S → Prop} (hF : MF σ) (hn : n ≤ 12) (hb : b < n) (hq : QV σ n) (ht : sI σ 31 13 = t) (ht2 : t ≤ 1000) (hp : ∀ k, sI σ 44 k ≤ 20) (hpl : ∀ i, sI σ 45 i < 40)
    (h1 : sI σ 41 b < 0 → K 1 σ)
    (h2 : 0 ≤ sI σ 41 b → sI σ 41 (wr σ b t) < 0 → K 1 (putI σ 31 28 (wr σ b t)))
    (h3 : 0 ≤ sI σ 41 b → 0 ≤ sI σ 41 (wr σ b t) → (sI σ 44 (2 * wr σ b t) < 0 ∨ sI σ 44 (2 * wr σ b t + 1) < 0) → K 2 (putI σ 31 28 (wr σ b t)))
    (h4 : 0 ≤ sI σ 41 b → 0 ≤ sI σ 41 (wr σ b t) → 0 ≤ sI σ 44 (2 * wr σ b t) → 0 ≤ sI σ 44 (2 * wr σ b t + 1) → K (if (layQ2 σ (wr σ b t)).2.1 = 0 ∧ (layQ σ (wr σ b t)).2.2 = (layQ2 σ (wr σ b t)).2.2 ∧ (layQ σ (wr σ b t)).2.2 ≠ 0 then 0 else -1002) (mLay (putI σ 31 28 (wr σ b t)) (wr σ b t))) :
    am_Calls PP MLL (d + 2) m_M_weighFault [qr (31, 12, 89), qi (b : Int)] σ (kI K) := by
  have hw := wr_lt (turn := t) hq hb
  have ew : (if sI σ 41 b = 6 then (sI σ 46 (Int.toNat (3 * (b : Int) + Int.tmod (sI σ 31 13) (sI σ 47 b))) : Int) else (b : Int)) = ((wr σ b t : Nat) : Int) := by
    unfold wr
    split
    · rename_i h6
      have h := hq b hb h6
      have hm : t % (sI σ 47 b).toNat < (sI σ 47 b).toNat := Nat.mod_lt _ (by omega)
      have h2 := h.2.2 (t % (sI σ 47 b).toNat) (by omega)
      have e : Int.toNat (3 * (b : Int) + Int.tmod (sI σ 31 13) (sI σ 47 b)) = 3 * b + t % (sI σ 47 b).toNat := by
        rw [ht, Int.tmod_eq_emod_of_nonneg (by omega)]
        have e2 : (t : Int) % sI σ 47 b = ((t % (sI σ 47 b).toNat : Nat) : Int) := by
          rw [Int.natCast_emod, Int.toNat_of_nonneg (by omega)]
        rw [e2]; omega
      rw [e]; omega
    · rfl
  have eg : sI σ 41 b = 6 → sI σ 47 b ≠ 0 ∧ 0 ≤ Int.tmod (sI σ 31 13) (sI σ 47 b) ∧ Int.tmod (sI σ 31 13) (sI σ 47 b) < 3 := by
    intro h6
    have h := hq b hb h6
    rw [ht, Int.tmod_eq_emod_of_nonneg (by omega)]
    refine ⟨by omega, Int.emod_nonneg _ (by omega), ?_⟩
    have := Int.emod_lt_of_pos (t : Int) (show 0 < sI σ 47 b by omega)
    omega
  refine v_M_weighFault_0 d b σ K hF ?_
  rw [Int.toNat_natCast, ew, Int.toNat_natCast]
  have e2 : Int.toNat (2 * ((wr σ b t : Nat) : Int)) = 2 * wr σ b t := by omega
  have e3 : Int.toNat (2 * ((wr σ b t : Nat) : Int) + 1) = 2 * wr σ b t + 1 := by omega
  rw [e2, e3]
  refine ⟨by omega, fun c1 => ⟨by omega, by omega, fun c2 => ⟨by omega, fun c3 => ?_, fun c3 => ⟨fun c4 => ?_, fun c4 => ?_⟩⟩, fun c2 => ?_⟩, fun c1 => ?_⟩
  · exact h3 c1 c2 (Or.inl c3)
  · have h4 := h4 c1 c2 (by omega) c4
    refine c_M_lay d hF (by omega) hp hpl ⟨hF, kEq h4 ?_ rfl⟩
    show _ = (if (layQ2 σ (wr σ b t)).2.1 = 0 then (if (layQ σ (wr σ b t)).2.2 = (layQ2 σ (wr σ b t)).2.2 then (if (layQ σ (wr σ b t)).2.2 = 0 then (-1002 : Int) else 0) else -1002) else -1002)
    (repeat' split) <;> simp_all
  · exact h3 c1 c2 (Or.inr (by omega))
  · exact h2 c1 (by omega)
  · exact h1 (by omega)
