/-! contracts of the reference's small methods -/
def sgn (x : Int) : Int := if 0 < x then 1 else if x < 0 then -1 else 0
/-- what a balance tells -/
def tl (k x : Int) : Int := if k = 1 then x else if k = 2 then Int.tdiv x 2 else if k = 3 then Int.tdiv x 2 else if k = 4 then (if -1 ≤ x ∧ x ≤ 1 then 0 else sgn x) else sgn x
/-- the greatest outcome -/
def mo (k : Int) : Int := if k = 1 then 3 else 1
def ft (k x out had lies : Int) : Int := if tl k x = out then 1 else if k = 5 ∧ -1 ≤ out ∧ out ≤ 1 ∧ had < lies then 2 else 0
theorem tdiv2_bd {x : Int} (h : -100 ≤ x ∧ x ≤ 100) : -100 ≤ Int.tdiv x 2 ∧ Int.tdiv x 2 ≤ 100 := by
  by_cases h0 : 0 ≤ x
  · rw [Int.tdiv_eq_ediv_of_nonneg h0]; omega
  · have e : Int.tdiv x 2 = -(Int.tdiv (-x) 2) := by rw [Int.neg_tdiv, Int.neg_neg]
    rw [e, Int.tdiv_eq_ediv_of_nonneg (show 0 ≤ -x by omega)]; omega

theorem v_M_tells_0 (d : Nat) (p1 p2 : Int) (σ : am_S) (K : Int → am_S → Prop) (hF : MF σ) (hT : (sI σ 31 26) = 0) (h :
  ((p1 = 1 →
    K p2 σ) ∧
  (¬ (p1 = 1) →
  ((p1 = 2 →
    (-2147483648 ≤ Int.tdiv p2 2 ∧ Int.tdiv p2 2 < 2147483648) ∧
    K (Int.tdiv p2 2) σ) ∧
  (¬ (p1 = 2) →
  ((p1 = 3 →
    (-2147483648 ≤ Int.tdiv p2 2 ∧ Int.tdiv p2 2 < 2147483648) ∧
    K (Int.tdiv p2 2) σ) ∧
  (¬ (p1 = 3) →
  ((p1 = 4 →
    ((p2 < (-1) →
      ((p2 ≤ 0 →
        ((0 ≤ p2 →
          K 0 σ) ∧
        (¬ (0 ≤ p2) →
          K (-1) σ))) ∧
      (¬ (p2 ≤ 0) →
        K 1 σ))) ∧
    (¬ (p2 < (-1)) →
      ((1 < p2 →
        ((p2 ≤ 0 →
          ((0 ≤ p2 →
            K 0 σ) ∧
          (¬ (0 ≤ p2) →
            K (-1) σ))) ∧
        (¬ (p2 ≤ 0) →
          K 1 σ))) ∧
      (¬ (1 < p2) →
        K 0 σ))))) ∧
  (¬ (p1 = 4) →
  ((p2 ≤ 0 →
    ((0 ≤ p2 →
      K 0 σ) ∧
    (¬ (0 ≤ p2) →
      K (-1) σ))) ∧
  (¬ (p2 ≤ 0) →
    K 1 σ))))))))))) : am_Runs PP MLL (d + 1) m_M_tells 0 [some (qr (31, 12, 89)), some (qi p1), some (qi p2)] [] σ (kI K) := am_wEF_ok (orc []) 200 (⟨fun c1 => ⟨rfl, am_wEF_ok (orc []) 200 (⟨rfl, ⟨fun _ => (h.1 c1), fun c => absurd hT c⟩⟩)⟩, fun c1 => ⟨fun c2 => ⟨rfl, am_wEF_ok (orc []) 200 (⟨rfl, ⟨fun _ => ⟨rfl, am_wEF_ok (orc []) 200 (⟨rfl, ⟨fun _ => ⟨⟨(by decide : (2 : Int) ≠ 0), ((h.2 c1).1 c2).1.1, ((h.2 c1).1 c2).1.2⟩, ((h.2 c1).1 c2).2⟩, fun c => absurd hT c⟩⟩)⟩, fun c => absurd hT c⟩⟩)⟩, fun c2 => ⟨fun c3 => ⟨rfl, am_wEF_ok (orc []) 200 (⟨rfl, ⟨fun _ => ⟨rfl, am_wEF_ok (orc []) 200 (⟨rfl, ⟨fun _ => ⟨⟨(by decide : (2 : Int) ≠ 0), (((h.2 c1).2 c2).1 c3).1.1, (((h.2 c1).2 c2).1 c3).1.2⟩, (((h.2 c1).2 c2).1 c3).2⟩, fun c => absurd hT c⟩⟩)⟩, fun c => absurd hT c⟩⟩)⟩, fun c3 => ⟨fun c4 => ⟨rfl, am_wEF_ok (orc []) 200 (⟨rfl, ⟨fun _ => am_wEF_ok (orc []) 200 (⟨fun c5 => ⟨(Or.inl rfl), ⟨fun _ => ⟨rfl, am_wEF_ok (orc []) 200 (⟨rfl, ⟨fun _ => am_wEF_ok (orc []) 200 (⟨fun c6 => ⟨fun c7 => (((((((h.2 c1).2 c2).2 c3).1 c4).1 c5).1 c6).1 c7), fun c7 => (((((((h.2 c1).2 c2).2 c3).1 c4).1 c5).1 c6).2 c7)⟩, fun c6 => ((((((h.2 c1).2 c2).2 c3).1 c4).1 c5).2 c6)⟩), fun c => absurd hT c⟩⟩)⟩, fun c => absurd (by decide : (0 : Int) = 0) c⟩⟩, fun c5 => ⟨fun c8 => ⟨(Or.inl rfl), ⟨fun _ => ⟨rfl, am_wEF_ok (orc []) 200 (⟨rfl, ⟨fun _ => am_wEF_ok (orc []) 200 (⟨fun c9 => ⟨fun c10 => ((((((((h.2 c1).2 c2).2 c3).1 c4).2 c5).1 c8).1 c9).1 c10), fun c10 => ((((((((h.2 c1).2 c2).2 c3).1 c4).2 c5).1 c8).1 c9).2 c10)⟩, fun c9 => (((((((h.2 c1).2 c2).2 c3).1 c4).2 c5).1 c8).2 c9)⟩), fun c => absurd hT c⟩⟩)⟩, fun c => absurd (by decide : (0 : Int) = 0) c⟩⟩, fun c8 => ⟨(Or.inr rfl), ⟨fun c => absurd c (by decide : ¬ ((1 : Int) = 0)), fun _ => ((((((h.2 c1).2 c2).2 c3).1 c4).2 c5).2 c8)⟩⟩⟩⟩), fun c => absurd hT c⟩⟩)⟩, fun c4 => ⟨rfl, am_wEF_ok (orc []) 200 (⟨rfl, ⟨fun _ => am_wEF_ok (orc []) 200 (⟨fun c11 => ⟨fun c12 => ((((((h.2 c1).2 c2).2 c3).2 c4).1 c11).1 c12), fun c12 => ((((((h.2 c1).2 c2).2 c3).2 c4).1 c11).2 c12)⟩, fun c11 => (((((h.2 c1).2 c2).2 c3).2 c4).2 c11)⟩), fun c => absurd hT c⟩⟩)⟩⟩⟩⟩⟩)

theorem c_M_tells (d : Nat) {k x : Int} {σ : am_S} {K : Int → am_S → Prop} (hF : MF σ) (hT : sI σ 31 26 = 0) (hx : -100 ≤ x ∧ x ≤ 100) (h : K (tl k x) σ) : am_Calls PP MLL (d + 2) m_M_tells [qr (31, 12, 89), qi k, qi x] σ (kI K) := by
  refine v_M_tells_0 d k x σ K hF hT ?_
  have hd := tdiv2_bd hx
  repeat' first | apply And.intro | intro _
  all_goals try omega
  all_goals
    refine kEq h ?_ rfl
    unfold tl sgn
    (repeat' split) <;> omega
theorem v_M_mostOf_0 (d : Nat) (p1 : Int) (σ : am_S) (K : Int → am_S → Prop) (hF : MF σ) (hT : (sI σ 31 26) = 0) (h :
  ((p1 = 1 →
    K 3 σ) ∧
  (¬ (p1 = 1) →
  ((p1 = 2 →
    K 1 σ) ∧
  (¬ (p1 = 2) →
  ((p1 = 3 →
    K 1 σ) ∧
  (¬ (p1 = 3) →
  K 1 σ))))))) : am_Runs PP MLL (d + 1) m_M_mostOf 0 [some (qr (31, 12, 89)), some (qi p1)] [] σ (kI K) := am_wEF_ok (orc []) 200 (⟨fun c1 => ⟨rfl, am_wEF_ok (orc []) 200 (⟨rfl, ⟨fun _ => ⟨rfl, am_wEF_ok (orc []) 200 (⟨rfl, ⟨fun _ => (h.1 c1), fun c => absurd hT c⟩⟩)⟩, fun c => absurd hT c⟩⟩)⟩, fun c1 => ⟨fun c2 => ⟨rfl, am_wEF_ok (orc []) 200 (⟨rfl, ⟨fun _ => ⟨rfl, am_wEF_ok (orc []) 200 (⟨rfl, ⟨fun _ => ⟨rfl, am_wEF_ok (orc []) 200 (⟨rfl, ⟨fun _ => ((h.2 c1).1 c2), fun c => absurd hT c⟩⟩)⟩, fun c => absurd hT c⟩⟩)⟩, fun c => absurd hT c⟩⟩)⟩, fun c2 => ⟨fun c3 => ⟨rfl, am_wEF_ok (orc []) 200 (⟨rfl, ⟨fun _ => ⟨rfl, am_wEF_ok (orc []) 200 (⟨rfl, ⟨fun _ => ⟨rfl, am_wEF_ok (orc []) 200 (⟨rfl, ⟨fun _ => (((h.2 c1).2 c2).1 c3), fun c => absurd hT c⟩⟩)⟩, fun c => absurd hT c⟩⟩)⟩, fun c => absurd hT c⟩⟩)⟩, fun c3 => ⟨rfl, am_wEF_ok (orc []) 200 (⟨rfl, ⟨fun _ => (((h.2 c1).2 c2).2 c3), fun c => absurd hT c⟩⟩)⟩⟩⟩⟩)

theorem c_M_mostOf (d : Nat) {k : Int} {σ : am_S} {K : Int → am_S → Prop} (hF : MF σ) (hT : sI σ 31 26 = 0) (h : K (mo k) σ) : am_Calls PP MLL (d + 2) m_M_mostOf [qr (31, 12, 89), qi k] σ (kI K) := by
  refine v_M_mostOf_0 d k σ K hF hT ?_
  repeat' first | apply And.intro | intro _
  all_goals
    refine kEq h ?_ rfl
    unfold mo
    (repeat' split) <;> omega
theorem v_M_fits_0 (d : Nat) (p1 p2 p3 p4 : Int) (σ : am_S) (K : Int → am_S → Prop) (hF : MF σ) (hT : (sI σ 31 26) = 0) (h :
  (-100 ≤ p2 ∧ p2 ≤ 100) ∧
  (((tl p1 p2) = p3 →
    K 1 σ) ∧
  (¬ ((tl p1 p2) = p3) →
    ((p1 = 5 →
      ((p3 < (-1) →
        K 0 σ) ∧
      (¬ (p3 < (-1)) →
        ((1 < p3 →
          K 0 σ) ∧
        (¬ (1 < p3) →
          (((sI σ 31 4) ≤ p4 →
            K 0 σ) ∧
          (¬ ((sI σ 31 4) ≤ p4) →
            K 2 σ))))))) ∧
    (¬ (p1 = 5) →
      K 0 σ))))) : am_Runs PP MLL (d + 2) m_M_fits 0 [some (qr (31, 12, 89)), some (qi p1), some (qi p2), some (qi p3), some (qi p4)] [] σ (kI K) := am_wEF_ok (orc []) 200 (⟨rfl, c_M_tells _ hF hT h.1 (⟨fun c1 => (h.2.1 c1), fun c1 => ⟨fun c2 => am_wEF_ok (orc []) 200 (⟨fun c3 => ⟨(Or.inl rfl), ⟨fun _ => (((h.2.2 c1).1 c2).1 c3), fun c => absurd (by decide : (0 : Int) = 0) c⟩⟩, fun c3 => ⟨fun c4 => ⟨(Or.inl rfl), ⟨fun _ => ((((h.2.2 c1).1 c2).2 c3).1 c4), fun c => absurd (by decide : (0 : Int) = 0) c⟩⟩, fun c4 => ⟨(Or.inr rfl), ⟨fun c => absurd c (by decide : ¬ ((1 : Int) = 0)), fun _ => ⟨rfl, ⟨fun c5 => (((((h.2.2 c1).1 c2).2 c3).2 c4).1 c5), fun c5 => (((((h.2.2 c1).1 c2).2 c3).2 c4).2 c5)⟩⟩⟩⟩⟩⟩), fun c2 => ((h.2.2 c1).2 c2)⟩⟩)⟩)

theorem c_M_fits (d : Nat) {k x o w : Int} {σ : am_S} {K : Int → am_S → Prop} (hF : MF σ) (hT : sI σ 31 26 = 0) (hx : -100 ≤ x ∧ x ≤ 100) (h : K (ft k x o w (sI σ 31 4)) σ) : am_Calls PP MLL (d + 3) m_M_fits [qr (31, 12, 89), qi k, qi x, qi o, qi w] σ (kI K) := by
  refine v_M_fits_0 d k x o w σ K hF hT ⟨hx, ?_⟩
  repeat' first | apply And.intro | intro _
  all_goals
    refine kEq h ?_ rfl
    unfold ft
    (repeat' split) <;> omega
/-- how many truths are left -/
def lf (s : Nat → Int) (n : Nat) : Int := sm (fun t => if s t < 0 then 1 else 0) n
theorem v_M_left_0 (d : Nat) (σ : am_S) (K : Int → am_S → Prop) (hF : MF σ) (h :
  am_Runs PP MLL (d + 1) m_M_left 4 [some (qr (31, 12, 89)), some (qi 0), some (qi 0)] [] σ (kI K)) : am_Runs PP MLL (d + 1) m_M_left 0 [some (qr (31, 12, 89)), none, none] [] σ (kI K) := am_wEF_ok (orc []) 200 (h)

theorem v_M_left_4 (d : Nat) (v1 v2 : Int) (σ : am_S) (K : Int → am_S → Prop) (hF : MF σ) (h :
  (((sI σ 31 5) ≤ v2 →
    K v1 σ) ∧
  (¬ ((sI σ 31 5) ≤ v2) →
    (0 ≤ v2 ∧ v2 < 10000) ∧
    ((0 ≤ (sI σ 37 (Int.toNat v2)) →
      (-2147483648 ≤ v1 + 0 ∧ v1 + 0 < 2147483648 ∧ -2147483648 ≤ v2 + 1 ∧ v2 + 1 < 2147483648) ∧
      am_Runs PP MLL (d + 1) m_M_left 4 [some (qr (31, 12, 89)), some (qi (v1 + 0)), some (qi (v2 + 1))] [] σ (kI K)) ∧
    (¬ (0 ≤ (sI σ 37 (Int.toNat v2))) →
      (-2147483648 ≤ v1 + 1 ∧ v1 + 1 < 2147483648 ∧ -2147483648 ≤ v2 + 1 ∧ v2 + 1 < 2147483648) ∧
      am_Runs PP MLL (d + 1) m_M_left 4 [some (qr (31, 12, 89)), some (qi (v1 + 1)), some (qi (v2 + 1))] [] σ (kI K)))))) : am_Runs PP MLL (d + 1) m_M_left 4 [some (qr (31, 12, 89)), some (qi v1), some (qi v2)] [] σ (kI K) := am_wEF_ok (orc []) 200 (⟨rfl, ⟨fun c1 => (h.1 c1), fun c1 => ⟨rfl, am_wEF_ok (orc [(1, 37, 20, 10000)]) 200 (⟨⟨rfl, (hF 11)⟩, ⟨⟨rfl, (h.2 c1).1.1, (h.2 c1).1.2⟩, ⟨fun c2 => ⟨(Or.inl rfl), ⟨fun _ => ⟨⟨((h.2 c1).2.1 c2).1.1, ((h.2 c1).2.1 c2).1.2.1⟩, ⟨⟨((h.2 c1).2.1 c2).1.2.2.1, ((h.2 c1).2.1 c2).1.2.2.2⟩, ((h.2 c1).2.1 c2).2⟩⟩, fun c => absurd (by decide : (0 : Int) = 0) c⟩⟩, fun c2 => ⟨(Or.inr rfl), ⟨fun c => absurd c (by decide : ¬ ((1 : Int) = 0)), fun _ => ⟨⟨((h.2 c1).2.2 c2).1.1, ((h.2 c1).2.2 c2).1.2.1⟩, ⟨⟨((h.2 c1).2.2 c2).1.2.2.1, ((h.2 c1).2.2 c2).1.2.2.2⟩, ((h.2 c1).2.2 c2).2⟩⟩⟩⟩⟩⟩⟩)⟩⟩⟩)

theorem c_M_left (d : Nat) {σ : am_S} {n : Nat} {K : Int → am_S → Prop} (hF : MF σ) (hn : sI σ 31 5 = n) (h2 : n ≤ 10000) (h : K (lf (sI σ 37) n) σ) : am_Calls PP MLL (d + 2) m_M_left [qr (31, 12, 89)] σ (kI K) := by
  refine v_M_left_0 d σ K hF ?_
  refine lp (P := fun i => am_Runs PP MLL (d + 1) m_M_left 4 [some (qr (31, 12, 89)), some (qi (lf (sI σ 37) i)), some (qi i)] [] σ (kI K)) (N := n) ?_ ?_ 0 (Nat.zero_le _)
  · exact v_M_left_4 d _ _ σ K hF ⟨fun _ => h, fun c => absurd (show sI σ 31 5 ≤ (n : Int) by omega) c⟩
  · intro i hi ih
    have hb := sm_bd (f := fun t => if sI σ 37 t < 0 then 1 else 0) (c := 1) i (fun j _ => by split <;> omega)
    have e : lf (sI σ 37) i = sm (fun t => if sI σ 37 t < 0 then 1 else 0) i := rfl
    have e2 : lf (sI σ 37) (i + 1) = lf (sI σ 37) i + (if sI σ 37 i < 0 then 1 else 0) := rfl
    refine v_M_left_4 d _ _ σ K hF ⟨fun c => absurd c (by omega), fun _ => ⟨by omega, fun c => ?_, fun c => ?_⟩⟩
    · rw [Int.toNat_natCast] at c
      rw [e2, if_neg (by omega)] at ih
      exact ⟨by omega, ih⟩
    · rw [Int.toNat_natCast] at c
      rw [e2, if_pos (by omega)] at ih
      exact ⟨by omega, ih⟩
theorem v_M_finds_0 (d : Nat) (p1 p2 : Int) (σ : am_S) (K : Int → am_S → Prop) (hF : MF σ) (h :
  (-2147483648 ≤ (sI σ 31 1) + 1 ∧ (sI σ 31 1) + 1 < 2147483648) ∧
  (0 ≤ p1 ∧ p1 < 12) ∧
  (((sI σ 41 (Int.toNat p1)) < 0 →
    (-2147483648 ≤ (-1010) - p2 ∧ (-1010) - p2 < 2147483648) ∧
    K ((-1010) - p2) (putI (putI σ 31 0 p2) 31 1 ((sI σ 31 1) + 1))) ∧
  (¬ ((sI σ 41 (Int.toNat p1)) < 0) →
    (-2147483648 ≤ (-1010) - p2 ∧ (-1010) - p2 < 2147483648) ∧
    K ((-1010) - p2) (putI (putI (putI σ 31 0 p2) 31 1 ((sI σ 31 1) + 1)) 43 (Int.toNat p1) p2)))) : am_Runs PP MLL (d + 1) m_M_finds 0 [some (qr (31, 12, 89)), some (qi p1), some (qi p2)] [] σ (kI K) := am_wEF_ok (orc [(14, 43, 20, 12)]) 200 (⟨rfl, ⟨rfl, ⟨⟨h.1.1, h.1.2⟩, ⟨rfl, ⟨rfl, am_wEF_ok (orc [(1, 41, 20, 12)]) 200 (⟨⟨rfl, (hF 17)⟩, ⟨⟨rfl, h.2.1.1, h.2.1.2⟩, ⟨fun c1 => ⟨(Or.inl rfl), ⟨fun _ => ⟨⟨(h.2.2.1 c1).1.1, (h.2.2.1 c1).1.2⟩, (h.2.2.1 c1).2⟩, fun c => absurd (by decide : (0 : Int) = 0) c⟩⟩, fun c1 => ⟨(Or.inr rfl), ⟨fun c => absurd c (by decide : ¬ ((1 : Int) = 0)), fun _ => ⟨⟨rfl, (hF 19)⟩, ⟨⟨rfl, h.2.1.1, h.2.1.2⟩, ⟨⟨(h.2.2.2 c1).1.1, (h.2.2.2 c1).1.2⟩, (h.2.2.2 c1).2⟩⟩⟩⟩⟩⟩⟩⟩)⟩⟩⟩⟩⟩)

/-- the reference's finding -/
def mFinds (σ : am_S) (b : Nat) (f : Int) : am_S := putI (putI (putI σ 31 0 f) 31 1 (sI σ 31 1 + 1)) 43 b (if sI σ 41 b < 0 then sI σ 43 b else f)
theorem putI_self {σ : am_S} {a j : Nat} {v : Int} (h : v = sI σ a j) : putI σ a j v = σ := by
  subst h
  unfold putI
  have e : (fun x y => if x = a ∧ y = j then sI σ a j else σ.1 x y) = σ.1 := by
    funext x y
    split
    · rename_i h; rw [h.1, h.2]; rfl
    · rfl
  rw [e]
theorem c_M_finds (d : Nat) {b : Nat} {f : Int} {σ : am_S} {K : Int → am_S → Prop} (hF : MF σ) (hb : b < 12) (hf : 0 ≤ f ∧ f ≤ 10) (h1 : 0 ≤ sI σ 31 1 ∧ sI σ 31 1 < 1000000) (h : K (-1010 - f) (mFinds σ b f)) : am_Calls PP MLL (d + 2) m_M_finds [qr (31, 12, 89), qi (b : Int), qi f] σ (kI K) := by
  refine v_M_finds_0 d b f σ K hF ⟨by omega, by omega, fun c => ⟨by omega, ?_⟩, fun c => ⟨by omega, ?_⟩⟩
  · rw [Int.toNat_natCast] at c
    refine kEq h rfl ?_
    unfold mFinds
    rw [if_pos c]
    exact putI_self rfl
  · rw [Int.toNat_natCast] at c
    refine kEq h rfl ?_
    unfold mFinds
    rw [if_neg c, Int.toNat_natCast]
