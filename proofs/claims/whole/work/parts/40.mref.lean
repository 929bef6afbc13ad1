/-! the reference: truth, pan, copy, bitsIn, count -/
/-- what a coin is under a truth: the last of the false coins that is this one -/
def trf (c g : Nat → Int) (t : Nat) (x : Int) : Nat → Int
  | 0 => 0
  | i + 1 => if c (3 * t + i) = x then g (3 * t + i) else trf c g t x i
theorem v_M_truth_0 (d : Nat) (p1 p2 : Int) (σ : am_S) (K : Int → am_S → Prop) (hF : MF σ) (h :
  (-2147483648 ≤ (sI σ 31 5) - 1 ∧ (sI σ 31 5) - 1 < 2147483648) ∧
  ((p1 < 0 →
    K (-1001) σ) ∧
  (¬ (p1 < 0) →
    ((((sI σ 31 5) - 1) < p1 →
      K (-1001) σ) ∧
    (¬ (((sI σ 31 5) - 1) < p1) →
      (-2147483648 ≤ (sI σ 31 2) - 1 ∧ (sI σ 31 2) - 1 < 2147483648) ∧
      ((p2 < 0 →
        K (-1001) σ) ∧
      (¬ (p2 < 0) →
        ((((sI σ 31 2) - 1) < p2 →
          K (-1001) σ) ∧
        (¬ (((sI σ 31 2) - 1) < p2) →
          am_Runs PP MLL (d + 2) m_M_truth 14 [some (qr (31, 12, 89)), some (qi p1), some (qi p2), some (qi 0), some (qi 0)] [] σ (kI K)))))))))) : am_Runs PP MLL (d + 2) m_M_truth 0 [some (qr (31, 12, 89)), some (qi p1), some (qi p2), none, none] [] σ (kI K) := am_wEC_ok (orc []) [40] 200 (⟨rfl, am_wEF_ok (orc []) 200 (⟨rfl, ⟨⟨h.1.1, h.1.2⟩, am_wEF_ok (orc []) 200 (⟨fun c1 => ⟨(Or.inl rfl), ⟨(Or.inl rfl), ⟨fun _ => (h.2.1 c1), fun c => absurd (by decide : (0 : Int) = 0) c⟩⟩⟩, fun c1 => ⟨fun c2 => ⟨(Or.inl rfl), ⟨(Or.inl rfl), ⟨fun _ => ((h.2.2 c1).1 c2), fun c => absurd (by decide : (0 : Int) = 0) c⟩⟩⟩, fun c2 => ⟨(Or.inr rfl), ⟨(Or.inr rfl), ⟨fun c => absurd c (by decide : ¬ ((1 : Int) = 0)), fun _ => ⟨rfl, am_wEF_ok (orc []) 200 (⟨rfl, ⟨⟨((h.2.2 c1).2 c2).1.1, ((h.2.2 c1).2 c2).1.2⟩, am_wEF_ok (orc []) 200 (⟨fun c3 => ⟨(Or.inl rfl), ⟨(Or.inl rfl), ⟨fun _ => (((h.2.2 c1).2 c2).2.1 c3), fun c => absurd (by decide : (0 : Int) = 0) c⟩⟩⟩, fun c3 => ⟨fun c4 => ⟨(Or.inl rfl), ⟨(Or.inl rfl), ⟨fun _ => ((((h.2.2 c1).2 c2).2.2 c3).1 c4), fun c => absurd (by decide : (0 : Int) = 0) c⟩⟩⟩, fun c4 => ⟨(Or.inr rfl), ⟨(Or.inr rfl), ⟨fun c => absurd c (by decide : ¬ ((1 : Int) = 0)), fun _ => ((((h.2.2 c1).2 c2).2.2 c3).2 c4)⟩⟩⟩⟩⟩)⟩⟩)⟩⟩⟩⟩⟩⟩)⟩⟩)⟩)

theorem v_M_truth_14 (d : Nat) (p1 p2 v3 v4 : Int) (σ : am_S) (K : Int → am_S → Prop) (hF : MF σ) (h :
  (0 ≤ p1 ∧ p1 < 10000) ∧
  (((sI σ 33 (Int.toNat p1)) ≤ v4 →
    K v3 σ) ∧
  (¬ ((sI σ 33 (Int.toNat p1)) ≤ v4) →
    (-2147483648 ≤ 3 * p1 ∧ 3 * p1 < 2147483648 ∧ -2147483648 ≤ (3 * p1) + v4 ∧ (3 * p1) + v4 < 2147483648 ∧ 0 ≤ ((3 * p1) + v4) ∧ ((3 * p1) + v4) < 30000) ∧
    (-2147483648 ≤ v4 + 1 ∧ v4 + 1 < 2147483648) ∧
    am_Runs PP MLL (d + 2) m_M_truth 14 [some (qr (31, 12, 89)), some (qi p1), some (qi p2), some (qi (if (sI σ 34 (Int.toNat ((3 * p1) + v4))) = p2 then (sI σ 35 (Int.toNat ((3 * p1) + v4)) : Int) else v3)), some (qi (v4 + 1))] [] σ (kI K)))) : am_Runs PP MLL (d + 2) m_M_truth 14 [some (qr (31, 12, 89)), some (qi p1), some (qi p2), some (qi v3), some (qi v4)] [] σ (kI K) := am_wEC_ok (orc [(16, 33, 20, 10000), (21, 34, 20, 30000), (31, 35, 20, 30000)]) [40] 200 (⟨⟨rfl, (hF 7)⟩, ⟨⟨rfl, h.1.1, h.1.2⟩, ⟨fun c3 => (h.2.1 c3), fun c3 => ⟨⟨rfl, (hF 8)⟩, ⟨⟨(h.2.2 c3).1.1, (h.2.2 c3).1.2.1⟩, ⟨⟨(h.2.2 c3).1.2.2.1, (h.2.2 c3).1.2.2.2.1⟩, ⟨⟨rfl, (h.2.2 c3).1.2.2.2.2.1, (h.2.2 c3).1.2.2.2.2.2⟩, am_use (fun H5 => ⟨fun c4 => ⟨⟨rfl, (hF 9)⟩, ⟨⟨(h.2.2 c3).1.1, (h.2.2 c3).1.2.1⟩, ⟨⟨(h.2.2 c3).1.2.2.1, (h.2.2 c3).1.2.2.2.1⟩, ⟨⟨rfl, (h.2.2 c3).1.2.2.2.2.1, (h.2.2 c3).1.2.2.2.2.2⟩, (Eq.mp (congrArg (fun z => am_Runs _ _ _ _ _ _ (qi z :: _) _ _) (if_pos c4 : (if (sI σ 34 (Int.toNat ((3 * p1) + v4))) = p2 then (sI σ 35 (Int.toNat ((3 * p1) + v4)) : Int) else v3) = sI σ 35 (Int.toNat ((3 * p1) + v4)))) H5)⟩⟩⟩⟩, fun c4 => (Eq.mp (congrArg (fun z => am_Runs _ _ _ _ _ _ (qi z :: _) _ _) (if_neg c4 : (if (sI σ 34 (Int.toNat ((3 * p1) + v4))) = p2 then (sI σ 35 (Int.toNat ((3 * p1) + v4)) : Int) else v3) = v3)) H5)⟩) (am_wEC_ok (orc []) [40] 200 (⟨⟨(h.2.2 c3).2.1.1, (h.2.2 c3).2.1.2⟩, (h.2.2 c3).2.2⟩))⟩⟩⟩⟩⟩⟩⟩)

theorem l_M_truth (d : Nat) {t : Nat} {x : Int} {σ : am_S} {K : Int → am_S → Prop} (hF : MF σ) (ht : t < 10000) (hm : 0 ≤ sI σ 33 t ∧ sI σ 33 t ≤ 3) (h : K (trf (sI σ 34) (sI σ 35) t x (sI σ 33 t).toNat) σ) : am_Runs PP MLL (d + 2) m_M_truth 14 [some (qr (31, 12, 89)), some (qi (t : Int)), some (qi x), some (qi 0), some (qi 0)] [] σ (kI K) := by
  refine lp (P := fun i => am_Runs PP MLL (d + 2) m_M_truth 14 [some (qr (31, 12, 89)), some (qi (t : Int)), some (qi x), some (qi (trf (sI σ 34) (sI σ 35) t x i)), some (qi i)] [] σ (kI K)) (N := (sI σ 33 t).toNat) ?_ ?_ 0 (Nat.zero_le _)
  · refine v_M_truth_14 d t x _ _ σ K hF ⟨by omega, fun _ => h, fun c => absurd ?_ c⟩
    rw [Int.toNat_natCast]; omega
  · intro i hi ih
    have e3 : Int.toNat (3 * (t : Int) + (i : Int)) = 3 * t + i := by omega
    refine v_M_truth_14 d t x _ _ σ K hF ⟨by omega, fun c => absurd c (by rw [Int.toNat_natCast]; omega), fun _ => ⟨by omega, by omega, ?_⟩⟩
    rw [e3]
    exact ih
theorem v_M_pan_42 (d : Nat) (p1 p2 p3 v5 : Int) (z4 : Option am_V) (σ : am_S) (K : Int → am_S → Prop) (hF : MF σ) (h :
  ((p3 ≤ v5 →
    K 1 σ) ∧
  (¬ (p3 ≤ v5) →
    (-2147483648 ≤ 2 * p1 ∧ 2 * p1 < 2147483648 ∧ -2147483648 ≤ (2 * p1) + p2 ∧ (2 * p1) + p2 < 2147483648 ∧ -2147483648 ≤ 20 * ((2 * p1) + p2) ∧ 20 * ((2 * p1) + p2) < 2147483648 ∧ -2147483648 ≤ (20 * ((2 * p1) + p2)) + v5 ∧ (20 * ((2 * p1) + p2)) + v5 < 2147483648 ∧ 0 ≤ ((20 * ((2 * p1) + p2)) + v5) ∧ ((20 * ((2 * p1) + p2)) + v5) < 480 ∧ -2147483648 ≤ v5 + 1 ∧ v5 + 1 < 2147483648) ∧
    am_Runs PP MLL (d + 2) m_M_pan 42 [some (qr (31, 12, 89)), some (qi p1), some (qi p2), some (qi p3), (am_cl z4), some (qi (v5 + 1))] [] (putI σ 45 (Int.toNat ((20 * ((2 * p1) + p2)) + v5)) (-1)) (kI K)))) : am_Runs PP MLL (d + 2) m_M_pan 42 [some (qr (31, 12, 89)), some (qi p1), some (qi p2), some (qi p3), z4, some (qi v5)] [] σ (kI K) := am_wEF_ok (orc [(46, 45, 20, 480)]) 200 (⟨fun c2 => (h.1 c2), fun c2 => ⟨⟨rfl, (hF 21)⟩, ⟨⟨(h.2 c2).1.1, (h.2 c2).1.2.1⟩, ⟨⟨(h.2 c2).1.2.2.1, (h.2 c2).1.2.2.2.1⟩, ⟨⟨(h.2 c2).1.2.2.2.2.1, (h.2 c2).1.2.2.2.2.2.1⟩, ⟨⟨(h.2 c2).1.2.2.2.2.2.2.1, (h.2 c2).1.2.2.2.2.2.2.2.1⟩, ⟨⟨rfl, (h.2 c2).1.2.2.2.2.2.2.2.2.1, (h.2 c2).1.2.2.2.2.2.2.2.2.2.1⟩, ⟨⟨(h.2 c2).1.2.2.2.2.2.2.2.2.2.2.1, (h.2 c2).1.2.2.2.2.2.2.2.2.2.2.2⟩, (h.2 c2).2⟩⟩⟩⟩⟩⟩⟩⟩)

theorem l_M_pan (d : Nat) {b s n : Nat} {σ : am_S} {K : Int → am_S → Prop} (hF : MF σ) (hb : b < 12) (hs : s < 2) (hn : n ≤ 20) (h : K 1 (rowI σ 45 (fun k => if 20 * (2 * b + s) ≤ k ∧ k < 20 * (2 * b + s) + n then -1 else sI σ 45 k))) (z : Option am_V) : am_Runs PP MLL (d + 2) m_M_pan 42 [some (qr (31, 12, 89)), some (qi (b : Int)), some (qi (s : Int)), some (qi (n : Int)), z, some (qi 0)] [] σ (kI K) := by
  have hS : ∀ i : Nat, i ≤ n → ∀ z, am_Runs PP MLL (d + 2) m_M_pan 42 [some (qr (31, 12, 89)), some (qi (b : Int)), some (qi (s : Int)), some (qi (n : Int)), z, some (qi (i : Int))] [] (rowI σ 45 (fun k => if 20 * (2 * b + s) ≤ k ∧ k < 20 * (2 * b + s) + i then -1 else sI σ 45 k)) (kI K) := by
    refine lp ?_ ?_
    · intro z
      exact v_M_pan_42 d b s n n z _ K hF ⟨fun _ => h, fun c => absurd (Int.le_refl _) c⟩
    · intro i hi ih z
      have e : Int.toNat (20 * (2 * (b : Int) + (s : Int)) + (i : Int)) = 20 * (2 * b + s) + i := by omega
      refine v_M_pan_42 d b s n i z _ K hF ⟨fun c => absurd c (by omega), fun _ => ⟨by omega, ?_⟩⟩
      rw [e, putI_rowI]
      refine runs_st ?_ (ih (am_cl z))
      congr 1
      funext k
      (repeat' split) <;> first | rfl | omega
  have h0 := hS 0 (Nat.zero_le _) z
  refine runs_st ?_ h0
  have e : (fun k => if 20 * (2 * b + s) ≤ k ∧ k < 20 * (2 * b + s) + 0 then (-1 : Int) else sI σ 45 k) = sI σ 45 := by
    funext k
    rw [if_neg (by omega)]
  rw [e, rowI_self]
theorem v_M_copy_100 (d : Nat) (p1 p2 p3 p4 p5 p6 v8 : Int) (z7 z9 : Option am_V) (σ : am_S) (K : Int → am_S → Prop) (hF : MF σ) (h :
  ((p6 ≤ v8 →
    am_Runs PP MLL (d + 2) m_M_copy 125 [some (qr (31, 12, 89)), some (qi p1), some (qi p2), some (qi p3), some (qi p4), some (qi p5), some (qi p6), (am_cl z7), some (qi 0), z9] [] σ (kI K)) ∧
  (¬ (p6 ≤ v8) →
    (-2147483648 ≤ 2 * p1 ∧ 2 * p1 < 2147483648 ∧ -2147483648 ≤ (2 * p1) + p2 ∧ (2 * p1) + p2 < 2147483648 ∧ -2147483648 ≤ 20 * ((2 * p1) + p2) ∧ 20 * ((2 * p1) + p2) < 2147483648 ∧ -2147483648 ≤ (20 * ((2 * p1) + p2)) + p3 ∧ (20 * ((2 * p1) + p2)) + p3 < 2147483648 ∧ -2147483648 ≤ ((20 * ((2 * p1) + p2)) + p3) + v8 ∧ ((20 * ((2 * p1) + p2)) + p3) + v8 < 2147483648 ∧ 0 ≤ (((20 * ((2 * p1) + p2)) + p3) + v8) ∧ (((20 * ((2 * p1) + p2)) + p3) + v8) < 480 ∧ 0 ≤ v8 ∧ v8 < 20 ∧ -2147483648 ≤ v8 + 1 ∧ v8 + 1 < 2147483648) ∧
    am_Runs PP MLL (d + 2) m_M_copy 100 [some (qr (31, 12, 89)), some (qi p1), some (qi p2), some (qi p3), some (qi p4), some (qi p5), some (qi p6), (am_cl z7), some (qi (v8 + 1)), z9] [] (putI σ 49 (Int.toNat v8) (sI σ 45 (Int.toNat (((20 * ((2 * p1) + p2)) + p3) + v8)))) (kI K)))) : am_Runs PP MLL (d + 2) m_M_copy 100 [some (qr (31, 12, 89)), some (qi p1), some (qi p2), some (qi p3), some (qi p4), some (qi p5), some (qi p6), z7, some (qi v8), z9] [] σ (kI K) := am_wEF_ok (orc [(104, 49, 20, 20), (107, 45, 20, 480)]) 200 (⟨fun c2 => (h.1 c2), fun c2 => ⟨⟨rfl, (hF 27)⟩, ⟨⟨rfl, (hF 21)⟩, ⟨⟨(h.2 c2).1.1, (h.2 c2).1.2.1⟩, ⟨⟨(h.2 c2).1.2.2.1, (h.2 c2).1.2.2.2.1⟩, ⟨⟨(h.2 c2).1.2.2.2.2.1, (h.2 c2).1.2.2.2.2.2.1⟩, ⟨⟨(h.2 c2).1.2.2.2.2.2.2.1, (h.2 c2).1.2.2.2.2.2.2.2.1⟩, ⟨⟨(h.2 c2).1.2.2.2.2.2.2.2.2.1, (h.2 c2).1.2.2.2.2.2.2.2.2.2.1⟩, ⟨⟨rfl, (h.2 c2).1.2.2.2.2.2.2.2.2.2.2.1, (h.2 c2).1.2.2.2.2.2.2.2.2.2.2.2.1⟩, ⟨⟨rfl, (h.2 c2).1.2.2.2.2.2.2.2.2.2.2.2.2.1, (h.2 c2).1.2.2.2.2.2.2.2.2.2.2.2.2.2.1⟩, ⟨⟨(h.2 c2).1.2.2.2.2.2.2.2.2.2.2.2.2.2.2.1, (h.2 c2).1.2.2.2.2.2.2.2.2.2.2.2.2.2.2.2⟩, (h.2 c2).2⟩⟩⟩⟩⟩⟩⟩⟩⟩⟩⟩)

theorem v_M_copy_125 (d : Nat) (p2 p4 p5 p6 v8 : Int) (z1 z3 z7 z9 : Option am_V) (σ : am_S) (K : Int → am_S → Prop) (hF : MF σ) (h :
  ((p6 ≤ v8 →
    K p6 σ) ∧
  (¬ (p6 ≤ v8) →
    (-2147483648 ≤ 2 * p4 ∧ 2 * p4 < 2147483648 ∧ -2147483648 ≤ (2 * p4) + p2 ∧ (2 * p4) + p2 < 2147483648 ∧ -2147483648 ≤ 20 * ((2 * p4) + p2) ∧ 20 * ((2 * p4) + p2) < 2147483648 ∧ -2147483648 ≤ (20 * ((2 * p4) + p2)) + p5 ∧ (20 * ((2 * p4) + p2)) + p5 < 2147483648 ∧ -2147483648 ≤ ((20 * ((2 * p4) + p2)) + p5) + v8 ∧ ((20 * ((2 * p4) + p2)) + p5) + v8 < 2147483648 ∧ 0 ≤ v8 ∧ v8 < 20 ∧ 0 ≤ (((20 * ((2 * p4) + p2)) + p5) + v8) ∧ (((20 * ((2 * p4) + p2)) + p5) + v8) < 480 ∧ -2147483648 ≤ v8 + 1 ∧ v8 + 1 < 2147483648) ∧
    am_Runs PP MLL (d + 2) m_M_copy 125 [some (qr (31, 12, 89)), z1, some (qi p2), z3, some (qi p4), some (qi p5), some (qi p6), (am_cl z7), some (qi (v8 + 1)), z9] [] (putI σ 45 (Int.toNat (((20 * ((2 * p4) + p2)) + p5) + v8)) (sI σ 49 (Int.toNat v8))) (kI K)))) : am_Runs PP MLL (d + 2) m_M_copy 125 [some (qr (31, 12, 89)), z1, some (qi p2), z3, some (qi p4), some (qi p5), some (qi p6), z7, some (qi v8), z9] [] σ (kI K) := am_wEF_ok (orc [(129, 45, 20, 480), (142, 49, 20, 20)]) 200 (⟨fun c2 => (h.1 c2), fun c2 => ⟨⟨rfl, (hF 21)⟩, ⟨⟨(h.2 c2).1.1, (h.2 c2).1.2.1⟩, ⟨⟨(h.2 c2).1.2.2.1, (h.2 c2).1.2.2.2.1⟩, ⟨⟨(h.2 c2).1.2.2.2.2.1, (h.2 c2).1.2.2.2.2.2.1⟩, ⟨⟨(h.2 c2).1.2.2.2.2.2.2.1, (h.2 c2).1.2.2.2.2.2.2.2.1⟩, ⟨⟨(h.2 c2).1.2.2.2.2.2.2.2.2.1, (h.2 c2).1.2.2.2.2.2.2.2.2.2.1⟩, ⟨⟨rfl, (hF 27)⟩, ⟨⟨rfl, (h.2 c2).1.2.2.2.2.2.2.2.2.2.2.1, (h.2 c2).1.2.2.2.2.2.2.2.2.2.2.2.1⟩, ⟨⟨rfl, (h.2 c2).1.2.2.2.2.2.2.2.2.2.2.2.2.1, (h.2 c2).1.2.2.2.2.2.2.2.2.2.2.2.2.2.1⟩, ⟨⟨(h.2 c2).1.2.2.2.2.2.2.2.2.2.2.2.2.2.2.1, (h.2 c2).1.2.2.2.2.2.2.2.2.2.2.2.2.2.2.2⟩, (h.2 c2).2⟩⟩⟩⟩⟩⟩⟩⟩⟩⟩⟩)

/-- the reference's store behind copy -/
def mCopy (σ : am_S) (src dst n : Nat) : am_S := rowI (rowI σ 49 (fun k => if k < n then sI σ 45 (src + k) else sI σ 49 k)) 45 (fun k => if dst ≤ k ∧ k < dst + n then sI σ 45 (src + (k - dst)) else sI σ 45 k)
theorem l_M_copy (d : Nat) {b s f c t n : Nat} {σ : am_S} {K : Int → am_S → Prop} (hF : MF σ) (hb : b < 12) (hc : c < 12) (hs : s < 2) (hn : f + n ≤ 20) (hn2 : t + n ≤ 20) (h : K n (mCopy σ (20 * (2 * b + s) + f) (20 * (2 * c + s) + t) n)) (z7 z9 : Option am_V) : am_Runs PP MLL (d + 2) m_M_copy 100 [some (qr (31, 12, 89)), some (qi (b : Int)), some (qi (s : Int)), some (qi (f : Int)), some (qi (c : Int)), some (qi (t : Int)), some (qi (n : Int)), z7, some (qi 0), z9] [] σ (kI K) := by
  have h2 : ∀ i : Nat, i ≤ n → ∀ z1 z3 z7 z9, am_Runs PP MLL (d + 2) m_M_copy 125 [some (qr (31, 12, 89)), z1, some (qi (s : Int)), z3, some (qi (c : Int)), some (qi (t : Int)), some (qi (n : Int)), z7, some (qi (i : Int)), z9] [] (rowI (rowI σ 49 (fun k => if k < n then sI σ 45 (20 * (2 * b + s) + f + k) else sI σ 49 k)) 45 (fun k => if 20 * (2 * c + s) + t ≤ k ∧ k < 20 * (2 * c + s) + t + i then sI σ 45 (20 * (2 * b + s) + f + (k - (20 * (2 * c + s) + t))) else sI σ 45 k)) (kI K) := by
    refine lp ?_ ?_
    · intro z1 z3 z7 z9
      exact v_M_copy_125 d s c t n n z1 z3 z7 z9 _ K hF ⟨fun _ => h, fun c => absurd (Int.le_refl _) c⟩
    · intro i hi ih z1 z3 z7 z9
      have e : Int.toNat (20 * (2 * (c : Int) + (s : Int)) + (t : Int) + (i : Int)) = 20 * (2 * c + s) + t + i := by omega
      refine v_M_copy_125 d s c t n i z1 z3 z7 z9 _ K hF ⟨fun c => absurd c (by omega), fun _ => ⟨by omega, ?_⟩⟩
      rw [e, Int.toNat_natCast, row_ne (by decide), row_at, putI_rowI, if_pos hi]
      refine runs_st ?_ (ih z1 z3 (am_cl z7) z9)
      congr 1
      funext k
      by_cases hk : k = 20 * (2 * c + s) + t + i
      · rw [if_pos hk, if_pos (by omega), hk]
        congr 1
        omega
      · rw [if_neg hk]
        (repeat' split) <;> first | rfl | omega
  have h1 : ∀ i : Nat, i ≤ n → ∀ z7 z9, am_Runs PP MLL (d + 2) m_M_copy 100 [some (qr (31, 12, 89)), some (qi (b : Int)), some (qi (s : Int)), some (qi (f : Int)), some (qi (c : Int)), some (qi (t : Int)), some (qi (n : Int)), z7, some (qi (i : Int)), z9] [] (rowI σ 49 (fun k => if k < i then sI σ 45 (20 * (2 * b + s) + f + k) else sI σ 49 k)) (kI K) := by
    refine lp ?_ ?_
    · intro z7 z9
      refine v_M_copy_100 d b s f c t n n z7 z9 _ K hF ⟨fun _ => ?_, fun c => absurd (Int.le_refl _) c⟩
      have h20 := h2 0 (Nat.zero_le _) (some (qi (b : Int))) (some (qi (f : Int))) (am_cl z7) z9
      refine runs_st ?_ h20
      have e : (fun k => if 20 * (2 * c + s) + t ≤ k ∧ k < 20 * (2 * c + s) + t + 0 then sI σ 45 (20 * (2 * b + s) + f + (k - (20 * (2 * c + s) + t))) else sI σ 45 k) = sI (rowI σ 49 (fun k => if k < n then sI σ 45 (20 * (2 * b + s) + f + k) else sI σ 49 k)) 45 := by
        rw [row_ne (by decide)]
        funext k
        rw [if_neg (by omega)]
      rw [e, rowI_self]
    · intro i hi ih z7 z9
      have e : Int.toNat (20 * (2 * (b : Int) + (s : Int)) + (f : Int) + (i : Int)) = 20 * (2 * b + s) + f + i := by omega
      refine v_M_copy_100 d b s f c t n i z7 z9 _ K hF ⟨fun c => absurd c (by omega), fun _ => ⟨by omega, ?_⟩⟩
      rw [e, Int.toNat_natCast, row_ne (by decide), putI_rowI]
      refine runs_st ?_ (ih (am_cl z7) z9)
      congr 1
      funext k
      by_cases hk : k = i
      · rw [if_pos hk, if_pos (by omega), hk]
      · rw [if_neg hk]
        (repeat' split) <;> first | rfl | omega
  have h0 := h1 0 (Nat.zero_le _) z7 z9
  refine runs_st ?_ h0
  have e : (fun k => if k < 0 then sI σ 45 (20 * (2 * b + s) + f + k) else sI σ 49 k) = sI σ 49 := by
    funext k
    rw [if_neg (by omega)]
  rw [e, rowI_self]
theorem v_M_bitsIn_0 (d : Nat) (p1 : Int) (σ : am_S) (K : Int → am_S → Prop) (hF : MF σ) (h :
  am_Runs PP MLL d m_M_bitsIn 4 [some (qr (31, 12, 89)), some (ql p1), none, some (qi 0), some (qi 0)] [] σ (kI K)) : am_Runs PP MLL d m_M_bitsIn 0 [some (qr (31, 12, 89)), some (ql p1), none, none, none] [] σ (kI K) := am_wEF_ok (orc []) 200 (h)

theorem v_M_bitsIn_4 (d : Nat) (p1 v3 v4 : Int) (z2 : Option am_V) (σ : am_S) (K : Int → am_S → Prop) (hF : MF σ) (h :
  (((sI σ 31 2) ≤ v4 →
    K v3 σ) ∧
  (¬ ((sI σ 31 2) ≤ v4) →
    (-2147483648 ≤ v3 + (w32 (a_land (a_lshr p1 v4) 1)) ∧ v3 + (w32 (a_land (a_lshr p1 v4) 1)) < 2147483648 ∧ -2147483648 ≤ v4 + 1 ∧ v4 + 1 < 2147483648) ∧
    am_Runs PP MLL d m_M_bitsIn 4 [some (qr (31, 12, 89)), some (ql p1), (am_cl z2), some (qi (v3 + (w32 (a_land (a_lshr p1 v4) 1)))), some (qi (v4 + 1))] [] σ (kI K)))) : am_Runs PP MLL d m_M_bitsIn 4 [some (qr (31, 12, 89)), some (ql p1), z2, some (qi v3), some (qi v4)] [] σ (kI K) := am_wEF_ok (orc []) 200 (⟨rfl, ⟨fun c2 => (h.1 c2), fun c2 => ⟨⟨(h.2 c2).1.1, (h.2 c2).1.2.1⟩, ⟨⟨(h.2 c2).1.2.2.1, (h.2 c2).1.2.2.2⟩, (h.2 c2).2⟩⟩⟩⟩)

/-- bit c of a number, as a number -/
def bt (x c : Nat) : Int := ((x / 2 ^ c % 2 : Nat) : Int)
theorem bt_01 (x c : Nat) : 0 ≤ bt x c ∧ bt x c ≤ 1 := by
  unfold bt
  omega
theorem and_1 (x : Nat) : x &&& 1 = x % 2 := Nat.and_one_is_mod x
theorem lbit {x c : Nat} (hx : x < 9223372036854775808) (hc : c < 64) : a_land (a_lshr x c) 1 = bt x c := by
  rw [a_lshr_n hc hx, show (1 : Int) = ((1 : Nat) : Int) from rfl, a_land_n (Nat.lt_of_le_of_lt (Nat.div_le_self _ _) hx) (by omega), and_1]
  rfl
theorem ibit {x c : Nat} (hx : x < 2147483648) (hc : c < 32) : a_and (a_shr x c) 1 = bt x c := by
  rw [a_shr_n hc hx, show (1 : Int) = ((1 : Nat) : Int) from rfl, a_and_n (Nat.lt_of_le_of_lt (Nat.div_le_self _ _) hx) (by omega), and_1]
  rfl
theorem c_M_bitsIn (d : Nat) {x n : Nat} {σ : am_S} {K : Int → am_S → Prop} (hF : MF σ) (hx : x < 9223372036854775808) (hn : sI σ 31 2 = n) (hn2 : n ≤ 40) (h : K (sm (bt x) n) σ) : am_Calls PP MLL (d + 1) m_M_bitsIn [qr (31, 12, 89), ql (x : Int)] σ (kI K) := by
  refine v_M_bitsIn_0 d x σ K hF ?_
  have hS : ∀ i : Nat, i ≤ n → ∀ z, am_Runs PP MLL d m_M_bitsIn 4 [some (qr (31, 12, 89)), some (ql (x : Int)), z, some (qi (sm (bt x) i)), some (qi (i : Int))] [] σ (kI K) := by
    refine lp ?_ ?_
    · intro z
      exact v_M_bitsIn_4 d x _ n z σ K hF ⟨fun _ => h, fun c => absurd (show sI σ 31 2 ≤ (n : Int) by omega) c⟩
    · intro i hi ih z
      have hb := sm_bd (f := bt x) (c := 1) i (fun j _ => bt_01 x j)
      have h01 := bt_01 x i
      refine v_M_bitsIn_4 d x _ i z σ K hF ⟨fun c => absurd c (by omega), fun _ => ?_⟩
      rw [lbit hx (by omega), w32_id (by omega) (by omega)]
      exact ⟨by omega, ih _⟩
  exact hS 0 (Nat.zero_le _) none
theorem v_M_count_0 (d : Nat) (p1 : Int) (σ : am_S) (K : Int → am_S → Prop) (hF : MF σ) (h :
  ((p1 = 0 →
    K (sI σ 31 2) σ) ∧
  (¬ (p1 = 0) →
  ((p1 = 1 →
    K (sI σ 31 5) σ) ∧
  (¬ (p1 = 1) →
  ((p1 = 2 →
    am_Calls PP MLL (d + 2) m_M_left [qr (31, 12, 89)] σ (kI fun x4 s4 =>
      (MF s4) ∧
      K x4 s4)) ∧
  (¬ (p1 = 2) →
  ((p1 = 3 →
    K (sI σ 31 16) σ) ∧
  (¬ (p1 = 3) →
  ((p1 = 4 →
    am_Runs PP MLL (d + 2) m_M_count 18 [some (qr (31, 12, 89)), some (qi p1), some (qi 0), some (qi 0)] [] σ (kI K)) ∧
  (¬ (p1 = 4) →
  ((p1 = 5 →
    K (sI σ 31 13) σ) ∧
  (¬ (p1 = 5) →
  ((p1 = 6 →
    K (sI σ 31 4) σ) ∧
  (¬ (p1 = 6) →
  ((p1 = 7 →
    K (if (sI σ 31 33) = 0 then (0 : Int) else (sI σ 31 37)) σ) ∧
  (¬ (p1 = 7) →
  ((p1 = 8 →
    K (sI σ 31 38) σ) ∧
  (¬ (p1 = 8) →
  ((p1 = 9 →
    K (sI σ 31 76) σ) ∧
  (¬ (p1 = 9) →
  ((p1 = 10 →
    K (sI σ 31 1) σ) ∧
  (¬ (p1 = 10) →
  K (-1001) σ))))))))))))))))))))))) : am_Runs PP MLL (d + 2) m_M_count 0 [some (qr (31, 12, 89)), some (qi p1), none, none] [] σ (kI K) := am_wEC_ok (orc []) [30, 49] 200 (⟨fun c1 => ⟨rfl, (h.1 c1)⟩, fun c1 => ⟨fun c2 => ⟨rfl, ((h.2 c1).1 c2)⟩, fun c2 => ⟨fun c3 => ⟨rfl, (am_cI (((h.2 c1).2 c2).1 c3) fun x4 s4 h4 => h4.2)⟩, fun c3 => ⟨fun c5 => ⟨rfl, ((((h.2 c1).2 c2).2 c3).1 c5)⟩, fun c5 => ⟨fun c6 => (((((h.2 c1).2 c2).2 c3).2 c5).1 c6), fun c6 => ⟨fun c7 => ⟨rfl, ((((((h.2 c1).2 c2).2 c3).2 c5).2 c6).1 c7)⟩, fun c7 => ⟨fun c8 => ⟨rfl, (((((((h.2 c1).2 c2).2 c3).2 c5).2 c6).2 c7).1 c8)⟩, fun c8 => ⟨fun c9 => ⟨rfl, am_use (fun H11 => ⟨fun c10 => (Eq.mp (congrArg (fun z => am_Runs _ _ _ _ _ _ (qi z :: _) _ _) (if_pos c10 : (if (sI σ 31 33) = 0 then (0 : Int) else sI σ 31 37) = 0)) H11), fun c10 => ⟨rfl, (Eq.mp (congrArg (fun z => am_Runs _ _ _ _ _ _ (qi z :: _) _ _) (if_neg c10 : (if (sI σ 31 33) = 0 then (0 : Int) else sI σ 31 37) = sI σ 31 37)) H11)⟩⟩) (am_wEC_ok (orc []) [30, 49] 200 (((((((((h.2 c1).2 c2).2 c3).2 c5).2 c6).2 c7).2 c8).1 c9)))⟩, fun c9 => ⟨fun c12 => ⟨rfl, (((((((((h.2 c1).2 c2).2 c3).2 c5).2 c6).2 c7).2 c8).2 c9).1 c12)⟩, fun c12 => ⟨fun c13 => ⟨rfl, ((((((((((h.2 c1).2 c2).2 c3).2 c5).2 c6).2 c7).2 c8).2 c9).2 c12).1 c13)⟩, fun c13 => ⟨fun c14 => ⟨rfl, (((((((((((h.2 c1).2 c2).2 c3).2 c5).2 c6).2 c7).2 c8).2 c9).2 c12).2 c13).1 c14)⟩, fun c14 => (((((((((((h.2 c1).2 c2).2 c3).2 c5).2 c6).2 c7).2 c8).2 c9).2 c12).2 c13).2 c14)⟩⟩⟩⟩⟩⟩⟩⟩⟩⟩⟩)

theorem v_M_count_18 (d : Nat) (v2 v3 : Int) (z1 : Option am_V) (σ : am_S) (K : Int → am_S → Prop) (hF : MF σ) (h :
  (((sI σ 31 16) ≤ v3 →
    K v2 σ) ∧
  (¬ ((sI σ 31 16) ≤ v3) →
    (0 ≤ v3 ∧ v3 < 12) ∧
    (-2147483648 ≤ v2 + (if 0 ≤ (sI σ 41 (Int.toNat v3)) then (1 : Int) else 0) ∧ v2 + (if 0 ≤ (sI σ 41 (Int.toNat v3)) then (1 : Int) else 0) < 2147483648 ∧ -2147483648 ≤ v3 + 1 ∧ v3 + 1 < 2147483648) ∧
    am_Runs PP MLL (d + 2) m_M_count 18 [some (qr (31, 12, 89)), (am_cl z1), some (qi (v2 + (if 0 ≤ (sI σ 41 (Int.toNat v3)) then (1 : Int) else 0))), some (qi (v3 + 1))] [] σ (kI K)))) : am_Runs PP MLL (d + 2) m_M_count 18 [some (qr (31, 12, 89)), z1, some (qi v2), some (qi v3)] [] σ (kI K) := am_wEC_ok (orc []) [30, 49] 200 (⟨rfl, ⟨fun c3 => (h.1 c3), fun c3 => am_use (fun H5 => ⟨rfl, c_M_isThere _ hF (h.2 c3).1.1 (h.2 c3).1.2 (fun c4 => ⟨fun c => absurd c (by decide : ¬ ((1 : Int) = 0)), fun _ => (Eq.mp (congrArg (fun z => am_Runs _ _ _ _ _ _ (qi z :: _) _ _) (if_pos c4 : (if 0 ≤ (sI σ 41 (Int.toNat v3)) then (1 : Int) else 0) = 1)) H5)⟩) (fun c4 => ⟨fun _ => (Eq.mp (congrArg (fun z => am_Runs _ _ _ _ _ _ (qi z :: _) _ _) (if_neg c4 : (if 0 ≤ (sI σ 41 (Int.toNat v3)) then (1 : Int) else 0) = 0)) H5), fun c => absurd (by decide : (0 : Int) = 0) c⟩)⟩) (am_wEC_ok (orc []) [30, 49] 200 (⟨⟨(h.2 c3).2.1.1, (h.2 c3).2.1.2.1⟩, ⟨⟨(h.2 c3).2.1.2.2.1, (h.2 c3).2.1.2.2.2⟩, (h.2 c3).2.2⟩⟩))⟩⟩)

theorem l_M_count (d : Nat) {n : Nat} {σ : am_S} {K : Int → am_S → Prop} (hF : MF σ) (hn : sI σ 31 16 = n) (hn2 : n ≤ 12) (h : K (sm (fun b => if 0 ≤ sI σ 41 b then 1 else 0) n) σ) (z : Option am_V) : am_Runs PP MLL (d + 2) m_M_count 18 [some (qr (31, 12, 89)), z, some (qi 0), some (qi 0)] [] σ (kI K) := by
  have hS : ∀ i : Nat, i ≤ n → ∀ z, am_Runs PP MLL (d + 2) m_M_count 18 [some (qr (31, 12, 89)), z, some (qi (sm (fun b => if 0 ≤ sI σ 41 b then 1 else 0) i)), some (qi (i : Int))] [] σ (kI K) := by
    refine lp ?_ ?_
    · intro z
      exact v_M_count_18 d _ n z σ K hF ⟨fun _ => h, fun c => absurd (show sI σ 31 16 ≤ (n : Int) by omega) c⟩
    · intro i hi ih z
      have hb := sm_bd (f := fun b => if 0 ≤ sI σ 41 b then 1 else 0) (c := 1) i (fun j _ => by split <;> omega)
      refine v_M_count_18 d _ i z σ K hF ⟨fun c => absurd c (by omega), fun _ => ?_⟩
      rw [Int.toNat_natCast]
      exact ⟨by omega, by split <;> omega, ih _⟩
  exact hS 0 (Nat.zero_le _) z
