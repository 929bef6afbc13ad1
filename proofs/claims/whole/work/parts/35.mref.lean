/-! the reference: difference, lay, weighFault -/
theorem sto_ext {s t : am_S} (h : ∀ a j, sI s a j = sI t a j) (h2 : s.2 = t.2) : s = t := by
  obtain ⟨f, s2⟩ := s
  obtain ⟨g, t2⟩ := t
  have e : f = g := by
    funext a j
    exact h a j
  have e2 : s2 = t2 := h2
  rw [e, e2]
theorem sI_row {σ : am_S} {a b k : Nat} {f : Nat → Int} : sI (rowI σ a f) b k = if b = a then f k else sI σ b k := rfl
theorem sm_abs {f : Nat → Int} {c : Int} : ∀ n : Nat, (∀ i, i < n → -c ≤ f i ∧ f i ≤ c) → -(c * n) ≤ sm f n ∧ sm f n ≤ c * n
  | 0, _ => by simp [sm]
  | n + 1, h => by
    have h1 := sm_abs n (fun i hi => h i (by omega))
    have h2 := h n (by omega)
    show -(c * ((n + 1 : Nat) : Int)) ≤ sm f n + f n ∧ sm f n + f n ≤ c * ((n + 1 : Nat) : Int)
    rw [show c * ((n + 1 : Nat) : Int) = c * n + c by push_cast; exact Int.mul_add c n 1 ▸ (by rw [Int.mul_one])]
    omega
/-- the difference of the pans under a truth: s the coins' sides; m, c, g: how many are false, which, how -/
def df (s m c g : Nat → Int) (t : Nat) : Int := sm (fun i => s (c (3 * t + i)).toNat * g (3 * t + i)) (m t).toNat
/-- a truth is well formed among N coins -/
def TVt (m c g : Nat → Int) (N : Int) (t : Nat) : Prop := 0 ≤ m t ∧ m t ≤ 3 ∧ ∀ i : Nat, (i : Int) < m t → 0 ≤ c (3 * t + i) ∧ c (3 * t + i) < N ∧ (g (3 * t + i) = 1 ∨ g (3 * t + i) = -1)
theorem mul_pm {s g : Int} (hs : -1 ≤ s ∧ s ≤ 1) (hg : g = 1 ∨ g = -1) : -1 ≤ s * g ∧ s * g ≤ 1 := by
  rcases hg with hg | hg <;> subst hg <;> simp <;> omega
theorem df_part {s m c g : Nat → Int} {N : Int} {t : Nat} (hv : TVt m c g N t) (hs : ∀ k, -1 ≤ s k ∧ s k ≤ 1) (i : Nat) (hi : (i : Int) ≤ m t) : -(i : Int) ≤ sm (fun i => s (c (3 * t + i)).toNat * g (3 * t + i)) i ∧ sm (fun i => s (c (3 * t + i)).toNat * g (3 * t + i)) i ≤ i := by
  have h := sm_abs (f := fun i => s (c (3 * t + i)).toNat * g (3 * t + i)) (c := 1) i (fun j hj => mul_pm (hs _) (hv.2.2 j (by omega)).2.2)
  omega
theorem df_bd {s m c g : Nat → Int} {N : Int} {t : Nat} (hv : TVt m c g N t) (hs : ∀ k, -1 ≤ s k ∧ s k ≤ 1) : -3 ≤ df s m c g t ∧ df s m c g t ≤ 3 := by
  have h := df_part hv hs (m t).toNat (by have := hv.1; omega)
  have h1 := hv.1
  have h2 := hv.2.1
  unfold df
  omega

theorem v_M_difference_0 (d : Nat) (p1 : Int) (σ : am_S) (K : Int → am_S → Prop) (hF : MF σ) (h :
  am_Runs PP MLL d m_M_difference 4 [some (qr (31, 12, 89)), some (qi p1), some (qi 0), some (qi 0)] [] σ (kI K)) : am_Runs PP MLL d m_M_difference 0 [some (qr (31, 12, 89)), some (qi p1), none, none] [] σ (kI K) := am_wEF_ok (orc []) 200 (h)

theorem v_M_difference_4 (d : Nat) (p1 v2 v3 : Int) (σ : am_S) (K : Int → am_S → Prop) (hF : MF σ) (h :
  (0 ≤ p1 ∧ p1 < 10000) ∧
  (((sI σ 33 (Int.toNat p1)) ≤ v3 →
    K v2 σ) ∧
  (¬ ((sI σ 33 (Int.toNat p1)) ≤ v3) →
    (-2147483648 ≤ 3 * p1 ∧ 3 * p1 < 2147483648 ∧ -2147483648 ≤ (3 * p1) + v3 ∧ (3 * p1) + v3 < 2147483648 ∧ 0 ≤ ((3 * p1) + v3) ∧ ((3 * p1) + v3) < 30000 ∧ 0 ≤ (sI σ 34 (Int.toNat ((3 * p1) + v3))) ∧ (sI σ 34 (Int.toNat ((3 * p1) + v3))) < 40 ∧ -2147483648 ≤ (sI σ 50 (Int.toNat (sI σ 34 (Int.toNat ((3 * p1) + v3))))) * (sI σ 35 (Int.toNat ((3 * p1) + v3))) ∧ (sI σ 50 (Int.toNat (sI σ 34 (Int.toNat ((3 * p1) + v3))))) * (sI σ 35 (Int.toNat ((3 * p1) + v3))) < 2147483648 ∧ -2147483648 ≤ v2 + ((sI σ 50 (Int.toNat (sI σ 34 (Int.toNat ((3 * p1) + v3))))) * (sI σ 35 (Int.toNat ((3 * p1) + v3)))) ∧ v2 + ((sI σ 50 (Int.toNat (sI σ 34 (Int.toNat ((3 * p1) + v3))))) * (sI σ 35 (Int.toNat ((3 * p1) + v3)))) < 2147483648 ∧ -2147483648 ≤ v3 + 1 ∧ v3 + 1 < 2147483648) ∧
    am_Runs PP MLL d m_M_difference 4 [some (qr (31, 12, 89)), some (qi p1), some (qi (v2 + ((sI σ 50 (Int.toNat (sI σ 34 (Int.toNat ((3 * p1) + v3))))) * (sI σ 35 (Int.toNat ((3 * p1) + v3)))))), some (qi (v3 + 1))] [] σ (kI K)))) : am_Runs PP MLL d m_M_difference 4 [some (qr (31, 12, 89)), some (qi p1), some (qi v2), some (qi v3)] [] σ (kI K) := am_wEF_ok (orc [(6, 33, 20, 10000), (12, 50, 20, 40), (14, 34, 20, 30000), (23, 35, 20, 30000)]) 200 (⟨⟨rfl, (hF 7)⟩, ⟨⟨rfl, h.1.1, h.1.2⟩, ⟨fun c1 => (h.2.1 c1), fun c1 => ⟨⟨rfl, (hF 29)⟩, ⟨⟨rfl, (hF 8)⟩, ⟨⟨(h.2.2 c1).1.1, (h.2.2 c1).1.2.1⟩, ⟨⟨(h.2.2 c1).1.2.2.1, (h.2.2 c1).1.2.2.2.1⟩, ⟨⟨rfl, (h.2.2 c1).1.2.2.2.2.1, (h.2.2 c1).1.2.2.2.2.2.1⟩, ⟨⟨rfl, (h.2.2 c1).1.2.2.2.2.2.2.1, (h.2.2 c1).1.2.2.2.2.2.2.2.1⟩, ⟨⟨rfl, (hF 9)⟩, ⟨⟨(h.2.2 c1).1.1, (h.2.2 c1).1.2.1⟩, ⟨⟨(h.2.2 c1).1.2.2.1, (h.2.2 c1).1.2.2.2.1⟩, ⟨⟨rfl, (h.2.2 c1).1.2.2.2.2.1, (h.2.2 c1).1.2.2.2.2.2.1⟩, ⟨⟨(h.2.2 c1).1.2.2.2.2.2.2.2.2.1, (h.2.2 c1).1.2.2.2.2.2.2.2.2.2.1⟩, ⟨⟨(h.2.2 c1).1.2.2.2.2.2.2.2.2.2.2.1, (h.2.2 c1).1.2.2.2.2.2.2.2.2.2.2.2.1⟩, ⟨⟨(h.2.2 c1).1.2.2.2.2.2.2.2.2.2.2.2.2.1, (h.2.2 c1).1.2.2.2.2.2.2.2.2.2.2.2.2.2⟩, (h.2.2 c1).2⟩⟩⟩⟩⟩⟩⟩⟩⟩⟩⟩⟩⟩⟩⟩⟩)

theorem c_M_difference (d : Nat) {t : Nat} {σ : am_S} {K : Int → am_S → Prop} (hF : MF σ) (ht : t < 10000) (hv : TVt (sI σ 33) (sI σ 34) (sI σ 35) 40 t) (hs : ∀ k, -1 ≤ sI σ 50 k ∧ sI σ 50 k ≤ 1) (h : K (df (sI σ 50) (sI σ 33) (sI σ 34) (sI σ 35) t) σ) : am_Calls PP MLL (d + 1) m_M_difference [qr (31, 12, 89), qi (t : Int)] σ (kI K) := by
  refine v_M_difference_0 d t σ K hF ?_
  refine lp (P := fun i => am_Runs PP MLL d m_M_difference 4 [some (qr (31, 12, 89)), some (qi t), some (qi (sm (fun i => sI σ 50 (sI σ 34 (3 * t + i)).toNat * sI σ 35 (3 * t + i)) i)), some (qi i)] [] σ (kI K)) (N := (sI σ 33 t).toNat) ?_ ?_ 0 (Nat.zero_le _)
  · refine v_M_difference_4 d _ _ _ σ K hF ⟨by omega, fun _ => h, fun c => absurd ?_ c⟩
    rw [Int.toNat_natCast]; omega
  · intro i hi ih
    have hm := hv.2.1
    have hvi := hv.2.2 i (by omega)
    have hp := df_part hv hs i (by omega)
    have e3 : Int.toNat (3 * (t : Int) + (i : Int)) = 3 * t + i := by omega
    have hpm := mul_pm (hs (sI σ 34 (3 * t + i)).toNat) hvi.2.2
    refine v_M_difference_4 d _ _ _ σ K hF ⟨by omega, fun c => absurd c (by rw [Int.toNat_natCast]; omega), fun _ => ?_⟩
    rw [e3]
    refine ⟨by omega, ?_⟩
    exact ih
/-- laying the left pan's coins: sides, whether one lies twice, how many -/
def layL (pl : Nat → Int) : Nat → (Nat → Int) × Int × Int
  | 0 => (fun _ => 0, 0, 0)
  | n + 1 => if pl n < 0 then layL pl n else (fun c => if c = (pl n).toNat then 1 else (layL pl n).1 c, if (layL pl n).2.1 = 0 ∧ (layL pl n).1 (pl n).toNat = 0 then 0 else 1, (layL pl n).2.2 + 1)
def layR (q : (Nat → Int) × Int) (pl : Nat → Int) : Nat → (Nat → Int) × Int × Int
  | 0 => (q.1, q.2, 0)
  | n + 1 => if pl n < 0 then layR q pl n else (fun c => if c = (pl n).toNat then -1 else (layR q pl n).1 c, if (layR q pl n).2.1 = 0 ∧ (layR q pl n).1 (pl n).toNat = 0 then 0 else 1, (layR q pl n).2.2 + 1)
def layS (σ : am_S) (s : Nat → Int) (tw l r : Int) : am_S := putI (putI (putI (rowI σ 50 (fun c => if c < 40 then s c else sI σ 50 c)) 31 30 tw) 31 31 l) 31 32 r
def layQ (σ : am_S) (b : Nat) : (Nat → Int) × Int × Int := layL (fun i => sI σ 45 (40 * b + i)) (sI σ 44 (2 * b)).toNat
def layQ2 (σ : am_S) (b : Nat) : (Nat → Int) × Int × Int := layR ((layQ σ b).1, (layQ σ b).2.1) (fun i => sI σ 45 (40 * b + 20 + i)) (sI σ 44 (2 * b + 1)).toNat
/-- the reference's store when a balance's coins are laid -/
def mLay (σ : am_S) (b : Nat) : am_S := layS σ (layQ2 σ b).1 (layQ2 σ b).2.1 (layQ σ b).2.2 (layQ2 σ b).2.2
theorem layL_bd (pl : Nat → Int) : ∀ n : Nat, ((layL pl n).2.1 = 0 ∨ (layL pl n).2.1 = 1) ∧ 0 ≤ (layL pl n).2.2 ∧ (layL pl n).2.2 ≤ n ∧ ∀ c, -1 ≤ (layL pl n).1 c ∧ (layL pl n).1 c ≤ 1
  | 0 => by simp [layL]
  | n + 1 => by
    have h := layL_bd pl n
    unfold layL
    split
    · exact ⟨h.1, h.2.1, by have := h.2.2.1; omega, h.2.2.2⟩
    · refine ⟨by dsimp only; split <;> simp, by dsimp only; omega, by dsimp only; omega, fun c => ?_⟩
      dsimp only
      split
      · omega
      · exact h.2.2.2 c
theorem layR_bd (q : (Nat → Int) × Int) (hq : (q.2 = 0 ∨ q.2 = 1) ∧ ∀ c, -1 ≤ q.1 c ∧ q.1 c ≤ 1) (pl : Nat → Int) : ∀ n : Nat, ((layR q pl n).2.1 = 0 ∨ (layR q pl n).2.1 = 1) ∧ 0 ≤ (layR q pl n).2.2 ∧ (layR q pl n).2.2 ≤ n ∧ ∀ c, -1 ≤ (layR q pl n).1 c ∧ (layR q pl n).1 c ≤ 1
  | 0 => ⟨hq.1, Int.le_refl 0, Int.le_refl 0, hq.2⟩
  | n + 1 => by
    have h := layR_bd q hq pl n
    unfold layR
    split
    · exact ⟨h.1, h.2.1, by have := h.2.2.1; omega, h.2.2.2⟩
    · refine ⟨by dsimp only; split <;> simp, by dsimp only; omega, by dsimp only; omega, fun c => ?_⟩
      dsimp only
      split
      · omega
      · exact h.2.2.2 c
theorem layS_step {σ : am_S} {s : Nat → Int} {tw l r : Int} {c : Nat} {v tw' l' r' : Int} (hc : c < 40) : putI (putI (putI (putI (layS σ s tw l r) 31 30 tw') 50 c v) 31 31 l') 31 32 r' = layS σ (fun x => if x = c then v else s x) tw' l' r' := by
  refine sto_ext (fun a j => ?_) rfl
  unfold layS
  simp only [sI_putI, sI_row]
  by_cases h31 : a = 31
  · subst h31
    simp
    (repeat' split) <;> simp_all <;> omega
  · by_cases h50 : a = 50
    · subst h50
      simp
      (repeat' split) <;> simp_all <;> omega
    · simp [h31, h50]

theorem v_M_lay_0 (d : Nat) (p1 : Int) (σ : am_S) (K : am_S → Prop) (hF : MF σ) (h :
  am_Runs PP MLL d m_M_lay 2 [some (qr (31, 12, 89)), some (qi p1), some (qi 0), none, none] [] σ (kV K)) : am_Runs PP MLL d m_M_lay 0 [some (qr (31, 12, 89)), some (qi p1), none, none, none] [] σ (kV K) := am_wEF_ok (orc []) 200 (h)

theorem v_M_lay_2 (d : Nat) (p1 v2 : Int) (z3 z4 : Option am_V) (σ : am_S) (K : am_S → Prop) (hF : MF σ) (h :
  ((40 ≤ v2 →
    am_Runs PP MLL d m_M_lay 23 [some (qr (31, 12, 89)), some (qi p1), some (qi 0), z3, z4] [] (putI (putI (putI σ 31 30 0) 31 31 0) 31 32 0) (kV K)) ∧
  (¬ (40 ≤ v2) →
    (0 ≤ v2 ∧ v2 < 40 ∧ -2147483648 ≤ v2 + 1 ∧ v2 + 1 < 2147483648) ∧
    am_Runs PP MLL d m_M_lay 2 [some (qr (31, 12, 89)), some (qi p1), some (qi (v2 + 1)), z3, z4] [] (putI σ 50 (Int.toNat v2) 0) (kV K)))) : am_Runs PP MLL d m_M_lay 2 [some (qr (31, 12, 89)), some (qi p1), some (qi v2), z3, z4] [] σ (kV K) := am_wEF_ok (orc [(6, 50, 20, 40)]) 200 (⟨fun c1 => ⟨⟨rfl, (Or.inl rfl)⟩, ⟨rfl, ⟨rfl, (h.1 c1)⟩⟩⟩, fun c1 => ⟨⟨rfl, (hF 29)⟩, ⟨⟨rfl, (h.2 c1).1.1, (h.2 c1).1.2.1⟩, ⟨⟨(h.2 c1).1.2.2.1, (h.2 c1).1.2.2.2⟩, (h.2 c1).2⟩⟩⟩⟩)

theorem v_M_lay_23 (d : Nat) (p1 v2 : Int) (z3 z4 : Option am_V) (σ : am_S) (K : am_S → Prop) (hF : MF σ) (h :
  ((2 ≤ v2 →
    K σ) ∧
  (¬ (2 ≤ v2) →
    am_Runs PP MLL d m_M_lay 28 [some (qr (31, 12, 89)), some (qi p1), some (qi v2), some (qi 0), z4] [] σ (kV K)))) : am_Runs PP MLL d m_M_lay 23 [some (qr (31, 12, 89)), some (qi p1), some (qi v2), z3, z4] [] σ (kV K) := am_wEF_ok (orc []) 200 (⟨fun c1 => (h.1 c1), fun c1 => (h.2 c1)⟩)

theorem v_M_lay_28L (d : Nat) (p1 v3 : Int) (z4 : Option am_V) (σ : am_S) (K : am_S → Prop) (hF : MF σ) (h :
  (-2147483648 ≤ 2 * p1 ∧ 2 * p1 < 2147483648 ∧ -2147483648 ≤ (2 * p1) + 0 ∧ (2 * p1) + 0 < 2147483648 ∧ 0 ≤ ((2 * p1) + 0) ∧ ((2 * p1) + 0) < 24) ∧
  (((sI σ 44 (Int.toNat ((2 * p1) + 0))) ≤ v3 →
    am_Runs PP MLL d m_M_lay 23 [some (qr (31, 12, 89)), some (qi p1), some (qi 1), some (qi v3), z4] [] σ (kV K)) ∧
  (¬ ((sI σ 44 (Int.toNat ((2 * p1) + 0))) ≤ v3) →
    (-2147483648 ≤ 20 * ((2 * p1) + 0) ∧ 20 * ((2 * p1) + 0) < 2147483648 ∧ -2147483648 ≤ (20 * ((2 * p1) + 0)) + v3 ∧ (20 * ((2 * p1) + 0)) + v3 < 2147483648 ∧ 0 ≤ ((20 * ((2 * p1) + 0)) + v3) ∧ ((20 * ((2 * p1) + 0)) + v3) < 480) ∧
    (((sI σ 45 (Int.toNat ((20 * ((2 * p1) + 0)) + v3))) < 0 →
      (-2147483648 ≤ v3 + 1 ∧ v3 + 1 < 2147483648) ∧
      am_Runs PP MLL d m_M_lay 28 [some (qr (31, 12, 89)), some (qi p1), some (qi 0), some (qi (v3 + 1)), some (qi (sI σ 45 (Int.toNat ((20 * ((2 * p1) + 0)) + v3))))] [] σ (kV K)) ∧
    (¬ ((sI σ 45 (Int.toNat ((20 * ((2 * p1) + 0)) + v3))) < 0) →
      (((sI σ 31 30) = 0 →
        (0 ≤ (sI σ 45 (Int.toNat ((20 * ((2 * p1) + 0)) + v3))) ∧ (sI σ 45 (Int.toNat ((20 * ((2 * p1) + 0)) + v3))) < 40) ∧
        (((sI σ 50 (Int.toNat (sI σ 45 (Int.toNat ((20 * ((2 * p1) + 0)) + v3))))) = 0 →
          (-2147483648 ≤ (sI σ 31 31) + 1 ∧ (sI σ 31 31) + 1 < 2147483648) ∧
          (-2147483648 ≤ (sI σ 31 32) + 0 ∧ (sI σ 31 32) + 0 < 2147483648 ∧ -2147483648 ≤ v3 + 1 ∧ v3 + 1 < 2147483648) ∧
          am_Runs PP MLL d m_M_lay 28 [some (qr (31, 12, 89)), some (qi p1), some (qi 0), some (qi (v3 + 1)), some (qi (sI σ 45 (Int.toNat ((20 * ((2 * p1) + 0)) + v3))))] [] (putI (putI (putI (putI σ 31 30 0) 50 (Int.toNat (sI σ 45 (Int.toNat ((20 * ((2 * p1) + 0)) + v3)))) 1) 31 31 ((sI σ 31 31) + 1)) 31 32 ((sI σ 31 32) + 0)) (kV K)) ∧
        (¬ ((sI σ 50 (Int.toNat (sI σ 45 (Int.toNat ((20 * ((2 * p1) + 0)) + v3))))) = 0) →
          (-2147483648 ≤ (sI σ 31 31) + 1 ∧ (sI σ 31 31) + 1 < 2147483648) ∧
          (-2147483648 ≤ (sI σ 31 32) + 0 ∧ (sI σ 31 32) + 0 < 2147483648 ∧ -2147483648 ≤ v3 + 1 ∧ v3 + 1 < 2147483648) ∧
          am_Runs PP MLL d m_M_lay 28 [some (qr (31, 12, 89)), some (qi p1), some (qi 0), some (qi (v3 + 1)), some (qi (sI σ 45 (Int.toNat ((20 * ((2 * p1) + 0)) + v3))))] [] (putI (putI (putI (putI σ 31 30 1) 50 (Int.toNat (sI σ 45 (Int.toNat ((20 * ((2 * p1) + 0)) + v3)))) 1) 31 31 ((sI σ 31 31) + 1)) 31 32 ((sI σ 31 32) + 0)) (kV K)))) ∧
      (¬ ((sI σ 31 30) = 0) →
        (0 ≤ (sI σ 45 (Int.toNat ((20 * ((2 * p1) + 0)) + v3))) ∧ (sI σ 45 (Int.toNat ((20 * ((2 * p1) + 0)) + v3))) < 40) ∧
        (-2147483648 ≤ (sI σ 31 31) + 1 ∧ (sI σ 31 31) + 1 < 2147483648) ∧
        (-2147483648 ≤ (sI σ 31 32) + 0 ∧ (sI σ 31 32) + 0 < 2147483648 ∧ -2147483648 ≤ v3 + 1 ∧ v3 + 1 < 2147483648) ∧
        am_Runs PP MLL d m_M_lay 28 [some (qr (31, 12, 89)), some (qi p1), some (qi 0), some (qi (v3 + 1)), some (qi (sI σ 45 (Int.toNat ((20 * ((2 * p1) + 0)) + v3))))] [] (putI (putI (putI (putI σ 31 30 1) 50 (Int.toNat (sI σ 45 (Int.toNat ((20 * ((2 * p1) + 0)) + v3)))) 1) 31 31 ((sI σ 31 31) + 1)) 31 32 ((sI σ 31 32) + 0)) (kV K)))))))) : am_Runs PP MLL d m_M_lay 28 [some (qr (31, 12, 89)), some (qi p1), some (qi 0), some (qi v3), z4] [] σ (kV K) := am_wEF_ok (orc [(30, 44, 20, 24), (39, 45, 20, 480), (58, 50, 20, 40), (67, 50, 20, 40)]) 200 (⟨⟨rfl, (hF 20)⟩, ⟨⟨h.1.1, h.1.2.1⟩, ⟨⟨h.1.2.2.1, h.1.2.2.2.1⟩, ⟨⟨rfl, h.1.2.2.2.2.1, h.1.2.2.2.2.2⟩, ⟨fun c1 => ⟨⟨(by decide : (-2147483648 : Int) ≤ 1), (by decide : (1 : Int) < 2147483648)⟩, (h.2.1 c1)⟩, fun c1 => ⟨⟨rfl, (hF 21)⟩, ⟨⟨h.1.1, h.1.2.1⟩, ⟨⟨h.1.2.2.1, h.1.2.2.2.1⟩, ⟨⟨(h.2.2 c1).1.1, (h.2.2 c1).1.2.1⟩, ⟨⟨(h.2.2 c1).1.2.2.1, (h.2.2 c1).1.2.2.2.1⟩, ⟨⟨rfl, (h.2.2 c1).1.2.2.2.2.1, (h.2.2 c1).1.2.2.2.2.2⟩, ⟨fun c2 => ⟨⟨((h.2.2 c1).2.1 c2).1.1, ((h.2.2 c1).2.1 c2).1.2⟩, ((h.2.2 c1).2.1 c2).2⟩, fun c2 => ⟨rfl, ⟨fun c3 => ⟨⟨rfl, (hF 29)⟩, ⟨⟨rfl, (((h.2.2 c1).2.2 c2).1 c3).1.1, (((h.2.2 c1).2.2 c2).1 c3).1.2⟩, ⟨fun c4 => ⟨⟨rfl, (Or.inl rfl)⟩, ⟨⟨rfl, (hF 29)⟩, ⟨fun _ => ⟨⟨rfl, (((h.2.2 c1).2.2 c2).1 c3).1.1, (((h.2.2 c1).2.2 c2).1 c3).1.2⟩, ⟨rfl, ⟨fun _ => ⟨⟨((((h.2.2 c1).2.2 c2).1 c3).2.1 c4).1.1, ((((h.2.2 c1).2.2 c2).1 c3).2.1 c4).1.2⟩, ⟨rfl, ⟨rfl, ⟨fun c => absurd c (by decide : ¬ ((0 : Int) = 1)), fun _ => ⟨⟨((((h.2.2 c1).2.2 c2).1 c3).2.1 c4).2.1.1, ((((h.2.2 c1).2.2 c2).1 c3).2.1 c4).2.1.2.1⟩, ⟨rfl, ⟨⟨((((h.2.2 c1).2.2 c2).1 c3).2.1 c4).2.1.2.2.1, ((((h.2.2 c1).2.2 c2).1 c3).2.1 c4).2.1.2.2.2⟩, ((((h.2.2 c1).2.2 c2).1 c3).2.1 c4).2.2⟩⟩⟩⟩⟩⟩⟩, fun c => absurd (by decide : (0 : Int) = 0) c⟩⟩⟩, fun c => absurd (by decide : (0 : Int) = 0) c⟩⟩⟩, fun c4 => ⟨⟨rfl, (Or.inr rfl)⟩, ⟨⟨rfl, (hF 29)⟩, ⟨fun _ => ⟨⟨rfl, (((h.2.2 c1).2.2 c2).1 c3).1.1, (((h.2.2 c1).2.2 c2).1 c3).1.2⟩, ⟨rfl, ⟨fun _ => ⟨⟨((((h.2.2 c1).2.2 c2).1 c3).2.2 c4).1.1, ((((h.2.2 c1).2.2 c2).1 c3).2.2 c4).1.2⟩, ⟨rfl, ⟨rfl, ⟨fun c => absurd c (by decide : ¬ ((0 : Int) = 1)), fun _ => ⟨⟨((((h.2.2 c1).2.2 c2).1 c3).2.2 c4).2.1.1, ((((h.2.2 c1).2.2 c2).1 c3).2.2 c4).2.1.2.1⟩, ⟨rfl, ⟨⟨((((h.2.2 c1).2.2 c2).1 c3).2.2 c4).2.1.2.2.1, ((((h.2.2 c1).2.2 c2).1 c3).2.2 c4).2.1.2.2.2⟩, ((((h.2.2 c1).2.2 c2).1 c3).2.2 c4).2.2⟩⟩⟩⟩⟩⟩⟩, fun c => absurd (by decide : (0 : Int) = 0) c⟩⟩⟩, fun c => absurd (by decide : (0 : Int) = 0) c⟩⟩⟩⟩⟩⟩, fun c3 => ⟨⟨rfl, (Or.inr rfl)⟩, ⟨⟨rfl, (hF 29)⟩, ⟨fun _ => ⟨⟨rfl, (((h.2.2 c1).2.2 c2).2 c3).1.1, (((h.2.2 c1).2.2 c2).2 c3).1.2⟩, ⟨rfl, ⟨fun _ => ⟨⟨(((h.2.2 c1).2.2 c2).2 c3).2.1.1, (((h.2.2 c1).2.2 c2).2 c3).2.1.2⟩, ⟨rfl, ⟨rfl, ⟨fun c => absurd c (by decide : ¬ ((0 : Int) = 1)), fun _ => ⟨⟨(((h.2.2 c1).2.2 c2).2 c3).2.2.1.1, (((h.2.2 c1).2.2 c2).2 c3).2.2.1.2.1⟩, ⟨rfl, ⟨⟨(((h.2.2 c1).2.2 c2).2 c3).2.2.1.2.2.1, (((h.2.2 c1).2.2 c2).2 c3).2.2.1.2.2.2⟩, (((h.2.2 c1).2.2 c2).2 c3).2.2.2⟩⟩⟩⟩⟩⟩⟩, fun c => absurd (by decide : (0 : Int) = 0) c⟩⟩⟩, fun c => absurd (by decide : (0 : Int) = 0) c⟩⟩⟩⟩⟩⟩⟩⟩⟩⟩⟩⟩⟩⟩⟩⟩⟩)

theorem v_M_lay_28R (d : Nat) (p1 v3 : Int) (z4 : Option am_V) (σ : am_S) (K : am_S → Prop) (hF : MF σ) (h :
  (-2147483648 ≤ 2 * p1 ∧ 2 * p1 < 2147483648 ∧ -2147483648 ≤ (2 * p1) + 1 ∧ (2 * p1) + 1 < 2147483648 ∧ 0 ≤ ((2 * p1) + 1) ∧ ((2 * p1) + 1) < 24) ∧
  (((sI σ 44 (Int.toNat ((2 * p1) + 1))) ≤ v3 →
    am_Runs PP MLL d m_M_lay 23 [some (qr (31, 12, 89)), some (qi p1), some (qi 2), some (qi v3), z4] [] σ (kV K)) ∧
  (¬ ((sI σ 44 (Int.toNat ((2 * p1) + 1))) ≤ v3) →
    (-2147483648 ≤ 20 * ((2 * p1) + 1) ∧ 20 * ((2 * p1) + 1) < 2147483648 ∧ -2147483648 ≤ (20 * ((2 * p1) + 1)) + v3 ∧ (20 * ((2 * p1) + 1)) + v3 < 2147483648 ∧ 0 ≤ ((20 * ((2 * p1) + 1)) + v3) ∧ ((20 * ((2 * p1) + 1)) + v3) < 480) ∧
    (((sI σ 45 (Int.toNat ((20 * ((2 * p1) + 1)) + v3))) < 0 →
      (-2147483648 ≤ v3 + 1 ∧ v3 + 1 < 2147483648) ∧
      am_Runs PP MLL d m_M_lay 28 [some (qr (31, 12, 89)), some (qi p1), some (qi 1), some (qi (v3 + 1)), some (qi (sI σ 45 (Int.toNat ((20 * ((2 * p1) + 1)) + v3))))] [] σ (kV K)) ∧
    (¬ ((sI σ 45 (Int.toNat ((20 * ((2 * p1) + 1)) + v3))) < 0) →
      (((sI σ 31 30) = 0 →
        (0 ≤ (sI σ 45 (Int.toNat ((20 * ((2 * p1) + 1)) + v3))) ∧ (sI σ 45 (Int.toNat ((20 * ((2 * p1) + 1)) + v3))) < 40) ∧
        (((sI σ 50 (Int.toNat (sI σ 45 (Int.toNat ((20 * ((2 * p1) + 1)) + v3))))) = 0 →
          (-2147483648 ≤ (sI σ 31 31) + 0 ∧ (sI σ 31 31) + 0 < 2147483648) ∧
          (-2147483648 ≤ (sI σ 31 32) + 1 ∧ (sI σ 31 32) + 1 < 2147483648 ∧ -2147483648 ≤ v3 + 1 ∧ v3 + 1 < 2147483648) ∧
          am_Runs PP MLL d m_M_lay 28 [some (qr (31, 12, 89)), some (qi p1), some (qi 1), some (qi (v3 + 1)), some (qi (sI σ 45 (Int.toNat ((20 * ((2 * p1) + 1)) + v3))))] [] (putI (putI (putI (putI σ 31 30 0) 50 (Int.toNat (sI σ 45 (Int.toNat ((20 * ((2 * p1) + 1)) + v3)))) (-1)) 31 31 ((sI σ 31 31) + 0)) 31 32 ((sI σ 31 32) + 1)) (kV K)) ∧
        (¬ ((sI σ 50 (Int.toNat (sI σ 45 (Int.toNat ((20 * ((2 * p1) + 1)) + v3))))) = 0) →
          (-2147483648 ≤ (sI σ 31 31) + 0 ∧ (sI σ 31 31) + 0 < 2147483648) ∧
          (-2147483648 ≤ (sI σ 31 32) + 1 ∧ (sI σ 31 32) + 1 < 2147483648 ∧ -2147483648 ≤ v3 + 1 ∧ v3 + 1 < 2147483648) ∧
          am_Runs PP MLL d m_M_lay 28 [some (qr (31, 12, 89)), some (qi p1), some (qi 1), some (qi (v3 + 1)), some (qi (sI σ 45 (Int.toNat ((20 * ((2 * p1) + 1)) + v3))))] [] (putI (putI (putI (putI σ 31 30 1) 50 (Int.toNat (sI σ 45 (Int.toNat ((20 * ((2 * p1) + 1)) + v3)))) (-1)) 31 31 ((sI σ 31 31) + 0)) 31 32 ((sI σ 31 32) + 1)) (kV K)))) ∧
      (¬ ((sI σ 31 30) = 0) →
        (0 ≤ (sI σ 45 (Int.toNat ((20 * ((2 * p1) + 1)) + v3))) ∧ (sI σ 45 (Int.toNat ((20 * ((2 * p1) + 1)) + v3))) < 40) ∧
        (-2147483648 ≤ (sI σ 31 31) + 0 ∧ (sI σ 31 31) + 0 < 2147483648) ∧
        (-2147483648 ≤ (sI σ 31 32) + 1 ∧ (sI σ 31 32) + 1 < 2147483648 ∧ -2147483648 ≤ v3 + 1 ∧ v3 + 1 < 2147483648) ∧
        am_Runs PP MLL d m_M_lay 28 [some (qr (31, 12, 89)), some (qi p1), some (qi 1), some (qi (v3 + 1)), some (qi (sI σ 45 (Int.toNat ((20 * ((2 * p1) + 1)) + v3))))] [] (putI (putI (putI (putI σ 31 30 1) 50 (Int.toNat (sI σ 45 (Int.toNat ((20 * ((2 * p1) + 1)) + v3)))) (-1)) 31 31 ((sI σ 31 31) + 0)) 31 32 ((sI σ 31 32) + 1)) (kV K)))))))) : am_Runs PP MLL d m_M_lay 28 [some (qr (31, 12, 89)), some (qi p1), some (qi 1), some (qi v3), z4] [] σ (kV K) := am_wEF_ok (orc [(30, 44, 20, 24), (39, 45, 20, 480), (58, 50, 20, 40), (67, 50, 20, 40)]) 200 (⟨⟨rfl, (hF 20)⟩, ⟨⟨h.1.1, h.1.2.1⟩, ⟨⟨h.1.2.2.1, h.1.2.2.2.1⟩, ⟨⟨rfl, h.1.2.2.2.2.1, h.1.2.2.2.2.2⟩, ⟨fun c1 => ⟨⟨(by decide : (-2147483648 : Int) ≤ 2), (by decide : (2 : Int) < 2147483648)⟩, (h.2.1 c1)⟩, fun c1 => ⟨⟨rfl, (hF 21)⟩, ⟨⟨h.1.1, h.1.2.1⟩, ⟨⟨h.1.2.2.1, h.1.2.2.2.1⟩, ⟨⟨(h.2.2 c1).1.1, (h.2.2 c1).1.2.1⟩, ⟨⟨(h.2.2 c1).1.2.2.1, (h.2.2 c1).1.2.2.2.1⟩, ⟨⟨rfl, (h.2.2 c1).1.2.2.2.2.1, (h.2.2 c1).1.2.2.2.2.2⟩, ⟨fun c2 => ⟨⟨((h.2.2 c1).2.1 c2).1.1, ((h.2.2 c1).2.1 c2).1.2⟩, ((h.2.2 c1).2.1 c2).2⟩, fun c2 => ⟨rfl, ⟨fun c3 => ⟨⟨rfl, (hF 29)⟩, ⟨⟨rfl, (((h.2.2 c1).2.2 c2).1 c3).1.1, (((h.2.2 c1).2.2 c2).1 c3).1.2⟩, ⟨fun c4 => ⟨⟨rfl, (Or.inl rfl)⟩, ⟨⟨rfl, (hF 29)⟩, ⟨fun c => absurd c (by decide : ¬ ((1 : Int) = 0)), fun _ => ⟨⟨rfl, (((h.2.2 c1).2.2 c2).1 c3).1.1, (((h.2.2 c1).2.2 c2).1 c3).1.2⟩, ⟨rfl, ⟨fun c => absurd c (by decide : ¬ ((1 : Int) = 0)), fun _ => ⟨⟨((((h.2.2 c1).2.2 c2).1 c3).2.1 c4).1.1, ((((h.2.2 c1).2.2 c2).1 c3).2.1 c4).1.2⟩, ⟨rfl, ⟨rfl, ⟨fun _ => ⟨⟨((((h.2.2 c1).2.2 c2).1 c3).2.1 c4).2.1.1, ((((h.2.2 c1).2.2 c2).1 c3).2.1 c4).2.1.2.1⟩, ⟨rfl, ⟨⟨((((h.2.2 c1).2.2 c2).1 c3).2.1 c4).2.1.2.2.1, ((((h.2.2 c1).2.2 c2).1 c3).2.1 c4).2.1.2.2.2⟩, ((((h.2.2 c1).2.2 c2).1 c3).2.1 c4).2.2⟩⟩⟩, fun c => absurd (by decide : (1 : Int) = 1) c⟩⟩⟩⟩⟩⟩⟩⟩⟩⟩, fun c4 => ⟨⟨rfl, (Or.inr rfl)⟩, ⟨⟨rfl, (hF 29)⟩, ⟨fun c => absurd c (by decide : ¬ ((1 : Int) = 0)), fun _ => ⟨⟨rfl, (((h.2.2 c1).2.2 c2).1 c3).1.1, (((h.2.2 c1).2.2 c2).1 c3).1.2⟩, ⟨rfl, ⟨fun c => absurd c (by decide : ¬ ((1 : Int) = 0)), fun _ => ⟨⟨((((h.2.2 c1).2.2 c2).1 c3).2.2 c4).1.1, ((((h.2.2 c1).2.2 c2).1 c3).2.2 c4).1.2⟩, ⟨rfl, ⟨rfl, ⟨fun _ => ⟨⟨((((h.2.2 c1).2.2 c2).1 c3).2.2 c4).2.1.1, ((((h.2.2 c1).2.2 c2).1 c3).2.2 c4).2.1.2.1⟩, ⟨rfl, ⟨⟨((((h.2.2 c1).2.2 c2).1 c3).2.2 c4).2.1.2.2.1, ((((h.2.2 c1).2.2 c2).1 c3).2.2 c4).2.1.2.2.2⟩, ((((h.2.2 c1).2.2 c2).1 c3).2.2 c4).2.2⟩⟩⟩, fun c => absurd (by decide : (1 : Int) = 1) c⟩⟩⟩⟩⟩⟩⟩⟩⟩⟩⟩⟩⟩, fun c3 => ⟨⟨rfl, (Or.inr rfl)⟩, ⟨⟨rfl, (hF 29)⟩, ⟨fun c => absurd c (by decide : ¬ ((1 : Int) = 0)), fun _ => ⟨⟨rfl, (((h.2.2 c1).2.2 c2).2 c3).1.1, (((h.2.2 c1).2.2 c2).2 c3).1.2⟩, ⟨rfl, ⟨fun c => absurd c (by decide : ¬ ((1 : Int) = 0)), fun _ => ⟨⟨(((h.2.2 c1).2.2 c2).2 c3).2.1.1, (((h.2.2 c1).2.2 c2).2 c3).2.1.2⟩, ⟨rfl, ⟨rfl, ⟨fun _ => ⟨⟨(((h.2.2 c1).2.2 c2).2 c3).2.2.1.1, (((h.2.2 c1).2.2 c2).2 c3).2.2.1.2.1⟩, ⟨rfl, ⟨⟨(((h.2.2 c1).2.2 c2).2 c3).2.2.1.2.2.1, (((h.2.2 c1).2.2 c2).2 c3).2.2.1.2.2.2⟩, (((h.2.2 c1).2.2 c2).2 c3).2.2.2⟩⟩⟩, fun c => absurd (by decide : (1 : Int) = 1) c⟩⟩⟩⟩⟩⟩⟩⟩⟩⟩⟩⟩⟩⟩⟩⟩⟩⟩⟩⟩⟩⟩⟩⟩)

