/-! the reference: a record of a case that answers yes -/
/-- bits of the sides -/
def BSd (f : Nat → Int) (N i l r : Nat) : Prop := l < 4096 ∧ r < 4096 ∧ ∀ c, bt l c = (if c < i ∧ c < N ∧ f c = 1 then 1 else 0) ∧ bt r c = (if c < i ∧ c < N ∧ f c = -1 then 1 else 0)
theorem BSd_s {f : Nat → Int} {N i l r : Nat} (hf : -1 ≤ f i ∧ f i ≤ 1) (hi : i < N) (h12 : N ≤ 12) (h : BSd f N i l r) : ∃ l' r' : Nat, a_or (l : Int) (if f i ≤ 0 then (0 : Int) else a_shl 1 (i : Int)) = l' ∧ a_or (r : Int) (if 0 ≤ f i then (0 : Int) else a_shl 1 (i : Int)) = r' ∧ BSd f N (i + 1) l' r' := by
  obtain ⟨h1, h2, h3⟩ := h
  have z : ∀ x : Nat, x < 4096 → a_or (x : Int) (0 : Int) = (x : Int) := by
    intro x hx
    have := a_or_n (x := x) (y := 0) (by omega) (by omega)
    rw [Nat.or_zero] at this
    exact this
  have nx : ∀ (x : Nat) (v : Int), (∀ c, bt x c = if c < i ∧ c < N ∧ f c = v then 1 else 0) → f i ≠ v → ∀ c, bt x c = if c < i + 1 ∧ c < N ∧ f c = v then 1 else 0 := by
    intro x v hx hv c
    rw [hx c]
    by_cases e : c = i
    · rw [e, if_neg (by omega), if_neg (fun w => hv w.2.2)]
    · by_cases e2 : c < i ∧ c < N ∧ f c = v
      · rw [if_pos e2, if_pos ⟨by omega, e2.2⟩]
      · rw [if_neg e2, if_neg (fun w => e2 ⟨by omega, w.2⟩)]
  have ny : ∀ (x : Nat) (v : Int), (∀ c, bt x c = if c < i ∧ c < N ∧ f c = v then 1 else 0) → f i = v → ∀ c, bt (x ||| 2 ^ i) c = if c < i + 1 ∧ c < N ∧ f c = v then 1 else 0 := by
    intro x v hx hv c
    rw [bt_or, bt_pow, hx c]
    by_cases e : c = i
    · rw [e, if_neg (by omega), if_pos rfl, if_pos ⟨by omega, hi, hv⟩]
      rfl
    · rw [if_neg e]
      by_cases e2 : c < i ∧ c < N ∧ f c = v
      · rw [if_pos e2, if_pos ⟨by omega, e2.2⟩]
        rfl
      · rw [if_neg e2, if_neg (fun w => e2 ⟨by omega, w.2⟩)]
        rfl
  by_cases c1 : f i ≤ 0
  · rw [if_pos c1, z l h1]
    by_cases c2 : 0 ≤ f i
    · rw [if_pos c2, z r h2]
      exact ⟨l, r, rfl, rfl, h1, h2, fun c => ⟨nx l 1 (fun c => (h3 c).1) (by omega) c, nx r (-1) (fun c => (h3 c).2) (by omega) c⟩⟩
    · rw [if_neg c2]
      obtain ⟨e1, e2⟩ := a_orshl h2 (i := i) (by omega)
      exact ⟨l, _, rfl, e1, h1, e2, fun c => ⟨nx l 1 (fun c => (h3 c).1) (by omega) c, ny r (-1) (fun c => (h3 c).2) (by omega) c⟩⟩
  · rw [if_neg c1, if_pos (by omega), z r h2]
    obtain ⟨e1, e2⟩ := a_orshl h1 (i := i) (by omega)
    exact ⟨_, r, e1, rfl, e2, h2, fun c => ⟨ny l 1 (fun c => (h3 c).1) (by omega) c, nx r (-1) (fun c => (h3 c).2) (by omega) c⟩⟩
theorem sm_two {f : Nat → Int} : ∀ n p q, (∀ i, i < n → 0 ≤ f i) → p < q → q < n → 1 ≤ f p → 1 ≤ f q → 2 ≤ sm f n
  | 0, _, q, _, _, h, _, _ => absurd h (Nat.not_lt_zero q)
  | n + 1, p, q, h0, hpq, hq, hp1, hq1 => by
    show 2 ≤ sm f n + f n
    have hn := h0 n (by omega)
    by_cases e : q = n
    · have one : ∀ m, (∀ i, i < m → 0 ≤ f i) → p < m → 1 ≤ sm f m := by
        intro m
        induction m with
        | zero => intro _ w; omega
        | succ m ih =>
          intro w1 w2
          show 1 ≤ sm f m + f m
          have := w1 m (by omega)
          by_cases e2 : p = m
          · have nn : ∀ k, (∀ i, i < k → 0 ≤ f i) → 0 ≤ sm f k := by
              intro k
              induction k with
              | zero => intro _; exact Int.le_refl _
              | succ k ihk =>
                intro w3
                show 0 ≤ sm f k + f k
                have := ihk (fun i hi => w3 i (by omega))
                have := w3 k (by omega)
                omega
            have := nn m (fun i hi => w1 i (by omega))
            rw [e2] at hp1
            omega
          · have := ih (fun i hi => w1 i (by omega)) (by omega)
            omega
      have := one n (fun i hi => h0 i (by omega)) (by omega)
      rw [e] at hq1
      omega
    · have := sm_two n p q (fun i hi => h0 i (by omega)) hpq (by omega) hp1 hq1
      omega
theorem mn_one {X : sX} {c : Nat → Int} (h : mn X c = 1) {p q : Nat} (hp : p < xM X) (hq : q < xM X) (h1 : 0 ≤ c p) (h2 : 0 ≤ c q) : p = q := by
  have key : ∀ a b, a < b → b < xM X → 0 ≤ c a → 0 ≤ c b → 2 ≤ mn X c := by
    intro a b hab hb ha1 hb1
    refine sm_two (xM X) a b (fun i _ => ?_) hab hb ?_ ?_
    · show 0 ≤ (if 0 ≤ c i then (1 : Int) else 0)
      split <;> omega
    · show 1 ≤ (if 0 ≤ c a then (1 : Int) else 0)
      rw [if_pos ha1]
      omega
    · show 1 ≤ (if 0 ≤ c b then (1 : Int) else 0)
      rw [if_pos hb1]
      omega
  rcases Nat.lt_trichotomy p q with w | w | w
  · have := key p q w hq h1 h2
    omega
  · exact w
  · have := key q p w hp h2 h1
    omega
/-- what a new record holds -/
def KPP (σ s : am_S) (lv r : Nat) (X : sX) (tr : Nat → Nat) (c f : Nat → Int) : Prop := s.2 = σ.2 ∧ (∀ x, (x < 67 ∨ 73 < x) → x ≠ 31 → sI s x = sI σ x) ∧ (∀ x, 67 ≤ x → x ≤ 73 → ∀ j, j ≠ r → sI s x j = sI σ x j) ∧ (∀ j, j ≠ 60 → sI s 31 j = sI σ 31 j) ∧ sI s 31 60 = ((r + 1 : Nat) : Int) ∧ sI s 67 r = (if mn X c = 1 then 0 else sI σ 59 lv) ∧ (∃ l r' : Nat, sI s 68 r = l ∧ sI s 69 r = r' ∧ BSd f (xN X) (if mn X c = 1 then 0 else xN X) l r') ∧ sI s 70 r = (if mn X c = 1 then ((tr (fs X c) : Nat) : Int) else -1000) ∧ sI s 71 r = mn X c ∧ sI s 72 r = lv ∧ sI s 73 r = (if lv = 0 then 0 else sI σ 57 (lv - 1))
theorem v_M_keep_0 (d : Nat) (p1 p2 : Int) (σ : am_S) (K : am_S → Prop) (hF : MF σ) (hT : sI σ 31 26 = 0) (h :
  (((sI σ 31 59) = 0 →
    K σ) ∧
  (¬ ((sI σ 31 59) = 0) →
    ((p2 = 0 →
      K σ) ∧
    (¬ (p2 = 0) →
      (((sI σ 31 60) = 6000 →
        K σ) ∧
      (¬ ((sI σ 31 60) = 6000) →
        ((¬ (p2 = 1) → 0 ≤ p1) ∧ (¬ (p2 = 1) → p1 < 14)) ∧
        (0 ≤ (sI σ 31 60) ∧ (sI σ 31 60) < 6000) ∧
        am_Runs PP MLL d m_M_keep 38 [some (qr (31, 12, 89)), some (qi p1), some (qi p2), some (qi (sI σ 31 60)), some (qi 0)] [] (putI (putI (putI σ 67 (Int.toNat (sI σ 31 60)) (if p2 = 1 then (0 : Int) else (sI σ 59 (Int.toNat p1)))) 68 (Int.toNat (sI σ 31 60)) 0) 69 (Int.toNat (sI σ 31 60)) 0) (kV K)))))))) : am_Runs PP MLL d m_M_keep 0 [some (qr (31, 12, 89)), some (qi p1), some (qi p2), none, none] [] σ (kV K) := am_wEC_ok (orc [(14, 67, 20, 6000), (22, 59, 20, 14)]) [25, 64, 85, 124, 150] 200 (⟨rfl, ⟨fun c1 => (h.1 c1), fun c1 => ⟨fun c2 => ((h.2 c1).1 c2), fun c2 => ⟨rfl, ⟨fun c3 => (((h.2 c1).2 c2).1 c3), fun c3 => ⟨rfl, ⟨⟨rfl, (hF 61)⟩, am_use (fun H5 => ⟨fun c4 => (Eq.mp (congrArg (fun z => am_Runs _ _ _ _ _ _ (qi z :: _) _ _) (if_pos c4 : (if p2 = 1 then (0 : Int) else sI σ 59 (Int.toNat p1)) = 0)) H5), fun c4 => ⟨⟨rfl, (hF 49)⟩, ⟨⟨rfl, ((((h.2 c1).2 c2).2 c3).1.1 c4), ((((h.2 c1).2 c2).2 c3).1.2 c4)⟩, (Eq.mp (congrArg (fun z => am_Runs _ _ _ _ _ _ (qi z :: _) _ _) (if_neg c4 : (if p2 = 1 then (0 : Int) else sI σ 59 (Int.toNat p1)) = sI σ 59 (Int.toNat p1))) H5)⟩⟩⟩) (am_wEC_ok (orc [(27, 68, 20, 6000), (32, 69, 20, 6000)]) [25, 64, 85, 124, 150] 200 (⟨⟨rfl, (((h.2 c1).2 c2).2 c3).2.1.1, (((h.2 c1).2 c2).2 c3).2.1.2⟩, ⟨⟨rfl, (hF 62)⟩, ⟨⟨rfl, (((h.2 c1).2 c2).2 c3).2.1.1, (((h.2 c1).2 c2).2 c3).2.1.2⟩, ⟨⟨rfl, (hF 63)⟩, ⟨⟨rfl, (((h.2 c1).2 c2).2 c3).2.1.1, (((h.2 c1).2 c2).2 c3).2.1.2⟩, (((h.2 c1).2 c2).2 c3).2.2⟩⟩⟩⟩⟩))⟩⟩⟩⟩⟩⟩⟩)

theorem v_M_keep_38 (d : Nat) (p1 p2 v3 v4 : Int) (σ : am_S) (K : am_S → Prop) (hF : MF σ) (hT : sI σ 31 26 = 0) (h :
  (((sI σ 31 2) ≤ v4 →
    (0 ≤ v3 ∧ v3 < 6000) ∧
    am_Runs PP MLL d m_M_keep 96 [some (qr (31, 12, 89)), some (qi p1), some (qi p2), some (qi v3), some (qi 0)] [] (putI σ 70 (Int.toNat v3) (-1000)) (kV K)) ∧
  (¬ ((sI σ 31 2) ≤ v4) →
    ((p2 ≤ 1 →
      (0 ≤ v3 ∧ v3 < 6000) ∧
      am_Runs PP MLL d m_M_keep 96 [some (qr (31, 12, 89)), some (qi p1), some (qi p2), some (qi v3), some (qi 0)] [] (putI σ 70 (Int.toNat v3) (-1000)) (kV K)) ∧
    (¬ (p2 ≤ 1) →
      (0 ≤ v3 ∧ v3 < 6000 ∧ -2147483648 ≤ 12 * p1 ∧ 12 * p1 < 2147483648 ∧ -2147483648 ≤ (12 * p1) + v4 ∧ (12 * p1) + v4 < 2147483648 ∧ 0 ≤ ((12 * p1) + v4) ∧ ((12 * p1) + v4) < 168) ∧
      (-2147483648 ≤ v4 + 1 ∧ v4 + 1 < 2147483648) ∧
      am_Runs PP MLL d m_M_keep 38 [some (qr (31, 12, 89)), some (qi p1), some (qi p2), some (qi v3), some (qi (v4 + 1))] [] (putI (putI σ 68 (Int.toNat v3) (a_or (sI σ 68 (Int.toNat v3)) (if (sI σ 66 (Int.toNat ((12 * p1) + v4))) ≤ 0 then (0 : Int) else (a_shl 1 v4)))) 69 (Int.toNat v3) (a_or (sI σ 69 (Int.toNat v3)) (if 0 ≤ (sI σ 66 (Int.toNat ((12 * p1) + v4))) then (0 : Int) else (a_shl 1 v4)))) (kV K)))))) : am_Runs PP MLL d m_M_keep 38 [some (qr (31, 12, 89)), some (qi p1), some (qi p2), some (qi v3), some (qi v4)] [] σ (kV K) := am_wEC_ok (orc [(46, 68, 20, 6000), (51, 66, 20, 168), (90, 70, 20, 6000)]) [25, 64, 85, 124, 150] 200 (⟨rfl, ⟨fun c4 => ⟨⟨rfl, (hF 64)⟩, ⟨⟨rfl, (h.1 c4).1.1, (h.1 c4).1.2⟩, (h.1 c4).2⟩⟩, fun c4 => ⟨fun c7 => ⟨⟨rfl, (hF 64)⟩, ⟨⟨rfl, ((h.2 c4).1 c7).1.1, ((h.2 c4).1 c7).1.2⟩, ((h.2 c4).1 c7).2⟩⟩, fun c7 => ⟨⟨rfl, (hF 62)⟩, ⟨⟨rfl, ((h.2 c4).2 c7).1.1, ((h.2 c4).2 c7).1.2.1⟩, ⟨⟨rfl, (hF 56)⟩, ⟨⟨((h.2 c4).2 c7).1.2.2.1, ((h.2 c4).2 c7).1.2.2.2.1⟩, ⟨⟨((h.2 c4).2 c7).1.2.2.2.2.1, ((h.2 c4).2 c7).1.2.2.2.2.2.1⟩, ⟨⟨rfl, ((h.2 c4).2 c7).1.2.2.2.2.2.2.1, ((h.2 c4).2 c7).1.2.2.2.2.2.2.2⟩, am_use (fun H11 => ⟨fun c8 => (Eq.mp (congrArg (fun z => am_Runs _ _ _ _ _ _ (qi z :: _) _ _) (if_pos c8 : (if (sI σ 66 (Int.toNat ((12 * p1) + v4))) ≤ 0 then (0 : Int) else a_shl 1 v4) = 0)) H11), fun c8 => (Eq.mp (congrArg (fun z => am_Runs _ _ _ _ _ _ (qi z :: _) _ _) (if_neg c8 : (if (sI σ 66 (Int.toNat ((12 * p1) + v4))) ≤ 0 then (0 : Int) else a_shl 1 v4) = a_shl 1 v4)) H11)⟩) (am_wEC_ok (orc [(67, 69, 20, 6000), (72, 66, 20, 168)]) [25, 64, 85, 124, 150] 200 (⟨⟨rfl, ((h.2 c4).2 c7).1.1, ((h.2 c4).2 c7).1.2.1⟩, ⟨⟨rfl, (hF 63)⟩, ⟨⟨rfl, ((h.2 c4).2 c7).1.1, ((h.2 c4).2 c7).1.2.1⟩, ⟨⟨rfl, (hF 56)⟩, ⟨⟨((h.2 c4).2 c7).1.2.2.1, ((h.2 c4).2 c7).1.2.2.2.1⟩, ⟨⟨((h.2 c4).2 c7).1.2.2.2.2.1, ((h.2 c4).2 c7).1.2.2.2.2.2.1⟩, ⟨⟨rfl, ((h.2 c4).2 c7).1.2.2.2.2.2.2.1, ((h.2 c4).2 c7).1.2.2.2.2.2.2.2⟩, am_use (fun H10 => ⟨fun c9 => (Eq.mp (congrArg (fun z => am_Runs _ _ _ _ _ _ (qi z :: _) _ _) (if_pos c9 : (if 0 ≤ (sI σ 66 (Int.toNat ((12 * p1) + v4))) then (0 : Int) else a_shl 1 v4) = 0)) H10), fun c9 => (Eq.mp (congrArg (fun z => am_Runs _ _ _ _ _ _ (qi z :: _) _ _) (if_neg c9 : (if 0 ≤ (sI σ 66 (Int.toNat ((12 * p1) + v4))) then (0 : Int) else a_shl 1 v4) = a_shl 1 v4)) H10)⟩) (am_wEC_ok (orc []) [25, 64, 85, 124, 150] 200 (⟨⟨rfl, ((h.2 c4).2 c7).1.1, ((h.2 c4).2 c7).1.2.1⟩, ⟨⟨((h.2 c4).2 c7).2.1.1, ((h.2 c4).2 c7).2.1.2⟩, ((h.2 c4).2 c7).2.2⟩⟩))⟩⟩⟩⟩⟩⟩⟩))⟩⟩⟩⟩⟩⟩⟩⟩⟩)

theorem v_M_keep_96 (d : Nat) (p1 p2 v3 v4 : Int) (σ : am_S) (K : am_S → Prop) (hF : MF σ) (hT : sI σ 31 26 = 0) (h :
  (((sI σ 31 40) ≤ v4 →
    (0 ≤ v3 ∧ v3 < 6000) ∧
    ((¬ (p1 = 0) → -2147483648 ≤ p1 - 1) ∧ (¬ (p1 = 0) → p1 - 1 < 2147483648) ∧ (¬ (p1 = 0) → 0 ≤ (p1 - 1)) ∧ (¬ (p1 = 0) → (p1 - 1) < 14)) ∧
    (-2147483648 ≤ (sI σ 31 60) + 1 ∧ (sI σ 31 60) + 1 < 2147483648) ∧
    K (putI (putI (putI (putI σ 71 (Int.toNat v3) p2) 72 (Int.toNat v3) p1) 73 (Int.toNat v3) (if p1 = 0 then (0 : Int) else (sI σ 57 (Int.toNat (p1 - 1))))) 31 60 ((sI σ 31 60) + 1))) ∧
  (¬ ((sI σ 31 40) ≤ v4) →
    ((p2 = 1 →
      (-2147483648 ≤ 60 * p1 ∧ 60 * p1 < 2147483648 ∧ -2147483648 ≤ (60 * p1) + v4 ∧ (60 * p1) + v4 < 2147483648 ∧ 0 ≤ ((60 * p1) + v4) ∧ ((60 * p1) + v4) < 840) ∧
      ((((sI σ 53 (Int.toNat ((60 * p1) + v4))) < 0) → 0 ≤ v3) ∧ (((sI σ 53 (Int.toNat ((60 * p1) + v4))) < 0) → v3 < 6000) ∧ (¬ ((sI σ 53 (Int.toNat ((60 * p1) + v4))) < 0) → 0 ≤ v4) ∧ (¬ ((sI σ 53 (Int.toNat ((60 * p1) + v4))) < 0) → v4 < 60)) ∧
      (0 ≤ v3 ∧ v3 < 6000 ∧ -2147483648 ≤ v4 + 1 ∧ v4 + 1 < 2147483648) ∧
      am_Runs PP MLL d m_M_keep 96 [some (qr (31, 12, 89)), some (qi p1), some (qi p2), some (qi v3), some (qi (v4 + 1))] [] (putI σ 70 (Int.toNat v3) (if (sI σ 53 (Int.toNat ((60 * p1) + v4))) < 0 then (sI σ 70 (Int.toNat v3) : Int) else (sI σ 51 (Int.toNat v4)))) (kV K)) ∧
    (¬ (p2 = 1) →
      (0 ≤ v3 ∧ v3 < 6000) ∧
      ((¬ (p1 = 0) → -2147483648 ≤ p1 - 1) ∧ (¬ (p1 = 0) → p1 - 1 < 2147483648) ∧ (¬ (p1 = 0) → 0 ≤ (p1 - 1)) ∧ (¬ (p1 = 0) → (p1 - 1) < 14)) ∧
      (-2147483648 ≤ (sI σ 31 60) + 1 ∧ (sI σ 31 60) + 1 < 2147483648) ∧
      K (putI (putI (putI (putI σ 71 (Int.toNat v3) p2) 72 (Int.toNat v3) p1) 73 (Int.toNat v3) (if p1 = 0 then (0 : Int) else (sI σ 57 (Int.toNat (p1 - 1))))) 31 60 ((sI σ 31 60) + 1))))))) : am_Runs PP MLL d m_M_keep 96 [some (qr (31, 12, 89)), some (qi p1), some (qi p2), some (qi v3), some (qi v4)] [] σ (kV K) := am_wEC_ok (orc [(104, 70, 20, 6000), (107, 53, 20, 840), (116, 51, 20, 60), (121, 70, 20, 6000), (128, 71, 20, 6000), (133, 72, 20, 6000), (138, 73, 20, 6000), (145, 57, 20, 14)]) [25, 64, 85, 124, 150] 200 (⟨rfl, ⟨fun c4 => ⟨⟨rfl, (hF 65)⟩, ⟨⟨rfl, (h.1 c4).1.1, (h.1 c4).1.2⟩, ⟨⟨rfl, (hF 66)⟩, ⟨⟨rfl, (h.1 c4).1.1, (h.1 c4).1.2⟩, ⟨⟨rfl, (hF 67)⟩, am_use (fun H6 => ⟨fun c5 => (Eq.mp (congrArg (fun z => am_Runs _ _ _ _ _ _ (qi z :: _) _ _) (if_pos c5 : (if p1 = 0 then (0 : Int) else sI σ 57 (Int.toNat (p1 - 1))) = 0)) H6), fun c5 => ⟨⟨rfl, (hF 47)⟩, ⟨⟨((h.1 c4).2.1.1 c5), ((h.1 c4).2.1.2.1 c5)⟩, ⟨⟨rfl, ((h.1 c4).2.1.2.2.1 c5), ((h.1 c4).2.1.2.2.2 c5)⟩, (Eq.mp (congrArg (fun z => am_Runs _ _ _ _ _ _ (qi z :: _) _ _) (if_neg c5 : (if p1 = 0 then (0 : Int) else sI σ 57 (Int.toNat (p1 - 1))) = sI σ 57 (Int.toNat (p1 - 1)))) H6)⟩⟩⟩⟩) (am_wEC_ok (orc []) [25, 64, 85, 124, 150] 200 (⟨⟨rfl, (h.1 c4).1.1, (h.1 c4).1.2⟩, ⟨rfl, ⟨⟨(h.1 c4).2.2.1.1, (h.1 c4).2.2.1.2⟩, ⟨rfl, (h.1 c4).2.2.2⟩⟩⟩⟩))⟩⟩⟩⟩⟩, fun c4 => ⟨fun c9 => ⟨⟨rfl, (hF 64)⟩, ⟨⟨rfl, (hF 43)⟩, ⟨⟨((h.2 c4).1 c9).1.1, ((h.2 c4).1 c9).1.2.1⟩, ⟨⟨((h.2 c4).1 c9).1.2.2.1, ((h.2 c4).1 c9).1.2.2.2.1⟩, ⟨⟨rfl, ((h.2 c4).1 c9).1.2.2.2.2.1, ((h.2 c4).1 c9).1.2.2.2.2.2⟩, am_use (fun H11 => ⟨fun c10 => ⟨⟨rfl, (hF 64)⟩, ⟨⟨rfl, (((h.2 c4).1 c9).2.1.1 c10), (((h.2 c4).1 c9).2.1.2.1 c10)⟩, (Eq.mp (congrArg (fun z => am_Runs _ _ _ _ _ _ (qi z :: _) _ _) (if_pos c10 : (if (sI σ 53 (Int.toNat ((60 * p1) + v4))) < 0 then (sI σ 70 (Int.toNat v3) : Int) else sI σ 51 (Int.toNat v4)) = sI σ 70 (Int.toNat v3))) H11)⟩⟩, fun c10 => ⟨⟨rfl, (hF 41)⟩, ⟨⟨rfl, (((h.2 c4).1 c9).2.1.2.2.1 c10), (((h.2 c4).1 c9).2.1.2.2.2 c10)⟩, (Eq.mp (congrArg (fun z => am_Runs _ _ _ _ _ _ (qi z :: _) _ _) (if_neg c10 : (if (sI σ 53 (Int.toNat ((60 * p1) + v4))) < 0 then (sI σ 70 (Int.toNat v3) : Int) else sI σ 51 (Int.toNat v4)) = sI σ 51 (Int.toNat v4))) H11)⟩⟩⟩) (am_wEC_ok (orc []) [25, 64, 85, 124, 150] 200 (⟨⟨rfl, ((h.2 c4).1 c9).2.2.1.1, ((h.2 c4).1 c9).2.2.1.2.1⟩, ⟨⟨((h.2 c4).1 c9).2.2.1.2.2.1, ((h.2 c4).1 c9).2.2.1.2.2.2⟩, ((h.2 c4).1 c9).2.2.2⟩⟩))⟩⟩⟩⟩⟩, fun c9 => ⟨⟨rfl, (hF 65)⟩, ⟨⟨rfl, ((h.2 c4).2 c9).1.1, ((h.2 c4).2 c9).1.2⟩, ⟨⟨rfl, (hF 66)⟩, ⟨⟨rfl, ((h.2 c4).2 c9).1.1, ((h.2 c4).2 c9).1.2⟩, ⟨⟨rfl, (hF 67)⟩, am_use (fun H13 => ⟨fun c12 => (Eq.mp (congrArg (fun z => am_Runs _ _ _ _ _ _ (qi z :: _) _ _) (if_pos c12 : (if p1 = 0 then (0 : Int) else sI σ 57 (Int.toNat (p1 - 1))) = 0)) H13), fun c12 => ⟨⟨rfl, (hF 47)⟩, ⟨⟨(((h.2 c4).2 c9).2.1.1 c12), (((h.2 c4).2 c9).2.1.2.1 c12)⟩, ⟨⟨rfl, (((h.2 c4).2 c9).2.1.2.2.1 c12), (((h.2 c4).2 c9).2.1.2.2.2 c12)⟩, (Eq.mp (congrArg (fun z => am_Runs _ _ _ _ _ _ (qi z :: _) _ _) (if_neg c12 : (if p1 = 0 then (0 : Int) else sI σ 57 (Int.toNat (p1 - 1))) = sI σ 57 (Int.toNat (p1 - 1)))) H13)⟩⟩⟩⟩) (am_wEC_ok (orc []) [25, 64, 85, 124, 150] 200 (⟨⟨rfl, ((h.2 c4).2 c9).1.1, ((h.2 c4).2 c9).1.2⟩, ⟨rfl, ⟨⟨((h.2 c4).2 c9).2.2.1.1, ((h.2 c4).2 c9).2.2.1.2⟩, ⟨rfl, ((h.2 c4).2 c9).2.2.2⟩⟩⟩⟩))⟩⟩⟩⟩⟩⟩⟩⟩)

theorem MF_I {σ s : am_S} (h : MF σ) (h2 : s.2 = σ.2) : MF s := by
  have er : sR s = sR σ := by
    funext a j
    exact R2' h2 a j
  unfold MF
  rw [er]
  exact h
theorem c_M_keep (d : Nat) {lv r : Nat} {X : sX} {c f : Nat → Int} {tr : Nat → Nat} {σ : am_S} {K : am_S → Prop} (hF : MF σ) (hT : sI σ 31 26 = 0) (hX : XV X) (h2 : sI σ 31 2 = xN X) (h40 : sI σ 31 40 = xM X) (hlv : lv < 14) (hk : sI σ 31 59 = 1) (hr : sI σ 31 60 = r) (hr6 : r < 6000) (hm : ¬ mn X c ≤ 0) (hc : LC σ lv X c) (htr : ∀ s, s < xM X → sI σ 51 s = tr s) (hf : ¬ mn X c = 1 → ∀ q, q < xN X → sI σ 66 (12 * lv + q) = f q ∧ -1 ≤ f q ∧ f q ≤ 1)
    (h : ∀ s, KPP σ s lv r X tr c f → K s) : am_Calls PP MLL (d + 1) m_M_keep [qr (31, 12, 89), qi (lv : Int), qi (mn X c)] σ (kV K) := by
  have hN := hX.1
  have hM := hX.2.1
  refine v_M_keep_0 d _ _ σ K hF hT ⟨fun w => by omega, fun _ => ⟨fun w => by omega, fun _ => ⟨fun w => by omega, fun _ => ⟨⟨fun _ => by omega, fun _ => by omega⟩, by omega, ?_⟩⟩⟩⟩
  rw [hr, Int.toNat_natCast, Int.toNat_natCast]
  -- stores that differ from the first one in the record alone
  have last : ∀ s z4, s.2 = σ.2 → (∀ x, (x < 67 ∨ 70 < x) → sI s x = sI σ x) → (∀ x, 67 ≤ x → x ≤ 70 → ∀ j, j ≠ r → sI s x j = sI σ x j) → sI s 67 r = (if mn X c = 1 then 0 else sI σ 59 lv) → (∃ l r' : Nat, sI s 68 r = l ∧ sI s 69 r = r' ∧ BSd f (xN X) (if mn X c = 1 then 0 else xN X) l r') → sI s 70 r = -1000 → (z4 : Int) = 0 → am_Runs PP MLL d m_M_keep 96 [some (qr (31, 12, 89)), some (qi (lv : Int)), some (qi (mn X c)), some (qi (r : Int)), some (qi z4)] [] s (kV K) := by
    intro s z4 a1 a2 a3 a4 a5 a6 hz
    rw [hz]
    have fin : ∀ s', s'.2 = σ.2 → (∀ x, x ≠ 70 → sI s' x = sI s x) → (∀ j, j ≠ r → sI s' 70 j = sI s 70 j) → sI s' 70 r = (if mn X c = 1 then ((tr (fs X c) : Nat) : Int) else -1000) → K (putI (putI (putI (putI s' 71 r (mn X c)) 72 r (lv : Int)) 73 r (if (lv : Int) = 0 then (0 : Int) else (sI s' 57 (Int.toNat ((lv : Int) - 1))))) 31 60 ((sI s' 31 60) + 1)) := by
      intro s' b1 b2 b3 b4
      have e31 : sI s' 31 = sI σ 31 := by rw [b2 31 (by decide), a2 31 (by omega)]
      have e57 : sI s' 57 = sI σ 57 := by rw [b2 57 (by decide), a2 57 (by omega)]
      refine h _ ⟨b1, fun x x1 x2 => ?_, fun x x1 x2 j hj => ?_, fun j hj => ?_, ?_, ?_, ?_, ?_, ?_, ?_, ?_⟩
      · rw [put_ne x2, put_ne (by omega), put_ne (by omega), put_ne (by omega), b2 x (by omega), a2 x (by omega)]
      · rw [put_ne (by omega)]
        by_cases q73 : x = 73
        · rw [q73, put_at, if_neg hj, put_ne (by decide), put_ne (by decide), b2 73 (by decide), a2 73 (by omega)]
        · by_cases q72 : x = 72
          · rw [q72, put_ne (by decide), put_at, if_neg hj, put_ne (by decide), b2 72 (by decide), a2 72 (by omega)]
          · by_cases q71 : x = 71
            · rw [q71, put_ne (by decide), put_ne (by decide), put_at, if_neg hj, b2 71 (by decide), a2 71 (by omega)]
            · rw [put_ne q73, put_ne q72, put_ne q71]
              by_cases q70 : x = 70
              · rw [q70, b3 j hj]
                exact a3 70 (by decide) (by decide) j hj
              · rw [b2 x q70]
                exact a3 x x1 (by omega) j hj
      · rw [put_at, if_neg hj, put_ne (by decide), put_ne (by decide), put_ne (by decide), e31]
      · rw [put_at, if_pos rfl, e31, hr]
        omega
      · rw [put_ne (by decide), put_ne (by decide), put_ne (by decide), put_ne (by decide), b2 67 (by decide)]
        exact a4
      · obtain ⟨l, r', y1, y2, y3⟩ := a5
        refine ⟨l, r', ?_, ?_, y3⟩
        · rw [put_ne (by decide), put_ne (by decide), put_ne (by decide), put_ne (by decide), b2 68 (by decide)]
          exact y1
        · rw [put_ne (by decide), put_ne (by decide), put_ne (by decide), put_ne (by decide), b2 69 (by decide)]
          exact y2
      · rw [put_ne (by decide), put_ne (by decide), put_ne (by decide), put_ne (by decide)]
        exact b4
      · rw [put_ne (by decide), put_ne (by decide), put_ne (by decide), put_at, if_pos rfl]
      · rw [put_ne (by decide), put_ne (by decide), put_at, if_pos rfl]
      · rw [put_ne (by decide), put_at, if_pos rfl, e57]
        by_cases z : lv = 0
        · rw [if_pos z, if_pos (by omega)]
        · rw [if_neg z, if_neg (by omega), show Int.toNat ((lv : Int) - 1) = lv - 1 by omega]
    have gds : (¬ ((lv : Int) = 0) → -2147483648 ≤ (lv : Int) - 1) ∧ (¬ ((lv : Int) = 0) → (lv : Int) - 1 < 2147483648) ∧ (¬ ((lv : Int) = 0) → 0 ≤ ((lv : Int) - 1)) ∧ (¬ ((lv : Int) = 0) → ((lv : Int) - 1) < 14) := ⟨fun _ => by omega, fun _ => by omega, fun _ => by omega, fun _ => by omega⟩
    by_cases m1 : mn X c = 1
    · have lp0 : ∀ i : Nat, i ≤ xM X → ∀ s', s'.2 = σ.2 → (∀ x, x ≠ 70 → sI s' x = sI s x) → (∀ j, j ≠ r → sI s' 70 j = sI s 70 j) → ((∃ p, p < i ∧ 0 ≤ c p) → sI s' 70 r = ((tr (fs X c) : Nat) : Int)) → am_Runs PP MLL d m_M_keep 96 [some (qr (31, 12, 89)), some (qi (lv : Int)), some (qi (mn X c)), some (qi (r : Int)), some (qi (i : Int))] [] s' (kV K) := by
        refine lp ?_ ?_
        · intro s' b1 b2 b3 b4
          have e31 : sI s' 31 = sI σ 31 := by rw [b2 31 (by decide), a2 31 (by omega)]
          refine v_M_keep_96 d _ _ _ _ s' K (MF_I hF b1) (by rw [e31]; exact hT) ⟨fun _ => ?_, fun w => absurd (by rw [e31, h40]; omega) w⟩
          rw [Int.toNat_natCast]
          refine ⟨by omega, gds, by rw [e31, hr]; omega, fin s' b1 b2 b3 ?_⟩
          rw [if_pos m1]
          obtain ⟨p, p1, p2⟩ := mn_ex hm
          have := hc p p1
          exact b4 ⟨p, p1, by omega⟩
        · intro i hi ih s' b1 b2 b3 b4
          have e31 : sI s' 31 = sI σ 31 := by rw [b2 31 (by decide), a2 31 (by omega)]
          have e53 : sI s' 53 = sI σ 53 := by rw [b2 53 (by decide), a2 53 (by omega)]
          have e51 : sI s' 51 = sI σ 51 := by rw [b2 51 (by decide), a2 51 (by omega)]
          have hci := hc i hi
          refine v_M_keep_96 d _ _ _ _ s' K (MF_I hF b1) (by rw [e31]; exact hT) ⟨fun w => absurd w (by rw [e31, h40]; omega), fun _ => ⟨fun _ => ?_, fun w => absurd m1 w⟩⟩
          rw [show Int.toNat (60 * (lv : Int) + (i : Int)) = 60 * lv + i by omega, e53, hci.1, e51, Int.toNat_natCast, Int.toNat_natCast, htr i hi, show (i : Int) + 1 = ((i + 1 : Nat) : Int) by omega]
          refine ⟨by omega, ⟨fun _ => by omega, fun _ => by omega, fun _ => by omega, fun _ => by omega⟩, by omega, ?_⟩
          refine ih _ b1 (fun x hx => by rw [put_ne hx]; exact b2 x hx) (fun j hj => by rw [put_at, if_neg hj]; exact b3 j hj) (fun w => ?_)
          obtain ⟨p, p1, p2⟩ := w
          rw [put_at, if_pos rfl]
          by_cases ci : c i < 0
          · rw [if_pos ci]
            refine b4 ⟨p, ?_, p2⟩
            by_cases e : p = i
            · rw [e] at p2; omega
            · omega
          · rw [if_neg ci]
            have : fs X c = i := ff_unique (Nat.zero_le _) (by omega) (fun q _ hq w => by have := mn_one m1 (by omega) hi w (by omega); omega) (fun _ => by show 0 ≤ c i; omega)
            rw [this]
      exact lp0 0 (Nat.zero_le _) s a1 (fun _ _ => rfl) (fun _ _ => rfl) (fun w => by obtain ⟨p, p1, _⟩ := w; omega)
    · have e31 : sI s 31 = sI σ 31 := a2 31 (by omega)
      have kk := fin s a1 (fun _ _ => rfl) (fun _ _ => rfl) (by rw [if_neg m1]; exact a6)
      refine v_M_keep_96 d _ _ _ _ s K (MF_I hF a1) (by rw [e31]; exact hT) ⟨fun _ => ?_, fun _ => ⟨fun w => absurd w m1, fun _ => ?_⟩⟩
      · rw [Int.toNat_natCast]
        exact ⟨by omega, gds, by rw [e31, hr]; omega, kk⟩
      · rw [Int.toNat_natCast]
        exact ⟨by omega, gds, by rw [e31, hr]; omega, kk⟩
  obtain ⟨B, eB⟩ : ∃ B, B = putI (putI (putI σ 67 r (if mn X c = 1 then (0 : Int) else sI σ 59 lv)) 68 r 0) 69 r 0 := ⟨_, rfl⟩
  rw [← eB]
  have B2 : B.2 = σ.2 := by rw [eB]; rfl
  have Bo : ∀ x, x ≠ 67 → x ≠ 68 → x ≠ 69 → sI B x = sI σ x := fun x x1 x2 x3 => by rw [eB, put_ne x3, put_ne x2, put_ne x1]
  have B67 : ∀ j, sI B 67 j = if j = r then (if mn X c = 1 then (0 : Int) else sI σ 59 lv) else sI σ 67 j := fun j => by rw [eB, put_ne (by decide), put_ne (by decide), put_at]
  have B68 : ∀ j, sI B 68 j = if j = r then 0 else sI σ 68 j := fun j => by rw [eB, put_ne (by decide), put_at, put_ne (by decide)]
  have B69 : ∀ j, sI B 69 j = if j = r then 0 else sI σ 69 j := fun j => by rw [eB, put_at, put_ne (by decide), put_ne (by decide)]
  have b0 : BSd f (xN X) 0 0 0 := ⟨by decide, by decide, fun c => ⟨by rw [bt_0, if_neg (by omega)], by rw [bt_0, if_neg (by omega)]⟩⟩
  have lp1 : ∀ i : Nat, i ≤ xN X → (mn X c = 1 → i = 0) → ∀ s, s.2 = σ.2 → (∀ x, x ≠ 68 → x ≠ 69 → sI s x = sI B x) → (∀ j, j ≠ r → sI s 68 j = sI B 68 j ∧ sI s 69 j = sI B 69 j) → (∃ l r' : Nat, sI s 68 r = l ∧ sI s 69 r = r' ∧ BSd f (xN X) i l r') → am_Runs PP MLL d m_M_keep 38 [some (qr (31, 12, 89)), some (qi (lv : Int)), some (qi (mn X c)), some (qi (r : Int)), some (qi (i : Int))] [] s (kV K) := by
    have go : ∀ (i : Nat) s, (i = if mn X c = 1 then 0 else xN X) → s.2 = σ.2 → (∀ x, x ≠ 68 → x ≠ 69 → sI s x = sI B x) → (∀ j, j ≠ r → sI s 68 j = sI B 68 j ∧ sI s 69 j = sI B 69 j) → (∃ l r' : Nat, sI s 68 r = l ∧ sI s 69 r = r' ∧ BSd f (xN X) i l r') → am_Runs PP MLL d m_M_keep 96 [some (qr (31, 12, 89)), some (qi (lv : Int)), some (qi (mn X c)), some (qi (r : Int)), some (qi 0)] [] (putI s 70 (Int.toNat (r : Int)) (-1000)) (kV K) := by
      intro i s hi a1 a2 a3 a4
      rw [Int.toNat_natCast]
      refine last (putI s 70 r (-1000)) 0 a1 (fun x hx => ?_) (fun x x1 x2 j hj => ?_) ?_ ?_ ?_ rfl
      · rw [put_ne (by omega), a2 x (by omega) (by omega), Bo x (by omega) (by omega) (by omega)]
      · by_cases q70 : x = 70
        · rw [q70, put_at, if_neg hj, a2 70 (by decide) (by decide), Bo 70 (by decide) (by decide) (by decide)]
        · rw [put_ne q70]
          by_cases q68 : x = 68
          · rw [q68, (a3 j hj).1, B68, if_neg hj]
          · by_cases q69 : x = 69
            · rw [q69, (a3 j hj).2, B69, if_neg hj]
            · have : x = 67 := by omega
              rw [this, a2 67 (by decide) (by decide), B67, if_neg hj]
      · rw [put_ne (by decide), a2 67 (by decide) (by decide), B67, if_pos rfl]
      · obtain ⟨l, r', y1, y2, y3⟩ := a4
        rw [hi] at y3
        exact ⟨l, r', by rw [put_ne (by decide)]; exact y1, by rw [put_ne (by decide)]; exact y2, y3⟩
      · rw [put_at, if_pos rfl]
    refine lp ?_ ?_
    · intro hi s a1 a2 a3 a4
      have e31 : sI s 31 = sI σ 31 := by rw [a2 31 (by decide) (by decide), Bo 31 (by decide) (by decide) (by decide)]
      refine v_M_keep_38 d _ _ _ _ s K (MF_I hF a1) (by rw [e31]; exact hT) ⟨fun _ => ⟨by omega, go (xN X) s ?_ a1 a2 a3 a4⟩, fun w => absurd (by rw [e31, h2]; omega) w⟩
      by_cases m1 : mn X c = 1
      · rw [if_pos m1]; exact hi m1
      · rw [if_neg m1]
    · intro i hiN ih hi s a1 a2 a3 a4
      have e31 : sI s 31 = sI σ 31 := by rw [a2 31 (by decide) (by decide), Bo 31 (by decide) (by decide) (by decide)]
      refine v_M_keep_38 d _ _ _ _ s K (MF_I hF a1) (by rw [e31]; exact hT) ⟨fun w => absurd w (by rw [e31, h2]; omega), fun _ => ⟨fun w => ⟨by omega, go i s ?_ a1 a2 a3 a4⟩, fun w => ?_⟩⟩
      · have m1 : mn X c = 1 := by omega
        rw [if_pos m1]; exact hi m1
      · have m1 : ¬ mn X c = 1 := by omega
        obtain ⟨l, r', y1, y2, y3⟩ := a4
        obtain ⟨fi, fb⟩ := hf m1 i hiN
        obtain ⟨l', r2, z1, z2, z3⟩ := BSd_s (f := f) fb hiN hN y3
        have e66 : sI s 66 (12 * lv + i) = f i := by rw [a2 66 (by decide) (by decide), Bo 66 (by decide) (by decide) (by decide)]; exact fi
        rw [show Int.toNat (12 * (lv : Int) + (i : Int)) = 12 * lv + i by omega, Int.toNat_natCast, e66, y1, y2, z1, z2, show (i : Int) + 1 = ((i + 1 : Nat) : Int) by omega]
        refine ⟨by omega, by omega, ih (fun q => absurd q m1) _ a1 (fun x x1 x2 => by rw [put_ne x2, put_ne x1]; exact a2 x x1 x2) (fun j hj => ?_) ⟨l', r2, ?_, ?_, z3⟩⟩
        · rw [put_ne (by decide), put_at, if_neg hj, put_at, if_neg hj, put_ne (by decide)]
          exact a3 j hj
        · rw [put_ne (by decide), put_at, if_pos rfl]
        · rw [put_at, if_pos rfl]
  refine lp1 0 (Nat.zero_le _) (fun _ => rfl) B B2 (fun _ _ _ => rfl) (fun _ _ => ⟨rfl, rfl⟩) ⟨0, 0, ?_, ?_, b0⟩
  · rw [B68, if_pos rfl]; rfl
  · rw [B69, if_pos rfl]; rfl
