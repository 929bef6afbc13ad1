/-! the reference: digest, judge -/
/-- numbers folded into a digest, one after the other -/
def dgT (f : Nat → Int) : Nat → Int → Int
  | 0, h => h
  | n + 1, h => w64 (w64 (31 * dgT f n h) + f n)
def dgF (f : Nat → Int → Int) : Nat → Int → Int
  | 0, h => h
  | n + 1, h => f n (dgF f n h)
/-- a pan in a digest -/
def dgP (f : Nat → Int) (n h : Int) : Int := dgT f n.toNat (w64 (w64 (31 * h) + n))
def dgB (k u p0 p1 : Int) (f0 f1 : Nat → Int) (h : Int) : Int := if 0 ≤ k then (if k = 6 then w64 (w64 (31 * w64 (w64 (31 * h) + k)) + u) else dgP f1 p1 (dgP f0 p0 (w64 (w64 (31 * w64 (w64 (31 * h) + k)) + u)))) else w64 (w64 (31 * h) + k)
def dg0 (c l : Int) : Int := w64 (w64 (31 * w64 (w64 (31 * 17) + c)) + l)
def mDig (σ : am_S) (n m : Nat) : Int := dgF (fun b h => dgB (sI σ 41 b) (sI σ 42 b) (sI σ 44 (2 * b)) (sI σ 44 (2 * b + 1)) (fun i => sI σ 45 (40 * b + i)) (fun i => sI σ 45 (40 * b + 20 + i)) h) m (dgT (fun t => if sI σ 37 t < 0 then sI σ 36 t else -1) n (dg0 (sI σ 31 2) (sI σ 31 4)))
theorem v_M_digest_0 (d : Nat) (σ : am_S) (K : Int → am_S → Prop) (hF : MF σ) (h :
  am_Runs PP MLL (d + 1) m_M_digest 20 [some (qr (31, 12, 89)), some (ql (w64 ((w64 (31 * (w64 ((w64 (31 * 17)) + (sI σ 31 2))))) + (sI σ 31 4)))), none, some (qi 0), none, none] [] σ (kL K)) : am_Runs PP MLL (d + 1) m_M_digest 0 [some (qr (31, 12, 89)), none, none, none, none, none] [] σ (kL K) := am_wEC_ok (orc []) [37] 200 (⟨rfl, ⟨rfl, h⟩⟩)

theorem v_M_digest_20 (d : Nat) (v1 v3 : Int) (z2 z4 z5 : Option am_V) (σ : am_S) (K : Int → am_S → Prop) (hF : MF σ) (h :
  (((sI σ 31 5) ≤ v3 →
    am_Runs PP MLL (d + 1) m_M_digest 44 [some (qr (31, 12, 89)), some (ql v1), (am_cl z2), some (qi 0), z4, z5] [] σ (kL K)) ∧
  (¬ ((sI σ 31 5) ≤ v3) →
    (0 ≤ v3 ∧ v3 < 10000 ∧ (((sI σ 37 (Int.toNat v3)) < 0) → 0 ≤ v3) ∧ (((sI σ 37 (Int.toNat v3)) < 0) → v3 < 10000)) ∧
    (-2147483648 ≤ v3 + 1 ∧ v3 + 1 < 2147483648) ∧
    am_Runs PP MLL (d + 1) m_M_digest 20 [some (qr (31, 12, 89)), some (ql (w64 ((w64 (31 * v1)) + (if (sI σ 37 (Int.toNat v3)) < 0 then (sI σ 36 (Int.toNat v3) : Int) else (-1))))), none, some (qi (v3 + 1)), z4, z5] [] σ (kL K)))) : am_Runs PP MLL (d + 1) m_M_digest 20 [some (qr (31, 12, 89)), some (ql v1), z2, some (qi v3), z4, z5] [] σ (kL K) := am_wEC_ok (orc [(32, 36, 20, 10000)]) [37] 200 (⟨rfl, ⟨fun c3 => (h.1 c3), fun c3 => am_use (fun H5 => ⟨rfl, c_M_isLeft _ hF (h.2 c3).1.1 (h.2 c3).1.2.1 (fun c4 => ⟨fun c => absurd c (by decide : ¬ ((1 : Int) = 0)), fun _ => ⟨⟨rfl, (hF 10)⟩, ⟨⟨rfl, (h.2 c3).1.1, (h.2 c3).1.2.1⟩, (Eq.mp (congrArg (fun z => am_Runs _ _ _ _ _ _ (qi z :: _) _ _) (if_pos c4 : (if (sI σ 37 (Int.toNat v3)) < 0 then (sI σ 36 (Int.toNat v3) : Int) else (-1)) = sI σ 36 (Int.toNat v3))) H5)⟩⟩⟩) (fun c4 => ⟨fun _ => (Eq.mp (congrArg (fun z => am_Runs _ _ _ _ _ _ (qi z :: _) _ _) (if_neg c4 : (if (sI σ 37 (Int.toNat v3)) < 0 then (sI σ 36 (Int.toNat v3) : Int) else (-1)) = (-1))) H5), fun c => absurd (by decide : (0 : Int) = 0) c⟩)⟩) (am_wEC_ok (orc []) [37] 200 (⟨⟨(h.2 c3).2.1.1, (h.2 c3).2.1.2⟩, (h.2 c3).2.2⟩))⟩⟩)

theorem v_M_digest_44 (d : Nat) (v1 v3 : Int) (z2 z4 z5 : Option am_V) (σ : am_S) (K : Int → am_S → Prop) (hF : MF σ) (h :
  (((sI σ 31 16) ≤ v3 →
    K v1 σ) ∧
  (¬ ((sI σ 31 16) ≤ v3) →
    (0 ≤ v3 ∧ v3 < 12) ∧
    ((0 ≤ (sI σ 41 (Int.toNat v3)) →
      (-2147483648 ≤ 2 * v3 ∧ 2 * v3 < 2147483648) ∧
      am_Runs PP MLL (d + 1) m_M_digest 76 [some (qr (31, 12, 89)), some (ql (w64 ((w64 (31 * (w64 ((w64 (31 * v1)) + (sI σ 41 (Int.toNat v3)))))) + (sI σ 42 (Int.toNat v3))))), none, some (qi v3), some (qi (2 * v3)), z5] [] σ (kL K)) ∧
    (¬ (0 ≤ (sI σ 41 (Int.toNat v3))) →
      (-2147483648 ≤ v3 + 1 ∧ v3 + 1 < 2147483648) ∧
      am_Runs PP MLL (d + 1) m_M_digest 44 [some (qr (31, 12, 89)), some (ql (w64 ((w64 (31 * v1)) + (sI σ 41 (Int.toNat v3))))), none, some (qi (v3 + 1)), z4, z5] [] σ (kL K)))))) : am_Runs PP MLL (d + 1) m_M_digest 44 [some (qr (31, 12, 89)), some (ql v1), z2, some (qi v3), z4, z5] [] σ (kL K) := am_wEC_ok (orc [(52, 41, 20, 12), (66, 42, 20, 12)]) [37] 200 (⟨rfl, ⟨fun c3 => (h.1 c3), fun c3 => ⟨⟨rfl, (hF 17)⟩, ⟨⟨rfl, (h.2 c3).1.1, (h.2 c3).1.2⟩, ⟨rfl, c_M_isThere _ hF (h.2 c3).1.1 (h.2 c3).1.2 (fun c5 => ⟨fun c => absurd c (by decide : ¬ ((1 : Int) = 0)), fun _ => ⟨⟨rfl, (hF 18)⟩, ⟨⟨rfl, (h.2 c3).1.1, (h.2 c3).1.2⟩, ⟨⟨((h.2 c3).2.1 c5).1.1, ((h.2 c3).2.1 c5).1.2⟩, ((h.2 c3).2.1 c5).2⟩⟩⟩⟩) (fun c5 => ⟨fun _ => ⟨⟨((h.2 c3).2.2 c5).1.1, ((h.2 c3).2.2 c5).1.2⟩, ((h.2 c3).2.2 c5).2⟩, fun c => absurd (by decide : (0 : Int) = 0) c⟩)⟩⟩⟩⟩⟩)

theorem v_M_digest_76 (d : Nat) (v1 v3 v4 : Int) (z2 z5 : Option am_V) (σ : am_S) (K : Int → am_S → Prop) (hF : MF σ) (h :
  (-2147483648 ≤ 2 * v3 ∧ 2 * v3 < 2147483648 ∧ -2147483648 ≤ (2 * v3) + 2 ∧ (2 * v3) + 2 < 2147483648) ∧
  ((((2 * v3) + 2) ≤ v4 →
    (-2147483648 ≤ v3 + 1 ∧ v3 + 1 < 2147483648) ∧
    am_Runs PP MLL (d + 1) m_M_digest 44 [some (qr (31, 12, 89)), some (ql v1), (am_cl z2), some (qi (v3 + 1)), some (qi v4), z5] [] σ (kL K)) ∧
  (¬ (((2 * v3) + 2) ≤ v4) →
    (0 ≤ v3 ∧ v3 < 12) ∧
    (((sI σ 41 (Int.toNat v3)) = 6 →
      (-2147483648 ≤ v3 + 1 ∧ v3 + 1 < 2147483648) ∧
      am_Runs PP MLL (d + 1) m_M_digest 44 [some (qr (31, 12, 89)), some (ql v1), (am_cl z2), some (qi (v3 + 1)), some (qi v4), z5] [] σ (kL K)) ∧
    (¬ ((sI σ 41 (Int.toNat v3)) = 6) →
      (0 ≤ v4 ∧ v4 < 24) ∧
      am_Runs PP MLL (d + 1) m_M_digest 101 [some (qr (31, 12, 89)), some (ql (w64 ((w64 (31 * v1)) + (sI σ 44 (Int.toNat v4))))), none, some (qi v3), some (qi v4), some (qi 0)] [] σ (kL K)))))) : am_Runs PP MLL (d + 1) m_M_digest 76 [some (qr (31, 12, 89)), some (ql v1), z2, some (qi v3), some (qi v4), z5] [] σ (kL K) := am_wEC_ok (orc [(84, 41, 20, 12), (93, 44, 20, 24)]) [37] 200 (⟨⟨h.1.1, h.1.2.1⟩, ⟨⟨h.1.2.2.1, h.1.2.2.2⟩, ⟨fun c3 => ⟨⟨(h.2.1 c3).1.1, (h.2.1 c3).1.2⟩, (h.2.1 c3).2⟩, fun c3 => ⟨⟨rfl, (hF 17)⟩, ⟨⟨rfl, (h.2.2 c3).1.1, (h.2.2 c3).1.2⟩, ⟨fun c5 => ⟨⟨((h.2.2 c3).2.1 c5).1.1, ((h.2.2 c3).2.1 c5).1.2⟩, ((h.2.2 c3).2.1 c5).2⟩, fun c5 => ⟨⟨rfl, (hF 20)⟩, ⟨⟨rfl, ((h.2.2 c3).2.2 c5).1.1, ((h.2.2 c3).2.2 c5).1.2⟩, ((h.2.2 c3).2.2 c5).2⟩⟩⟩⟩⟩⟩⟩⟩)

theorem v_M_digest_101 (d : Nat) (v1 v3 v4 v5 : Int) (z2 : Option am_V) (σ : am_S) (K : Int → am_S → Prop) (hF : MF σ) (h :
  (0 ≤ v4 ∧ v4 < 24) ∧
  (((sI σ 44 (Int.toNat v4)) ≤ v5 →
    (-2147483648 ≤ v4 + 1 ∧ v4 + 1 < 2147483648) ∧
    am_Runs PP MLL (d + 1) m_M_digest 76 [some (qr (31, 12, 89)), some (ql v1), z2, some (qi v3), some (qi (v4 + 1)), some (qi v5)] [] σ (kL K)) ∧
  (¬ ((sI σ 44 (Int.toNat v4)) ≤ v5) →
    (-2147483648 ≤ 20 * v4 ∧ 20 * v4 < 2147483648 ∧ -2147483648 ≤ (20 * v4) + v5 ∧ (20 * v4) + v5 < 2147483648 ∧ 0 ≤ ((20 * v4) + v5) ∧ ((20 * v4) + v5) < 480 ∧ -2147483648 ≤ v5 + 1 ∧ v5 + 1 < 2147483648) ∧
    am_Runs PP MLL (d + 1) m_M_digest 101 [some (qr (31, 12, 89)), some (ql (w64 ((w64 (31 * v1)) + (sI σ 45 (Int.toNat ((20 * v4) + v5)))))), none, some (qi v3), some (qi v4), some (qi (v5 + 1))] [] σ (kL K)))) : am_Runs PP MLL (d + 1) m_M_digest 101 [some (qr (31, 12, 89)), some (ql v1), z2, some (qi v3), some (qi v4), some (qi v5)] [] σ (kL K) := am_wEC_ok (orc [(103, 44, 20, 24), (111, 45, 20, 480)]) [37] 200 (⟨⟨rfl, (hF 20)⟩, ⟨⟨rfl, h.1.1, h.1.2⟩, ⟨fun c2 => ⟨⟨(h.2.1 c2).1.1, (h.2.1 c2).1.2⟩, (h.2.1 c2).2⟩, fun c2 => ⟨⟨rfl, (hF 21)⟩, ⟨⟨(h.2.2 c2).1.1, (h.2.2 c2).1.2.1⟩, ⟨⟨(h.2.2 c2).1.2.2.1, (h.2.2 c2).1.2.2.2.1⟩, ⟨⟨rfl, (h.2.2 c2).1.2.2.2.2.1, (h.2.2 c2).1.2.2.2.2.2.1⟩, ⟨⟨(h.2.2 c2).1.2.2.2.2.2.2.1, (h.2.2 c2).1.2.2.2.2.2.2.2⟩, (h.2.2 c2).2⟩⟩⟩⟩⟩⟩⟩⟩)

theorem l_M_digPan (d : Nat) {b k : Nat} {v : Int} {σ : am_S} {K : Int → am_S → Prop} (hF : MF σ) (hk : k < 24) (hp : sI σ 44 k ≤ 20)
    (h : ∀ z2 z5, am_Runs PP MLL (d + 1) m_M_digest 76 [some (qr (31, 12, 89)), some (ql (dgT (fun i => sI σ 45 (20 * k + i)) (sI σ 44 k).toNat v)), z2, some (qi (b : Int)), some (qi ((k + 1 : Nat) : Int)), z5] [] σ (kL K)) (z2 : Option am_V) :
    am_Runs PP MLL (d + 1) m_M_digest 101 [some (qr (31, 12, 89)), some (ql v), z2, some (qi (b : Int)), some (qi (k : Int)), some (qi 0)] [] σ (kL K) := by
  have hS : ∀ i : Nat, i ≤ (sI σ 44 k).toNat → ∀ z2, am_Runs PP MLL (d + 1) m_M_digest 101 [some (qr (31, 12, 89)), some (ql (dgT (fun i => sI σ 45 (20 * k + i)) i v)), z2, some (qi (b : Int)), some (qi (k : Int)), some (qi (i : Int))] [] σ (kL K) := by
    refine lp ?_ ?_
    · intro z2
      refine v_M_digest_101 d _ b k _ z2 σ K hF ⟨by omega, fun _ => ⟨by omega, h z2 _⟩, fun c => absurd ?_ c⟩
      rw [Int.toNat_natCast]; omega
    · intro i hi ih z2
      have e : Int.toNat (20 * (k : Int) + (i : Int)) = 20 * k + i := by omega
      refine v_M_digest_101 d _ b k _ z2 σ K hF ⟨by omega, fun c => absurd c (by rw [Int.toNat_natCast]; omega), fun _ => ⟨by omega, ?_⟩⟩
      rw [e]
      exact ih none
  exact hS 0 (Nat.zero_le _) z2
theorem c_M_digest (d : Nat) {n m : Nat} {σ : am_S} {K : Int → am_S → Prop} (hF : MF σ) (hn : sI σ 31 5 = n) (hn2 : n ≤ 10000) (hm : sI σ 31 16 = m) (hm2 : m ≤ 12) (hp : ∀ k, sI σ 44 k ≤ 20) (h : K (mDig σ n m) σ) : am_Calls PP MLL (d + 2) m_M_digest [qr (31, 12, 89)] σ (kL K) := by
  refine v_M_digest_0 d σ K hF ?_
  obtain ⟨v0, hv0⟩ : ∃ v, v = dgT (fun t => if sI σ 37 t < 0 then sI σ 36 t else -1) n (dg0 (sI σ 31 2) (sI σ 31 4)) := ⟨_, rfl⟩
  have hB : ∀ b : Nat, b ≤ m → ∀ z2 z4 z5, am_Runs PP MLL (d + 1) m_M_digest 44 [some (qr (31, 12, 89)), some (ql (dgF (fun b h => dgB (sI σ 41 b) (sI σ 42 b) (sI σ 44 (2 * b)) (sI σ 44 (2 * b + 1)) (fun i => sI σ 45 (40 * b + i)) (fun i => sI σ 45 (40 * b + 20 + i)) h) b v0)), z2, some (qi (b : Int)), z4, z5] [] σ (kL K) := by
    refine lp ?_ ?_
    · intro z2 z4 z5
      refine v_M_digest_44 d _ _ z2 z4 z5 σ K hF ⟨fun _ => ?_, fun c => absurd (show sI σ 31 16 ≤ (m : Int) by omega) c⟩
      subst hv0
      exact h
    · intro b hb ih z2 z4 z5
      obtain ⟨v, hv⟩ : ∃ v, v = dgF (fun b h => dgB (sI σ 41 b) (sI σ 42 b) (sI σ 44 (2 * b)) (sI σ 44 (2 * b + 1)) (fun i => sI σ 45 (40 * b + i)) (fun i => sI σ 45 (40 * b + 20 + i)) h) b v0 := ⟨_, rfl⟩
      have es : dgF (fun b h => dgB (sI σ 41 b) (sI σ 42 b) (sI σ 44 (2 * b)) (sI σ 44 (2 * b + 1)) (fun i => sI σ 45 (40 * b + i)) (fun i => sI σ 45 (40 * b + 20 + i)) h) (b + 1) v0 = dgB (sI σ 41 b) (sI σ 42 b) (sI σ 44 (2 * b)) (sI σ 44 (2 * b + 1)) (fun i => sI σ 45 (40 * b + i)) (fun i => sI σ 45 (40 * b + 20 + i)) v := by rw [hv]; rfl
      rw [es] at ih
      rw [← hv]
      unfold dgB at ih
      have ec : ((b : Int) + 1) = ((b + 1 : Nat) : Int) := by omega
      refine v_M_digest_44 d v b z2 z4 z5 σ K hF ⟨fun c => absurd c (by omega), fun _ => ⟨by omega, fun c => ⟨by omega, ?_⟩, fun c => ⟨by omega, ?_⟩⟩⟩
      · rw [Int.toNat_natCast] at c
        rw [if_pos c] at ih
        rw [Int.toNat_natCast]
        obtain ⟨u, hu⟩ : ∃ u, u = w64 (w64 (31 * w64 (w64 (31 * v) + sI σ 41 b)) + sI σ 42 b) := ⟨_, rfl⟩
        rw [← hu] at ih ⊢
        by_cases h6 : sI σ 41 b = 6
        · rw [if_pos h6] at ih
          refine v_M_digest_76 d u b _ _ z5 σ K hF ⟨by omega, fun c => absurd c (by omega), fun _ => ⟨by omega, fun _ => ⟨by omega, ?_⟩, fun c => absurd (by rw [Int.toNat_natCast]; exact h6) c⟩⟩
          rw [ec]
          exact ih _ _ _
        · rw [if_neg h6] at ih
          have e0 : Int.toNat (2 * (b : Int)) = 2 * b := by omega
          have e1 : (2 * (b : Int)) = ((2 * b : Nat) : Int) := by omega
          refine v_M_digest_76 d u b _ _ z5 σ K hF ⟨by omega, fun c => absurd c (by omega), fun _ => ⟨by omega, fun c => absurd c (by rw [Int.toNat_natCast]; exact h6), fun _ => ⟨by omega, ?_⟩⟩⟩
          rw [e0, e1]
          refine l_M_digPan d (k := 2 * b) hF (by omega) (hp _) ?_ none
          intro z2 z5
          have ef : (fun i => sI σ 45 (20 * (2 * b) + i)) = (fun i => sI σ 45 (40 * b + i)) := by
            funext i
            rw [show 20 * (2 * b) = 40 * b by omega]
          rw [ef]
          have ed : dgT (fun i => sI σ 45 (40 * b + i)) (sI σ 44 (2 * b)).toNat (w64 (w64 (31 * u) + sI σ 44 (2 * b))) = dgP (fun i => sI σ 45 (40 * b + i)) (sI σ 44 (2 * b)) u := rfl
          rw [ed]
          refine v_M_digest_76 d _ b _ z2 z5 σ K hF ⟨by omega, fun c => absurd c (by omega), fun _ => ⟨by omega, fun c => absurd c (by rw [Int.toNat_natCast]; exact h6), fun _ => ⟨by omega, ?_⟩⟩⟩
          rw [Int.toNat_natCast]
          refine l_M_digPan d (k := 2 * b + 1) hF (by omega) (hp _) ?_ none
          intro z2 z5
          have ef : (fun i => sI σ 45 (20 * (2 * b + 1) + i)) = (fun i => sI σ 45 (40 * b + 20 + i)) := by
            funext i
            rw [show 20 * (2 * b + 1) = 40 * b + 20 by omega]
          rw [ef]
          refine v_M_digest_76 d _ b _ z2 z5 σ K hF ⟨by omega, fun _ => ⟨by omega, ?_⟩, fun c => absurd (by omega) c⟩
          rw [ec]
          exact ih _ _ _
      · rw [Int.toNat_natCast] at c
        rw [if_neg c] at ih
        rw [Int.toNat_natCast, ec]
        exact ih none z4 z5
  have hTt : ∀ t : Nat, t ≤ n → ∀ z2 z4 z5, am_Runs PP MLL (d + 1) m_M_digest 20 [some (qr (31, 12, 89)), some (ql (dgT (fun t => if sI σ 37 t < 0 then sI σ 36 t else -1) t (dg0 (sI σ 31 2) (sI σ 31 4)))), z2, some (qi (t : Int)), z4, z5] [] σ (kL K) := by
    refine lp ?_ ?_
    · intro z2 z4 z5
      refine v_M_digest_20 d _ _ z2 z4 z5 σ K hF ⟨fun _ => ?_, fun c => absurd (show sI σ 31 5 ≤ (n : Int) by omega) c⟩
      rw [← hv0]
      exact hB 0 (Nat.zero_le _) _ z4 z5
    · intro t ht ih z2 z4 z5
      refine v_M_digest_20 d _ _ z2 z4 z5 σ K hF ⟨fun c => absurd c (by omega), fun _ => ?_⟩
      rw [Int.toNat_natCast]
      exact ⟨by omega, by omega, ih none z4 z5⟩
  exact hTt 0 (Nat.zero_le _) none none none
