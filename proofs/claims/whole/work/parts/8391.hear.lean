/-! the class: what a weighing tells, the question behind an outcome -/
def QT (σ : am_S) (Q : Nat) (X : sX) (c : Nat → Int) (k : Nat) (v : sW) : Prop := ∀ p, p < xM X → c p ≠ -1 → sI σ (Q + 2) p = tl (xK X k) (xD X (sdw X c v) p)
theorem SB_sd {X : sX} {c : Nat → Int} {v : sW} {lf rt : Nat} (h : SB (gG X c (xN X)) v.2.1 v.2.2 (xN X) lf rt) : (∀ q, q < xN X → bt lf q - bt rt q = sdw X c v q) ∧ ∀ q, bt lf q * bt rt q = 0 := by
  obtain ⟨h1, h2, h3, h4⟩ := h
  refine ⟨fun q hq => ?_, fun q => ?_⟩
  · rw [h3 q, h4 q]
    unfold sdw
    by_cases a : rkq (gG X c (xN X)) q < v.2.1 (gG X c (xN X) q)
    · rw [if_pos ⟨hq, a⟩, if_neg (by omega), if_pos a]
      rfl
    · rw [if_neg (fun w => a w.2), if_neg a]
      by_cases b : rkq (gG X c (xN X)) q < v.2.1 (gG X c (xN X) q) + v.2.2 (gG X c (xN X) q)
      · rw [if_pos ⟨hq, by omega, b⟩, if_pos b]
        rfl
      · rw [if_neg (fun w => b w.2.2), if_neg b]
        rfl
  · rw [h3 q, h4 q]
    by_cases a : q < xN X ∧ rkq (gG X c (xN X)) q < v.2.1 (gG X c (xN X) q)
    · rw [if_neg (c := q < xN X ∧ v.2.1 (gG X c (xN X) q) ≤ rkq (gG X c (xN X)) q ∧ rkq (gG X c (xN X)) q < v.2.1 (gG X c (xN X) q) + v.2.2 (gG X c (xN X) q)) (by omega), Int.mul_zero]
    · rw [if_neg a, Int.zero_mul]
theorem e_hear (d : Nat) {own : Nat → Nat} {aQ k0 i : Nat} {tr : Nat → Nat} {X : sX} {c0 c : Nat → Int} {v : sW} {σ : am_S} {K : am_S → Prop} (hE : SE σ own aQ k0 tr X c0) (hi : i < 7) (hQ : QB σ (qA aQ i) X c) (hb : QWb σ (qA aQ i + 3) X c v)
    (h : ∀ s, s.2 = σ.2 → (∀ x, x ≠ qA aQ i + 2 → sI s x = sI σ x) → QT s (qA aQ i) X c (k0 + i) v → K s) : am_Calls PP MLL (d + 5) m_Search_hearAll [qr (12, 5, 18), qr (qA aQ i, 3, 10), qi (i : Int)] σ (kV K) := by
  obtain ⟨⟨⟨q1, q2⟩, q3, q4, q5, q6⟩, ⟨hX, hcv, hk⟩, ⟨i1, i2, i3, i4, i5, i6⟩, _, ⟨β, μ, κ, ρ, me, n, b, aH, nH, aL, nL, aY, nY, aS, nS, N, lo, hi', T, kd, b1, b2, b3, b4, b5, b6, b7, b8, b9, b10, b11, b12, b13, b14, b15, b16, b17⟩⟩ := hE
  obtain ⟨lf, rt, l9, l10, hS⟩ := hb
  obtain ⟨sd, dis⟩ := SB_sd hS
  obtain ⟨w1, w2, w3⟩ := b16 (k0 + i)
  refine c_hearAll d (M := xM X) (tr := tr) b1 b9 b15 (q2 i hi).2.1 (q2 i hi).2.2 b2 b10 b12 (by rw [q6 i hi 2 (by decide)]; omega) b4 b5 b6 b7 b8 b13 b14 w1 i1 (by omega) hQ.1 hX.2.1 (fun p hp => ⟨(b17 p hp).1, (b17 p hp).2.1⟩) l9 l10 hS.1 hS.2.1 dis ?_
  intro s s1 s2 s3
  refine h s s1 s2 (fun p hp hc => ?_)
  rw [s3 p hp (by rw [hQ.2.2 p hp]; exact hc), ← w2, ← (b17 p hp).2.2 _ (fun c => bt_pm lf rt c), hX.2.2.2.2.1 _ (sdw X c v) p sd]
theorem v_Search_askBehind_0 (d : Nat) (β μ κ ρ : Nat → Nat) (me : Nat → Nat → Nat) (aQ l n b : Nat) (σ : am_S) (K : am_S → Prop) (hC : CF σ) (hB : BS σ β μ κ ρ me n) (hn : sR σ 12 6 = some (β b, 0, 9)) (hQ : QA σ aQ) (h :
  (-2147483648 ≤ (sI σ 12 11) + 1 ∧ (sI σ 12 11) + 1 < 2147483648 ∧ 0 ≤ ((sI σ 12 11) + 1) ∧ ((sI σ 12 11) + 1) < 7 ∧ (Int.toNat ((sI σ 12 11) + 1)) < 7) ∧
  am_Calls PP MLL (d + 3) m_Search_weigherAt [qr (12, 5, 18), qi (sI σ 12 11)] σ (kO fun x1 s1 =>
    (CF s1 ∧ BS s1 β μ κ ρ me n ∧ sR s1 12 6 = some (β b, 0, 9) ∧ QA s1 aQ) ∧
    am_Calls PP MLL (d + 3) m_Question_takeOutcome [qr (qA aQ (Int.toNat ((sI σ 12 11) + 1)), 3, 10), qr (qA aQ l, 3, 10), qo x1, qi (sI s1 12 8)] s1 (kV fun s2 =>
      (CF s2 ∧ BS s2 β μ κ ρ me n ∧ sR s2 12 6 = some (β b, 0, 9) ∧ QA s2 aQ) ∧
      (-2147483648 ≤ (sI s2 12 11) + 1 ∧ (sI s2 12 11) + 1 < 2147483648) ∧
      K (putI (putI s2 12 11 ((sI s2 12 11) + 1)) 12 12 1)))) : am_Runs PP MLL (d + 3) m_Search_askBehind 0 [some (qr (12, 5, 18)), some (qr (qA aQ l, 3, 10))] [] σ (kV K) := am_wEF_ok (orc [(1, aQ, 23, 7), (6, qA aQ (Int.toNat ((sI σ 12 11) + 1)), 3, 10)]) 200 (⟨⟨rfl, hQ.1⟩, ⟨rfl, ⟨⟨h.1.1, h.1.2.1⟩, ⟨⟨rfl, h.1.2.2.1, h.1.2.2.2.1, (hQ.2 (Int.toNat ((sI σ 12 11) + 1)) h.1.2.2.2.2).1⟩, ⟨rfl, ⟨rfl, (am_cO h.2 fun x1 s1 h1 => ⟨rfl, ⟨rfl, (am_cV h1.2 fun s2 h2 => ⟨rfl, ⟨⟨h2.2.1.1, h2.2.1.2⟩, ⟨rfl, ⟨⟨rfl, (Or.inr rfl)⟩, h2.2.2⟩⟩⟩⟩)⟩⟩)⟩⟩⟩⟩⟩⟩)

theorem e_behind (d : Nat) {own : Nat → Nat} {aQ k0 l : Nat} {tr : Nat → Nat} {X : sX} {c0 c : Nat → Int} {v : sW} {o : Int} {σ : am_S} {K : am_S → Prop} (hE : SE σ own aQ k0 tr X c0) (hl : l < 6) (h11 : sI σ 12 11 = l) (hQ : QB σ (qA aQ l) X c) (hc : CV X c) (hT : QT σ (qA aQ l) X c (k0 + l) v) (h6 : sI σ (qA aQ l) 6 = o)
    (h : ∀ s, s.2 = σ.2 → (∀ x, x ≠ 12 → x ≠ qA aQ (l + 1) → x ≠ qA aQ (l + 1) + 1 → sI s x = sI σ x) → sI s 12 11 = ((l + 1 : Nat) : Int) → sI s 12 12 = 1 → (∀ j, j ≠ 11 → j ≠ 12 → sI s 12 j = sI σ 12 j) → (∀ j, j ≠ 3 → j ≠ 4 → sI s (qA aQ (l + 1)) j = sI σ (qA aQ (l + 1)) j) → QB s (qA aQ (l + 1)) X (mkc X c (k0 + l) (sdw X c v) o) → K s) : am_Calls PP MLL (d + 4) m_Search_askBehind [qr (12, 5, 18), qr (qA aQ l, 3, 10)] σ (kV K) := by
  have h87 := SE_87 hE
  obtain ⟨⟨qq, q3, q4, q5, q6⟩, ⟨hX, hcv, hk⟩, ⟨i1, i2, i3, i4, i5, i6⟩, _, ⟨β, μ, κ, ρ, me, n, b, aH, nH, aL, nL, aY, nY, aS, nS, N, lo, hi', T, kd, b1, b2, b3, b4, b5, b6, b7, b8, b9, b10, b11, b12, b13, b14, b15, b16, b17⟩⟩ := hE
  obtain ⟨w1, w2, w3⟩ := b16 (k0 + l)
  refine v_Search_askBehind_0 d β μ κ ρ me aQ l n b σ K b1.1 b9 b15 qq ?_
  rw [h11, show (l : Int) + 1 = ((l + 1 : Nat) : Int) by omega, Int.toNat_natCast]
  refine ⟨by omega, c_sweigherAt d b1.1 b9 b15 b13 b14 i1 (by omega) ?_⟩
  refine ⟨⟨b1.1, b9, b15, qq⟩, ?_⟩
  rw [i2]
  obtain ⟨g, eg⟩ : ∃ g, g = cw κ me b (k0 + l) := ⟨_, rfl⟩
  rw [← eg] at w1 w2 w3 ⊢
  have n12 : ∀ k, k < 9 → qA aQ (l + 1) + k ≠ 12 := by
    intro k hk e
    have := q6 (l + 1) (by omega) k hk
    rw [e, h87 12 (by decide)] at this
    omega
  have nb : ∀ k, k < 9 → β g ≠ qA aQ (l + 1) + k := by
    intro k hk e
    have := q6 (l + 1) (by omega) k hk
    rw [← e, (b10 g w1).1] at this
    omega
  have z0 := n12 0 (by decide)
  have z1 := n12 1 (by decide)
  have y0 := nb 0 (by decide)
  rw [Nat.add_zero] at z0 y0
  have cvb : ∀ p, p < xM X → sI σ (qA aQ l + 1) p = c p ∧ -1 ≤ c p ∧ c p ≤ 100 := fun p hp => ⟨hQ.2.2 p hp, (hc p hp).1, by have := hc p hp; omega⟩
  have dd : qA aQ l ≠ qA aQ (l + 1) ∧ qA aQ l ≠ qA aQ (l + 1) + 1 ∧ qA aQ l + 1 ≠ qA aQ (l + 1) ∧ qA aQ l + 1 ≠ qA aQ (l + 1) + 1 ∧ qA aQ l + 2 ≠ qA aQ (l + 1) ∧ qA aQ l + 2 ≠ qA aQ (l + 1) + 1 := by
    unfold qA
    omega
  refine c_takeOutcome (d + 1) (told := fun p => tl (xK X (k0 + l)) (xD X (sdw X c v) p)) b9 (qq.2 (l + 1) (by omega)).2.1 (qq.2 l (by omega)).2.1 dd ⟨y0, nb 1 (by decide)⟩ hQ.1 hX.2.1 h6 cvb (fun p hp hcp => hT p hp hcp) ?_
  intro s s1 s2 s3 s4 s5 s6
  have e12 : sI s 12 = sI σ 12 := s2 12 z0.symm z1.symm
  have er : sR s = sR σ := by
    funext a j
    exact R2' s1 a j
  refine ⟨⟨?_, ?_, ?_, ?_⟩, ?_, ?_⟩
  · unfold CF; rw [er]; exact b1.1
  · unfold BS; rw [er]; exact b9
  · rw [er]; exact b15
  · unfold QA QF WF; rw [er]; exact qq
  · rw [e12, h11]
    omega
  · rw [e12, h11, show (l : Int) + 1 = ((l + 1 : Nat) : Int) by omega]
    refine h _ s1 (fun x x1 x2 x3 => by rw [put_ne x1, put_ne x1]; exact s2 x x2 x3) (by rw [put_at, if_neg (by decide), put_at, if_pos rfl]) (by rw [put_at, if_pos rfl]) (fun j j1 j2 => by rw [put_at, if_neg j2, put_at, if_neg j1, e12]) (fun j j1 j2 => by rw [put_ne z0, put_ne z0]; exact s3 j j1 j2) ⟨?_, ?_, fun p hp => ?_⟩
    · rw [put_ne z0, put_ne z0]
      exact s4
    · rw [put_ne z0, put_ne z0, s6]
      unfold mn mkc
      rw [w2]
    · rw [put_ne z1, put_ne z1, s5 p hp]
      unfold mkc
      rw [w2]
