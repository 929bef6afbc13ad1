/-! the class: what stands around a search -/
def qA (aQ i : Nat) : Nat := aQ + 1 + 9 * i
def QA (σ : am_S) (aQ : Nat) : Prop := sR σ 12 2 = some (aQ, 23, 7) ∧ ∀ i, i < 7 → sR σ aQ i = some (qA aQ i, 3, 10) ∧ QF σ (qA aQ i) ∧ WF σ (qA aQ i + 3)
def SEq (σ : am_S) (own : Nat → Nat) (aQ : Nat) : Prop := QA σ aQ ∧ own aQ = 17 ∧ aQ + 64 ≤ sN σ ∧ 87 ≤ sN σ ∧ ∀ i, i < 7 → ∀ k, k < 9 → own (qA aQ i + k) = 2000 + 9 * i + k
def SEi (σ : am_S) (own : Nat → Nat) (X : sX) : Prop := ∃ aI nI, sR σ 13 4 = some (aI, 20, nI) ∧ own aI = 16 ∧ aI < sN σ ∧ 3960 ≤ nI ∧ IMG σ aI X
def SEb (σ : am_S) (own : Nat → Nat) (tr : Nat → Nat) (X : sX) : Prop := ∃ β μ κ ρ me n b aH nH aL nL aY nY aS nS N lo hi T kd, TR σ aH nH aL nL aY nY aS nS ∧ OW own aH aL aY aS ∧ (aH < sN σ ∧ aL < sN σ ∧ aY < sN σ ∧ aS < sN σ) ∧ TI σ N lo hi kd T ∧ KTt σ aH aL N lo hi kd T ∧ T ≤ nH ∧ T ≤ nL ∧ sI σ 10 2 = 0 ∧ BS σ β μ κ ρ me n ∧ OB own β μ ρ n ∧ (∀ g, g < n → β g < sN σ ∧ μ g < sN σ ∧ ρ g + 3 < sN σ) ∧ n ≤ 12 ∧ b < n ∧ κ b ≤ 3 ∧ sR σ 12 6 = some (β b, 0, 9) ∧ (∀ k, cw κ me b k < n ∧ xK X k = sI σ (β (cw κ me b k)) 0 ∧ sI σ (β (cw κ me b k)) 5 = mo (xK X k)) ∧ ∀ p, p < xM X → sI σ 14 p = tr p ∧ tr p < T ∧ ∀ f, (∀ c, -1 ≤ f c ∧ f c ≤ 1) → xD X f p = df f (sI σ 33) (sI σ 34) (sI σ 35) (tr p)
/-- all that a search looks at and does not change -/
def SE (σ : am_S) (own : Nat → Nat) (aQ k0 : Nat) (tr : Nat → Nat) (X : sX) (c0 : Nat → Int) : Prop := SEq σ own aQ ∧ (XV X ∧ (CV X c0 ∧ mn X c0 = xM X) ∧ k0 ≤ 60) ∧ (sI σ 12 7 = k0 ∧ sI σ 12 8 = xL X ∧ sI σ 12 9 = xO X ∧ sI σ 13 2 = xN X ∧ sI σ 13 3 = xM X ∧ ∀ p, p < xM X → sI σ 15 p = c0 p) ∧ SEi σ own X ∧ SEb σ own tr X
/-- roles that a search changes -/
def p0 (r : Nat) : Prop := r = 12 ∨ (18 ≤ r ∧ r ≤ 25) ∨ 2000 ≤ r
theorem cref_d2 : ∀ q ∈ crefL, (q.1 < 18 ∨ 25 < q.1) := by decide
/-- the single objects' frame -/
theorem CF_f2 {σ s : am_S} (hC : CF σ) (h : ∀ a j, a < 31 → (a < 18 ∨ 25 < a) → (a = 12 → j = 0 ∨ j = 1 ∨ j = 3) → (a = 13 → j < 2) → (a = 26 → j < 2) → a ≠ 9 → sR s a j = sR σ a j) : CF s := by
  intro a j r hr
  obtain ⟨q1, q2, q3, q4, q5, q6, q7, q8, q9⟩ := cref_dec _ (crefF_mem _ a j r hr)
  rw [h a j q1 (cref_d2 _ (crefF_mem _ a j r hr)) q3 q4 q5 q6]
  exact hC a j r hr
theorem TI_fr {s σ : am_S} {n l m T : Nat} {kd : Int} (hf : ∀ a, 31 ≤ a → a < 36 → sI s a = sI σ a) (h : TI σ n l m kd T) : TI s n l m kd T := by
  have e31 := hf 31 (by decide) (by decide)
  have e32 := hf 32 (by decide) (by decide)
  have e33 := hf 33 (by decide) (by decide)
  have e34 := hf 34 (by decide) (by decide)
  have e35 := hf 35 (by decide) (by decide)
  unfold TI CT at h ⊢
  rw [e31, e32, e33, e34, e35]
  exact h
theorem SE_fr {σ s : am_S} {own own' : Nat → Nat} {aQ k0 : Nat} {tr : Nat → Nat} {X : sX} {c0 : Nat → Int} (hE : SE σ own aQ k0 tr X c0) (h : OFr σ s own own' p0) (h7 : sI s 12 7 = sI σ 12 7 ∧ sI s 12 8 = sI σ 12 8 ∧ sI s 12 9 = sI σ 12 9) (hr : ∀ j, j ≠ 4 → j ≠ 5 → sR s 12 j = sR σ 12 j) (hq : ∀ x, x < sN σ → 2000 ≤ own x → ∀ j, sR s x j = sR σ x j) : SE s own' aQ k0 tr X c0 := by
  obtain ⟨⟨⟨q1, q2⟩, q3, q4, q5, q6⟩, hx, ⟨i1, i2, i3, i4, i5, i6⟩, ⟨aI, nI, a1, a2, a3, a4, a5⟩, ⟨β, μ, κ, ρ, me, n, b, aH, nH, aL, nL, aY, nY, aS, nS, N, lo, hi, T, kd, b1, b2, b3, b4, b5, b6, b7, b8, b9, b10, b11, b12, b13, b14, b15, b16, b17⟩⟩ := hE
  obtain ⟨f1, f2, f3, f4, f5⟩ := h
  have o1 := b2.1
  have e : ∀ x, x < sN σ → (own x < 12 ∨ (12 < own x ∧ own x < 18) ∨ (25 < own x ∧ own x < 2000)) → sI s x = sI σ x ∧ ∀ j, sR s x j = sR σ x j := by
    intro x hx hp
    refine f1 x hx (fun w => ?_)
    rcases w with w | w | w <;> omega
  have ef : ∀ x, x < 87 → (x < 12 ∨ (12 < x ∧ x < 18) ∨ 25 < x) → sI s x = sI σ x ∧ ∀ j, sR s x j = sR σ x j := by
    intro x hx hp
    refine e x (by omega) ?_
    rw [o1 x hx]
    omega
  have eb : ∀ g, g < n → (∀ j, sR s (β g) j = sR σ (β g) j ∧ sR s (ρ g) j = sR σ (ρ g) j ∧ sR s (ρ g + 2) j = sR σ (ρ g + 2) j ∧ sR s (μ g) j = sR σ (μ g) j) ∧ sI s (β g) = sI σ (β g) := by
    intro g hg
    obtain ⟨z1, z2, z3⟩ := b10 g hg
    obtain ⟨y1, y2, y3⟩ := b11 g hg
    have w1 := e (β g) y1 (by omega)
    have w2 := e (μ g) y2 (by omega)
    have w3 := e (ρ g) (by omega) (by have := z3 0 (by decide); rw [Nat.add_zero] at this; omega)
    have w4 := e (ρ g + 2) (by omega) (by have := z3 2 (by decide); omega)
    exact ⟨fun j => ⟨w1.2 j, w3.2 j, w4.2 j, w2.2 j⟩, w1.1⟩
  have e13 := ef 13 (by decide) (by omega)
  have eq : ∀ i, i < 7 → ∀ k, k < 9 → ∀ j, sR s (qA aQ i + k) j = sR σ (qA aQ i + k) j := by
    intro i hi k hk j
    refine hq _ (by unfold qA; omega) ?_ j
    rw [q6 i hi k hk]
    omega
  refine ⟨⟨⟨by rw [hr 2 (by decide) (by decide)]; exact q1, fun i hi => ?_⟩, by rw [f2 aQ (by omega)]; exact q3, by omega, by omega, fun i hi k hk => ?_⟩, hx, ⟨by rw [h7.1]; exact i1, by rw [h7.2.1]; exact i2, by rw [h7.2.2]; exact i3, by rw [e13.1]; exact i4, by rw [e13.1]; exact i5, fun p hp => by rw [(ef 15 (by decide) (by omega)).1]; exact i6 p hp⟩, ⟨aI, nI, by rw [e13.2]; exact a1, by rw [f2 aI a3]; exact a2, by omega, a4, fun t ht x y hxy hy => by rw [(e aI a3 (by omega)).1]; exact a5 t ht x y hxy hy⟩, ⟨β, μ, κ, ρ, me, n, b, aH, nH, aL, nL, aY, nY, aS, nS, N, lo, hi, T, kd, ?_, ?_, by omega, TI_fr (fun a ha hb => (ef a (by omega) (by omega)).1) b4, ?_, b6, b7, by rw [(ef 10 (by decide) (by omega)).1]; exact b8, BS_fr b9 (fun g _ => (ef 9 (by decide) (by omega)).2 g) (fun g hg => (eb g hg).1), ?_, fun g hg => ?_, b12, b13, b14, by rw [hr 6 (by decide) (by decide)]; exact b15, fun k => ?_, fun p hp => ?_⟩⟩
  · obtain ⟨w1, w2, w3⟩ := q2 i hi
    have z0 := eq i hi 0 (by decide)
    have z3 := eq i hi 3 (by decide)
    rw [Nat.add_zero] at z0
    refine ⟨by rw [(e aQ (by omega) (by omega)).2]; exact w1, ?_, ?_⟩
    · unfold QF
      rw [z0, z0, z0]
      exact w2
    · unfold WF
      rw [z3, z3, z3, z3, z3]
      exact w3
  · rw [f2 _ (by unfold qA; omega)]
    exact q6 i hi k hk
  · have e3 := (ef 3 (by decide) (by omega)).2
    refine ⟨CF_f2 b1.1 (fun a j ha ha2 h12 _ _ _ => ?_), by rw [e3]; exact b1.2.1, by rw [e3]; exact b1.2.2.1, by rw [e3]; exact b1.2.2.2.1, by rw [e3]; exact b1.2.2.2.2⟩
    by_cases c : a = 12
    · rw [c]
      have := h12 c
      exact hr j (by omega) (by omega)
    · exact (ef a (by omega) (by omega)).2 j
  · obtain ⟨w1, w2, w3, w4, w5⟩ := b2
    obtain ⟨l1, l2, l3, l4⟩ := b3
    exact ⟨fun a ha => by rw [f2 a (by omega)]; exact w1 a ha, by rw [f2 _ l1]; exact w2, by rw [f2 _ l2]; exact w3, by rw [f2 _ l3]; exact w4, by rw [f2 _ l4]; exact w5⟩
  · intro t ht
    rw [(e aH b3.1 (by rw [b2.2.1]; omega)).1, (e aL b3.2.1 (by rw [b2.2.2.1]; omega)).1]
    exact b5 t ht
  · intro g hg
    obtain ⟨z1, z2, z3⟩ := b10 g hg
    obtain ⟨y1, y2, y3⟩ := b11 g hg
    exact ⟨by rw [f2 _ y1]; exact z1, by rw [f2 _ y2]; exact z2, fun k hk => by rw [f2 _ (by omega)]; exact z3 k hk⟩
  · have := b11 g hg
    omega
  · obtain ⟨w1, w2, w3⟩ := b16 k
    rw [(eb _ w1).2]
    exact ⟨w1, w2, w3⟩
  · rw [(ef 14 (by decide) (by omega)).1, (ef 33 (by decide) (by omega)).1, (ef 34 (by decide) (by omega)).1, (ef 35 (by decide) (by omega)).1]
    exact b17 p hp

/-- only ints of a search's own cells change -/
theorem SE_I {σ s : am_S} {own : Nat → Nat} {aQ k0 : Nat} {tr : Nat → Nat} {X : sX} {c0 : Nat → Int} (hE : SE σ own aQ k0 tr X c0) (h2 : s.2 = σ.2) (h : ∀ x, x < sN σ → ¬ p0 (own x) → sI s x = sI σ x) (h7 : sI s 12 7 = sI σ 12 7 ∧ sI s 12 8 = sI σ 12 8 ∧ sI s 12 9 = sI σ 12 9) : SE s own aQ k0 tr X c0 := SE_fr hE (OFr_I h2 h) h7 (fun j _ _ => R2' h2 12 j) (fun x _ _ j => R2' h2 x j)
theorem SE_CF {σ : am_S} {own : Nat → Nat} {aQ k0 : Nat} {tr : Nat → Nat} {X : sX} {c0 : Nat → Int} (hE : SE σ own aQ k0 tr X c0) : CF σ := by
  obtain ⟨_, _, _, _, ⟨β, μ, κ, ρ, me, n, b, aH, nH, aL, nL, aY, nY, aS, nS, N, lo, hi, T, kd, b1, _⟩⟩ := hE
  exact b1.1
theorem SE_87 {σ : am_S} {own : Nat → Nat} {aQ k0 : Nat} {tr : Nat → Nat} {X : sX} {c0 : Nat → Int} (hE : SE σ own aQ k0 tr X c0) : ∀ a, a < 87 → own a = a := by
  obtain ⟨_, _, _, _, ⟨β, μ, κ, ρ, me, n, b, aH, nH, aL, nL, aY, nY, aS, nS, N, lo, hi, T, kd, b1, b2, _⟩⟩ := hE
  exact b2.1
theorem e_weigher (d : Nat) {own : Nat → Nat} {aQ k0 dp : Nat} {tr : Nat → Nat} {X : sX} {c0 : Nat → Int} {σ : am_S} {K : Option am_R → am_S → Prop} (hE : SE σ own aQ k0 tr X c0) (hd : dp ≤ 10) (h : ∀ g, sI σ g 5 = mo (xK X (k0 + dp)) → K (some (g, 0, 9)) σ) : am_Calls PP MLL (d + 3) m_Search_weigherAt [qr (12, 5, 18), qi (dp : Int)] σ (kO K) := by
  obtain ⟨_, ⟨hX, hc, hk⟩, ⟨i1, _⟩, _, ⟨β, μ, κ, ρ, me, n, b, aH, nH, aL, nL, aY, nY, aS, nS, N, lo, hi, T, kd, b1, b2, b3, b4, b5, b6, b7, b8, b9, b10, b11, b12, b13, b14, b15, b16, b17⟩⟩ := hE
  exact c_sweigherAt d b1.1 b9 b15 b13 b14 i1 (by omega) (h _ (b16 (k0 + dp)).2.2)
theorem v_Search_isHopeless_0 (d : Nat) (p1 p2 : Int) (σ : am_S) (K : Int → am_S → Prop) (hC : CF σ) (h :
  am_Runs PP MLL d m_Search_isHopeless 4 [some (qr (12, 5, 18)), some (qi p1), some (qi p2), some (qi 1), some (qi 0)] [] σ (kI K)) : am_Runs PP MLL d m_Search_isHopeless 0 [some (qr (12, 5, 18)), some (qi p1), some (qi p2), none, none] [] σ (kI K) := am_wEC_ok (orc []) [22] 200 (h)

theorem v_Search_isHopeless_4 (d : Nat) (p1 p2 v3 v4 : Int) (σ : am_S) (K : Int → am_S → Prop) (hC : CF σ) (h :
  ((p2 ≤ v4 →
    ((if p2 ≤ 0 then (1 : Int) else (if p1 ≤ v3 then (0 : Int) else 1)) = 0 ∨ (if p2 ≤ 0 then (1 : Int) else (if p1 ≤ v3 then (0 : Int) else 1)) = 1) ∧
    K (if p2 ≤ 0 then (1 : Int) else (if p1 ≤ v3 then (0 : Int) else 1)) σ) ∧
  (¬ (p2 ≤ v4) →
    (-2147483648 ≤ v3 * (sI σ 12 9) ∧ v3 * (sI σ 12 9) < 2147483648 ∧ -2147483648 ≤ v4 + 1 ∧ v4 + 1 < 2147483648) ∧
    am_Runs PP MLL d m_Search_isHopeless 4 [some (qr (12, 5, 18)), some (qi p1), some (qi p2), some (qi (v3 * (sI σ 12 9))), some (qi (v4 + 1))] [] σ (kI K)))) : am_Runs PP MLL d m_Search_isHopeless 4 [some (qr (12, 5, 18)), some (qi p1), some (qi p2), some (qi v3), some (qi v4)] [] σ (kI K) := am_wEC_ok (orc []) [22] 200 (⟨fun c2 => am_use (fun H5 => ⟨fun c3 => (Eq.mp (congrArg (fun z => am_Runs _ _ _ _ _ _ (qi z :: _) _ _) (if_pos c3 : (if p2 ≤ 0 then (1 : Int) else if p1 ≤ v3 then (0 : Int) else 1) = 1)) H5), fun c3 => ⟨fun c4 => (Eq.mp (congrArg (fun z => am_Runs _ _ _ _ _ _ (qi z :: _) _ _) (Eq.trans (if_neg c3 : (if p2 ≤ 0 then (1 : Int) else if p1 ≤ v3 then (0 : Int) else 1) = if p1 ≤ v3 then (0 : Int) else 1) (if_pos c4 : (if p1 ≤ v3 then (0 : Int) else 1) = 0))) H5), fun c4 => (Eq.mp (congrArg (fun z => am_Runs _ _ _ _ _ _ (qi z :: _) _ _) (Eq.trans (if_neg c3 : (if p2 ≤ 0 then (1 : Int) else if p1 ≤ v3 then (0 : Int) else 1) = if p1 ≤ v3 then (0 : Int) else 1) (if_neg c4 : (if p1 ≤ v3 then (0 : Int) else 1) = 1))) H5)⟩⟩) (am_wEC_ok (orc []) [22] 200 (⟨(h.1 c2).1, (h.1 c2).2⟩)), fun c2 => ⟨rfl, ⟨⟨(h.2 c2).1.1, (h.2 c2).1.2.1⟩, ⟨⟨(h.2 c2).1.2.2.1, (h.2 c2).1.2.2.2⟩, (h.2 c2).2⟩⟩⟩⟩)

theorem c_isHopeless (d : Nat) {X : sX} {c : Nat → Int} {n : Nat} {σ : am_S} {K : Int → am_S → Prop} (hC : CF σ) (hX : XV X) (hO : sI σ 12 9 = xO X) (hn : n ≤ 6) (h1 : big X n c → K 1 σ) (h0 : ¬ big X n c → K 0 σ) : am_Calls PP MLL (d + 1) m_Search_isHopeless [qr (12, 5, 18), qi (mn X c), qi (n : Int)] σ (kI K) := by
  have hO2 := hX.2.2.2.2.2.2
  refine v_Search_isHopeless_0 d _ _ σ K hC ?_
  have lp0 : ∀ i : Nat, i ≤ n → am_Runs PP MLL d m_Search_isHopeless 4 [some (qr (12, 5, 18)), some (qi (mn X c)), some (qi (n : Int)), some (qi (xO X ^ i)), some (qi (i : Int))] [] σ (kI K) := by
    refine lp ?_ ?_
    · refine v_Search_isHopeless_4 d _ _ _ _ σ K hC ⟨fun _ => ?_, fun c => absurd (by omega) c⟩
      by_cases c0 : (n : Int) ≤ 0
      · rw [if_pos c0]
        exact ⟨by omega, h1 (Or.inl (by omega))⟩
      · rw [if_neg c0]
        by_cases c1 : mn X c ≤ xO X ^ n
        · rw [if_pos c1]
          exact ⟨by omega, h0 (fun w => by rcases w with w | w <;> omega)⟩
        · rw [if_neg c1]
          exact ⟨by omega, h1 (Or.inr (by omega))⟩
    · intro i hi ih
      refine v_Search_isHopeless_4 d _ _ _ _ σ K hC ⟨fun w => by omega, fun _ => ?_⟩
      have pb := xO_pow hO2 (n := i + 1) (by omega)
      rw [hO, show xO X ^ i * xO X = xO X ^ (i + 1) from (Int.pow_succ _ _).symm, show (i : Int) + 1 = ((i + 1 : Nat) : Int) by omega]
      exact ⟨by omega, ih⟩
  have := lp0 0 (Nat.zero_le _)
  rw [Int.pow_zero] at this
  exact this
