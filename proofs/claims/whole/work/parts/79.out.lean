/-! the class: what a weighing tells, the case behind an outcome -/
theorem v_Search_weigherAt_0 (d : Nat) (β μ κ ρ : Nat → Nat) (me : Nat → Nat → Nat) (n b : Nat) (p1 : Int) (σ : am_S) (K : Option am_R → am_S → Prop) (hC : CF σ) (hB : BS σ β μ κ ρ me n) (hn : sR σ 12 6 = some (β b, 0, 9)) (h :
  (-2147483648 ≤ (sI σ 12 7) + p1 ∧ (sI σ 12 7) + p1 < 2147483648) ∧
  am_Calls PP MLL (d + 2) m_Balance_weigherAt [qr (β b, 0, 9), qi ((sI σ 12 7) + p1)] σ (kO fun x1 s1 =>
    (CF s1 ∧ BS s1 β μ κ ρ me n ∧ sR s1 12 6 = some (β b, 0, 9)) ∧
    K x1 s1)) : am_Runs PP MLL (d + 2) m_Search_weigherAt 0 [some (qr (12, 5, 18)), some (qi p1)] [] σ (kO K) := am_wEF_ok (orc [(1, β b, 0, 9)]) 200 (⟨⟨rfl, hn⟩, ⟨rfl, ⟨⟨h.1.1, h.1.2⟩, ⟨rfl, (am_cO h.2 fun x1 s1 h1 => h1.2)⟩⟩⟩⟩)

theorem c_sweigherAt (d : Nat) {β μ κ ρ : Nat → Nat} {me : Nat → Nat → Nat} {b n : Nat} {k0 dp : Nat} {σ : am_S} {K : Option am_R → am_S → Prop} (hC : CF σ) (hB : BS σ β μ κ ρ me n) (hn : sR σ 12 6 = some (β b, 0, 9)) (hb : b < n) (hk : κ b ≤ 3) (h7 : sI σ 12 7 = k0) (hk0 : k0 + dp ≤ 100) (h : K (some (β (cw κ me b (k0 + dp)), 0, 9)) σ) : am_Calls PP MLL (d + 3) m_Search_weigherAt [qr (12, 5, 18), qi (dp : Int)] σ (kO K) := by
  refine v_Search_weigherAt_0 d β μ κ ρ me n b dp σ K hC hB hn ?_
  rw [h7, show (k0 : Int) + (dp : Int) = ((k0 + dp : Nat) : Int) by omega]
  exact ⟨by omega, c_weigherAt d hB hb hk hk0 ⟨⟨hC, hB, hn⟩, h⟩⟩
theorem v_Search_hearAll_0 (d : Nat) (β μ κ ρ : Nat → Nat) (me : Nat → Nat → Nat) (Q aH nH aL nL aY nY aS nS n b : Nat) (p2 : Int) (σ : am_S) (K : am_S → Prop) (hR : TR σ aH nH aL nL aY nY aS nS) (hB : BS σ β μ κ ρ me n) (hn : sR σ 12 6 = some (β b, 0, 9)) (hQ : QF σ Q) (hW : WF σ (Q + 3)) (h :
  am_Calls PP MLL (d + 4) m_Search_weigherAt [qr (12, 5, 18), qi p2] σ (kO fun x1 s1 =>
    (TR s1 aH nH aL nL aY nY aS nS ∧ BS s1 β μ κ ρ me n ∧ sR s1 12 6 = some (β b, 0, 9) ∧ QF s1 Q ∧ WF s1 (Q + 3)) ∧
    am_Runs PP MLL (d + 4) m_Search_hearAll 16 [some (qr (12, 5, 18)), some (qr (Q, 3, 10)), some (qi p2), some (qo x1), some (ql (sI s1 (Q + 3) 9)), none, some (ql (sI s1 (Q + 3) 10)), none, some (qi 0)] [] s1 (kV K))) : am_Runs PP MLL (d + 4) m_Search_hearAll 0 [some (qr (12, 5, 18)), some (qr (Q, 3, 10)), some (qi p2), none, none, none, none, none, none] [] σ (kV K) := am_wEF_ok (orc [(5, Q + 3, 10, 11), (10, Q + 3, 10, 11)]) 200 (⟨rfl, (am_cO h fun x1 s1 h1 => ⟨⟨rfl, h1.1.2.2.2.1.2.2⟩, ⟨rfl, ⟨⟨rfl, h1.1.2.2.2.1.2.2⟩, ⟨rfl, h1.2⟩⟩⟩⟩)⟩)

theorem v_Search_hearAll_16 (d : Nat) (β μ κ ρ : Nat → Nat) (me : Nat → Nat → Nat) (Q g aH nH aL nL aY nY aS nS n b : Nat) (v4 v6 v8 : Int) (z2 z5 z7 : Option am_V) (σ : am_S) (K : am_S → Prop) (hR : TR σ aH nH aL nL aY nY aS nS) (hB : BS σ β μ κ ρ me n) (hn : sR σ 12 6 = some (β b, 0, 9)) (hQ : QF σ Q) (hW : WF σ (Q + 3)) (h :
  (((sI σ Q 3) ≤ v8 →
    K σ) ∧
  (¬ ((sI σ Q 3) ≤ v8) →
    (0 ≤ v8 ∧ v8 < 60) ∧
    (((sI σ (Q + 1) (Int.toNat v8)) = (-1) →
      (-2147483648 ≤ v8 + 1 ∧ v8 + 1 < 2147483648) ∧
      am_Runs PP MLL (d + 4) m_Search_hearAll 16 [some (qr (12, 5, 18)), some (qr (Q, 3, 10)), z2, some (qr (β g, 0, 9)), some (ql v4), z5, some (ql v6), (am_cl z7), some (qi (v8 + 1))] [] σ (kV K)) ∧
    (¬ ((sI σ (Q + 1) (Int.toNat v8)) = (-1)) →
      am_Calls PP MLL (d + 4) m_Truths_difference [qr (3, 9, 11), qi (sI σ 14 (Int.toNat v8)), ql v4, ql v6] σ (kI fun x6 s6 =>
        (TR s6 aH nH aL nL aY nY aS nS ∧ BS s6 β μ κ ρ me n ∧ sR s6 12 6 = some (β b, 0, 9) ∧ QF s6 Q ∧ WF s6 (Q + 3)) ∧
        am_Calls PP MLL (d + 4) m_Balance_tells [qr (β g, 0, 9), qi x6] s6 (kI fun x7 s7 =>
          (TR s7 aH nH aL nL aY nY aS nS ∧ BS s7 β μ κ ρ me n ∧ sR s7 12 6 = some (β b, 0, 9) ∧ QF s7 Q ∧ WF s7 (Q + 3)) ∧
          (-2147483648 ≤ v8 + 1 ∧ v8 + 1 < 2147483648) ∧
          am_Runs PP MLL (d + 4) m_Search_hearAll 16 [some (qr (12, 5, 18)), some (qr (Q, 3, 10)), z2, some (qr (β g, 0, 9)), some (ql v4), z5, some (ql v6), (am_cl z7), some (qi (v8 + 1))] [] (putI s7 (Q + 2) (Int.toNat v8) x7) (kV K)))))))) : am_Runs PP MLL (d + 4) m_Search_hearAll 16 [some (qr (12, 5, 18)), some (qr (Q, 3, 10)), z2, some (qr (β g, 0, 9)), some (ql v4), z5, some (ql v6), z7, some (qi v8)] [] σ (kV K) := am_wEF_ok (orc [(21, Q + 1, 20, 60), (28, Q + 2, 20, 60), (32, 3, 9, 11), (34, 13, 6, 5), (35, 14, 20, 60)]) 200 (⟨rfl, ⟨fun c3 => (h.1 c3), fun c3 => ⟨⟨rfl, hQ.1⟩, ⟨⟨rfl, (h.2 c3).1.1, (h.2 c3).1.2⟩, ⟨fun c5 => ⟨⟨((h.2 c3).2.1 c5).1.1, ((h.2 c3).2.1 c5).1.2⟩, ((h.2 c3).2.1 c5).2⟩, fun c5 => ⟨⟨rfl, hQ.2.1⟩, ⟨⟨rfl, (hR.1 12 0 _ rfl)⟩, ⟨⟨rfl, (hR.1 12 1 _ rfl)⟩, ⟨⟨rfl, (hR.1 13 0 _ rfl)⟩, ⟨⟨rfl, (h.2 c3).1.1, (h.2 c3).1.2⟩, ⟨rfl, (am_cI ((h.2 c3).2.2 c5) fun x6 s6 h6 => ⟨rfl, (am_cI h6.2 fun x7 s7 h7 => ⟨⟨rfl, (h.2 c3).1.1, (h.2 c3).1.2⟩, ⟨⟨h7.2.1.1, h7.2.1.2⟩, h7.2.2⟩⟩)⟩)⟩⟩⟩⟩⟩⟩⟩⟩⟩⟩⟩)

theorem c_hearAll (d : Nat) {own β μ κ ρ : Nat → Nat} {me : Nat → Nat → Nat} {aH nH aL nL aY nY aS nS : Nat} {Q n b N l m T k0 dp M lf rt : Nat} {kd : Int} {tr : Nat → Nat} {σ : am_S} {K : am_S → Prop} (hR : TR σ aH nH aL nL aY nY aS nS) (hB : BS σ β μ κ ρ me n) (hn : sR σ 12 6 = some (β b, 0, 9)) (hQ : QF σ Q) (hW : WF σ (Q + 3)) (hO : OW own aH aL aY aS) (hOB : OB own β μ ρ n) (hn12 : n ≤ 12) (hq2 : 2000 ≤ own (Q + 2)) (hT : TI σ N l m kd T) (hK : KTt σ aH aL N l m kd T) (hH : T ≤ nH) (hL : T ≤ nL) (ho : sI σ 10 2 = 0) (hb : b < n) (hkb : κ b ≤ 3) (hg : cw κ me b (k0 + dp) < n) (h7 : sI σ 12 7 = k0) (hk0 : k0 + dp ≤ 100) (hM : sI σ Q 3 = M) (hM2 : M ≤ 60) (htr : ∀ p, p < M → sI σ 14 p = tr p ∧ tr p < T) (h9 : sI σ (Q + 3) 9 = lf) (h10 : sI σ (Q + 3) 10 = rt) (hlf : lf < 4096) (hrt : rt < 4096) (hlr : ∀ c, bt lf c * bt rt c = 0)
    (h : ∀ s, s.2 = σ.2 → (∀ x, x ≠ Q + 2 → sI s x = sI σ x) → (∀ p, p < M → sI σ (Q + 1) p ≠ -1 → sI s (Q + 2) p = tl (sI σ (β (cw κ me b (k0 + dp))) 0) (df (fun c => bt lf c - bt rt c) (sI σ 33) (sI σ 34) (sI σ 35) (tr p))) → K s) : am_Calls PP MLL (d + 5) m_Search_hearAll [qr (12, 5, 18), qr (Q, 3, 10), qi (dp : Int)] σ (kV K) := by
  obtain ⟨o1, o2, o3, o4, o5⟩ := hO
  obtain ⟨g, eg⟩ : ∃ g, g = cw κ me b (k0 + dp) := ⟨_, rfl⟩
  rw [← eg] at hg h
  have nq : ∀ x, own x < 2000 → x ≠ Q + 2 := fun x hx e => by rw [e] at hx; omega
  have nf : ∀ x, x < 87 → x ≠ Q + 2 := fun x hx => nq x (by rw [o1 x hx]; omega)
  have nB : β g ≠ Q + 2 := nq _ (by rw [(hOB g hg).1]; omega)
  have nHQ : aH ≠ Q + 2 := nq _ (by rw [o2]; decide)
  have nLQ : aL ≠ Q + 2 := nq _ (by rw [o3]; decide)
  refine v_Search_hearAll_0 d β μ κ ρ me Q aH nH aL nL aY nY aS nS n b dp σ K hR hB hn hQ hW ?_
  refine c_sweigherAt (d + 1) hR.1 hB hn hb hkb h7 hk0 ⟨⟨hR, hB, hn, hQ, hW⟩, ?_⟩
  rw [h9, h10, ← eg]
  have fx : ∀ s, s.2 = σ.2 → TR s aH nH aL nL aY nY aS nS ∧ BS s β μ κ ρ me n ∧ sR s 12 6 = some (β b, 0, 9) ∧ QF s Q ∧ WF s (Q + 3) := by
    intro s hs
    have e : sR s = sR σ := by
      funext a j
      exact R2' hs a j
    unfold TR CF BS QF WF
    rw [e]
    exact ⟨hR, hB, hn, hQ, hW⟩
  have lp0 : ∀ i : Nat, i ≤ M → ∀ s z2 z5 z7, s.2 = σ.2 → (∀ x, x ≠ Q + 2 → sI s x = sI σ x) → (∀ p, p < i → sI σ (Q + 1) p ≠ -1 → sI s (Q + 2) p = tl (sI σ (β g) 0) (df (fun c => bt lf c - bt rt c) (sI σ 33) (sI σ 34) (sI σ 35) (tr p))) → am_Runs PP MLL (d + 4) m_Search_hearAll 16 [some (qr (12, 5, 18)), some (qr (Q, 3, 10)), z2, some (qr (β g, 0, 9)), some (ql (lf : Int)), z5, some (ql (rt : Int)), z7, some (qi (i : Int))] [] s (kV K) := by
    refine lp ?_ ?_
    · intro s z2 z5 z7 s2 so sp
      obtain ⟨f1, f2, f3, f4, f5⟩ := fx s s2
      exact v_Search_hearAll_16 d β μ κ ρ me Q g aH nH aL nL aY nY aS nS n b _ _ _ z2 z5 z7 s K f1 f2 f3 f4 f5 ⟨fun _ => h s s2 so sp, fun c => absurd (by rw [so Q (by omega)]; omega) c⟩
    · intro i hi ih s z2 z5 z7 s2 so sp
      obtain ⟨f1, f2, f3, f4, f5⟩ := fx s s2
      obtain ⟨t1, t2⟩ := htr i hi
      refine v_Search_hearAll_16 d β μ κ ρ me Q g aH nH aL nL aY nY aS nS n b _ _ _ z2 z5 z7 s K f1 f2 f3 f4 f5 ⟨fun c => absurd c (by rw [so Q (by omega)]; omega), fun _ => ?_⟩
      rw [Int.toNat_natCast, so (Q + 1) (by omega), so 14 (nf 14 (by decide)), t1]
      refine ⟨by omega, fun c => ⟨by omega, ?_⟩, fun c => ?_⟩
      · refine ih s _ _ _ s2 so (fun p hp hc => ?_)
        by_cases e : p = i
        · rw [e] at hc; exact absurd c hc
        · exact sp p (by omega) hc
      · obtain ⟨H, L, kH, kL, bH, bL, kd1⟩ := k_diff (s := s) hT hK t2 hlr (by rw [so aH nHQ]) (by rw [so aL nLQ])
        have dfb := df_bd (TI_40 hT t2) (fun c => bt_pm lf rt c)
        refine c_difference (d + 2) f1 (by omega) (by omega) kH kL bH bL (by omega) (by omega) ⟨⟨f1, f2, f3, f4, f5⟩, ?_⟩
        rw [kd1]
        refine c_tells d f2 hg (by rw [so 10 (nf 10 (by decide))]; exact ho) (by omega) ⟨⟨f1, f2, f3, f4, f5⟩, by omega, ?_⟩
        rw [so (β g) nB]
        refine ih _ _ _ _ s2 (fun x hx => by rw [put_ne hx]; exact so x hx) (fun p hp hc => ?_)
        rw [put_at]
        by_cases e : p = i
        · rw [if_pos e, e]
        · rw [if_neg e]
          exact sp p (by omega) hc
  exact lp0 0 (Nat.zero_le _) σ _ _ _ rfl (fun _ _ => rfl) (fun p hp => absurd hp (Nat.not_lt_zero p))
theorem v_Question_takeOutcome_0 (d : Nat) (β μ κ ρ : Nat → Nat) (me : Nat → Nat → Nat) (P Q g n : Nat) (p3 : Int) (σ : am_S) (K : am_S → Prop) (hB : BS σ β μ κ ρ me n) (hQ : QF σ P) (hQ2 : QF σ Q) (h :
  am_Runs PP MLL (d + 1) m_Question_takeOutcome 9 [some (qr (P, 3, 10)), some (qr (Q, 3, 10)), some (qr (β g, 0, 9)), some (qi p3), some (qi 0)] [] (putI (putI σ P 3 (sI σ Q 3)) P 4 0) (kV K)) : am_Runs PP MLL (d + 1) m_Question_takeOutcome 0 [some (qr (P, 3, 10)), some (qr (Q, 3, 10)), some (qr (β g, 0, 9)), some (qi p3), none] [] σ (kV K) := am_wEF_ok (orc []) 200 (⟨rfl, ⟨rfl, ⟨rfl, h⟩⟩⟩)

theorem v_Question_takeOutcome_9 (d : Nat) (β μ κ ρ : Nat → Nat) (me : Nat → Nat → Nat) (P Q g n : Nat) (p3 v4 : Int) (σ : am_S) (K : am_S → Prop) (hB : BS σ β μ κ ρ me n) (hQ : QF σ P) (hQ2 : QF σ Q) (h :
  (((sI σ P 3) ≤ v4 →
    K σ) ∧
  (¬ ((sI σ P 3) ≤ v4) →
    (0 ≤ v4 ∧ v4 < 60) ∧
    (((sI (putI σ (P + 1) (Int.toNat v4) (sI σ (Q + 1) (Int.toNat v4))) (P + 1) (Int.toNat v4)) = (-1) →
      (-2147483648 ≤ v4 + 1 ∧ v4 + 1 < 2147483648) ∧
      am_Runs PP MLL (d + 1) m_Question_takeOutcome 9 [some (qr (P, 3, 10)), some (qr (Q, 3, 10)), some (qr (β g, 0, 9)), some (qi p3), some (qi (v4 + 1))] [] (putI σ (P + 1) (Int.toNat v4) (sI σ (Q + 1) (Int.toNat v4))) (kV K)) ∧
    (¬ ((sI (putI σ (P + 1) (Int.toNat v4) (sI σ (Q + 1) (Int.toNat v4))) (P + 1) (Int.toNat v4)) = (-1)) →
      (0 ≤ (sI (putI σ (P + 1) (Int.toNat v4) (sI σ (Q + 1) (Int.toNat v4))) (P + 1) (Int.toNat v4)) ∧ (sI (putI σ (P + 1) (Int.toNat v4) (sI σ (Q + 1) (Int.toNat v4))) (P + 1) (Int.toNat v4)) ≤ 1000) ∧
      (((sI (putI (putI σ (P + 1) (Int.toNat v4) (sI σ (Q + 1) (Int.toNat v4))) (P + 1) (Int.toNat v4) (lb (sI (putI σ (P + 1) (Int.toNat v4) (sI σ (Q + 1) (Int.toNat v4))) (β g) 0) (sI (putI σ (P + 1) (Int.toNat v4) (sI σ (Q + 1) (Int.toNat v4))) (Q + 2) (Int.toNat v4)) (sI (putI σ (P + 1) (Int.toNat v4) (sI σ (Q + 1) (Int.toNat v4))) Q 6) (sI (putI σ (P + 1) (Int.toNat v4) (sI σ (Q + 1) (Int.toNat v4))) (P + 1) (Int.toNat v4)) p3)) (P + 1) (Int.toNat v4)) = (-1) →
        (-2147483648 ≤ v4 + 1 ∧ v4 + 1 < 2147483648) ∧
        am_Runs PP MLL (d + 1) m_Question_takeOutcome 9 [some (qr (P, 3, 10)), some (qr (Q, 3, 10)), some (qr (β g, 0, 9)), some (qi p3), some (qi (v4 + 1))] [] (putI (putI σ (P + 1) (Int.toNat v4) (sI σ (Q + 1) (Int.toNat v4))) (P + 1) (Int.toNat v4) (lb (sI (putI σ (P + 1) (Int.toNat v4) (sI σ (Q + 1) (Int.toNat v4))) (β g) 0) (sI (putI σ (P + 1) (Int.toNat v4) (sI σ (Q + 1) (Int.toNat v4))) (Q + 2) (Int.toNat v4)) (sI (putI σ (P + 1) (Int.toNat v4) (sI σ (Q + 1) (Int.toNat v4))) Q 6) (sI (putI σ (P + 1) (Int.toNat v4) (sI σ (Q + 1) (Int.toNat v4))) (P + 1) (Int.toNat v4)) p3)) (kV K)) ∧
      (¬ ((sI (putI (putI σ (P + 1) (Int.toNat v4) (sI σ (Q + 1) (Int.toNat v4))) (P + 1) (Int.toNat v4) (lb (sI (putI σ (P + 1) (Int.toNat v4) (sI σ (Q + 1) (Int.toNat v4))) (β g) 0) (sI (putI σ (P + 1) (Int.toNat v4) (sI σ (Q + 1) (Int.toNat v4))) (Q + 2) (Int.toNat v4)) (sI (putI σ (P + 1) (Int.toNat v4) (sI σ (Q + 1) (Int.toNat v4))) Q 6) (sI (putI σ (P + 1) (Int.toNat v4) (sI σ (Q + 1) (Int.toNat v4))) (P + 1) (Int.toNat v4)) p3)) (P + 1) (Int.toNat v4)) = (-1)) →
        (-2147483648 ≤ (sI (putI (putI σ (P + 1) (Int.toNat v4) (sI σ (Q + 1) (Int.toNat v4))) (P + 1) (Int.toNat v4) (lb (sI (putI σ (P + 1) (Int.toNat v4) (sI σ (Q + 1) (Int.toNat v4))) (β g) 0) (sI (putI σ (P + 1) (Int.toNat v4) (sI σ (Q + 1) (Int.toNat v4))) (Q + 2) (Int.toNat v4)) (sI (putI σ (P + 1) (Int.toNat v4) (sI σ (Q + 1) (Int.toNat v4))) Q 6) (sI (putI σ (P + 1) (Int.toNat v4) (sI σ (Q + 1) (Int.toNat v4))) (P + 1) (Int.toNat v4)) p3)) P 4) + 1 ∧ (sI (putI (putI σ (P + 1) (Int.toNat v4) (sI σ (Q + 1) (Int.toNat v4))) (P + 1) (Int.toNat v4) (lb (sI (putI σ (P + 1) (Int.toNat v4) (sI σ (Q + 1) (Int.toNat v4))) (β g) 0) (sI (putI σ (P + 1) (Int.toNat v4) (sI σ (Q + 1) (Int.toNat v4))) (Q + 2) (Int.toNat v4)) (sI (putI σ (P + 1) (Int.toNat v4) (sI σ (Q + 1) (Int.toNat v4))) Q 6) (sI (putI σ (P + 1) (Int.toNat v4) (sI σ (Q + 1) (Int.toNat v4))) (P + 1) (Int.toNat v4)) p3)) P 4) + 1 < 2147483648 ∧ -2147483648 ≤ v4 + 1 ∧ v4 + 1 < 2147483648) ∧
        am_Runs PP MLL (d + 1) m_Question_takeOutcome 9 [some (qr (P, 3, 10)), some (qr (Q, 3, 10)), some (qr (β g, 0, 9)), some (qi p3), some (qi (v4 + 1))] [] (putI (putI (putI σ (P + 1) (Int.toNat v4) (sI σ (Q + 1) (Int.toNat v4))) (P + 1) (Int.toNat v4) (lb (sI (putI σ (P + 1) (Int.toNat v4) (sI σ (Q + 1) (Int.toNat v4))) (β g) 0) (sI (putI σ (P + 1) (Int.toNat v4) (sI σ (Q + 1) (Int.toNat v4))) (Q + 2) (Int.toNat v4)) (sI (putI σ (P + 1) (Int.toNat v4) (sI σ (Q + 1) (Int.toNat v4))) Q 6) (sI (putI σ (P + 1) (Int.toNat v4) (sI σ (Q + 1) (Int.toNat v4))) (P + 1) (Int.toNat v4)) p3)) P 4 ((sI (putI (putI σ (P + 1) (Int.toNat v4) (sI σ (Q + 1) (Int.toNat v4))) (P + 1) (Int.toNat v4) (lb (sI (putI σ (P + 1) (Int.toNat v4) (sI σ (Q + 1) (Int.toNat v4))) (β g) 0) (sI (putI σ (P + 1) (Int.toNat v4) (sI σ (Q + 1) (Int.toNat v4))) (Q + 2) (Int.toNat v4)) (sI (putI σ (P + 1) (Int.toNat v4) (sI σ (Q + 1) (Int.toNat v4))) Q 6) (sI (putI σ (P + 1) (Int.toNat v4) (sI σ (Q + 1) (Int.toNat v4))) (P + 1) (Int.toNat v4)) p3)) P 4) + 1)) (kV K)))))))) : am_Runs PP MLL (d + 1) m_Question_takeOutcome 9 [some (qr (P, 3, 10)), some (qr (Q, 3, 10)), some (qr (β g, 0, 9)), some (qi p3), some (qi v4)] [] σ (kV K) := am_wEF_ok (orc [(14, P + 1, 20, 60), (17, Q + 1, 20, 60), (22, P + 1, 20, 60), (29, P + 1, 20, 60), (33, Q + 2, 20, 60), (39, P + 1, 20, 60), (46, P + 1, 20, 60)]) 200 (⟨rfl, ⟨fun c2 => (h.1 c2), fun c2 => ⟨⟨rfl, hQ.1⟩, ⟨⟨rfl, hQ2.1⟩, ⟨⟨rfl, (h.2 c2).1.1, (h.2 c2).1.2⟩, ⟨⟨rfl, (h.2 c2).1.1, (h.2 c2).1.2⟩, ⟨⟨rfl, hQ.1⟩, ⟨⟨rfl, (h.2 c2).1.1, (h.2 c2).1.2⟩, ⟨fun c4 => ⟨⟨((h.2 c2).2.1 c4).1.1, ((h.2 c2).2.1 c4).1.2⟩, ((h.2 c2).2.1 c4).2⟩, fun c4 => ⟨⟨rfl, hQ.1⟩, ⟨⟨rfl, hQ2.2.1⟩, ⟨⟨rfl, (h.2 c2).1.1, (h.2 c2).1.2⟩, ⟨rfl, ⟨⟨rfl, hQ.1⟩, ⟨⟨rfl, (h.2 c2).1.1, (h.2 c2).1.2⟩, ⟨rfl, c_liesBehind _ ((h.2 c2).2.2 c4).1.1 ((h.2 c2).2.2 c4).1.2 (⟨⟨rfl, (h.2 c2).1.1, (h.2 c2).1.2⟩, ⟨⟨rfl, hQ.1⟩, ⟨⟨rfl, (h.2 c2).1.1, (h.2 c2).1.2⟩, ⟨fun c6 => ⟨⟨(((h.2 c2).2.2 c4).2.1 c6).1.1, (((h.2 c2).2.2 c4).2.1 c6).1.2⟩, (((h.2 c2).2.2 c4).2.1 c6).2⟩, fun c6 => ⟨rfl, ⟨⟨(((h.2 c2).2.2 c4).2.2 c6).1.1, (((h.2 c2).2.2 c4).2.2 c6).1.2.1⟩, ⟨rfl, ⟨⟨(((h.2 c2).2.2 c4).2.2 c6).1.2.2.1, (((h.2 c2).2.2 c4).2.2 c6).1.2.2.2⟩, (((h.2 c2).2.2 c4).2.2 c6).2⟩⟩⟩⟩⟩⟩⟩⟩)⟩⟩⟩⟩⟩⟩⟩⟩⟩⟩⟩⟩⟩⟩⟩⟩)

theorem lb_ge {k told o had lies : Int} (h : 0 ≤ had) : lb k told o had lies = -1 ∨ 0 ≤ lb k told o had lies := by
  unfold lb
  (repeat' split) <;> omega
theorem c_takeOutcome (d : Nat) {β μ κ ρ : Nat → Nat} {me : Nat → Nat → Nat} {P Q g n M : Nat} {c told : Nat → Int} {o lies : Int} {σ : am_S} {K : am_S → Prop} (hB : BS σ β μ κ ρ me n) (hP : QF σ P) (hQ : QF σ Q) (d1 : Q ≠ P ∧ Q ≠ P + 1 ∧ Q + 1 ≠ P ∧ Q + 1 ≠ P + 1 ∧ Q + 2 ≠ P ∧ Q + 2 ≠ P + 1) (d2 : β g ≠ P ∧ β g ≠ P + 1) (hM : sI σ Q 3 = M) (hM2 : M ≤ 60) (h6 : sI σ Q 6 = o) (hc : ∀ p, p < M → sI σ (Q + 1) p = c p ∧ -1 ≤ c p ∧ c p ≤ 100) (ht : ∀ p, p < M → c p ≠ -1 → sI σ (Q + 2) p = told p)
    (h : ∀ s, s.2 = σ.2 → (∀ x, x ≠ P → x ≠ P + 1 → sI s x = sI σ x) → (∀ j, j ≠ 3 → j ≠ 4 → sI s P j = sI σ P j) → sI s P 3 = M → (∀ p, p < M → sI s (P + 1) p = if c p < 0 then -1 else lb (sI σ (β g) 0) (told p) o (c p) lies) → sI s P 4 = sm (fun p => if 0 ≤ (if c p < 0 then -1 else lb (sI σ (β g) 0) (told p) o (c p) lies) then 1 else 0) M → K s) : am_Calls PP MLL (d + 2) m_Question_takeOutcome [qr (P, 3, 10), qr (Q, 3, 10), qr (β g, 0, 9), qi lies] σ (kV K) := by
  obtain ⟨e1, e2, e3, e4, e5, e6⟩ := d1
  obtain ⟨v, hv⟩ : ∃ v : Nat → Int, v = fun p => if c p < 0 then -1 else lb (sI σ (β g) 0) (told p) o (c p) lies := ⟨_, rfl⟩
  have hvp : ∀ p, v p = if c p < 0 then -1 else lb (sI σ (β g) 0) (told p) o (c p) lies := fun p => by rw [hv]
  have h' : ∀ s, s.2 = σ.2 → (∀ x, x ≠ P → x ≠ P + 1 → sI s x = sI σ x) → (∀ j, j ≠ 3 → j ≠ 4 → sI s P j = sI σ P j) → sI s P 3 = M → (∀ p, p < M → sI s (P + 1) p = v p) → sI s P 4 = sm (fun p => if 0 ≤ v p then 1 else 0) M → K s := by
    rw [hv]
    exact h
  have nP : P ≠ P + 1 := by omega
  have fx : ∀ s, s.2 = σ.2 → BS s β μ κ ρ me n ∧ QF s P ∧ QF s Q := by
    intro s hs
    have e : sR s = sR σ := by
      funext a j
      exact R2' hs a j
    unfold BS QF
    rw [e]
    exact ⟨hB, hP, hQ⟩
  have lp0 : ∀ i : Nat, i ≤ M → ∀ s, s.2 = σ.2 → (∀ x, x ≠ P → x ≠ P + 1 → sI s x = sI σ x) → (∀ j, j ≠ 3 → j ≠ 4 → sI s P j = sI σ P j) → sI s P 3 = M → (∀ p, p < i → sI s (P + 1) p = v p) → sI s P 4 = sm (fun p => if 0 ≤ v p then 1 else 0) i → am_Runs PP MLL (d + 1) m_Question_takeOutcome 9 [some (qr (P, 3, 10)), some (qr (Q, 3, 10)), some (qr (β g, 0, 9)), some (qi lies), some (qi (i : Int))] [] s (kV K) := by
    refine lp ?_ ?_
    · intro s s2 so sj s3 sp s4
      obtain ⟨f1, f2, f3⟩ := fx s s2
      exact v_Question_takeOutcome_9 d β μ κ ρ me P Q g n _ _ s K f1 f2 f3 ⟨fun _ => h' s s2 so sj s3 sp s4, fun c => absurd (by omega) c⟩
    · intro i hi ih s s2 so sj s3 sp s4
      obtain ⟨f1, f2, f3⟩ := fx s s2
      obtain ⟨c1, c2, c3⟩ := hc i hi
      have hb := sm_bd (f := fun p => if 0 ≤ v p then 1 else 0) (c := 1) i (fun j _ => by split <;> omega)
      have es : sm (fun p => if 0 ≤ v p then (1 : Int) else 0) (i + 1) = sm (fun p => if 0 ≤ v p then 1 else 0) i + (if 0 ≤ v i then 1 else 0) := rfl
      have pe : ∀ (T : am_S) (x i : Nat) (v : Int), sI (putI T x i v) x i = v := fun T x i v => by rw [put_at, if_pos rfl]
      refine v_Question_takeOutcome_9 d β μ κ ρ me P Q g n _ _ s K f1 f2 f3 ⟨fun c => absurd c (by omega), fun _ => ?_⟩
      have a1 : sI s (Q + 1) i = c i := by rw [so _ e3 e4]; exact c1
      have a6 : sI s Q 6 = o := by rw [so _ e1 e2]; exact h6
      have aB : sI s (β g) 0 = sI σ (β g) 0 := by rw [so _ d2.1 d2.2]
      simp only [Int.toNat_natCast, pe, put_ne e6, put_ne e2, put_ne d2.2, put_ne nP, a1, a6, aB]
      refine ⟨by omega, fun q1 => ⟨by omega, ?_⟩, fun q1 => ⟨by omega, ?_⟩⟩
      · have ev : v i = -1 := by rw [hvp, if_pos (by omega)]
        rw [ev, if_neg (by decide), Int.add_zero] at es
        refine ih _ s2 (fun x x1 x2 => by rw [put_ne x2]; exact so x x1 x2) (fun j j3 j4 => by rw [put_ne nP]; exact sj j j3 j4) (by rw [put_ne nP]; exact s3) (fun p hp => ?_) (by rw [put_ne nP, s4, es])
        rw [put_at]
        by_cases e : p = i
        · rw [if_pos e, e, ev, q1]
        · rw [if_neg e]
          exact sp p (by omega)
      · have a2 : sI s (Q + 2) i = told i := by rw [so _ e5 e6]; exact ht i hi (by omega)
        rw [a2]
        have ev : v i = lb (sI σ (β g) 0) (told i) o (c i) lies := by rw [hvp, if_neg (by omega)]
        rw [← ev]
        have hge : v i = -1 ∨ 0 ≤ v i := by
          rw [ev]
          exact lb_ge (by omega)
        refine ⟨fun q2 => ⟨by omega, ?_⟩, fun q2 => ⟨by omega, ?_⟩⟩
        · rw [q2, if_neg (by decide), Int.add_zero] at es
          refine ih _ s2 (fun x x1 x2 => by rw [put_ne x2, put_ne x2]; exact so x x1 x2) (fun j j3 j4 => by rw [put_ne nP, put_ne nP]; exact sj j j3 j4) (by rw [put_ne nP, put_ne nP]; exact s3) (fun p hp => ?_) (by rw [put_ne nP, put_ne nP, s4, es])
          rw [put_at]
          by_cases e : p = i
          · rw [if_pos e, e]
          · rw [if_neg e, put_at, if_neg e]
            exact sp p (by omega)
        · rw [if_pos (by omega)] at es
          refine ih _ s2 (fun x x1 x2 => by rw [put_ne x1, put_ne x2, put_ne x2]; exact so x x1 x2) (fun j j3 j4 => by rw [put_at, if_neg j4, put_ne nP, put_ne nP]; exact sj j j3 j4) (by rw [put_at, if_neg (by decide), put_ne nP, put_ne nP]; exact s3) (fun p hp => ?_) (by rw [put_at, if_pos rfl, s4, es])
          rw [put_ne nP.symm, put_at]
          by_cases e : p = i
          · rw [if_pos e, e]
          · rw [if_neg e, put_at, if_neg e]
            exact sp p (by omega)
  refine v_Question_takeOutcome_0 d β μ κ ρ me P Q g n lies σ K hB hP hQ ?_
  rw [hM]
  refine lp0 0 (Nat.zero_le _) _ rfl (fun x x1 x2 => by rw [put_ne x1, put_ne x1]) (fun j j3 j4 => by rw [put_at, if_neg j4, put_at, if_neg j3]) (by rw [put_at, if_neg (by decide), put_at, if_pos rfl]) (fun p hp => absurd hp (Nat.not_lt_zero p)) (by rw [put_at, if_pos rfl]; rfl)
theorem v_Question_takeAll_0 (d : Nat) (Q : Nat) (σ : am_S) (K : am_S → Prop) (hC : CF σ) (hQ : QF σ Q) (h :
  (0 ≤ (sI (putI (putI σ Q 3 (sI σ 13 3)) Q 4 (sI (putI σ Q 3 (sI σ 13 3)) Q 3)) Q 3) ∧ 0 + (sI (putI (putI σ Q 3 (sI σ 13 3)) Q 4 (sI (putI σ Q 3 (sI σ 13 3)) Q 3)) Q 3) ≤ 60) ∧
  K (cpyI (putI (putI σ Q 3 (sI σ 13 3)) Q 4 (sI (putI σ Q 3 (sI σ 13 3)) Q 3)) 15 0 (Q + 1) 0 (sI (putI (putI σ Q 3 (sI σ 13 3)) Q 4 (sI (putI σ Q 3 (sI σ 13 3)) Q 3)) Q 3))) : am_Runs PP MLL d m_Question_takeAll 0 [some (qr (Q, 3, 10)), some (qr (13, 6, 5))] [] σ (kV K) := am_wEF_ok (orc [(9, 15, 20, 60), (12, Q + 1, 20, 60)]) 200 (⟨rfl, ⟨rfl, ⟨rfl, ⟨rfl, ⟨⟨rfl, (hC 13 1 _ rfl)⟩, ⟨⟨rfl, hQ.1⟩, ⟨rfl, ⟨⟨(Or.inl rfl), rfl, (by decide : (0 : Int) ≤ 0), (by decide : (0 : Int) ≤ 0), h.1.1, h.1.2, h.1.2⟩, h.2⟩⟩⟩⟩⟩⟩⟩⟩)

theorem c_takeAll (d : Nat) {Q M : Nat} {σ : am_S} {K : am_S → Prop} (hC : CF σ) (hQ : QF σ Q) (hM : sI σ 13 3 = M) (hM2 : M ≤ 60) (n15 : 15 ≠ Q)
    (h : ∀ s, s.2 = σ.2 → (∀ x, x ≠ Q → x ≠ Q + 1 → sI s x = sI σ x) → (∀ j, j ≠ 3 → j ≠ 4 → sI s Q j = sI σ Q j) → sI s Q 3 = M → sI s Q 4 = M → (∀ p, p < M → sI s (Q + 1) p = sI σ 15 p) → K s) : am_Calls PP MLL (d + 1) m_Question_takeAll [qr (Q, 3, 10), qr (13, 6, 5)] σ (kV K) := by
  refine v_Question_takeAll_0 d Q σ K hC hQ ?_
  have e1 : sI (putI σ Q 3 (sI σ 13 3)) Q 3 = M := by rw [put_at, if_pos rfl, hM]
  have e2 : sI (putI (putI σ Q 3 (sI σ 13 3)) Q 4 (sI (putI σ Q 3 (sI σ 13 3)) Q 3)) Q 3 = M := by rw [put_at, if_neg (by decide), e1]
  rw [e2, e1]
  refine ⟨by omega, h _ rfl (fun x x1 x2 => ?_) (fun j j3 j4 => ?_) ?_ ?_ (fun p hp => ?_)⟩
  · unfold cpyI
    rw [row_ne x2, put_ne x1, put_ne x1]
  · unfold cpyI
    rw [row_ne (by omega), put_at, if_neg j4, put_at, if_neg j3]
  · unfold cpyI
    rw [row_ne (by omega), put_at, if_neg (by decide), put_at, if_pos rfl, hM]
  · unfold cpyI
    rw [row_ne (by omega), put_at, if_pos rfl]
  · unfold cpyI
    rw [row_at]
    unfold cpyF
    rw [if_pos (by show 0 ≤ p ∧ p < 0 + _; omega), put_ne n15, put_ne n15]
    show sI σ 15 (0 + (p - 0)) = _
    rw [Nat.sub_zero, Nat.zero_add]
theorem v_Question_firstLeft_0 (d : Nat) (Q : Nat) (σ : am_S) (K : Int → am_S → Prop) (hQ : QF σ Q) (h :
  am_Runs PP MLL d m_Question_firstLeft 2 [some (qr (Q, 3, 10)), some (qi 0)] [] σ (kI K)) : am_Runs PP MLL d m_Question_firstLeft 0 [some (qr (Q, 3, 10)), none] [] σ (kI K) := am_wEF_ok (orc []) 200 (h)

theorem v_Question_firstLeft_2 (d : Nat) (Q : Nat) (v1 : Int) (σ : am_S) (K : Int → am_S → Prop) (hQ : QF σ Q) (h :
  (((sI σ Q 3) ≤ v1 →
    K 0 σ) ∧
  (¬ ((sI σ Q 3) ≤ v1) →
    (0 ≤ v1 ∧ v1 < 60) ∧
    (((sI σ (Q + 1) (Int.toNat v1)) = (-1) →
      (-2147483648 ≤ v1 + 1 ∧ v1 + 1 < 2147483648) ∧
      am_Runs PP MLL d m_Question_firstLeft 2 [some (qr (Q, 3, 10)), some (qi (v1 + 1))] [] σ (kI K)) ∧
    (¬ ((sI σ (Q + 1) (Int.toNat v1)) = (-1)) →
      K v1 σ))))) : am_Runs PP MLL d m_Question_firstLeft 2 [some (qr (Q, 3, 10)), some (qi v1)] [] σ (kI K) := am_wEF_ok (orc [(7, Q + 1, 20, 60)]) 200 (⟨rfl, ⟨fun c1 => (h.1 c1), fun c1 => ⟨⟨rfl, hQ.1⟩, ⟨⟨rfl, (h.2 c1).1.1, (h.2 c1).1.2⟩, ⟨fun c2 => ⟨⟨((h.2 c1).2.1 c2).1.1, ((h.2 c1).2.1 c2).1.2⟩, ((h.2 c1).2.1 c2).2⟩, fun c2 => ((h.2 c1).2.2 c2)⟩⟩⟩⟩⟩)

theorem c_firstLeft (d : Nat) {Q M : Nat} {c : Nat → Int} {σ : am_S} {K : Int → am_S → Prop} (hQ : QF σ Q) (hM : sI σ Q 3 = M) (hM2 : M ≤ 60) (hc : ∀ p, p < M → sI σ (Q + 1) p = c p) (h : ∀ p : Nat, p < M → c p ≠ -1 → (∀ q, q < p → c q = -1) → K (p : Int) σ) (hex : ∃ p, p < M ∧ c p ≠ -1) : am_Calls PP MLL (d + 1) m_Question_firstLeft [qr (Q, 3, 10)] σ (kI K) := by
  have lp0 : ∀ i : Nat, i ≤ M → (∀ q, q < i → c q = -1) → am_Runs PP MLL d m_Question_firstLeft 2 [some (qr (Q, 3, 10)), some (qi (i : Int))] [] σ (kI K) := by
    refine lp ?_ ?_
    · intro hq
      obtain ⟨p, h1, h2⟩ := hex
      exact absurd (hq p h1) h2
    · intro i hi ih hq
      refine v_Question_firstLeft_2 d Q _ σ K hQ ⟨fun c => absurd c (by omega), fun _ => ?_⟩
      rw [Int.toNat_natCast, hc i hi]
      refine ⟨by omega, fun c1 => ⟨by omega, ih (fun q hq2 => ?_)⟩, fun c1 => h i hi c1 hq⟩
      by_cases e : q = i
      · rw [e]; exact c1
      · exact hq q (by omega)
  exact v_Question_firstLeft_0 d Q σ K hQ (lp0 0 (Nat.zero_le _) (fun q hq => absurd hq (Nat.not_lt_zero q)))
