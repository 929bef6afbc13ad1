/-! the class: layCoins, advance -/
theorem R2' {σ τ : am_S} (h : τ.2 = σ.2) (x j : Nat) : sR τ x j = sR σ x j := by unfold sR; rw [h]
theorem rkq_cng (G : Nat → Nat) (c : Nat) : rkq G c = cng G (G c) c := rfl
/-- lefts and rights as bits -/
def SB (G : Nat → Nat) (L R : Nat → Int) (N l r : Nat) : Prop := l < 4096 ∧ r < 4096 ∧ (∀ c, bt l c = if c < N ∧ rkq G c < L (G c) then 1 else 0) ∧ ∀ c, bt r c = if c < N ∧ L (G c) ≤ rkq G c ∧ rkq G c < L (G c) + R (G c) then 1 else 0
theorem c_layCoins (d : Nat) {w n N : Nat} {G lst : Nat → Nat} {σ : am_S} {K : am_S → Prop} (hW : WF σ w) (hN : sI σ w 5 = N) (hN2 : N ≤ 12) (hn : sI σ w 6 = n) (hn2 : n ≤ 12) (hG : ∀ c, c < N → sI σ (w + 1) c = G c ∧ G c < n) (hl : ∀ g, g < n → sI σ (w + 2) g = lst g ∧ lst g < N ∧ ∀ q, q < lst g → G q ≠ g) (hL : ∀ g, g < n → 0 ≤ sI σ (w + 4) g ∧ sI σ (w + 4) g ≤ 12 ∧ 0 ≤ sI σ (w + 5) g ∧ sI σ (w + 5) g ≤ 12)
    (h : ∀ l r, SB G (sI σ (w + 4)) (sI σ (w + 5)) N l r → K (putI (putI σ w 9 (l : Int)) w 10 (r : Int))) : am_Calls PP MLL (d + 2) m_Weighings_layCoins [qr (w, 10, 11)] σ (kV K) := by
  obtain ⟨L, eL⟩ : ∃ L, L = sI σ (w + 4) := ⟨_, rfl⟩
  obtain ⟨R, eR⟩ : ∃ R, R = sI σ (w + 5) := ⟨_, rfl⟩
  rw [← eL, ← eR] at h
  have o1 : ∀ (l r : Int) x, x ≠ w → sI (putI (putI σ w 9 l) w 10 r) x = sI σ x := fun l r x hx => by rw [put_ne hx, put_ne hx]
  have o5 : ∀ (l r : Int) j, j ≠ 9 → j ≠ 10 → sI (putI (putI σ w 9 l) w 10 r) w j = sI σ w j := fun l r j q1 q2 => by rw [put_at, if_neg q2, put_at, if_neg q1]
  have lp0 : ∀ i : Nat, i ≤ n → ∀ l r : Nat, l < 4096 → r < 4096 → (∀ c, bt l c = if c < N ∧ G c < i ∧ rkq G c < L (G c) then 1 else 0) → (∀ c, bt r c = if c < N ∧ G c < i ∧ L (G c) ≤ rkq G c ∧ rkq G c < L (G c) + R (G c) then 1 else 0) → am_Runs PP MLL (d + 1) m_Weighings_layCoins 8 [some (qr (w, 10, 11)), some (qi (i : Int))] [] (putI (putI σ w 9 (l : Int)) w 10 (r : Int)) (kV K) := by
    refine lp ?_ ?_
    · intro l r b1 b2 hl hr
      refine v_Weighings_layCoins_8 d w _ _ K hW ⟨fun _ => h l r ⟨b1, b2, fun c => ?_, fun c => ?_⟩, fun c => absurd ?_ c⟩
      · rw [hl c]
        by_cases e : c < N
        · have := (hG c e).2
          have q : (c < N ∧ G c < n ∧ rkq G c < L (G c)) ↔ (c < N ∧ rkq G c < L (G c)) := by omega
          simp only [q]
        · rw [if_neg (by omega), if_neg (by omega)]
      · rw [hr c]
        by_cases e : c < N
        · have := (hG c e).2
          have q : (c < N ∧ G c < n ∧ L (G c) ≤ rkq G c ∧ rkq G c < L (G c) + R (G c)) ↔ (c < N ∧ L (G c) ≤ rkq G c ∧ rkq G c < L (G c) + R (G c)) := by omega
          simp only [q]
        · rw [if_neg (by omega), if_neg (by omega)]
      · rw [o5 _ _ _ (by decide) (by decide)]
        omega
    · intro i hi ih l r b1 b2 hl2 hr2
      obtain ⟨q1, q2, q3⟩ := hl i hi
      have q4 := hL i hi
      refine v_Weighings_layCoins_8 d w _ _ K hW ⟨fun c => absurd c ?_, fun _ => ?_⟩
      · rw [o5 _ _ _ (by decide) (by decide)]
        omega
      · have e4 : sI (putI (putI σ w 9 (l : Int)) w 10 (r : Int)) (w + 4) = L := by rw [o1 _ _ _ (by omega), eL]
        have e5 : sI (putI (putI σ w 9 (l : Int)) w 10 (r : Int)) (w + 5) = R := by rw [o1 _ _ _ (by omega), eR]
        refine c_layGroup d (n := n) (N := N) (G := G) (l0 := l) (r0 := r) (lst := lst i) hW ?_ hN2 hi hn2 ?_ ?_ q2 q3 ?_ ?_ ?_ ?_ b1 b2 ?_
        · rw [o5 _ _ _ (by decide) (by decide)]; exact hN
        · intro c hc
          rw [o1 _ _ _ (by omega)]
          exact (hG c hc).1
        · rw [o1 _ _ _ (by omega)]; exact q1
        · rw [o1 _ _ _ (by omega)]; omega
        · rw [o1 _ _ _ (by omega)]; omega
        · rw [put_at, if_neg (by decide), put_at, if_pos rfl]
        · rw [put_at, if_pos rfl]
        · intro l' r' hl' hr'
          rw [e4] at hl'
          rw [e4, e5] at hr'
          refine ⟨hW, by omega, runs_st ?_ (ih l' r' hl'.1 hr'.1 (fun c => ?_) (fun c => ?_))⟩
          · refine sto_ext (fun x y => ?_) rfl
            by_cases ex : x = w
            · rw [ex, put_at, put_at, put_at, put_at, put_at, put_at]
              (repeat' split) <;> first | rfl | omega
            · rw [put_ne ex, put_ne ex, put_ne ex, put_ne ex, put_ne ex, put_ne ex]
          · rw [hl'.2 c, hl2 c]
            by_cases e : G c = i
            · have ek : rkq G c = cng G i c := by rw [rkq_cng, e]
              rw [e, ek]
              by_cases e2 : c < N ∧ i = i ∧ cng G i c < L i
              · rw [if_pos e2, if_pos (by omega)]
              · rw [if_neg e2, if_neg (by omega), if_neg (by omega)]
            · rw [if_neg (by omega)]
              have q : (c < N ∧ G c < i ∧ rkq G c < L (G c)) ↔ (c < N ∧ G c < i + 1 ∧ rkq G c < L (G c)) := by omega
              simp only [q]
          · rw [hr'.2 c, hr2 c]
            by_cases e : G c = i
            · have ek : rkq G c = cng G i c := by rw [rkq_cng, e]
              rw [e, ek]
              by_cases e2 : c < N ∧ i = i ∧ L i ≤ cng G i c ∧ cng G i c < L i + R i
              · rw [if_pos e2, if_pos (by omega)]
              · rw [if_neg e2, if_neg (by omega), if_neg (by omega)]
            · rw [if_neg (by omega)]
              have q : (c < N ∧ G c < i ∧ L (G c) ≤ rkq G c ∧ rkq G c < L (G c) + R (G c)) ↔ (c < N ∧ G c < i + 1 ∧ L (G c) ≤ rkq G c ∧ rkq G c < L (G c) + R (G c)) := by omega
              simp only [q]
  refine v_Weighings_layCoins_0 d w σ K hW ?_
  exact lp0 0 (Nat.zero_le _) 0 0 (by omega) (by omega) (fun c => by rw [bt_0, if_neg (by omega)]) (fun c => by rw [bt_0, if_neg (by omega)])
theorem v_Weighings_advance_0 (d : Nat) (w : Nat) (σ : am_S) (K : Int → am_S → Prop) (hW : WF σ w) (h :
  (((sI σ w 7) = 0 →
    (-2147483648 ≤ (sI σ w 7) + 1 ∧ (sI σ w 7) + 1 < 2147483648 ∧ -2147483648 ≤ 2 * (sI (putI σ w 7 ((sI σ w 7) + 1)) w 7) ∧ 2 * (sI (putI σ w 7 ((sI σ w 7) + 1)) w 7) < 2147483648) ∧
    (((2 * (sI (putI σ w 7 ((sI σ w 7) + 1)) w 7)) ≤ (sI (putI σ w 7 ((sI σ w 7) + 1)) w 5) →
      am_Calls PP MLL (d + 3) m_Weighings_fill [qr (w, 10, 11), qi 0, qi (sI (putI σ w 7 ((sI σ w 7) + 1)) w 7), qi (sI (putI σ w 7 ((sI σ w 7) + 1)) w 7)] (putI σ w 7 ((sI σ w 7) + 1)) (kV fun s3 =>
        (WF s3 w) ∧
        (-2147483648 ≤ (sI s3 w 8) + 1 ∧ (sI s3 w 8) + 1 < 2147483648) ∧
        am_Calls PP MLL (d + 3) m_Weighings_layCoins [qr (w, 10, 11)] (putI s3 w 8 ((sI s3 w 8) + 1)) (kV fun s4 =>
          (WF s4 w) ∧
          K 1 s4))) ∧
    (¬ ((2 * (sI (putI σ w 7 ((sI σ w 7) + 1)) w 7)) ≤ (sI (putI σ w 7 ((sI σ w 7) + 1)) w 5)) →
      K 0 (putI σ w 7 ((sI σ w 7) + 1))))) ∧
  (¬ ((sI σ w 7) = 0) →
    am_Calls PP MLL (d + 3) m_Weighings_lessen [qr (w, 10, 11)] σ (kI fun x5 s5 =>
      (WF s5 w) ∧
      ((x5 = 0 →
        (-2147483648 ≤ (sI s5 w 7) + 1 ∧ (sI s5 w 7) + 1 < 2147483648 ∧ -2147483648 ≤ 2 * (sI (putI s5 w 7 ((sI s5 w 7) + 1)) w 7) ∧ 2 * (sI (putI s5 w 7 ((sI s5 w 7) + 1)) w 7) < 2147483648) ∧
        (((2 * (sI (putI s5 w 7 ((sI s5 w 7) + 1)) w 7)) ≤ (sI (putI s5 w 7 ((sI s5 w 7) + 1)) w 5) →
          am_Calls PP MLL (d + 3) m_Weighings_fill [qr (w, 10, 11), qi 0, qi (sI (putI s5 w 7 ((sI s5 w 7) + 1)) w 7), qi (sI (putI s5 w 7 ((sI s5 w 7) + 1)) w 7)] (putI s5 w 7 ((sI s5 w 7) + 1)) (kV fun s8 =>
            (WF s8 w) ∧
            (-2147483648 ≤ (sI s8 w 8) + 1 ∧ (sI s8 w 8) + 1 < 2147483648) ∧
            am_Calls PP MLL (d + 3) m_Weighings_layCoins [qr (w, 10, 11)] (putI s8 w 8 ((sI s8 w 8) + 1)) (kV fun s9 =>
              (WF s9 w) ∧
              K 1 s9))) ∧
        (¬ ((2 * (sI (putI s5 w 7 ((sI s5 w 7) + 1)) w 7)) ≤ (sI (putI s5 w 7 ((sI s5 w 7) + 1)) w 5)) →
          K 0 (putI s5 w 7 ((sI s5 w 7) + 1))))) ∧
      (¬ (x5 = 0) →
        (-2147483648 ≤ (sI s5 w 8) + 1 ∧ (sI s5 w 8) + 1 < 2147483648) ∧
        am_Calls PP MLL (d + 3) m_Weighings_layCoins [qr (w, 10, 11)] (putI s5 w 8 ((sI s5 w 8) + 1)) (kV fun s10 =>
          (WF s10 w) ∧
          K 1 s10))))))) : am_Runs PP MLL (d + 3) m_Weighings_advance 0 [some (qr (w, 10, 11))] [] σ (kI K) := am_wEF_ok (orc []) 200 (⟨rfl, ⟨fun c1 => ⟨rfl, ⟨⟨(h.1 c1).1.1, (h.1 c1).1.2.1⟩, ⟨rfl, ⟨rfl, ⟨⟨(h.1 c1).1.2.2.1, (h.1 c1).1.2.2.2⟩, ⟨rfl, ⟨fun c2 => ⟨rfl, ⟨rfl, ⟨rfl, (am_cV ((h.1 c1).2.1 c2) fun s3 h3 => ⟨rfl, ⟨⟨h3.2.1.1, h3.2.1.2⟩, ⟨rfl, ⟨rfl, (am_cV h3.2.2 fun s4 h4 => ⟨(Or.inr rfl), h4.2⟩)⟩⟩⟩⟩)⟩⟩⟩, fun c2 => ⟨(Or.inl rfl), ((h.1 c1).2.2 c2)⟩⟩⟩⟩⟩⟩⟩⟩, fun c1 => ⟨rfl, (am_cI (h.2 c1) fun x5 s5 h5 => ⟨fun c6 => ⟨rfl, ⟨⟨(h5.2.1 c6).1.1, (h5.2.1 c6).1.2.1⟩, ⟨rfl, ⟨rfl, ⟨⟨(h5.2.1 c6).1.2.2.1, (h5.2.1 c6).1.2.2.2⟩, ⟨rfl, ⟨fun c7 => ⟨rfl, ⟨rfl, ⟨rfl, (am_cV ((h5.2.1 c6).2.1 c7) fun s8 h8 => ⟨rfl, ⟨⟨h8.2.1.1, h8.2.1.2⟩, ⟨rfl, ⟨rfl, (am_cV h8.2.2 fun s9 h9 => ⟨(Or.inr rfl), h9.2⟩)⟩⟩⟩⟩)⟩⟩⟩, fun c7 => ⟨(Or.inl rfl), ((h5.2.1 c6).2.2 c7)⟩⟩⟩⟩⟩⟩⟩⟩, fun c6 => ⟨rfl, ⟨⟨(h5.2.2 c6).1.1, (h5.2.2 c6).1.2⟩, ⟨rfl, ⟨rfl, (am_cV (h5.2.2 c6).2 fun s10 h10 => ⟨(Or.inr rfl), h10.2⟩)⟩⟩⟩⟩⟩)⟩⟩⟩)

/-- one weighing on: the class's store -/
def AdvP (σ s : am_S) (w N : Nat) (G : Nat → Nat) (v : sW) : Prop := s.2 = σ.2 ∧ (∀ x, x ≠ w → x ≠ w + 4 → x ≠ w + 5 → sI s x = sI σ x) ∧ sI s (w + 4) = v.2.1 ∧ sI s (w + 5) = v.2.2 ∧ sI s w 7 = v.1 ∧ sI s w 8 = sI σ w 8 + 1 ∧ (∀ j, j < 7 → sI s w j = sI σ w j) ∧ ∃ l r : Nat, sI s w 9 = l ∧ sI s w 10 = r ∧ SB G v.2.1 v.2.2 N l r
theorem c_advance (d : Nat) {w n N : Nat} {G lst : Nat → Nat} {σ : am_S} {K : Int → am_S → Prop} (hW : WF σ w) (hN : sI σ w 5 = N) (hN2 : N ≤ 12) (hn : sI σ w 6 = n) (hn2 : n ≤ 12) (hG : ∀ c, c < N → sI σ (w + 1) c = G c ∧ G c < n) (hl : ∀ g, g < n → sI σ (w + 2) g = lst g ∧ lst g < N ∧ ∀ q, q < lst g → G q ≠ g) (hz : ∀ g, g < n → 0 ≤ sI σ (w + 3) g ∧ sI σ (w + 3) g ≤ 12) (hs : sm (sI σ (w + 3)) n = N) (hv : sI σ w 7 = 0 ∨ WV (sI σ (w + 3)) n N (sI σ w 7, sI σ (w + 4), sI σ (w + 5))) (h8 : -1 ≤ sI σ w 8 ∧ sI σ w 8 ≤ 200000000)
    (h0 : nx (sI σ (w + 3)) n N (sI σ w 7, sI σ (w + 4), sI σ (w + 5)) = none → K 0 (putI σ w 7 (sI σ w 7 + 1))) (h1 : ∀ v s, nx (sI σ (w + 3)) n N (sI σ w 7, sI σ (w + 4), sI σ (w + 5)) = some v → AdvP σ s w N G v → K 1 s) : am_Calls PP MLL (d + 4) m_Weighings_advance [qr (w, 10, 11)] σ (kI K) := by
  obtain ⟨Z, eZ⟩ : ∃ Z, Z = sI σ (w + 3) := ⟨_, rfl⟩
  obtain ⟨L, eL⟩ : ∃ L, L = sI σ (w + 4) := ⟨_, rfl⟩
  obtain ⟨R, eR⟩ : ∃ R, R = sI σ (w + 5) := ⟨_, rfl⟩
  obtain ⟨p, ep⟩ : ∃ p, p = sI σ w 7 := ⟨_, rfl⟩
  rw [← eZ, ← eL, ← eR, ← ep] at h0 h1 hv
  rw [← eZ] at hz hs
  have hp : 0 ≤ p ∧ p ≤ 6 := by
    rcases hv with q | q
    · omega
    · have := q.1
      dsimp only at this
      omega
  have nok : ∀ v, nx Z n N (p, L, R) = some v → WV Z n N v := fun v q => (nx_ok hz hs hv q).1
  -- the end of all ways with one more
  have fin : ∀ (T : am_S) (v : sW), nx Z n N (p, L, R) = some v → T.2 = σ.2 → (∀ x, x ≠ w → x ≠ w + 4 → x ≠ w + 5 → sI T x = sI σ x) → sI T (w + 4) = v.2.1 → sI T (w + 5) = v.2.2 → sI T w 7 = v.1 → (∀ j, j ≠ 7 → sI T w j = sI σ w j) → (-2147483648 ≤ sI T w 8 + 1 ∧ sI T w 8 + 1 < 2147483648) ∧ am_Calls PP MLL (d + 3) m_Weighings_layCoins [qr (w, 10, 11)] (putI T w 8 (sI T w 8 + 1)) (kV fun s => (WF s w) ∧ K 1 s) := by
    intro T v hv' t2 to t4 t5 t7 tj
    have wv := nok v hv'
    have hT : WF T w := by
      unfold WF
      rw [(R2' t2 w 0), (R2' t2 w 1), (R2' t2 w 2), (R2' t2 w 3), (R2' t2 w 4)]
      exact hW
    have e8 := tj 8 (by decide)
    have a4 : sI (putI T w 8 (sI T w 8 + 1)) (w + 4) = v.2.1 := by rw [put_ne (by omega), t4]
    have a5 : sI (putI T w 8 (sI T w 8 + 1)) (w + 5) = v.2.2 := by rw [put_ne (by omega), t5]
    refine ⟨by omega, ?_⟩
    refine c_layCoins (d + 1) (n := n) (N := N) (G := G) (lst := lst) hT ?_ hN2 ?_ hn2 ?_ ?_ ?_ ?_
    · rw [put_at, if_neg (by decide), tj 5 (by decide)]; exact hN
    · rw [put_at, if_neg (by decide), tj 6 (by decide)]; exact hn
    · intro c hc
      rw [put_ne (by omega), to _ (by omega) (by omega) (by omega)]
      exact hG c hc
    · intro g hg
      rw [put_ne (by omega), to _ (by omega) (by omega) (by omega)]
      exact hl g hg
    · intro g hg
      rw [a4, a5]
      have := wv.2.1 g hg
      have := hz g hg
      omega
    · intro l r hsb
      rw [a4, a5] at hsb
      refine ⟨hT, h1 v _ hv' ⟨t2, fun x x1 x2 x3 => ?_, ?_, ?_, ?_, ?_, fun j hj => ?_, l, r, ?_, ?_, hsb⟩⟩
      · rw [put_ne x1, put_ne x1, put_ne x1, to x x1 x2 x3]
      · rw [put_ne (by omega), put_ne (by omega), a4]
      · rw [put_ne (by omega), put_ne (by omega), a5]
      · rw [put_at, if_neg (by decide), put_at, if_neg (by decide), put_at, if_neg (by decide), t7]
      · rw [put_at, if_neg (by decide), put_at, if_neg (by decide), put_at, if_pos rfl, e8]
      · rw [put_at, if_neg (by omega), put_at, if_neg (by omega), put_at, if_neg (by omega), tj j (by omega)]
      · rw [put_at, if_neg (by decide), put_at, if_pos rfl]
      · rw [put_at, if_pos rfl]
  -- one coin more on each pan
  have more : nxL Z n (p, L, R) = none → ∀ g1 : Prop, (-2147483648 ≤ p + 1 ∧ p + 1 < 2147483648 ∧ -2147483648 ≤ 2 * sI (putI σ w 7 (p + 1)) w 7 ∧ 2 * sI (putI σ w 7 (p + 1)) w 7 < 2147483648) ∧ ((2 * sI (putI σ w 7 (p + 1)) w 7 ≤ sI (putI σ w 7 (p + 1)) w 5 → am_Calls PP MLL (d + 3) m_Weighings_fill [qr (w, 10, 11), qi 0, qi (sI (putI σ w 7 (p + 1)) w 7), qi (sI (putI σ w 7 (p + 1)) w 7)] (putI σ w 7 (p + 1)) (kV fun s3 => (WF s3 w) ∧ (-2147483648 ≤ sI s3 w 8 + 1 ∧ sI s3 w 8 + 1 < 2147483648) ∧ am_Calls PP MLL (d + 3) m_Weighings_layCoins [qr (w, 10, 11)] (putI s3 w 8 (sI s3 w 8 + 1)) (kV fun s4 => (WF s4 w) ∧ K 1 s4))) ∧ (¬ (2 * sI (putI σ w 7 (p + 1)) w 7 ≤ sI (putI σ w 7 (p + 1)) w 5) → K 0 (putI σ w 7 (p + 1)))) := by
    intro hnl _
    have e7 : sI (putI σ w 7 (p + 1)) w 7 = p + 1 := by rw [put_at, if_pos rfl]
    have e5 : sI (putI σ w 7 (p + 1)) w 5 = N := by rw [put_at, if_neg (by decide)]; exact hN
    have enx : nx Z n N (p, L, R) = if (N : Int) < 2 * (p + 1) then none else some (p + 1, (fl Z L R 0 (p + 1) (p + 1) n).2.2) := by
      unfold nx
      rw [hnl]
    rw [e7, e5]
    refine ⟨by omega, fun c => ?_, fun c => ?_⟩
    · rw [if_neg (by omega)] at enx
      have a3 : sI (putI σ w 7 (p + 1)) (w + 3) = Z := by rw [put_ne (by omega), eZ]
      have a4 : sI (putI σ w 7 (p + 1)) (w + 4) = L := by rw [put_ne (by omega), eL]
      have a5 : sI (putI σ w 7 (p + 1)) (w + 5) = R := by rw [put_ne (by omega), eR]
      refine c_fill (d + 1) (g := 0) (n := n) hW ?_ hn2 (by omega) (by omega) (by omega) (by rw [a3]; exact hz) ⟨hW, ?_⟩
      · rw [put_at, if_neg (by decide)]; exact hn
      · rw [a3, a4, a5, Nat.sub_zero]
        refine fin _ _ enx rfl (fun x x1 x2 x3 => ?_) WS2_4 WS2_5 ?_ (fun j hj => ?_)
        · rw [WS2_o x2 x3, put_ne x1]
        · rw [WS2_o (by omega) (by omega), e7]
        · rw [WS2_o (by omega) (by omega), put_at, if_neg hj]
    · rw [if_pos (by omega)] at enx
      exact h0 enx
  refine v_Weighings_advance_0 d w σ K hW ?_
  rw [← ep]
  refine ⟨fun c => ?_, fun c => ?_⟩
  · refine more ?_ True
    unfold nxL
    rw [if_pos c]
  · have wv : WV Z n N (p, L, R) := by
      rcases hv with q | q
      · exact absurd q c
      · exact q
    have enl : nxL Z n (p, L, R) = lsn Z L R n n 0 0 0 := by
      unfold nxL
      rw [if_neg c]
    refine c_lessen d (n := n) hW hn hn2 (fun j hj => ?_) (fun hno => ?_) (fun q hq => ?_)
    · have := wv.2.1 j hj
      have := hz j hj
      rw [← eZ, ← eL, ← eR]
      dsimp only at *
      omega
    · rw [← eZ, ← eL, ← eR, ← enl] at hno
      rw [← ep]
      refine ⟨hW, fun _ => more hno True, fun c => absurd rfl c⟩
    · rw [← eZ, ← eL, ← eR, ← enl] at hq
      have enx : nx Z n N (p, L, R) = some (p, q) := by
        unfold nx
        rw [hq]
      refine ⟨hW, fun c => absurd c (by decide), fun _ => ?_⟩
      refine fin _ _ enx rfl (fun x x1 x2 x3 => ?_) WS2_4 WS2_5 ?_ (fun j hj => ?_)
      · rw [WS2_o x2 x3]
      · rw [WS2_o (by omega) (by omega)]; exact ep.symm
      · rw [WS2_o (by omega) (by omega)]
