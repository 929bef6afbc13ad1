/-! the law: a call in both -/
theorem INV_xs {xs : Nat → Int} {σ : am_S} {c : Nat} (h : INV xs σ c) : sI σ 0 = xs := by
  obtain ⟨own, β, μ, κ, ρ, me, n, aH, nH, aL, nL, aY, nY, aS, nS, N, l, m, T, W, kd, aR, nR, aV, nV, aI, nI, aQ, nQ, g, w, hx⟩ := h
  exact hx.1.2.2
theorem cmp_eq {x y : Int} (h : x = y) : a_cmp x y = 0 := by
  rw [h]
  unfold a_cmp
  rw [if_neg (Int.lt_irrefl _), if_pos rfl]
set_option maxRecDepth 20000 in
theorem v_L_law0_10 (d : Nat) (L : Nat) (v3 : Int) (σ : am_S) (K : Int → am_S → Prop) (e : (a_and (sI σ 0 (Int.toNat v3)) 63) = 0) (h :
  (-2147483648 ≤ ((L : Nat) : Int) - 7 ∧ ((L : Nat) : Int) - 7 < 2147483648) ∧
  (((((L : Nat) : Int) - 7) < v3 →
    K 1 σ) ∧
  (¬ ((((L : Nat) : Int) - 7) < v3) →
    (0 ≤ v3 ∧ v3 < ((L : Nat) : Int)) ∧
    (-2147483648 ≤ v3 + 1 ∧ v3 + 1 < 2147483648 ∧ 0 ≤ (v3 + 1) ∧ (v3 + 1) < ((L : Nat) : Int) ∧ -2147483648 ≤ v3 + 2 ∧ v3 + 2 < 2147483648 ∧ 0 ≤ (v3 + 2) ∧ (v3 + 2) < ((L : Nat) : Int) ∧ -2147483648 ≤ v3 + 3 ∧ v3 + 3 < 2147483648 ∧ 0 ≤ (v3 + 3) ∧ (v3 + 3) < ((L : Nat) : Int) ∧ -2147483648 ≤ v3 + 4 ∧ v3 + 4 < 2147483648 ∧ 0 ≤ (v3 + 4) ∧ (v3 + 4) < ((L : Nat) : Int)) ∧
    am_Calls PP MLL (d + 8) m_C_coins [qr (2, 11, 10), qi (sI σ 0 (Int.toNat (v3 + 1))), qi (sI σ 0 (Int.toNat (v3 + 2))), qi (sI σ 0 (Int.toNat (v3 + 3))), qi (sI σ 0 (Int.toNat (v3 + 4)))] σ (kI fun x2 s2 =>
      am_Calls PP MLL (d + 8) m_M_coins [qr (31, 12, 89), qi (sI s2 0 (Int.toNat (v3 + 1))), qi (sI s2 0 (Int.toNat (v3 + 2))), qi (sI s2 0 (Int.toNat (v3 + 3))), qi (sI s2 0 (Int.toNat (v3 + 4)))] s2 (kI fun x3 s3 =>
        ((x2 = x3 →
          (-2147483648 ≤ v3 + 7 ∧ v3 + 7 < 2147483648) ∧
          am_Runs PP MLL (d + 8) m_L_law 10 [some (qr (0, 24, L)), some (qr (2, 11, 10)), some (qr (31, 12, 89)), some (qi (v3 + 7))] [] s3 (kI K)) ∧
        (¬ (x2 = x3) →
          K 0 s3))))))) : am_Runs PP MLL (d + 8) m_L_law 10 [some (qr (0, 24, L)), some (qr (2, 11, 10)), some (qr (31, 12, 89)), some (qi v3)] [] σ (kI K) := am_wEF_ok (orc []) 200 (⟨⟨(by decide : 20 ≤ 24), (by decide : 24 < 25)⟩, ⟨⟨h.1.1, h.1.2⟩, ⟨fun c1 => ⟨(Or.inr rfl), (h.2.1 c1)⟩, fun c1 => ⟨⟨rfl, (h.2.2 c1).1.1, (h.2.2 c1).1.2⟩, ⟨fun _ => ⟨⟨(h.2.2 c1).2.1.1, (h.2.2 c1).2.1.2.1⟩, ⟨⟨rfl, (h.2.2 c1).2.1.2.2.1, (h.2.2 c1).2.1.2.2.2.1⟩, ⟨⟨(h.2.2 c1).2.1.2.2.2.2.1, (h.2.2 c1).2.1.2.2.2.2.2.1⟩, ⟨⟨rfl, (h.2.2 c1).2.1.2.2.2.2.2.2.1, (h.2.2 c1).2.1.2.2.2.2.2.2.2.1⟩, ⟨⟨(h.2.2 c1).2.1.2.2.2.2.2.2.2.2.1, (h.2.2 c1).2.1.2.2.2.2.2.2.2.2.2.1⟩, ⟨⟨rfl, (h.2.2 c1).2.1.2.2.2.2.2.2.2.2.2.2.1, (h.2.2 c1).2.1.2.2.2.2.2.2.2.2.2.2.2.1⟩, ⟨⟨(h.2.2 c1).2.1.2.2.2.2.2.2.2.2.2.2.2.2.1, (h.2.2 c1).2.1.2.2.2.2.2.2.2.2.2.2.2.2.2.1⟩, ⟨⟨rfl, (h.2.2 c1).2.1.2.2.2.2.2.2.2.2.2.2.2.2.2.2.1, (h.2.2 c1).2.1.2.2.2.2.2.2.2.2.2.2.2.2.2.2.2⟩, ⟨rfl, (am_cI (h.2.2 c1).2.2 fun x2 s2 h2 => ⟨⟨(h.2.2 c1).2.1.1, (h.2.2 c1).2.1.2.1⟩, ⟨⟨rfl, (h.2.2 c1).2.1.2.2.1, (h.2.2 c1).2.1.2.2.2.1⟩, ⟨⟨(h.2.2 c1).2.1.2.2.2.2.1, (h.2.2 c1).2.1.2.2.2.2.2.1⟩, ⟨⟨rfl, (h.2.2 c1).2.1.2.2.2.2.2.2.1, (h.2.2 c1).2.1.2.2.2.2.2.2.2.1⟩, ⟨⟨(h.2.2 c1).2.1.2.2.2.2.2.2.2.2.1, (h.2.2 c1).2.1.2.2.2.2.2.2.2.2.2.1⟩, ⟨⟨rfl, (h.2.2 c1).2.1.2.2.2.2.2.2.2.2.2.2.1, (h.2.2 c1).2.1.2.2.2.2.2.2.2.2.2.2.2.1⟩, ⟨⟨(h.2.2 c1).2.1.2.2.2.2.2.2.2.2.2.2.2.2.1, (h.2.2 c1).2.1.2.2.2.2.2.2.2.2.2.2.2.2.2.1⟩, ⟨⟨rfl, (h.2.2 c1).2.1.2.2.2.2.2.2.2.2.2.2.2.2.2.2.1, (h.2.2 c1).2.1.2.2.2.2.2.2.2.2.2.2.2.2.2.2.2⟩, ⟨rfl, (am_cI h2 fun x3 s3 h3 => ⟨fun c4 => ⟨⟨(h3.1 c4).1.1, (h3.1 c4).1.2⟩, (h3.1 c4).2⟩, fun c4 => ⟨(Or.inl rfl), (h3.2 c4)⟩⟩)⟩⟩⟩⟩⟩⟩⟩⟩⟩)⟩⟩⟩⟩⟩⟩⟩⟩⟩, fun c => absurd e c⟩⟩⟩⟩⟩)

theorem l_law0 (d : Nat) {L : Nat} {xs : Nat → Int} {σ : am_S} {c : Nat} {K : Int → am_S → Prop} {i : Int} (hI : INV xs σ c) (hc : c + 1 ≤ 600) (hL : L ≤ 3584) (h0 : 0 ≤ i) (h1 : (L : Int) - 7 < i → K 1 σ) (h2 : ¬ ((L : Int) - 7 < i) → ∀ t, INV xs t (c + 1) → am_Runs PP MLL (d + 30) m_L_law 10 [some (qr (0, 24, L)), some (qr (2, 11, 10)), some (qr (31, 12, 89)), some (qi (i + 7))] [] t (kI K)) (e : a_and (xs (Int.toNat i)) 63 = 0) : am_Runs PP MLL (d + 30) m_L_law 10 [some (qr (0, 24, L)), some (qr (2, 11, 10)), some (qr (31, 12, 89)), some (qi i)] [] σ (kI K) := by
  have hx := INV_xs hI
  have w : PR d xs m_C_coins m_M_coins [qi (xs (Int.toNat (i + 1))), qi (xs (Int.toNat (i + 2))), qi (xs (Int.toNat (i + 3))), qi (xs (Int.toNat (i + 4)))] σ c := p_coins d hI hc
  unfold PR at w
  refine v_L_law0_10 (d + 22) L i σ K (by rw [hx]; exact e) ⟨by omega, fun c1 => h1 c1, fun c1 => ⟨by omega, by omega, ?_⟩⟩
  rw [hx]
  exact am_cI w (fun x s hs => by
    rw [hs.1]
    exact am_cI hs.2 (fun y t ht => ⟨fun _ => ⟨by omega, h2 c1 t ht.2⟩, fun e' => absurd ht.1 e'⟩))
set_option maxRecDepth 20000 in
theorem v_L_law1_10 (d : Nat) (L : Nat) (v3 : Int) (σ : am_S) (K : Int → am_S → Prop) (e : (a_and (sI σ 0 (Int.toNat v3)) 63) = 1) (h :
  (-2147483648 ≤ ((L : Nat) : Int) - 7 ∧ ((L : Nat) : Int) - 7 < 2147483648) ∧
  (((((L : Nat) : Int) - 7) < v3 →
    K 1 σ) ∧
  (¬ ((((L : Nat) : Int) - 7) < v3) →
    (0 ≤ v3 ∧ v3 < ((L : Nat) : Int)) ∧
    (-2147483648 ≤ v3 + 1 ∧ v3 + 1 < 2147483648 ∧ 0 ≤ (v3 + 1) ∧ (v3 + 1) < ((L : Nat) : Int)) ∧
    am_Calls PP MLL (d + 8) m_C_lies [qr (2, 11, 10), qi (sI σ 0 (Int.toNat (v3 + 1)))] σ (kI fun x2 s2 =>
      am_Calls PP MLL (d + 8) m_M_lies [qr (31, 12, 89), qi (sI s2 0 (Int.toNat (v3 + 1)))] s2 (kI fun x3 s3 =>
        ((x2 = x3 →
          (-2147483648 ≤ v3 + 7 ∧ v3 + 7 < 2147483648) ∧
          am_Runs PP MLL (d + 8) m_L_law 10 [some (qr (0, 24, L)), some (qr (2, 11, 10)), some (qr (31, 12, 89)), some (qi (v3 + 7))] [] s3 (kI K)) ∧
        (¬ (x2 = x3) →
          K 0 s3))))))) : am_Runs PP MLL (d + 8) m_L_law 10 [some (qr (0, 24, L)), some (qr (2, 11, 10)), some (qr (31, 12, 89)), some (qi v3)] [] σ (kI K) := am_wEF_ok (orc []) 200 (⟨⟨(by decide : 20 ≤ 24), (by decide : 24 < 25)⟩, ⟨⟨h.1.1, h.1.2⟩, ⟨fun c1 => ⟨(Or.inr rfl), (h.2.1 c1)⟩, fun c1 => ⟨⟨rfl, (h.2.2 c1).1.1, (h.2.2 c1).1.2⟩, ⟨fun c => absurd (Eq.trans (Eq.symm e) c) (by decide : ¬ ((1 : Int) = 0)), fun _ => ⟨fun _ => ⟨⟨(h.2.2 c1).2.1.1, (h.2.2 c1).2.1.2.1⟩, ⟨⟨rfl, (h.2.2 c1).2.1.2.2.1, (h.2.2 c1).2.1.2.2.2⟩, ⟨rfl, (am_cI (h.2.2 c1).2.2 fun x2 s2 h2 => ⟨⟨(h.2.2 c1).2.1.1, (h.2.2 c1).2.1.2.1⟩, ⟨⟨rfl, (h.2.2 c1).2.1.2.2.1, (h.2.2 c1).2.1.2.2.2⟩, ⟨rfl, (am_cI h2 fun x3 s3 h3 => ⟨fun c4 => ⟨⟨(h3.1 c4).1.1, (h3.1 c4).1.2⟩, (h3.1 c4).2⟩, fun c4 => ⟨(Or.inl rfl), (h3.2 c4)⟩⟩)⟩⟩⟩)⟩⟩⟩, fun c => absurd e c⟩⟩⟩⟩⟩⟩)

theorem l_law1 (d : Nat) {L : Nat} {xs : Nat → Int} {σ : am_S} {c : Nat} {K : Int → am_S → Prop} {i : Int} (hI : INV xs σ c) (hc : c + 1 ≤ 600) (hL : L ≤ 3584) (h0 : 0 ≤ i) (h1 : (L : Int) - 7 < i → K 1 σ) (h2 : ¬ ((L : Int) - 7 < i) → ∀ t, INV xs t (c + 1) → am_Runs PP MLL (d + 30) m_L_law 10 [some (qr (0, 24, L)), some (qr (2, 11, 10)), some (qr (31, 12, 89)), some (qi (i + 7))] [] t (kI K)) (e : a_and (xs (Int.toNat i)) 63 = 1) : am_Runs PP MLL (d + 30) m_L_law 10 [some (qr (0, 24, L)), some (qr (2, 11, 10)), some (qr (31, 12, 89)), some (qi i)] [] σ (kI K) := by
  have hx := INV_xs hI
  have w : PR d xs m_C_lies m_M_lies [qi (xs (Int.toNat (i + 1)))] σ c := p_lies d hI hc
  unfold PR at w
  refine v_L_law1_10 (d + 22) L i σ K (by rw [hx]; exact e) ⟨by omega, fun c1 => h1 c1, fun c1 => ⟨by omega, by omega, ?_⟩⟩
  rw [hx]
  exact am_cI w (fun x s hs => by
    rw [hs.1]
    exact am_cI hs.2 (fun y t ht => ⟨fun _ => ⟨by omega, h2 c1 t ht.2⟩, fun e' => absurd ht.1 e'⟩))
set_option maxRecDepth 20000 in
theorem v_L_law2_10 (d : Nat) (L : Nat) (v3 : Int) (σ : am_S) (K : Int → am_S → Prop) (e : (a_and (sI σ 0 (Int.toNat v3)) 63) = 2) (h :
  (-2147483648 ≤ ((L : Nat) : Int) - 7 ∧ ((L : Nat) : Int) - 7 < 2147483648) ∧
  (((((L : Nat) : Int) - 7) < v3 →
    K 1 σ) ∧
  (¬ ((((L : Nat) : Int) - 7) < v3) →
    (0 ≤ v3 ∧ v3 < ((L : Nat) : Int)) ∧
    (-2147483648 ≤ v3 + 1 ∧ v3 + 1 < 2147483648 ∧ 0 ≤ (v3 + 1) ∧ (v3 + 1) < ((L : Nat) : Int) ∧ -2147483648 ≤ v3 + 2 ∧ v3 + 2 < 2147483648 ∧ 0 ≤ (v3 + 2) ∧ (v3 + 2) < ((L : Nat) : Int)) ∧
    am_Calls PP MLL (d + 8) m_C_truth [qr (2, 11, 10), qi (sI σ 0 (Int.toNat (v3 + 1))), qi (sI σ 0 (Int.toNat (v3 + 2)))] σ (kI fun x2 s2 =>
      am_Calls PP MLL (d + 8) m_M_truth [qr (31, 12, 89), qi (sI s2 0 (Int.toNat (v3 + 1))), qi (sI s2 0 (Int.toNat (v3 + 2)))] s2 (kI fun x3 s3 =>
        ((x2 = x3 →
          (-2147483648 ≤ v3 + 7 ∧ v3 + 7 < 2147483648) ∧
          am_Runs PP MLL (d + 8) m_L_law 10 [some (qr (0, 24, L)), some (qr (2, 11, 10)), some (qr (31, 12, 89)), some (qi (v3 + 7))] [] s3 (kI K)) ∧
        (¬ (x2 = x3) →
          K 0 s3))))))) : am_Runs PP MLL (d + 8) m_L_law 10 [some (qr (0, 24, L)), some (qr (2, 11, 10)), some (qr (31, 12, 89)), some (qi v3)] [] σ (kI K) := am_wEF_ok (orc []) 200 (⟨⟨(by decide : 20 ≤ 24), (by decide : 24 < 25)⟩, ⟨⟨h.1.1, h.1.2⟩, ⟨fun c1 => ⟨(Or.inr rfl), (h.2.1 c1)⟩, fun c1 => ⟨⟨rfl, (h.2.2 c1).1.1, (h.2.2 c1).1.2⟩, ⟨fun c => absurd (Eq.trans (Eq.symm e) c) (by decide : ¬ ((2 : Int) = 0)), fun _ => ⟨fun c => absurd (Eq.trans (Eq.symm e) c) (by decide : ¬ ((2 : Int) = 1)), fun _ => ⟨fun _ => ⟨⟨(h.2.2 c1).2.1.1, (h.2.2 c1).2.1.2.1⟩, ⟨⟨rfl, (h.2.2 c1).2.1.2.2.1, (h.2.2 c1).2.1.2.2.2.1⟩, ⟨⟨(h.2.2 c1).2.1.2.2.2.2.1, (h.2.2 c1).2.1.2.2.2.2.2.1⟩, ⟨⟨rfl, (h.2.2 c1).2.1.2.2.2.2.2.2.1, (h.2.2 c1).2.1.2.2.2.2.2.2.2⟩, ⟨rfl, (am_cI (h.2.2 c1).2.2 fun x2 s2 h2 => ⟨⟨(h.2.2 c1).2.1.1, (h.2.2 c1).2.1.2.1⟩, ⟨⟨rfl, (h.2.2 c1).2.1.2.2.1, (h.2.2 c1).2.1.2.2.2.1⟩, ⟨⟨(h.2.2 c1).2.1.2.2.2.2.1, (h.2.2 c1).2.1.2.2.2.2.2.1⟩, ⟨⟨rfl, (h.2.2 c1).2.1.2.2.2.2.2.2.1, (h.2.2 c1).2.1.2.2.2.2.2.2.2⟩, ⟨rfl, (am_cI h2 fun x3 s3 h3 => ⟨fun c4 => ⟨⟨(h3.1 c4).1.1, (h3.1 c4).1.2⟩, (h3.1 c4).2⟩, fun c4 => ⟨(Or.inl rfl), (h3.2 c4)⟩⟩)⟩⟩⟩⟩⟩)⟩⟩⟩⟩⟩, fun c => absurd e c⟩⟩⟩⟩⟩⟩⟩)

theorem l_law2 (d : Nat) {L : Nat} {xs : Nat → Int} {σ : am_S} {c : Nat} {K : Int → am_S → Prop} {i : Int} (hI : INV xs σ c) (hc : c + 1 ≤ 600) (hL : L ≤ 3584) (h0 : 0 ≤ i) (h1 : (L : Int) - 7 < i → K 1 σ) (h2 : ¬ ((L : Int) - 7 < i) → ∀ t, INV xs t (c + 1) → am_Runs PP MLL (d + 30) m_L_law 10 [some (qr (0, 24, L)), some (qr (2, 11, 10)), some (qr (31, 12, 89)), some (qi (i + 7))] [] t (kI K)) (e : a_and (xs (Int.toNat i)) 63 = 2) : am_Runs PP MLL (d + 30) m_L_law 10 [some (qr (0, 24, L)), some (qr (2, 11, 10)), some (qr (31, 12, 89)), some (qi i)] [] σ (kI K) := by
  have hx := INV_xs hI
  have w : PR d xs m_C_truth m_M_truth [qi (xs (Int.toNat (i + 1))), qi (xs (Int.toNat (i + 2)))] σ c := p_truth d hI hc
  unfold PR at w
  refine v_L_law2_10 (d + 22) L i σ K (by rw [hx]; exact e) ⟨by omega, fun c1 => h1 c1, fun c1 => ⟨by omega, by omega, ?_⟩⟩
  rw [hx]
  exact am_cI w (fun x s hs => by
    rw [hs.1]
    exact am_cI hs.2 (fun y t ht => ⟨fun _ => ⟨by omega, h2 c1 t ht.2⟩, fun e' => absurd ht.1 e'⟩))
set_option maxRecDepth 20000 in
theorem v_L_law3_10 (d : Nat) (L : Nat) (v3 : Int) (σ : am_S) (K : Int → am_S → Prop) (e : (a_and (sI σ 0 (Int.toNat v3)) 63) = 3) (h :
  (-2147483648 ≤ ((L : Nat) : Int) - 7 ∧ ((L : Nat) : Int) - 7 < 2147483648) ∧
  (((((L : Nat) : Int) - 7) < v3 →
    K 1 σ) ∧
  (¬ ((((L : Nat) : Int) - 7) < v3) →
    (0 ≤ v3 ∧ v3 < ((L : Nat) : Int)) ∧
    (-2147483648 ≤ v3 + 1 ∧ v3 + 1 < 2147483648 ∧ 0 ≤ (v3 + 1) ∧ (v3 + 1) < ((L : Nat) : Int)) ∧
    am_Calls PP MLL (d + 8) m_C_lied [qr (2, 11, 10), qi (sI σ 0 (Int.toNat (v3 + 1)))] σ (kI fun x2 s2 =>
      am_Calls PP MLL (d + 8) m_M_lied [qr (31, 12, 89), qi (sI s2 0 (Int.toNat (v3 + 1)))] s2 (kI fun x3 s3 =>
        ((x2 = x3 →
          (-2147483648 ≤ v3 + 7 ∧ v3 + 7 < 2147483648) ∧
          am_Runs PP MLL (d + 8) m_L_law 10 [some (qr (0, 24, L)), some (qr (2, 11, 10)), some (qr (31, 12, 89)), some (qi (v3 + 7))] [] s3 (kI K)) ∧
        (¬ (x2 = x3) →
          K 0 s3))))))) : am_Runs PP MLL (d + 8) m_L_law 10 [some (qr (0, 24, L)), some (qr (2, 11, 10)), some (qr (31, 12, 89)), some (qi v3)] [] σ (kI K) := am_wEF_ok (orc []) 200 (⟨⟨(by decide : 20 ≤ 24), (by decide : 24 < 25)⟩, ⟨⟨h.1.1, h.1.2⟩, ⟨fun c1 => ⟨(Or.inr rfl), (h.2.1 c1)⟩, fun c1 => ⟨⟨rfl, (h.2.2 c1).1.1, (h.2.2 c1).1.2⟩, ⟨fun c => absurd (Eq.trans (Eq.symm e) c) (by decide : ¬ ((3 : Int) = 0)), fun _ => ⟨fun c => absurd (Eq.trans (Eq.symm e) c) (by decide : ¬ ((3 : Int) = 1)), fun _ => ⟨fun c => absurd (Eq.trans (Eq.symm e) c) (by decide : ¬ ((3 : Int) = 2)), fun _ => ⟨fun _ => ⟨⟨(h.2.2 c1).2.1.1, (h.2.2 c1).2.1.2.1⟩, ⟨⟨rfl, (h.2.2 c1).2.1.2.2.1, (h.2.2 c1).2.1.2.2.2⟩, ⟨rfl, (am_cI (h.2.2 c1).2.2 fun x2 s2 h2 => ⟨⟨(h.2.2 c1).2.1.1, (h.2.2 c1).2.1.2.1⟩, ⟨⟨rfl, (h.2.2 c1).2.1.2.2.1, (h.2.2 c1).2.1.2.2.2⟩, ⟨rfl, (am_cI h2 fun x3 s3 h3 => ⟨fun c4 => ⟨⟨(h3.1 c4).1.1, (h3.1 c4).1.2⟩, (h3.1 c4).2⟩, fun c4 => ⟨(Or.inl rfl), (h3.2 c4)⟩⟩)⟩⟩⟩)⟩⟩⟩, fun c => absurd e c⟩⟩⟩⟩⟩⟩⟩⟩)

theorem l_law3 (d : Nat) {L : Nat} {xs : Nat → Int} {σ : am_S} {c : Nat} {K : Int → am_S → Prop} {i : Int} (hI : INV xs σ c) (hc : c + 1 ≤ 600) (hL : L ≤ 3584) (h0 : 0 ≤ i) (h1 : (L : Int) - 7 < i → K 1 σ) (h2 : ¬ ((L : Int) - 7 < i) → ∀ t, INV xs t (c + 1) → am_Runs PP MLL (d + 30) m_L_law 10 [some (qr (0, 24, L)), some (qr (2, 11, 10)), some (qr (31, 12, 89)), some (qi (i + 7))] [] t (kI K)) (e : a_and (xs (Int.toNat i)) 63 = 3) : am_Runs PP MLL (d + 30) m_L_law 10 [some (qr (0, 24, L)), some (qr (2, 11, 10)), some (qr (31, 12, 89)), some (qi i)] [] σ (kI K) := by
  have hx := INV_xs hI
  have w : PR d xs m_C_lied m_M_lied [qi (xs (Int.toNat (i + 1)))] σ c := p_lied d hI hc
  unfold PR at w
  refine v_L_law3_10 (d + 22) L i σ K (by rw [hx]; exact e) ⟨by omega, fun c1 => h1 c1, fun c1 => ⟨by omega, by omega, ?_⟩⟩
  rw [hx]
  exact am_cI w (fun x s hs => by
    rw [hs.1]
    exact am_cI hs.2 (fun y t ht => ⟨fun _ => ⟨by omega, h2 c1 t ht.2⟩, fun e' => absurd ht.1 e'⟩))
set_option maxRecDepth 20000 in
theorem v_L_law4_10 (d : Nat) (L : Nat) (v3 : Int) (σ : am_S) (K : Int → am_S → Prop) (e : (a_and (sI σ 0 (Int.toNat v3)) 63) = 4) (h :
  (-2147483648 ≤ ((L : Nat) : Int) - 7 ∧ ((L : Nat) : Int) - 7 < 2147483648) ∧
  (((((L : Nat) : Int) - 7) < v3 →
    K 1 σ) ∧
  (¬ ((((L : Nat) : Int) - 7) < v3) →
    (0 ≤ v3 ∧ v3 < ((L : Nat) : Int)) ∧
    (-2147483648 ≤ v3 + 1 ∧ v3 + 1 < 2147483648 ∧ 0 ≤ (v3 + 1) ∧ (v3 + 1) < ((L : Nat) : Int) ∧ -2147483648 ≤ v3 + 2 ∧ v3 + 2 < 2147483648 ∧ 0 ≤ (v3 + 2) ∧ (v3 + 2) < ((L : Nat) : Int)) ∧
    am_Calls PP MLL (d + 8) m_C_alike [qr (2, 11, 10), qi (sI σ 0 (Int.toNat (v3 + 1))), qi (sI σ 0 (Int.toNat (v3 + 2)))] σ (kI fun x2 s2 =>
      am_Calls PP MLL (d + 8) m_M_alike [qr (31, 12, 89), qi (sI s2 0 (Int.toNat (v3 + 1))), qi (sI s2 0 (Int.toNat (v3 + 2)))] s2 (kI fun x3 s3 =>
        ((x2 = x3 →
          (-2147483648 ≤ v3 + 7 ∧ v3 + 7 < 2147483648) ∧
          am_Runs PP MLL (d + 8) m_L_law 10 [some (qr (0, 24, L)), some (qr (2, 11, 10)), some (qr (31, 12, 89)), some (qi (v3 + 7))] [] s3 (kI K)) ∧
        (¬ (x2 = x3) →
          K 0 s3))))))) : am_Runs PP MLL (d + 8) m_L_law 10 [some (qr (0, 24, L)), some (qr (2, 11, 10)), some (qr (31, 12, 89)), some (qi v3)] [] σ (kI K) := am_wEF_ok (orc []) 200 (⟨⟨(by decide : 20 ≤ 24), (by decide : 24 < 25)⟩, ⟨⟨h.1.1, h.1.2⟩, ⟨fun c1 => ⟨(Or.inr rfl), (h.2.1 c1)⟩, fun c1 => ⟨⟨rfl, (h.2.2 c1).1.1, (h.2.2 c1).1.2⟩, ⟨fun c => absurd (Eq.trans (Eq.symm e) c) (by decide : ¬ ((4 : Int) = 0)), fun _ => ⟨fun c => absurd (Eq.trans (Eq.symm e) c) (by decide : ¬ ((4 : Int) = 1)), fun _ => ⟨fun c => absurd (Eq.trans (Eq.symm e) c) (by decide : ¬ ((4 : Int) = 2)), fun _ => ⟨fun c => absurd (Eq.trans (Eq.symm e) c) (by decide : ¬ ((4 : Int) = 3)), fun _ => ⟨fun _ => ⟨⟨(h.2.2 c1).2.1.1, (h.2.2 c1).2.1.2.1⟩, ⟨⟨rfl, (h.2.2 c1).2.1.2.2.1, (h.2.2 c1).2.1.2.2.2.1⟩, ⟨⟨(h.2.2 c1).2.1.2.2.2.2.1, (h.2.2 c1).2.1.2.2.2.2.2.1⟩, ⟨⟨rfl, (h.2.2 c1).2.1.2.2.2.2.2.2.1, (h.2.2 c1).2.1.2.2.2.2.2.2.2⟩, ⟨rfl, (am_cI (h.2.2 c1).2.2 fun x2 s2 h2 => ⟨⟨(h.2.2 c1).2.1.1, (h.2.2 c1).2.1.2.1⟩, ⟨⟨rfl, (h.2.2 c1).2.1.2.2.1, (h.2.2 c1).2.1.2.2.2.1⟩, ⟨⟨(h.2.2 c1).2.1.2.2.2.2.1, (h.2.2 c1).2.1.2.2.2.2.2.1⟩, ⟨⟨rfl, (h.2.2 c1).2.1.2.2.2.2.2.2.1, (h.2.2 c1).2.1.2.2.2.2.2.2.2⟩, ⟨rfl, (am_cI h2 fun x3 s3 h3 => ⟨fun c4 => ⟨⟨(h3.1 c4).1.1, (h3.1 c4).1.2⟩, (h3.1 c4).2⟩, fun c4 => ⟨(Or.inl rfl), (h3.2 c4)⟩⟩)⟩⟩⟩⟩⟩)⟩⟩⟩⟩⟩, fun c => absurd e c⟩⟩⟩⟩⟩⟩⟩⟩⟩)

theorem l_law4 (d : Nat) {L : Nat} {xs : Nat → Int} {σ : am_S} {c : Nat} {K : Int → am_S → Prop} {i : Int} (hI : INV xs σ c) (hc : c + 1 ≤ 600) (hL : L ≤ 3584) (h0 : 0 ≤ i) (h1 : (L : Int) - 7 < i → K 1 σ) (h2 : ¬ ((L : Int) - 7 < i) → ∀ t, INV xs t (c + 1) → am_Runs PP MLL (d + 30) m_L_law 10 [some (qr (0, 24, L)), some (qr (2, 11, 10)), some (qr (31, 12, 89)), some (qi (i + 7))] [] t (kI K)) (e : a_and (xs (Int.toNat i)) 63 = 4) : am_Runs PP MLL (d + 30) m_L_law 10 [some (qr (0, 24, L)), some (qr (2, 11, 10)), some (qr (31, 12, 89)), some (qi i)] [] σ (kI K) := by
  have hx := INV_xs hI
  have w : PR d xs m_C_alike m_M_alike [qi (xs (Int.toNat (i + 1))), qi (xs (Int.toNat (i + 2)))] σ c := p_alike d hI hc
  unfold PR at w
  refine v_L_law4_10 (d + 22) L i σ K (by rw [hx]; exact e) ⟨by omega, fun c1 => h1 c1, fun c1 => ⟨by omega, by omega, ?_⟩⟩
  rw [hx]
  exact am_cI w (fun x s hs => by
    rw [hs.1]
    exact am_cI hs.2 (fun y t ht => ⟨fun _ => ⟨by omega, h2 c1 t ht.2⟩, fun e' => absurd ht.1 e'⟩))
set_option maxRecDepth 20000 in
theorem v_L_law5_10 (d : Nat) (L : Nat) (v3 : Int) (σ : am_S) (K : Int → am_S → Prop) (e : (a_and (sI σ 0 (Int.toNat v3)) 63) = 5) (h :
  (-2147483648 ≤ ((L : Nat) : Int) - 7 ∧ ((L : Nat) : Int) - 7 < 2147483648) ∧
  (((((L : Nat) : Int) - 7) < v3 →
    K 1 σ) ∧
  (¬ ((((L : Nat) : Int) - 7) < v3) →
    (0 ≤ v3 ∧ v3 < ((L : Nat) : Int)) ∧
    (-2147483648 ≤ v3 + 1 ∧ v3 + 1 < 2147483648 ∧ 0 ≤ (v3 + 1) ∧ (v3 + 1) < ((L : Nat) : Int)) ∧
    am_Calls PP MLL (d + 8) m_C_balance [qr (2, 11, 10), qi (sI σ 0 (Int.toNat (v3 + 1)))] σ (kI fun x2 s2 =>
      am_Calls PP MLL (d + 8) m_M_balance [qr (31, 12, 89), qi (sI s2 0 (Int.toNat (v3 + 1)))] s2 (kI fun x3 s3 =>
        ((x2 = x3 →
          (-2147483648 ≤ v3 + 7 ∧ v3 + 7 < 2147483648) ∧
          am_Runs PP MLL (d + 8) m_L_law 10 [some (qr (0, 24, L)), some (qr (2, 11, 10)), some (qr (31, 12, 89)), some (qi (v3 + 7))] [] s3 (kI K)) ∧
        (¬ (x2 = x3) →
          K 0 s3))))))) : am_Runs PP MLL (d + 8) m_L_law 10 [some (qr (0, 24, L)), some (qr (2, 11, 10)), some (qr (31, 12, 89)), some (qi v3)] [] σ (kI K) := am_wEF_ok (orc []) 200 (⟨⟨(by decide : 20 ≤ 24), (by decide : 24 < 25)⟩, ⟨⟨h.1.1, h.1.2⟩, ⟨fun c1 => ⟨(Or.inr rfl), (h.2.1 c1)⟩, fun c1 => ⟨⟨rfl, (h.2.2 c1).1.1, (h.2.2 c1).1.2⟩, ⟨fun c => absurd (Eq.trans (Eq.symm e) c) (by decide : ¬ ((5 : Int) = 0)), fun _ => ⟨fun c => absurd (Eq.trans (Eq.symm e) c) (by decide : ¬ ((5 : Int) = 1)), fun _ => ⟨fun c => absurd (Eq.trans (Eq.symm e) c) (by decide : ¬ ((5 : Int) = 2)), fun _ => ⟨fun c => absurd (Eq.trans (Eq.symm e) c) (by decide : ¬ ((5 : Int) = 3)), fun _ => ⟨fun c => absurd (Eq.trans (Eq.symm e) c) (by decide : ¬ ((5 : Int) = 4)), fun _ => ⟨fun _ => ⟨⟨(h.2.2 c1).2.1.1, (h.2.2 c1).2.1.2.1⟩, ⟨⟨rfl, (h.2.2 c1).2.1.2.2.1, (h.2.2 c1).2.1.2.2.2⟩, ⟨rfl, (am_cI (h.2.2 c1).2.2 fun x2 s2 h2 => ⟨⟨(h.2.2 c1).2.1.1, (h.2.2 c1).2.1.2.1⟩, ⟨⟨rfl, (h.2.2 c1).2.1.2.2.1, (h.2.2 c1).2.1.2.2.2⟩, ⟨rfl, (am_cI h2 fun x3 s3 h3 => ⟨fun c4 => ⟨⟨(h3.1 c4).1.1, (h3.1 c4).1.2⟩, (h3.1 c4).2⟩, fun c4 => ⟨(Or.inl rfl), (h3.2 c4)⟩⟩)⟩⟩⟩)⟩⟩⟩, fun c => absurd e c⟩⟩⟩⟩⟩⟩⟩⟩⟩⟩)

theorem l_law5 (d : Nat) {L : Nat} {xs : Nat → Int} {σ : am_S} {c : Nat} {K : Int → am_S → Prop} {i : Int} (hI : INV xs σ c) (hc : c + 1 ≤ 600) (hL : L ≤ 3584) (h0 : 0 ≤ i) (h1 : (L : Int) - 7 < i → K 1 σ) (h2 : ¬ ((L : Int) - 7 < i) → ∀ t, INV xs t (c + 1) → am_Runs PP MLL (d + 30) m_L_law 10 [some (qr (0, 24, L)), some (qr (2, 11, 10)), some (qr (31, 12, 89)), some (qi (i + 7))] [] t (kI K)) (e : a_and (xs (Int.toNat i)) 63 = 5) : am_Runs PP MLL (d + 30) m_L_law 10 [some (qr (0, 24, L)), some (qr (2, 11, 10)), some (qr (31, 12, 89)), some (qi i)] [] σ (kI K) := by
  have hx := INV_xs hI
  have w : PR d xs m_C_balance m_M_balance [qi (xs (Int.toNat (i + 1)))] σ c := p_balance d hI hc
  unfold PR at w
  refine v_L_law5_10 (d + 22) L i σ K (by rw [hx]; exact e) ⟨by omega, fun c1 => h1 c1, fun c1 => ⟨by omega, by omega, ?_⟩⟩
  rw [hx]
  exact am_cI w (fun x s hs => by
    rw [hs.1]
    exact am_cI hs.2 (fun y t ht => ⟨fun _ => ⟨by omega, h2 c1 t ht.2⟩, fun e' => absurd ht.1 e'⟩))
set_option maxRecDepth 20000 in
theorem v_L_law6_10 (d : Nat) (L : Nat) (v3 : Int) (σ : am_S) (K : Int → am_S → Prop) (e : (a_and (sI σ 0 (Int.toNat v3)) 63) = 6) (h :
  (-2147483648 ≤ ((L : Nat) : Int) - 7 ∧ ((L : Nat) : Int) - 7 < 2147483648) ∧
  (((((L : Nat) : Int) - 7) < v3 →
    K 1 σ) ∧
  (¬ ((((L : Nat) : Int) - 7) < v3) →
    (0 ≤ v3 ∧ v3 < ((L : Nat) : Int)) ∧
    (-2147483648 ≤ v3 + 1 ∧ v3 + 1 < 2147483648 ∧ 0 ≤ (v3 + 1) ∧ (v3 + 1) < ((L : Nat) : Int) ∧ -2147483648 ≤ v3 + 2 ∧ v3 + 2 < 2147483648 ∧ 0 ≤ (v3 + 2) ∧ (v3 + 2) < ((L : Nat) : Int) ∧ -2147483648 ≤ v3 + 3 ∧ v3 + 3 < 2147483648 ∧ 0 ≤ (v3 + 3) ∧ (v3 + 3) < ((L : Nat) : Int)) ∧
    am_Calls PP MLL (d + 8) m_C_queue [qr (2, 11, 10), qi (sI σ 0 (Int.toNat (v3 + 1))), qi (sI σ 0 (Int.toNat (v3 + 2))), qi (sI σ 0 (Int.toNat (v3 + 3)))] σ (kI fun x2 s2 =>
      am_Calls PP MLL (d + 8) m_M_queue [qr (31, 12, 89), qi (sI s2 0 (Int.toNat (v3 + 1))), qi (sI s2 0 (Int.toNat (v3 + 2))), qi (sI s2 0 (Int.toNat (v3 + 3)))] s2 (kI fun x3 s3 =>
        ((x2 = x3 →
          (-2147483648 ≤ v3 + 7 ∧ v3 + 7 < 2147483648) ∧
          am_Runs PP MLL (d + 8) m_L_law 10 [some (qr (0, 24, L)), some (qr (2, 11, 10)), some (qr (31, 12, 89)), some (qi (v3 + 7))] [] s3 (kI K)) ∧
        (¬ (x2 = x3) →
          K 0 s3))))))) : am_Runs PP MLL (d + 8) m_L_law 10 [some (qr (0, 24, L)), some (qr (2, 11, 10)), some (qr (31, 12, 89)), some (qi v3)] [] σ (kI K) := am_wEF_ok (orc []) 200 (⟨⟨(by decide : 20 ≤ 24), (by decide : 24 < 25)⟩, ⟨⟨h.1.1, h.1.2⟩, ⟨fun c1 => ⟨(Or.inr rfl), (h.2.1 c1)⟩, fun c1 => ⟨⟨rfl, (h.2.2 c1).1.1, (h.2.2 c1).1.2⟩, ⟨fun c => absurd (Eq.trans (Eq.symm e) c) (by decide : ¬ ((6 : Int) = 0)), fun _ => ⟨fun c => absurd (Eq.trans (Eq.symm e) c) (by decide : ¬ ((6 : Int) = 1)), fun _ => ⟨fun c => absurd (Eq.trans (Eq.symm e) c) (by decide : ¬ ((6 : Int) = 2)), fun _ => ⟨fun c => absurd (Eq.trans (Eq.symm e) c) (by decide : ¬ ((6 : Int) = 3)), fun _ => ⟨fun c => absurd (Eq.trans (Eq.symm e) c) (by decide : ¬ ((6 : Int) = 4)), fun _ => ⟨fun c => absurd (Eq.trans (Eq.symm e) c) (by decide : ¬ ((6 : Int) = 5)), fun _ => ⟨fun _ => ⟨⟨(h.2.2 c1).2.1.1, (h.2.2 c1).2.1.2.1⟩, ⟨⟨rfl, (h.2.2 c1).2.1.2.2.1, (h.2.2 c1).2.1.2.2.2.1⟩, ⟨⟨(h.2.2 c1).2.1.2.2.2.2.1, (h.2.2 c1).2.1.2.2.2.2.2.1⟩, ⟨⟨rfl, (h.2.2 c1).2.1.2.2.2.2.2.2.1, (h.2.2 c1).2.1.2.2.2.2.2.2.2.1⟩, ⟨⟨(h.2.2 c1).2.1.2.2.2.2.2.2.2.2.1, (h.2.2 c1).2.1.2.2.2.2.2.2.2.2.2.1⟩, ⟨⟨rfl, (h.2.2 c1).2.1.2.2.2.2.2.2.2.2.2.2.1, (h.2.2 c1).2.1.2.2.2.2.2.2.2.2.2.2.2⟩, ⟨rfl, (am_cI (h.2.2 c1).2.2 fun x2 s2 h2 => ⟨⟨(h.2.2 c1).2.1.1, (h.2.2 c1).2.1.2.1⟩, ⟨⟨rfl, (h.2.2 c1).2.1.2.2.1, (h.2.2 c1).2.1.2.2.2.1⟩, ⟨⟨(h.2.2 c1).2.1.2.2.2.2.1, (h.2.2 c1).2.1.2.2.2.2.2.1⟩, ⟨⟨rfl, (h.2.2 c1).2.1.2.2.2.2.2.2.1, (h.2.2 c1).2.1.2.2.2.2.2.2.2.1⟩, ⟨⟨(h.2.2 c1).2.1.2.2.2.2.2.2.2.2.1, (h.2.2 c1).2.1.2.2.2.2.2.2.2.2.2.1⟩, ⟨⟨rfl, (h.2.2 c1).2.1.2.2.2.2.2.2.2.2.2.2.1, (h.2.2 c1).2.1.2.2.2.2.2.2.2.2.2.2.2⟩, ⟨rfl, (am_cI h2 fun x3 s3 h3 => ⟨fun c4 => ⟨⟨(h3.1 c4).1.1, (h3.1 c4).1.2⟩, (h3.1 c4).2⟩, fun c4 => ⟨(Or.inl rfl), (h3.2 c4)⟩⟩)⟩⟩⟩⟩⟩⟩⟩)⟩⟩⟩⟩⟩⟩⟩, fun c => absurd e c⟩⟩⟩⟩⟩⟩⟩⟩⟩⟩⟩)

theorem l_law6 (d : Nat) {L : Nat} {xs : Nat → Int} {σ : am_S} {c : Nat} {K : Int → am_S → Prop} {i : Int} (hI : INV xs σ c) (hc : c + 1 ≤ 600) (hL : L ≤ 3584) (h0 : 0 ≤ i) (h1 : (L : Int) - 7 < i → K 1 σ) (h2 : ¬ ((L : Int) - 7 < i) → ∀ t, INV xs t (c + 1) → am_Runs PP MLL (d + 30) m_L_law 10 [some (qr (0, 24, L)), some (qr (2, 11, 10)), some (qr (31, 12, 89)), some (qi (i + 7))] [] t (kI K)) (e : a_and (xs (Int.toNat i)) 63 = 6) : am_Runs PP MLL (d + 30) m_L_law 10 [some (qr (0, 24, L)), some (qr (2, 11, 10)), some (qr (31, 12, 89)), some (qi i)] [] σ (kI K) := by
  have hx := INV_xs hI
  have w : PR d xs m_C_queue m_M_queue [qi (xs (Int.toNat (i + 1))), qi (xs (Int.toNat (i + 2))), qi (xs (Int.toNat (i + 3)))] σ c := p_queue d hI hc
  unfold PR at w
  refine v_L_law6_10 (d + 22) L i σ K (by rw [hx]; exact e) ⟨by omega, fun c1 => h1 c1, fun c1 => ⟨by omega, by omega, ?_⟩⟩
  rw [hx]
  exact am_cI w (fun x s hs => by
    rw [hs.1]
    exact am_cI hs.2 (fun y t ht => ⟨fun _ => ⟨by omega, h2 c1 t ht.2⟩, fun e' => absurd ht.1 e'⟩))
set_option maxRecDepth 20000 in
theorem v_L_law7_10 (d : Nat) (L : Nat) (v3 : Int) (σ : am_S) (K : Int → am_S → Prop) (e : (a_and (sI σ 0 (Int.toNat v3)) 63) = 7) (h :
  (-2147483648 ≤ ((L : Nat) : Int) - 7 ∧ ((L : Nat) : Int) - 7 < 2147483648) ∧
  (((((L : Nat) : Int) - 7) < v3 →
    K 1 σ) ∧
  (¬ ((((L : Nat) : Int) - 7) < v3) →
    (0 ≤ v3 ∧ v3 < ((L : Nat) : Int)) ∧
    (-2147483648 ≤ v3 + 1 ∧ v3 + 1 < 2147483648 ∧ 0 ≤ (v3 + 1) ∧ (v3 + 1) < ((L : Nat) : Int)) ∧
    am_Calls PP MLL (d + 8) m_C_take [qr (2, 11, 10), qi (sI σ 0 (Int.toNat (v3 + 1)))] σ (kI fun x2 s2 =>
      am_Calls PP MLL (d + 8) m_M_take [qr (31, 12, 89), qi (sI s2 0 (Int.toNat (v3 + 1)))] s2 (kI fun x3 s3 =>
        ((x2 = x3 →
          (-2147483648 ≤ v3 + 7 ∧ v3 + 7 < 2147483648) ∧
          am_Runs PP MLL (d + 8) m_L_law 10 [some (qr (0, 24, L)), some (qr (2, 11, 10)), some (qr (31, 12, 89)), some (qi (v3 + 7))] [] s3 (kI K)) ∧
        (¬ (x2 = x3) →
          K 0 s3))))))) : am_Runs PP MLL (d + 8) m_L_law 10 [some (qr (0, 24, L)), some (qr (2, 11, 10)), some (qr (31, 12, 89)), some (qi v3)] [] σ (kI K) := am_wEF_ok (orc []) 200 (⟨⟨(by decide : 20 ≤ 24), (by decide : 24 < 25)⟩, ⟨⟨h.1.1, h.1.2⟩, ⟨fun c1 => ⟨(Or.inr rfl), (h.2.1 c1)⟩, fun c1 => ⟨⟨rfl, (h.2.2 c1).1.1, (h.2.2 c1).1.2⟩, ⟨fun c => absurd (Eq.trans (Eq.symm e) c) (by decide : ¬ ((7 : Int) = 0)), fun _ => ⟨fun c => absurd (Eq.trans (Eq.symm e) c) (by decide : ¬ ((7 : Int) = 1)), fun _ => ⟨fun c => absurd (Eq.trans (Eq.symm e) c) (by decide : ¬ ((7 : Int) = 2)), fun _ => ⟨fun c => absurd (Eq.trans (Eq.symm e) c) (by decide : ¬ ((7 : Int) = 3)), fun _ => ⟨fun c => absurd (Eq.trans (Eq.symm e) c) (by decide : ¬ ((7 : Int) = 4)), fun _ => ⟨fun c => absurd (Eq.trans (Eq.symm e) c) (by decide : ¬ ((7 : Int) = 5)), fun _ => ⟨fun c => absurd (Eq.trans (Eq.symm e) c) (by decide : ¬ ((7 : Int) = 6)), fun _ => ⟨fun _ => ⟨⟨(h.2.2 c1).2.1.1, (h.2.2 c1).2.1.2.1⟩, ⟨⟨rfl, (h.2.2 c1).2.1.2.2.1, (h.2.2 c1).2.1.2.2.2⟩, ⟨rfl, (am_cI (h.2.2 c1).2.2 fun x2 s2 h2 => ⟨⟨(h.2.2 c1).2.1.1, (h.2.2 c1).2.1.2.1⟩, ⟨⟨rfl, (h.2.2 c1).2.1.2.2.1, (h.2.2 c1).2.1.2.2.2⟩, ⟨rfl, (am_cI h2 fun x3 s3 h3 => ⟨fun c4 => ⟨⟨(h3.1 c4).1.1, (h3.1 c4).1.2⟩, (h3.1 c4).2⟩, fun c4 => ⟨(Or.inl rfl), (h3.2 c4)⟩⟩)⟩⟩⟩)⟩⟩⟩, fun c => absurd e c⟩⟩⟩⟩⟩⟩⟩⟩⟩⟩⟩⟩)

theorem l_law7 (d : Nat) {L : Nat} {xs : Nat → Int} {σ : am_S} {c : Nat} {K : Int → am_S → Prop} {i : Int} (hI : INV xs σ c) (hc : c + 1 ≤ 600) (hL : L ≤ 3584) (h0 : 0 ≤ i) (h1 : (L : Int) - 7 < i → K 1 σ) (h2 : ¬ ((L : Int) - 7 < i) → ∀ t, INV xs t (c + 1) → am_Runs PP MLL (d + 30) m_L_law 10 [some (qr (0, 24, L)), some (qr (2, 11, 10)), some (qr (31, 12, 89)), some (qi (i + 7))] [] t (kI K)) (e : a_and (xs (Int.toNat i)) 63 = 7) : am_Runs PP MLL (d + 30) m_L_law 10 [some (qr (0, 24, L)), some (qr (2, 11, 10)), some (qr (31, 12, 89)), some (qi i)] [] σ (kI K) := by
  have hx := INV_xs hI
  have w : PR d xs m_C_take m_M_take [qi (xs (Int.toNat (i + 1)))] σ c := p_take d hI hc
  unfold PR at w
  refine v_L_law7_10 (d + 22) L i σ K (by rw [hx]; exact e) ⟨by omega, fun c1 => h1 c1, fun c1 => ⟨by omega, by omega, ?_⟩⟩
  rw [hx]
  exact am_cI w (fun x s hs => by
    rw [hs.1]
    exact am_cI hs.2 (fun y t ht => ⟨fun _ => ⟨by omega, h2 c1 t ht.2⟩, fun e' => absurd ht.1 e'⟩))
set_option maxRecDepth 20000 in
theorem v_L_law8_10 (d : Nat) (L : Nat) (v3 : Int) (σ : am_S) (K : Int → am_S → Prop) (e : (a_and (sI σ 0 (Int.toNat v3)) 63) = 8) (h :
  (-2147483648 ≤ ((L : Nat) : Int) - 7 ∧ ((L : Nat) : Int) - 7 < 2147483648) ∧
  (((((L : Nat) : Int) - 7) < v3 →
    K 1 σ) ∧
  (¬ ((((L : Nat) : Int) - 7) < v3) →
    (0 ≤ v3 ∧ v3 < ((L : Nat) : Int)) ∧
    (-2147483648 ≤ v3 + 1 ∧ v3 + 1 < 2147483648 ∧ 0 ≤ (v3 + 1) ∧ (v3 + 1) < ((L : Nat) : Int) ∧ -2147483648 ≤ v3 + 2 ∧ v3 + 2 < 2147483648 ∧ 0 ≤ (v3 + 2) ∧ (v3 + 2) < ((L : Nat) : Int) ∧ -2147483648 ≤ v3 + 3 ∧ v3 + 3 < 2147483648 ∧ 0 ≤ (v3 + 3) ∧ (v3 + 3) < ((L : Nat) : Int)) ∧
    am_Calls PP MLL (d + 8) m_C_pan [qr (2, 11, 10), qi (sI σ 0 (Int.toNat (v3 + 1))), qi (sI σ 0 (Int.toNat (v3 + 2))), qi (sI σ 0 (Int.toNat (v3 + 3)))] σ (kI fun x2 s2 =>
      am_Calls PP MLL (d + 8) m_M_pan [qr (31, 12, 89), qi (sI s2 0 (Int.toNat (v3 + 1))), qi (sI s2 0 (Int.toNat (v3 + 2))), qi (sI s2 0 (Int.toNat (v3 + 3)))] s2 (kI fun x3 s3 =>
        ((x2 = x3 →
          (-2147483648 ≤ v3 + 7 ∧ v3 + 7 < 2147483648) ∧
          am_Runs PP MLL (d + 8) m_L_law 10 [some (qr (0, 24, L)), some (qr (2, 11, 10)), some (qr (31, 12, 89)), some (qi (v3 + 7))] [] s3 (kI K)) ∧
        (¬ (x2 = x3) →
          K 0 s3))))))) : am_Runs PP MLL (d + 8) m_L_law 10 [some (qr (0, 24, L)), some (qr (2, 11, 10)), some (qr (31, 12, 89)), some (qi v3)] [] σ (kI K) := am_wEF_ok (orc []) 200 (⟨⟨(by decide : 20 ≤ 24), (by decide : 24 < 25)⟩, ⟨⟨h.1.1, h.1.2⟩, ⟨fun c1 => ⟨(Or.inr rfl), (h.2.1 c1)⟩, fun c1 => ⟨⟨rfl, (h.2.2 c1).1.1, (h.2.2 c1).1.2⟩, ⟨fun c => absurd (Eq.trans (Eq.symm e) c) (by decide : ¬ ((8 : Int) = 0)), fun _ => ⟨fun c => absurd (Eq.trans (Eq.symm e) c) (by decide : ¬ ((8 : Int) = 1)), fun _ => ⟨fun c => absurd (Eq.trans (Eq.symm e) c) (by decide : ¬ ((8 : Int) = 2)), fun _ => ⟨fun c => absurd (Eq.trans (Eq.symm e) c) (by decide : ¬ ((8 : Int) = 3)), fun _ => ⟨fun c => absurd (Eq.trans (Eq.symm e) c) (by decide : ¬ ((8 : Int) = 4)), fun _ => ⟨fun c => absurd (Eq.trans (Eq.symm e) c) (by decide : ¬ ((8 : Int) = 5)), fun _ => ⟨fun c => absurd (Eq.trans (Eq.symm e) c) (by decide : ¬ ((8 : Int) = 6)), fun _ => ⟨fun c => absurd (Eq.trans (Eq.symm e) c) (by decide : ¬ ((8 : Int) = 7)), fun _ => ⟨fun _ => ⟨⟨(h.2.2 c1).2.1.1, (h.2.2 c1).2.1.2.1⟩, ⟨⟨rfl, (h.2.2 c1).2.1.2.2.1, (h.2.2 c1).2.1.2.2.2.1⟩, ⟨⟨(h.2.2 c1).2.1.2.2.2.2.1, (h.2.2 c1).2.1.2.2.2.2.2.1⟩, ⟨⟨rfl, (h.2.2 c1).2.1.2.2.2.2.2.2.1, (h.2.2 c1).2.1.2.2.2.2.2.2.2.1⟩, ⟨⟨(h.2.2 c1).2.1.2.2.2.2.2.2.2.2.1, (h.2.2 c1).2.1.2.2.2.2.2.2.2.2.2.1⟩, ⟨⟨rfl, (h.2.2 c1).2.1.2.2.2.2.2.2.2.2.2.2.1, (h.2.2 c1).2.1.2.2.2.2.2.2.2.2.2.2.2⟩, ⟨rfl, (am_cI (h.2.2 c1).2.2 fun x2 s2 h2 => ⟨⟨(h.2.2 c1).2.1.1, (h.2.2 c1).2.1.2.1⟩, ⟨⟨rfl, (h.2.2 c1).2.1.2.2.1, (h.2.2 c1).2.1.2.2.2.1⟩, ⟨⟨(h.2.2 c1).2.1.2.2.2.2.1, (h.2.2 c1).2.1.2.2.2.2.2.1⟩, ⟨⟨rfl, (h.2.2 c1).2.1.2.2.2.2.2.2.1, (h.2.2 c1).2.1.2.2.2.2.2.2.2.1⟩, ⟨⟨(h.2.2 c1).2.1.2.2.2.2.2.2.2.2.1, (h.2.2 c1).2.1.2.2.2.2.2.2.2.2.2.1⟩, ⟨⟨rfl, (h.2.2 c1).2.1.2.2.2.2.2.2.2.2.2.2.1, (h.2.2 c1).2.1.2.2.2.2.2.2.2.2.2.2.2⟩, ⟨rfl, (am_cI h2 fun x3 s3 h3 => ⟨fun c4 => ⟨⟨(h3.1 c4).1.1, (h3.1 c4).1.2⟩, (h3.1 c4).2⟩, fun c4 => ⟨(Or.inl rfl), (h3.2 c4)⟩⟩)⟩⟩⟩⟩⟩⟩⟩)⟩⟩⟩⟩⟩⟩⟩, fun c => absurd e c⟩⟩⟩⟩⟩⟩⟩⟩⟩⟩⟩⟩⟩)

theorem l_law8 (d : Nat) {L : Nat} {xs : Nat → Int} {σ : am_S} {c : Nat} {K : Int → am_S → Prop} {i : Int} (hI : INV xs σ c) (hc : c + 1 ≤ 600) (hL : L ≤ 3584) (h0 : 0 ≤ i) (h1 : (L : Int) - 7 < i → K 1 σ) (h2 : ¬ ((L : Int) - 7 < i) → ∀ t, INV xs t (c + 1) → am_Runs PP MLL (d + 30) m_L_law 10 [some (qr (0, 24, L)), some (qr (2, 11, 10)), some (qr (31, 12, 89)), some (qi (i + 7))] [] t (kI K)) (e : a_and (xs (Int.toNat i)) 63 = 8) : am_Runs PP MLL (d + 30) m_L_law 10 [some (qr (0, 24, L)), some (qr (2, 11, 10)), some (qr (31, 12, 89)), some (qi i)] [] σ (kI K) := by
  have hx := INV_xs hI
  have w : PR d xs m_C_pan m_M_pan [qi (xs (Int.toNat (i + 1))), qi (xs (Int.toNat (i + 2))), qi (xs (Int.toNat (i + 3)))] σ c := p_pan d hI hc
  unfold PR at w
  refine v_L_law8_10 (d + 22) L i σ K (by rw [hx]; exact e) ⟨by omega, fun c1 => h1 c1, fun c1 => ⟨by omega, by omega, ?_⟩⟩
  rw [hx]
  exact am_cI w (fun x s hs => by
    rw [hs.1]
    exact am_cI hs.2 (fun y t ht => ⟨fun _ => ⟨by omega, h2 c1 t ht.2⟩, fun e' => absurd ht.1 e'⟩))
set_option maxRecDepth 20000 in
theorem v_L_law9_10 (d : Nat) (L : Nat) (v3 : Int) (σ : am_S) (K : Int → am_S → Prop) (e : (a_and (sI σ 0 (Int.toNat v3)) 63) = 9) (h :
  (-2147483648 ≤ ((L : Nat) : Int) - 7 ∧ ((L : Nat) : Int) - 7 < 2147483648) ∧
  (((((L : Nat) : Int) - 7) < v3 →
    K 1 σ) ∧
  (¬ ((((L : Nat) : Int) - 7) < v3) →
    (0 ≤ v3 ∧ v3 < ((L : Nat) : Int)) ∧
    (-2147483648 ≤ v3 + 1 ∧ v3 + 1 < 2147483648 ∧ 0 ≤ (v3 + 1) ∧ (v3 + 1) < ((L : Nat) : Int) ∧ -2147483648 ≤ v3 + 2 ∧ v3 + 2 < 2147483648 ∧ 0 ≤ (v3 + 2) ∧ (v3 + 2) < ((L : Nat) : Int)) ∧
    am_Calls PP MLL (d + 8) m_C_unpan [qr (2, 11, 10), qi (sI σ 0 (Int.toNat (v3 + 1))), qi (sI σ 0 (Int.toNat (v3 + 2)))] σ (kI fun x2 s2 =>
      am_Calls PP MLL (d + 8) m_M_unpan [qr (31, 12, 89), qi (sI s2 0 (Int.toNat (v3 + 1))), qi (sI s2 0 (Int.toNat (v3 + 2)))] s2 (kI fun x3 s3 =>
        ((x2 = x3 →
          (-2147483648 ≤ v3 + 7 ∧ v3 + 7 < 2147483648) ∧
          am_Runs PP MLL (d + 8) m_L_law 10 [some (qr (0, 24, L)), some (qr (2, 11, 10)), some (qr (31, 12, 89)), some (qi (v3 + 7))] [] s3 (kI K)) ∧
        (¬ (x2 = x3) →
          K 0 s3))))))) : am_Runs PP MLL (d + 8) m_L_law 10 [some (qr (0, 24, L)), some (qr (2, 11, 10)), some (qr (31, 12, 89)), some (qi v3)] [] σ (kI K) := am_wEF_ok (orc []) 200 (⟨⟨(by decide : 20 ≤ 24), (by decide : 24 < 25)⟩, ⟨⟨h.1.1, h.1.2⟩, ⟨fun c1 => ⟨(Or.inr rfl), (h.2.1 c1)⟩, fun c1 => ⟨⟨rfl, (h.2.2 c1).1.1, (h.2.2 c1).1.2⟩, ⟨fun c => absurd (Eq.trans (Eq.symm e) c) (by decide : ¬ ((9 : Int) = 0)), fun _ => ⟨fun c => absurd (Eq.trans (Eq.symm e) c) (by decide : ¬ ((9 : Int) = 1)), fun _ => ⟨fun c => absurd (Eq.trans (Eq.symm e) c) (by decide : ¬ ((9 : Int) = 2)), fun _ => ⟨fun c => absurd (Eq.trans (Eq.symm e) c) (by decide : ¬ ((9 : Int) = 3)), fun _ => ⟨fun c => absurd (Eq.trans (Eq.symm e) c) (by decide : ¬ ((9 : Int) = 4)), fun _ => ⟨fun c => absurd (Eq.trans (Eq.symm e) c) (by decide : ¬ ((9 : Int) = 5)), fun _ => ⟨fun c => absurd (Eq.trans (Eq.symm e) c) (by decide : ¬ ((9 : Int) = 6)), fun _ => ⟨fun c => absurd (Eq.trans (Eq.symm e) c) (by decide : ¬ ((9 : Int) = 7)), fun _ => ⟨fun c => absurd (Eq.trans (Eq.symm e) c) (by decide : ¬ ((9 : Int) = 8)), fun _ => ⟨fun _ => ⟨⟨(h.2.2 c1).2.1.1, (h.2.2 c1).2.1.2.1⟩, ⟨⟨rfl, (h.2.2 c1).2.1.2.2.1, (h.2.2 c1).2.1.2.2.2.1⟩, ⟨⟨(h.2.2 c1).2.1.2.2.2.2.1, (h.2.2 c1).2.1.2.2.2.2.2.1⟩, ⟨⟨rfl, (h.2.2 c1).2.1.2.2.2.2.2.2.1, (h.2.2 c1).2.1.2.2.2.2.2.2.2⟩, ⟨rfl, (am_cI (h.2.2 c1).2.2 fun x2 s2 h2 => ⟨⟨(h.2.2 c1).2.1.1, (h.2.2 c1).2.1.2.1⟩, ⟨⟨rfl, (h.2.2 c1).2.1.2.2.1, (h.2.2 c1).2.1.2.2.2.1⟩, ⟨⟨(h.2.2 c1).2.1.2.2.2.2.1, (h.2.2 c1).2.1.2.2.2.2.2.1⟩, ⟨⟨rfl, (h.2.2 c1).2.1.2.2.2.2.2.2.1, (h.2.2 c1).2.1.2.2.2.2.2.2.2⟩, ⟨rfl, (am_cI h2 fun x3 s3 h3 => ⟨fun c4 => ⟨⟨(h3.1 c4).1.1, (h3.1 c4).1.2⟩, (h3.1 c4).2⟩, fun c4 => ⟨(Or.inl rfl), (h3.2 c4)⟩⟩)⟩⟩⟩⟩⟩)⟩⟩⟩⟩⟩, fun c => absurd e c⟩⟩⟩⟩⟩⟩⟩⟩⟩⟩⟩⟩⟩⟩)

theorem l_law9 (d : Nat) {L : Nat} {xs : Nat → Int} {σ : am_S} {c : Nat} {K : Int → am_S → Prop} {i : Int} (hI : INV xs σ c) (hc : c + 1 ≤ 600) (hL : L ≤ 3584) (h0 : 0 ≤ i) (h1 : (L : Int) - 7 < i → K 1 σ) (h2 : ¬ ((L : Int) - 7 < i) → ∀ t, INV xs t (c + 1) → am_Runs PP MLL (d + 30) m_L_law 10 [some (qr (0, 24, L)), some (qr (2, 11, 10)), some (qr (31, 12, 89)), some (qi (i + 7))] [] t (kI K)) (e : a_and (xs (Int.toNat i)) 63 = 9) : am_Runs PP MLL (d + 30) m_L_law 10 [some (qr (0, 24, L)), some (qr (2, 11, 10)), some (qr (31, 12, 89)), some (qi i)] [] σ (kI K) := by
  have hx := INV_xs hI
  have w : PR d xs m_C_unpan m_M_unpan [qi (xs (Int.toNat (i + 1))), qi (xs (Int.toNat (i + 2)))] σ c := p_unpan d hI hc
  unfold PR at w
  refine v_L_law9_10 (d + 22) L i σ K (by rw [hx]; exact e) ⟨by omega, fun c1 => h1 c1, fun c1 => ⟨by omega, by omega, ?_⟩⟩
  rw [hx]
  exact am_cI w (fun x s hs => by
    rw [hs.1]
    exact am_cI hs.2 (fun y t ht => ⟨fun _ => ⟨by omega, h2 c1 t ht.2⟩, fun e' => absurd ht.1 e'⟩))
set_option maxRecDepth 20000 in
theorem v_L_law10_10 (d : Nat) (L : Nat) (v3 : Int) (σ : am_S) (K : Int → am_S → Prop) (e : (a_and (sI σ 0 (Int.toNat v3)) 63) = 10) (h :
  (-2147483648 ≤ ((L : Nat) : Int) - 7 ∧ ((L : Nat) : Int) - 7 < 2147483648) ∧
  (((((L : Nat) : Int) - 7) < v3 →
    K 1 σ) ∧
  (¬ ((((L : Nat) : Int) - 7) < v3) →
    (0 ≤ v3 ∧ v3 < ((L : Nat) : Int)) ∧
    (-2147483648 ≤ v3 + 1 ∧ v3 + 1 < 2147483648 ∧ 0 ≤ (v3 + 1) ∧ (v3 + 1) < ((L : Nat) : Int) ∧ -2147483648 ≤ v3 + 2 ∧ v3 + 2 < 2147483648 ∧ 0 ≤ (v3 + 2) ∧ (v3 + 2) < ((L : Nat) : Int) ∧ -2147483648 ≤ v3 + 3 ∧ v3 + 3 < 2147483648 ∧ 0 ≤ (v3 + 3) ∧ (v3 + 3) < ((L : Nat) : Int) ∧ -2147483648 ≤ v3 + 4 ∧ v3 + 4 < 2147483648 ∧ 0 ≤ (v3 + 4) ∧ (v3 + 4) < ((L : Nat) : Int)) ∧
    am_Calls PP MLL (d + 8) m_C_put [qr (2, 11, 10), qi (sI σ 0 (Int.toNat (v3 + 1))), qi (sI σ 0 (Int.toNat (v3 + 2))), qi (sI σ 0 (Int.toNat (v3 + 3))), qi (sI σ 0 (Int.toNat (v3 + 4)))] σ (kI fun x2 s2 =>
      am_Calls PP MLL (d + 8) m_M_put [qr (31, 12, 89), qi (sI s2 0 (Int.toNat (v3 + 1))), qi (sI s2 0 (Int.toNat (v3 + 2))), qi (sI s2 0 (Int.toNat (v3 + 3))), qi (sI s2 0 (Int.toNat (v3 + 4)))] s2 (kI fun x3 s3 =>
        ((x2 = x3 →
          (-2147483648 ≤ v3 + 7 ∧ v3 + 7 < 2147483648) ∧
          am_Runs PP MLL (d + 8) m_L_law 10 [some (qr (0, 24, L)), some (qr (2, 11, 10)), some (qr (31, 12, 89)), some (qi (v3 + 7))] [] s3 (kI K)) ∧
        (¬ (x2 = x3) →
          K 0 s3))))))) : am_Runs PP MLL (d + 8) m_L_law 10 [some (qr (0, 24, L)), some (qr (2, 11, 10)), some (qr (31, 12, 89)), some (qi v3)] [] σ (kI K) := am_wEF_ok (orc []) 200 (⟨⟨(by decide : 20 ≤ 24), (by decide : 24 < 25)⟩, ⟨⟨h.1.1, h.1.2⟩, ⟨fun c1 => ⟨(Or.inr rfl), (h.2.1 c1)⟩, fun c1 => ⟨⟨rfl, (h.2.2 c1).1.1, (h.2.2 c1).1.2⟩, ⟨fun c => absurd (Eq.trans (Eq.symm e) c) (by decide : ¬ ((10 : Int) = 0)), fun _ => ⟨fun c => absurd (Eq.trans (Eq.symm e) c) (by decide : ¬ ((10 : Int) = 1)), fun _ => ⟨fun c => absurd (Eq.trans (Eq.symm e) c) (by decide : ¬ ((10 : Int) = 2)), fun _ => ⟨fun c => absurd (Eq.trans (Eq.symm e) c) (by decide : ¬ ((10 : Int) = 3)), fun _ => ⟨fun c => absurd (Eq.trans (Eq.symm e) c) (by decide : ¬ ((10 : Int) = 4)), fun _ => ⟨fun c => absurd (Eq.trans (Eq.symm e) c) (by decide : ¬ ((10 : Int) = 5)), fun _ => ⟨fun c => absurd (Eq.trans (Eq.symm e) c) (by decide : ¬ ((10 : Int) = 6)), fun _ => ⟨fun c => absurd (Eq.trans (Eq.symm e) c) (by decide : ¬ ((10 : Int) = 7)), fun _ => ⟨fun c => absurd (Eq.trans (Eq.symm e) c) (by decide : ¬ ((10 : Int) = 8)), fun _ => ⟨fun c => absurd (Eq.trans (Eq.symm e) c) (by decide : ¬ ((10 : Int) = 9)), fun _ => ⟨fun _ => ⟨⟨(h.2.2 c1).2.1.1, (h.2.2 c1).2.1.2.1⟩, ⟨⟨rfl, (h.2.2 c1).2.1.2.2.1, (h.2.2 c1).2.1.2.2.2.1⟩, ⟨⟨(h.2.2 c1).2.1.2.2.2.2.1, (h.2.2 c1).2.1.2.2.2.2.2.1⟩, ⟨⟨rfl, (h.2.2 c1).2.1.2.2.2.2.2.2.1, (h.2.2 c1).2.1.2.2.2.2.2.2.2.1⟩, ⟨⟨(h.2.2 c1).2.1.2.2.2.2.2.2.2.2.1, (h.2.2 c1).2.1.2.2.2.2.2.2.2.2.2.1⟩, ⟨⟨rfl, (h.2.2 c1).2.1.2.2.2.2.2.2.2.2.2.2.1, (h.2.2 c1).2.1.2.2.2.2.2.2.2.2.2.2.2.1⟩, ⟨⟨(h.2.2 c1).2.1.2.2.2.2.2.2.2.2.2.2.2.2.1, (h.2.2 c1).2.1.2.2.2.2.2.2.2.2.2.2.2.2.2.1⟩, ⟨⟨rfl, (h.2.2 c1).2.1.2.2.2.2.2.2.2.2.2.2.2.2.2.2.1, (h.2.2 c1).2.1.2.2.2.2.2.2.2.2.2.2.2.2.2.2.2⟩, ⟨rfl, (am_cI (h.2.2 c1).2.2 fun x2 s2 h2 => ⟨⟨(h.2.2 c1).2.1.1, (h.2.2 c1).2.1.2.1⟩, ⟨⟨rfl, (h.2.2 c1).2.1.2.2.1, (h.2.2 c1).2.1.2.2.2.1⟩, ⟨⟨(h.2.2 c1).2.1.2.2.2.2.1, (h.2.2 c1).2.1.2.2.2.2.2.1⟩, ⟨⟨rfl, (h.2.2 c1).2.1.2.2.2.2.2.2.1, (h.2.2 c1).2.1.2.2.2.2.2.2.2.1⟩, ⟨⟨(h.2.2 c1).2.1.2.2.2.2.2.2.2.2.1, (h.2.2 c1).2.1.2.2.2.2.2.2.2.2.2.1⟩, ⟨⟨rfl, (h.2.2 c1).2.1.2.2.2.2.2.2.2.2.2.2.1, (h.2.2 c1).2.1.2.2.2.2.2.2.2.2.2.2.2.1⟩, ⟨⟨(h.2.2 c1).2.1.2.2.2.2.2.2.2.2.2.2.2.2.1, (h.2.2 c1).2.1.2.2.2.2.2.2.2.2.2.2.2.2.2.1⟩, ⟨⟨rfl, (h.2.2 c1).2.1.2.2.2.2.2.2.2.2.2.2.2.2.2.2.1, (h.2.2 c1).2.1.2.2.2.2.2.2.2.2.2.2.2.2.2.2.2⟩, ⟨rfl, (am_cI h2 fun x3 s3 h3 => ⟨fun c4 => ⟨⟨(h3.1 c4).1.1, (h3.1 c4).1.2⟩, (h3.1 c4).2⟩, fun c4 => ⟨(Or.inl rfl), (h3.2 c4)⟩⟩)⟩⟩⟩⟩⟩⟩⟩⟩⟩)⟩⟩⟩⟩⟩⟩⟩⟩⟩, fun c => absurd e c⟩⟩⟩⟩⟩⟩⟩⟩⟩⟩⟩⟩⟩⟩⟩)

theorem l_law10 (d : Nat) {L : Nat} {xs : Nat → Int} {σ : am_S} {c : Nat} {K : Int → am_S → Prop} {i : Int} (hI : INV xs σ c) (hc : c + 1 ≤ 600) (hL : L ≤ 3584) (h0 : 0 ≤ i) (h1 : (L : Int) - 7 < i → K 1 σ) (h2 : ¬ ((L : Int) - 7 < i) → ∀ t, INV xs t (c + 1) → am_Runs PP MLL (d + 30) m_L_law 10 [some (qr (0, 24, L)), some (qr (2, 11, 10)), some (qr (31, 12, 89)), some (qi (i + 7))] [] t (kI K)) (e : a_and (xs (Int.toNat i)) 63 = 10) : am_Runs PP MLL (d + 30) m_L_law 10 [some (qr (0, 24, L)), some (qr (2, 11, 10)), some (qr (31, 12, 89)), some (qi i)] [] σ (kI K) := by
  have hx := INV_xs hI
  have w : PR d xs m_C_put m_M_put [qi (xs (Int.toNat (i + 1))), qi (xs (Int.toNat (i + 2))), qi (xs (Int.toNat (i + 3))), qi (xs (Int.toNat (i + 4)))] σ c := p_put d hI hc
  unfold PR at w
  refine v_L_law10_10 (d + 22) L i σ K (by rw [hx]; exact e) ⟨by omega, fun c1 => h1 c1, fun c1 => ⟨by omega, by omega, ?_⟩⟩
  rw [hx]
  exact am_cI w (fun x s hs => by
    rw [hs.1]
    exact am_cI hs.2 (fun y t ht => ⟨fun _ => ⟨by omega, h2 c1 t ht.2⟩, fun e' => absurd ht.1 e'⟩))
set_option maxRecDepth 20000 in
theorem v_L_law11_10 (d : Nat) (L : Nat) (v3 : Int) (σ : am_S) (K : Int → am_S → Prop) (e : (a_and (sI σ 0 (Int.toNat v3)) 63) = 11) (h :
  (-2147483648 ≤ ((L : Nat) : Int) - 7 ∧ ((L : Nat) : Int) - 7 < 2147483648) ∧
  (((((L : Nat) : Int) - 7) < v3 →
    K 1 σ) ∧
  (¬ ((((L : Nat) : Int) - 7) < v3) →
    (0 ≤ v3 ∧ v3 < ((L : Nat) : Int)) ∧
    (-2147483648 ≤ v3 + 1 ∧ v3 + 1 < 2147483648 ∧ 0 ≤ (v3 + 1) ∧ (v3 + 1) < ((L : Nat) : Int) ∧ -2147483648 ≤ v3 + 2 ∧ v3 + 2 < 2147483648 ∧ 0 ≤ (v3 + 2) ∧ (v3 + 2) < ((L : Nat) : Int) ∧ -2147483648 ≤ v3 + 3 ∧ v3 + 3 < 2147483648 ∧ 0 ≤ (v3 + 3) ∧ (v3 + 3) < ((L : Nat) : Int)) ∧
    am_Calls PP MLL (d + 8) m_C_at [qr (2, 11, 10), qi (sI σ 0 (Int.toNat (v3 + 1))), qi (sI σ 0 (Int.toNat (v3 + 2))), qi (sI σ 0 (Int.toNat (v3 + 3)))] σ (kI fun x2 s2 =>
      am_Calls PP MLL (d + 8) m_M_at [qr (31, 12, 89), qi (sI s2 0 (Int.toNat (v3 + 1))), qi (sI s2 0 (Int.toNat (v3 + 2))), qi (sI s2 0 (Int.toNat (v3 + 3)))] s2 (kI fun x3 s3 =>
        ((x2 = x3 →
          (-2147483648 ≤ v3 + 7 ∧ v3 + 7 < 2147483648) ∧
          am_Runs PP MLL (d + 8) m_L_law 10 [some (qr (0, 24, L)), some (qr (2, 11, 10)), some (qr (31, 12, 89)), some (qi (v3 + 7))] [] s3 (kI K)) ∧
        (¬ (x2 = x3) →
          K 0 s3))))))) : am_Runs PP MLL (d + 8) m_L_law 10 [some (qr (0, 24, L)), some (qr (2, 11, 10)), some (qr (31, 12, 89)), some (qi v3)] [] σ (kI K) := am_wEF_ok (orc []) 200 (⟨⟨(by decide : 20 ≤ 24), (by decide : 24 < 25)⟩, ⟨⟨h.1.1, h.1.2⟩, ⟨fun c1 => ⟨(Or.inr rfl), (h.2.1 c1)⟩, fun c1 => ⟨⟨rfl, (h.2.2 c1).1.1, (h.2.2 c1).1.2⟩, ⟨fun c => absurd (Eq.trans (Eq.symm e) c) (by decide : ¬ ((11 : Int) = 0)), fun _ => ⟨fun c => absurd (Eq.trans (Eq.symm e) c) (by decide : ¬ ((11 : Int) = 1)), fun _ => ⟨fun c => absurd (Eq.trans (Eq.symm e) c) (by decide : ¬ ((11 : Int) = 2)), fun _ => ⟨fun c => absurd (Eq.trans (Eq.symm e) c) (by decide : ¬ ((11 : Int) = 3)), fun _ => ⟨fun c => absurd (Eq.trans (Eq.symm e) c) (by decide : ¬ ((11 : Int) = 4)), fun _ => ⟨fun c => absurd (Eq.trans (Eq.symm e) c) (by decide : ¬ ((11 : Int) = 5)), fun _ => ⟨fun c => absurd (Eq.trans (Eq.symm e) c) (by decide : ¬ ((11 : Int) = 6)), fun _ => ⟨fun c => absurd (Eq.trans (Eq.symm e) c) (by decide : ¬ ((11 : Int) = 7)), fun _ => ⟨fun c => absurd (Eq.trans (Eq.symm e) c) (by decide : ¬ ((11 : Int) = 8)), fun _ => ⟨fun c => absurd (Eq.trans (Eq.symm e) c) (by decide : ¬ ((11 : Int) = 9)), fun _ => ⟨fun c => absurd (Eq.trans (Eq.symm e) c) (by decide : ¬ ((11 : Int) = 10)), fun _ => ⟨fun _ => ⟨⟨(h.2.2 c1).2.1.1, (h.2.2 c1).2.1.2.1⟩, ⟨⟨rfl, (h.2.2 c1).2.1.2.2.1, (h.2.2 c1).2.1.2.2.2.1⟩, ⟨⟨(h.2.2 c1).2.1.2.2.2.2.1, (h.2.2 c1).2.1.2.2.2.2.2.1⟩, ⟨⟨rfl, (h.2.2 c1).2.1.2.2.2.2.2.2.1, (h.2.2 c1).2.1.2.2.2.2.2.2.2.1⟩, ⟨⟨(h.2.2 c1).2.1.2.2.2.2.2.2.2.2.1, (h.2.2 c1).2.1.2.2.2.2.2.2.2.2.2.1⟩, ⟨⟨rfl, (h.2.2 c1).2.1.2.2.2.2.2.2.2.2.2.2.1, (h.2.2 c1).2.1.2.2.2.2.2.2.2.2.2.2.2⟩, ⟨rfl, (am_cI (h.2.2 c1).2.2 fun x2 s2 h2 => ⟨⟨(h.2.2 c1).2.1.1, (h.2.2 c1).2.1.2.1⟩, ⟨⟨rfl, (h.2.2 c1).2.1.2.2.1, (h.2.2 c1).2.1.2.2.2.1⟩, ⟨⟨(h.2.2 c1).2.1.2.2.2.2.1, (h.2.2 c1).2.1.2.2.2.2.2.1⟩, ⟨⟨rfl, (h.2.2 c1).2.1.2.2.2.2.2.2.1, (h.2.2 c1).2.1.2.2.2.2.2.2.2.1⟩, ⟨⟨(h.2.2 c1).2.1.2.2.2.2.2.2.2.2.1, (h.2.2 c1).2.1.2.2.2.2.2.2.2.2.2.1⟩, ⟨⟨rfl, (h.2.2 c1).2.1.2.2.2.2.2.2.2.2.2.2.1, (h.2.2 c1).2.1.2.2.2.2.2.2.2.2.2.2.2⟩, ⟨rfl, (am_cI h2 fun x3 s3 h3 => ⟨fun c4 => ⟨⟨(h3.1 c4).1.1, (h3.1 c4).1.2⟩, (h3.1 c4).2⟩, fun c4 => ⟨(Or.inl rfl), (h3.2 c4)⟩⟩)⟩⟩⟩⟩⟩⟩⟩)⟩⟩⟩⟩⟩⟩⟩, fun c => absurd e c⟩⟩⟩⟩⟩⟩⟩⟩⟩⟩⟩⟩⟩⟩⟩⟩)

theorem l_law11 (d : Nat) {L : Nat} {xs : Nat → Int} {σ : am_S} {c : Nat} {K : Int → am_S → Prop} {i : Int} (hI : INV xs σ c) (hc : c + 1 ≤ 600) (hL : L ≤ 3584) (h0 : 0 ≤ i) (h1 : (L : Int) - 7 < i → K 1 σ) (h2 : ¬ ((L : Int) - 7 < i) → ∀ t, INV xs t (c + 1) → am_Runs PP MLL (d + 30) m_L_law 10 [some (qr (0, 24, L)), some (qr (2, 11, 10)), some (qr (31, 12, 89)), some (qi (i + 7))] [] t (kI K)) (e : a_and (xs (Int.toNat i)) 63 = 11) : am_Runs PP MLL (d + 30) m_L_law 10 [some (qr (0, 24, L)), some (qr (2, 11, 10)), some (qr (31, 12, 89)), some (qi i)] [] σ (kI K) := by
  have hx := INV_xs hI
  have w : PR d xs m_C_at m_M_at [qi (xs (Int.toNat (i + 1))), qi (xs (Int.toNat (i + 2))), qi (xs (Int.toNat (i + 3)))] σ c := p_at d hI hc
  unfold PR at w
  refine v_L_law11_10 (d + 22) L i σ K (by rw [hx]; exact e) ⟨by omega, fun c1 => h1 c1, fun c1 => ⟨by omega, by omega, ?_⟩⟩
  rw [hx]
  exact am_cI w (fun x s hs => by
    rw [hs.1]
    exact am_cI hs.2 (fun y t ht => ⟨fun _ => ⟨by omega, h2 c1 t ht.2⟩, fun e' => absurd ht.1 e'⟩))
set_option maxRecDepth 20000 in
theorem v_L_law12_10 (d : Nat) (L : Nat) (v3 : Int) (σ : am_S) (K : Int → am_S → Prop) (e : (a_and (sI σ 0 (Int.toNat v3)) 63) = 12) (h :
  (-2147483648 ≤ ((L : Nat) : Int) - 7 ∧ ((L : Nat) : Int) - 7 < 2147483648) ∧
  (((((L : Nat) : Int) - 7) < v3 →
    K 1 σ) ∧
  (¬ ((((L : Nat) : Int) - 7) < v3) →
    (0 ≤ v3 ∧ v3 < ((L : Nat) : Int)) ∧
    (-2147483648 ≤ v3 + 1 ∧ v3 + 1 < 2147483648 ∧ 0 ≤ (v3 + 1) ∧ (v3 + 1) < ((L : Nat) : Int) ∧ -2147483648 ≤ v3 + 2 ∧ v3 + 2 < 2147483648 ∧ 0 ≤ (v3 + 2) ∧ (v3 + 2) < ((L : Nat) : Int) ∧ -2147483648 ≤ v3 + 3 ∧ v3 + 3 < 2147483648 ∧ 0 ≤ (v3 + 3) ∧ (v3 + 3) < ((L : Nat) : Int) ∧ -2147483648 ≤ v3 + 4 ∧ v3 + 4 < 2147483648 ∧ 0 ≤ (v3 + 4) ∧ (v3 + 4) < ((L : Nat) : Int) ∧ -2147483648 ≤ v3 + 5 ∧ v3 + 5 < 2147483648 ∧ 0 ≤ (v3 + 5) ∧ (v3 + 5) < ((L : Nat) : Int) ∧ -2147483648 ≤ v3 + 6 ∧ v3 + 6 < 2147483648 ∧ 0 ≤ (v3 + 6) ∧ (v3 + 6) < ((L : Nat) : Int)) ∧
    am_Calls PP MLL (d + 8) m_C_copy [qr (2, 11, 10), qi (sI σ 0 (Int.toNat (v3 + 1))), qi (sI σ 0 (Int.toNat (v3 + 2))), qi (sI σ 0 (Int.toNat (v3 + 3))), qi (sI σ 0 (Int.toNat (v3 + 4))), qi (sI σ 0 (Int.toNat (v3 + 5))), qi (sI σ 0 (Int.toNat (v3 + 6)))] σ (kI fun x2 s2 =>
      am_Calls PP MLL (d + 8) m_M_copy [qr (31, 12, 89), qi (sI s2 0 (Int.toNat (v3 + 1))), qi (sI s2 0 (Int.toNat (v3 + 2))), qi (sI s2 0 (Int.toNat (v3 + 3))), qi (sI s2 0 (Int.toNat (v3 + 4))), qi (sI s2 0 (Int.toNat (v3 + 5))), qi (sI s2 0 (Int.toNat (v3 + 6)))] s2 (kI fun x3 s3 =>
        ((x2 = x3 →
          (-2147483648 ≤ v3 + 7 ∧ v3 + 7 < 2147483648) ∧
          am_Runs PP MLL (d + 8) m_L_law 10 [some (qr (0, 24, L)), some (qr (2, 11, 10)), some (qr (31, 12, 89)), some (qi (v3 + 7))] [] s3 (kI K)) ∧
        (¬ (x2 = x3) →
          K 0 s3))))))) : am_Runs PP MLL (d + 8) m_L_law 10 [some (qr (0, 24, L)), some (qr (2, 11, 10)), some (qr (31, 12, 89)), some (qi v3)] [] σ (kI K) := am_wEF_ok (orc []) 200 (⟨⟨(by decide : 20 ≤ 24), (by decide : 24 < 25)⟩, ⟨⟨h.1.1, h.1.2⟩, ⟨fun c1 => ⟨(Or.inr rfl), (h.2.1 c1)⟩, fun c1 => ⟨⟨rfl, (h.2.2 c1).1.1, (h.2.2 c1).1.2⟩, ⟨fun c => absurd (Eq.trans (Eq.symm e) c) (by decide : ¬ ((12 : Int) = 0)), fun _ => ⟨fun c => absurd (Eq.trans (Eq.symm e) c) (by decide : ¬ ((12 : Int) = 1)), fun _ => ⟨fun c => absurd (Eq.trans (Eq.symm e) c) (by decide : ¬ ((12 : Int) = 2)), fun _ => ⟨fun c => absurd (Eq.trans (Eq.symm e) c) (by decide : ¬ ((12 : Int) = 3)), fun _ => ⟨fun c => absurd (Eq.trans (Eq.symm e) c) (by decide : ¬ ((12 : Int) = 4)), fun _ => ⟨fun c => absurd (Eq.trans (Eq.symm e) c) (by decide : ¬ ((12 : Int) = 5)), fun _ => ⟨fun c => absurd (Eq.trans (Eq.symm e) c) (by decide : ¬ ((12 : Int) = 6)), fun _ => ⟨fun c => absurd (Eq.trans (Eq.symm e) c) (by decide : ¬ ((12 : Int) = 7)), fun _ => ⟨fun c => absurd (Eq.trans (Eq.symm e) c) (by decide : ¬ ((12 : Int) = 8)), fun _ => ⟨fun c => absurd (Eq.trans (Eq.symm e) c) (by decide : ¬ ((12 : Int) = 9)), fun _ => ⟨fun c => absurd (Eq.trans (Eq.symm e) c) (by decide : ¬ ((12 : Int) = 10)), fun _ => ⟨fun c => absurd (Eq.trans (Eq.symm e) c) (by decide : ¬ ((12 : Int) = 11)), fun _ => ⟨fun _ => ⟨⟨(h.2.2 c1).2.1.1, (h.2.2 c1).2.1.2.1⟩, ⟨⟨rfl, (h.2.2 c1).2.1.2.2.1, (h.2.2 c1).2.1.2.2.2.1⟩, ⟨⟨(h.2.2 c1).2.1.2.2.2.2.1, (h.2.2 c1).2.1.2.2.2.2.2.1⟩, ⟨⟨rfl, (h.2.2 c1).2.1.2.2.2.2.2.2.1, (h.2.2 c1).2.1.2.2.2.2.2.2.2.1⟩, ⟨⟨(h.2.2 c1).2.1.2.2.2.2.2.2.2.2.1, (h.2.2 c1).2.1.2.2.2.2.2.2.2.2.2.1⟩, ⟨⟨rfl, (h.2.2 c1).2.1.2.2.2.2.2.2.2.2.2.2.1, (h.2.2 c1).2.1.2.2.2.2.2.2.2.2.2.2.2.1⟩, ⟨⟨(h.2.2 c1).2.1.2.2.2.2.2.2.2.2.2.2.2.2.1, (h.2.2 c1).2.1.2.2.2.2.2.2.2.2.2.2.2.2.2.1⟩, ⟨⟨rfl, (h.2.2 c1).2.1.2.2.2.2.2.2.2.2.2.2.2.2.2.2.1, (h.2.2 c1).2.1.2.2.2.2.2.2.2.2.2.2.2.2.2.2.2.1⟩, ⟨⟨(h.2.2 c1).2.1.2.2.2.2.2.2.2.2.2.2.2.2.2.2.2.2.1, (h.2.2 c1).2.1.2.2.2.2.2.2.2.2.2.2.2.2.2.2.2.2.2.1⟩, ⟨⟨rfl, (h.2.2 c1).2.1.2.2.2.2.2.2.2.2.2.2.2.2.2.2.2.2.2.2.1, (h.2.2 c1).2.1.2.2.2.2.2.2.2.2.2.2.2.2.2.2.2.2.2.2.2.1⟩, ⟨⟨(h.2.2 c1).2.1.2.2.2.2.2.2.2.2.2.2.2.2.2.2.2.2.2.2.2.2.1, (h.2.2 c1).2.1.2.2.2.2.2.2.2.2.2.2.2.2.2.2.2.2.2.2.2.2.2.1⟩, ⟨⟨rfl, (h.2.2 c1).2.1.2.2.2.2.2.2.2.2.2.2.2.2.2.2.2.2.2.2.2.2.2.2.1, (h.2.2 c1).2.1.2.2.2.2.2.2.2.2.2.2.2.2.2.2.2.2.2.2.2.2.2.2.2⟩, ⟨rfl, (am_cI (h.2.2 c1).2.2 fun x2 s2 h2 => ⟨⟨(h.2.2 c1).2.1.1, (h.2.2 c1).2.1.2.1⟩, ⟨⟨rfl, (h.2.2 c1).2.1.2.2.1, (h.2.2 c1).2.1.2.2.2.1⟩, ⟨⟨(h.2.2 c1).2.1.2.2.2.2.1, (h.2.2 c1).2.1.2.2.2.2.2.1⟩, ⟨⟨rfl, (h.2.2 c1).2.1.2.2.2.2.2.2.1, (h.2.2 c1).2.1.2.2.2.2.2.2.2.1⟩, ⟨⟨(h.2.2 c1).2.1.2.2.2.2.2.2.2.2.1, (h.2.2 c1).2.1.2.2.2.2.2.2.2.2.2.1⟩, ⟨⟨rfl, (h.2.2 c1).2.1.2.2.2.2.2.2.2.2.2.2.1, (h.2.2 c1).2.1.2.2.2.2.2.2.2.2.2.2.2.1⟩, ⟨⟨(h.2.2 c1).2.1.2.2.2.2.2.2.2.2.2.2.2.2.1, (h.2.2 c1).2.1.2.2.2.2.2.2.2.2.2.2.2.2.2.1⟩, ⟨⟨rfl, (h.2.2 c1).2.1.2.2.2.2.2.2.2.2.2.2.2.2.2.2.1, (h.2.2 c1).2.1.2.2.2.2.2.2.2.2.2.2.2.2.2.2.2.1⟩, ⟨⟨(h.2.2 c1).2.1.2.2.2.2.2.2.2.2.2.2.2.2.2.2.2.2.1, (h.2.2 c1).2.1.2.2.2.2.2.2.2.2.2.2.2.2.2.2.2.2.2.1⟩, ⟨⟨rfl, (h.2.2 c1).2.1.2.2.2.2.2.2.2.2.2.2.2.2.2.2.2.2.2.2.1, (h.2.2 c1).2.1.2.2.2.2.2.2.2.2.2.2.2.2.2.2.2.2.2.2.2.1⟩, ⟨⟨(h.2.2 c1).2.1.2.2.2.2.2.2.2.2.2.2.2.2.2.2.2.2.2.2.2.2.1, (h.2.2 c1).2.1.2.2.2.2.2.2.2.2.2.2.2.2.2.2.2.2.2.2.2.2.2.1⟩, ⟨⟨rfl, (h.2.2 c1).2.1.2.2.2.2.2.2.2.2.2.2.2.2.2.2.2.2.2.2.2.2.2.2.1, (h.2.2 c1).2.1.2.2.2.2.2.2.2.2.2.2.2.2.2.2.2.2.2.2.2.2.2.2.2⟩, ⟨rfl, (am_cI h2 fun x3 s3 h3 => ⟨fun c4 => ⟨⟨(h3.1 c4).1.1, (h3.1 c4).1.2⟩, (h3.1 c4).2⟩, fun c4 => ⟨(Or.inl rfl), (h3.2 c4)⟩⟩)⟩⟩⟩⟩⟩⟩⟩⟩⟩⟩⟩⟩⟩)⟩⟩⟩⟩⟩⟩⟩⟩⟩⟩⟩⟩⟩, fun c => absurd e c⟩⟩⟩⟩⟩⟩⟩⟩⟩⟩⟩⟩⟩⟩⟩⟩⟩)

theorem l_law12 (d : Nat) {L : Nat} {xs : Nat → Int} {σ : am_S} {c : Nat} {K : Int → am_S → Prop} {i : Int} (hI : INV xs σ c) (hc : c + 1 ≤ 600) (hL : L ≤ 3584) (h0 : 0 ≤ i) (h1 : (L : Int) - 7 < i → K 1 σ) (h2 : ¬ ((L : Int) - 7 < i) → ∀ t, INV xs t (c + 1) → am_Runs PP MLL (d + 30) m_L_law 10 [some (qr (0, 24, L)), some (qr (2, 11, 10)), some (qr (31, 12, 89)), some (qi (i + 7))] [] t (kI K)) (e : a_and (xs (Int.toNat i)) 63 = 12) : am_Runs PP MLL (d + 30) m_L_law 10 [some (qr (0, 24, L)), some (qr (2, 11, 10)), some (qr (31, 12, 89)), some (qi i)] [] σ (kI K) := by
  have hx := INV_xs hI
  have w : PR d xs m_C_copy m_M_copy [qi (xs (Int.toNat (i + 1))), qi (xs (Int.toNat (i + 2))), qi (xs (Int.toNat (i + 3))), qi (xs (Int.toNat (i + 4))), qi (xs (Int.toNat (i + 5))), qi (xs (Int.toNat (i + 6)))] σ c := p_copy d hI hc
  unfold PR at w
  refine v_L_law12_10 (d + 22) L i σ K (by rw [hx]; exact e) ⟨by omega, fun c1 => h1 c1, fun c1 => ⟨by omega, by omega, ?_⟩⟩
  rw [hx]
  exact am_cI w (fun x s hs => by
    rw [hs.1]
    exact am_cI hs.2 (fun y t ht => ⟨fun _ => ⟨by omega, h2 c1 t ht.2⟩, fun e' => absurd ht.1 e'⟩))
