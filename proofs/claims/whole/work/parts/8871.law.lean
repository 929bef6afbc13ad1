/-! the law: a call in both, on -/
set_option maxRecDepth 20000 in
theorem v_L_law13_10 (d : Nat) (L : Nat) (v3 : Int) (σ : am_S) (K : Int → am_S → Prop) (e : (a_and (sI σ 0 (Int.toNat v3)) 63) = 13) (h :
  (-2147483648 ≤ ((L : Nat) : Int) - 7 ∧ ((L : Nat) : Int) - 7 < 2147483648) ∧
  (((((L : Nat) : Int) - 7) < v3 →
    K 1 σ) ∧
  (¬ ((((L : Nat) : Int) - 7) < v3) →
    (0 ≤ v3 ∧ v3 < ((L : Nat) : Int)) ∧
    (-2147483648 ≤ v3 + 1 ∧ v3 + 1 < 2147483648 ∧ 0 ≤ (v3 + 1) ∧ (v3 + 1) < ((L : Nat) : Int)) ∧
    am_Calls PP MLL (d + 8) m_C_complain [qr (2, 11, 10), qi (sI σ 0 (Int.toNat (v3 + 1)))] σ (kI fun x2 s2 =>
      am_Calls PP MLL (d + 8) m_M_complain [qr (31, 12, 89), qi (sI s2 0 (Int.toNat (v3 + 1)))] s2 (kI fun x3 s3 =>
        ((x2 = x3 →
          (-2147483648 ≤ v3 + 7 ∧ v3 + 7 < 2147483648) ∧
          am_Runs PP MLL (d + 8) m_L_law 10 [some (qr (0, 24, L)), some (qr (2, 11, 10)), some (qr (31, 12, 89)), some (qi (v3 + 7))] [] s3 (kI K)) ∧
        (¬ (x2 = x3) →
          K 0 s3))))))) : am_Runs PP MLL (d + 8) m_L_law 10 [some (qr (0, 24, L)), some (qr (2, 11, 10)), some (qr (31, 12, 89)), some (qi v3)] [] σ (kI K) := am_wEF_ok (orc []) 200 (⟨⟨(by decide : 20 ≤ 24), (by decide : 24 < 25)⟩, ⟨⟨h.1.1, h.1.2⟩, ⟨fun c1 => ⟨(Or.inr rfl), (h.2.1 c1)⟩, fun c1 => ⟨⟨rfl, (h.2.2 c1).1.1, (h.2.2 c1).1.2⟩, ⟨fun c => absurd (Eq.trans (Eq.symm e) c) (by decide : ¬ ((13 : Int) = 0)), fun _ => ⟨fun c => absurd (Eq.trans (Eq.symm e) c) (by decide : ¬ ((13 : Int) = 1)), fun _ => ⟨fun c => absurd (Eq.trans (Eq.symm e) c) (by decide : ¬ ((13 : Int) = 2)), fun _ => ⟨fun c => absurd (Eq.trans (Eq.symm e) c) (by decide : ¬ ((13 : Int) = 3)), fun _ => ⟨fun c => absurd (Eq.trans (Eq.symm e) c) (by decide : ¬ ((13 : Int) = 4)), fun _ => ⟨fun c => absurd (Eq.trans (Eq.symm e) c) (by decide : ¬ ((13 : Int) = 5)), fun _ => ⟨fun c => absurd (Eq.trans (Eq.symm e) c) (by decide : ¬ ((13 : Int) = 6)), fun _ => ⟨fun c => absurd (Eq.trans (Eq.symm e) c) (by decide : ¬ ((13 : Int) = 7)), fun _ => ⟨fun c => absurd (Eq.trans (Eq.symm e) c) (by decide : ¬ ((13 : Int) = 8)), fun _ => ⟨fun c => absurd (Eq.trans (Eq.symm e) c) (by decide : ¬ ((13 : Int) = 9)), fun _ => ⟨fun c => absurd (Eq.trans (Eq.symm e) c) (by decide : ¬ ((13 : Int) = 10)), fun _ => ⟨fun c => absurd (Eq.trans (Eq.symm e) c) (by decide : ¬ ((13 : Int) = 11)), fun _ => ⟨fun c => absurd (Eq.trans (Eq.symm e) c) (by decide : ¬ ((13 : Int) = 12)), fun _ => ⟨fun _ => ⟨⟨(h.2.2 c1).2.1.1, (h.2.2 c1).2.1.2.1⟩, ⟨⟨rfl, (h.2.2 c1).2.1.2.2.1, (h.2.2 c1).2.1.2.2.2⟩, ⟨rfl, (am_cI (h.2.2 c1).2.2 fun x2 s2 h2 => ⟨⟨(h.2.2 c1).2.1.1, (h.2.2 c1).2.1.2.1⟩, ⟨⟨rfl, (h.2.2 c1).2.1.2.2.1, (h.2.2 c1).2.1.2.2.2⟩, ⟨rfl, (am_cI h2 fun x3 s3 h3 => ⟨fun c4 => ⟨⟨(h3.1 c4).1.1, (h3.1 c4).1.2⟩, (h3.1 c4).2⟩, fun c4 => ⟨(Or.inl rfl), (h3.2 c4)⟩⟩)⟩⟩⟩)⟩⟩⟩, fun c => absurd e c⟩⟩⟩⟩⟩⟩⟩⟩⟩⟩⟩⟩⟩⟩⟩⟩⟩⟩)

theorem l_law13 (d : Nat) {L : Nat} {xs : Nat → Int} {σ : am_S} {c : Nat} {K : Int → am_S → Prop} {i : Int} (hI : INV xs σ c) (hc : c + 1 ≤ 600) (hL : L ≤ 3584) (h0 : 0 ≤ i) (h1 : (L : Int) - 7 < i → K 1 σ) (h2 : ¬ ((L : Int) - 7 < i) → ∀ t, INV xs t (c + 1) → am_Runs PP MLL (d + 30) m_L_law 10 [some (qr (0, 24, L)), some (qr (2, 11, 10)), some (qr (31, 12, 89)), some (qi (i + 7))] [] t (kI K)) (e : a_and (xs (Int.toNat i)) 63 = 13) : am_Runs PP MLL (d + 30) m_L_law 10 [some (qr (0, 24, L)), some (qr (2, 11, 10)), some (qr (31, 12, 89)), some (qi i)] [] σ (kI K) := by
  have hx := INV_xs hI
  have w : PR d xs m_C_complain m_M_complain [qi (xs (Int.toNat (i + 1)))] σ c := p_complain d hI hc
  unfold PR at w
  refine v_L_law13_10 (d + 22) L i σ K (by rw [hx]; exact e) ⟨by omega, fun c1 => h1 c1, fun c1 => ⟨by omega, by omega, ?_⟩⟩
  rw [hx]
  exact am_cI w (fun x s hs => by
    rw [hs.1]
    exact am_cI hs.2 (fun y t ht => ⟨fun _ => ⟨by omega, h2 c1 t ht.2⟩, fun e' => absurd ht.1 e'⟩))
set_option maxRecDepth 20000 in
theorem v_L_law14_10 (d : Nat) (L : Nat) (v3 : Int) (σ : am_S) (K : Int → am_S → Prop) (e : (a_and (sI σ 0 (Int.toNat v3)) 63) = 14) (h :
  (-2147483648 ≤ ((L : Nat) : Int) - 7 ∧ ((L : Nat) : Int) - 7 < 2147483648) ∧
  (((((L : Nat) : Int) - 7) < v3 →
    K 1 σ) ∧
  (¬ ((((L : Nat) : Int) - 7) < v3) →
    (0 ≤ v3 ∧ v3 < ((L : Nat) : Int)) ∧
    (-2147483648 ≤ v3 + 1 ∧ v3 + 1 < 2147483648 ∧ 0 ≤ (v3 + 1) ∧ (v3 + 1) < ((L : Nat) : Int) ∧ -2147483648 ≤ v3 + 2 ∧ v3 + 2 < 2147483648 ∧ 0 ≤ (v3 + 2) ∧ (v3 + 2) < ((L : Nat) : Int)) ∧
    am_Calls PP MLL (d + 8) m_C_is [qr (2, 11, 10), qi (sI σ 0 (Int.toNat (v3 + 1))), qi (sI σ 0 (Int.toNat (v3 + 2)))] σ (kI fun x2 s2 =>
      am_Calls PP MLL (d + 8) m_M_is [qr (31, 12, 89), qi (sI s2 0 (Int.toNat (v3 + 1))), qi (sI s2 0 (Int.toNat (v3 + 2)))] s2 (kI fun x3 s3 =>
        ((x2 = x3 →
          (-2147483648 ≤ v3 + 7 ∧ v3 + 7 < 2147483648) ∧
          am_Runs PP MLL (d + 8) m_L_law 10 [some (qr (0, 24, L)), some (qr (2, 11, 10)), some (qr (31, 12, 89)), some (qi (v3 + 7))] [] s3 (kI K)) ∧
        (¬ (x2 = x3) →
          K 0 s3))))))) : am_Runs PP MLL (d + 8) m_L_law 10 [some (qr (0, 24, L)), some (qr (2, 11, 10)), some (qr (31, 12, 89)), some (qi v3)] [] σ (kI K) := am_wEF_ok (orc []) 200 (⟨⟨(by decide : 20 ≤ 24), (by decide : 24 < 25)⟩, ⟨⟨h.1.1, h.1.2⟩, ⟨fun c1 => ⟨(Or.inr rfl), (h.2.1 c1)⟩, fun c1 => ⟨⟨rfl, (h.2.2 c1).1.1, (h.2.2 c1).1.2⟩, ⟨fun c => absurd (Eq.trans (Eq.symm e) c) (by decide : ¬ ((14 : Int) = 0)), fun _ => ⟨fun c => absurd (Eq.trans (Eq.symm e) c) (by decide : ¬ ((14 : Int) = 1)), fun _ => ⟨fun c => absurd (Eq.trans (Eq.symm e) c) (by decide : ¬ ((14 : Int) = 2)), fun _ => ⟨fun c => absurd (Eq.trans (Eq.symm e) c) (by decide : ¬ ((14 : Int) = 3)), fun _ => ⟨fun c => absurd (Eq.trans (Eq.symm e) c) (by decide : ¬ ((14 : Int) = 4)), fun _ => ⟨fun c => absurd (Eq.trans (Eq.symm e) c) (by decide : ¬ ((14 : Int) = 5)), fun _ => ⟨fun c => absurd (Eq.trans (Eq.symm e) c) (by decide : ¬ ((14 : Int) = 6)), fun _ => ⟨fun c => absurd (Eq.trans (Eq.symm e) c) (by decide : ¬ ((14 : Int) = 7)), fun _ => ⟨fun c => absurd (Eq.trans (Eq.symm e) c) (by decide : ¬ ((14 : Int) = 8)), fun _ => ⟨fun c => absurd (Eq.trans (Eq.symm e) c) (by decide : ¬ ((14 : Int) = 9)), fun _ => ⟨fun c => absurd (Eq.trans (Eq.symm e) c) (by decide : ¬ ((14 : Int) = 10)), fun _ => ⟨fun c => absurd (Eq.trans (Eq.symm e) c) (by decide : ¬ ((14 : Int) = 11)), fun _ => ⟨fun c => absurd (Eq.trans (Eq.symm e) c) (by decide : ¬ ((14 : Int) = 12)), fun _ => ⟨fun c => absurd (Eq.trans (Eq.symm e) c) (by decide : ¬ ((14 : Int) = 13)), fun _ => ⟨fun _ => ⟨⟨(h.2.2 c1).2.1.1, (h.2.2 c1).2.1.2.1⟩, ⟨⟨rfl, (h.2.2 c1).2.1.2.2.1, (h.2.2 c1).2.1.2.2.2.1⟩, ⟨⟨(h.2.2 c1).2.1.2.2.2.2.1, (h.2.2 c1).2.1.2.2.2.2.2.1⟩, ⟨⟨rfl, (h.2.2 c1).2.1.2.2.2.2.2.2.1, (h.2.2 c1).2.1.2.2.2.2.2.2.2⟩, ⟨rfl, (am_cI (h.2.2 c1).2.2 fun x2 s2 h2 => ⟨⟨(h.2.2 c1).2.1.1, (h.2.2 c1).2.1.2.1⟩, ⟨⟨rfl, (h.2.2 c1).2.1.2.2.1, (h.2.2 c1).2.1.2.2.2.1⟩, ⟨⟨(h.2.2 c1).2.1.2.2.2.2.1, (h.2.2 c1).2.1.2.2.2.2.2.1⟩, ⟨⟨rfl, (h.2.2 c1).2.1.2.2.2.2.2.2.1, (h.2.2 c1).2.1.2.2.2.2.2.2.2⟩, ⟨rfl, (am_cI h2 fun x3 s3 h3 => ⟨fun c4 => ⟨⟨(h3.1 c4).1.1, (h3.1 c4).1.2⟩, (h3.1 c4).2⟩, fun c4 => ⟨(Or.inl rfl), (h3.2 c4)⟩⟩)⟩⟩⟩⟩⟩)⟩⟩⟩⟩⟩, fun c => absurd e c⟩⟩⟩⟩⟩⟩⟩⟩⟩⟩⟩⟩⟩⟩⟩⟩⟩⟩⟩)

theorem l_law14 (d : Nat) {L : Nat} {xs : Nat → Int} {σ : am_S} {c : Nat} {K : Int → am_S → Prop} {i : Int} (hI : INV xs σ c) (hc : c + 1 ≤ 600) (hL : L ≤ 3584) (h0 : 0 ≤ i) (h1 : (L : Int) - 7 < i → K 1 σ) (h2 : ¬ ((L : Int) - 7 < i) → ∀ t, INV xs t (c + 1) → am_Runs PP MLL (d + 30) m_L_law 10 [some (qr (0, 24, L)), some (qr (2, 11, 10)), some (qr (31, 12, 89)), some (qi (i + 7))] [] t (kI K)) (e : a_and (xs (Int.toNat i)) 63 = 14) : am_Runs PP MLL (d + 30) m_L_law 10 [some (qr (0, 24, L)), some (qr (2, 11, 10)), some (qr (31, 12, 89)), some (qi i)] [] σ (kI K) := by
  have hx := INV_xs hI
  have w : PR d xs m_C_is m_M_is [qi (xs (Int.toNat (i + 1))), qi (xs (Int.toNat (i + 2)))] σ c := p_is d hI hc
  unfold PR at w
  refine v_L_law14_10 (d + 22) L i σ K (by rw [hx]; exact e) ⟨by omega, fun c1 => h1 c1, fun c1 => ⟨by omega, by omega, ?_⟩⟩
  rw [hx]
  exact am_cI w (fun x s hs => by
    rw [hs.1]
    exact am_cI hs.2 (fun y t ht => ⟨fun _ => ⟨by omega, h2 c1 t ht.2⟩, fun e' => absurd ht.1 e'⟩))
set_option maxRecDepth 20000 in
theorem v_L_law15_10 (d : Nat) (L : Nat) (v3 : Int) (σ : am_S) (K : Int → am_S → Prop) (e : (a_and (sI σ 0 (Int.toNat v3)) 63) = 15) (h :
  (-2147483648 ≤ ((L : Nat) : Int) - 7 ∧ ((L : Nat) : Int) - 7 < 2147483648) ∧
  (((((L : Nat) : Int) - 7) < v3 →
    K 1 σ) ∧
  (¬ ((((L : Nat) : Int) - 7) < v3) →
    (0 ≤ v3 ∧ v3 < ((L : Nat) : Int)) ∧
    (-2147483648 ≤ v3 + 1 ∧ v3 + 1 < 2147483648 ∧ 0 ≤ (v3 + 1) ∧ (v3 + 1) < ((L : Nat) : Int) ∧ -2147483648 ≤ v3 + 2 ∧ v3 + 2 < 2147483648 ∧ 0 ≤ (v3 + 2) ∧ (v3 + 2) < ((L : Nat) : Int)) ∧
    am_Calls PP MLL (d + 8) m_C_as [qr (2, 11, 10), qi (sI σ 0 (Int.toNat (v3 + 1))), qi (sI σ 0 (Int.toNat (v3 + 2)))] σ (kI fun x2 s2 =>
      am_Calls PP MLL (d + 8) m_M_as [qr (31, 12, 89), qi (sI s2 0 (Int.toNat (v3 + 1))), qi (sI s2 0 (Int.toNat (v3 + 2)))] s2 (kI fun x3 s3 =>
        ((x2 = x3 →
          (-2147483648 ≤ v3 + 7 ∧ v3 + 7 < 2147483648) ∧
          am_Runs PP MLL (d + 8) m_L_law 10 [some (qr (0, 24, L)), some (qr (2, 11, 10)), some (qr (31, 12, 89)), some (qi (v3 + 7))] [] s3 (kI K)) ∧
        (¬ (x2 = x3) →
          K 0 s3))))))) : am_Runs PP MLL (d + 8) m_L_law 10 [some (qr (0, 24, L)), some (qr (2, 11, 10)), some (qr (31, 12, 89)), some (qi v3)] [] σ (kI K) := am_wEF_ok (orc []) 200 (⟨⟨(by decide : 20 ≤ 24), (by decide : 24 < 25)⟩, ⟨⟨h.1.1, h.1.2⟩, ⟨fun c1 => ⟨(Or.inr rfl), (h.2.1 c1)⟩, fun c1 => ⟨⟨rfl, (h.2.2 c1).1.1, (h.2.2 c1).1.2⟩, ⟨fun c => absurd (Eq.trans (Eq.symm e) c) (by decide : ¬ ((15 : Int) = 0)), fun _ => ⟨fun c => absurd (Eq.trans (Eq.symm e) c) (by decide : ¬ ((15 : Int) = 1)), fun _ => ⟨fun c => absurd (Eq.trans (Eq.symm e) c) (by decide : ¬ ((15 : Int) = 2)), fun _ => ⟨fun c => absurd (Eq.trans (Eq.symm e) c) (by decide : ¬ ((15 : Int) = 3)), fun _ => ⟨fun c => absurd (Eq.trans (Eq.symm e) c) (by decide : ¬ ((15 : Int) = 4)), fun _ => ⟨fun c => absurd (Eq.trans (Eq.symm e) c) (by decide : ¬ ((15 : Int) = 5)), fun _ => ⟨fun c => absurd (Eq.trans (Eq.symm e) c) (by decide : ¬ ((15 : Int) = 6)), fun _ => ⟨fun c => absurd (Eq.trans (Eq.symm e) c) (by decide : ¬ ((15 : Int) = 7)), fun _ => ⟨fun c => absurd (Eq.trans (Eq.symm e) c) (by decide : ¬ ((15 : Int) = 8)), fun _ => ⟨fun c => absurd (Eq.trans (Eq.symm e) c) (by decide : ¬ ((15 : Int) = 9)), fun _ => ⟨fun c => absurd (Eq.trans (Eq.symm e) c) (by decide : ¬ ((15 : Int) = 10)), fun _ => ⟨fun c => absurd (Eq.trans (Eq.symm e) c) (by decide : ¬ ((15 : Int) = 11)), fun _ => ⟨fun c => absurd (Eq.trans (Eq.symm e) c) (by decide : ¬ ((15 : Int) = 12)), fun _ => ⟨fun c => absurd (Eq.trans (Eq.symm e) c) (by decide : ¬ ((15 : Int) = 13)), fun _ => ⟨fun c => absurd (Eq.trans (Eq.symm e) c) (by decide : ¬ ((15 : Int) = 14)), fun _ => ⟨fun _ => ⟨⟨(h.2.2 c1).2.1.1, (h.2.2 c1).2.1.2.1⟩, ⟨⟨rfl, (h.2.2 c1).2.1.2.2.1, (h.2.2 c1).2.1.2.2.2.1⟩, ⟨⟨(h.2.2 c1).2.1.2.2.2.2.1, (h.2.2 c1).2.1.2.2.2.2.2.1⟩, ⟨⟨rfl, (h.2.2 c1).2.1.2.2.2.2.2.2.1, (h.2.2 c1).2.1.2.2.2.2.2.2.2⟩, ⟨rfl, (am_cI (h.2.2 c1).2.2 fun x2 s2 h2 => ⟨⟨(h.2.2 c1).2.1.1, (h.2.2 c1).2.1.2.1⟩, ⟨⟨rfl, (h.2.2 c1).2.1.2.2.1, (h.2.2 c1).2.1.2.2.2.1⟩, ⟨⟨(h.2.2 c1).2.1.2.2.2.2.1, (h.2.2 c1).2.1.2.2.2.2.2.1⟩, ⟨⟨rfl, (h.2.2 c1).2.1.2.2.2.2.2.2.1, (h.2.2 c1).2.1.2.2.2.2.2.2.2⟩, ⟨rfl, (am_cI h2 fun x3 s3 h3 => ⟨fun c4 => ⟨⟨(h3.1 c4).1.1, (h3.1 c4).1.2⟩, (h3.1 c4).2⟩, fun c4 => ⟨(Or.inl rfl), (h3.2 c4)⟩⟩)⟩⟩⟩⟩⟩)⟩⟩⟩⟩⟩, fun c => absurd e c⟩⟩⟩⟩⟩⟩⟩⟩⟩⟩⟩⟩⟩⟩⟩⟩⟩⟩⟩⟩)

theorem l_law15 (d : Nat) {L : Nat} {xs : Nat → Int} {σ : am_S} {c : Nat} {K : Int → am_S → Prop} {i : Int} (hI : INV xs σ c) (hc : c + 1 ≤ 600) (hL : L ≤ 3584) (h0 : 0 ≤ i) (h1 : (L : Int) - 7 < i → K 1 σ) (h2 : ¬ ((L : Int) - 7 < i) → ∀ t, INV xs t (c + 1) → am_Runs PP MLL (d + 30) m_L_law 10 [some (qr (0, 24, L)), some (qr (2, 11, 10)), some (qr (31, 12, 89)), some (qi (i + 7))] [] t (kI K)) (e : a_and (xs (Int.toNat i)) 63 = 15) : am_Runs PP MLL (d + 30) m_L_law 10 [some (qr (0, 24, L)), some (qr (2, 11, 10)), some (qr (31, 12, 89)), some (qi i)] [] σ (kI K) := by
  have hx := INV_xs hI
  have w : PR d xs m_C_as m_M_as [qi (xs (Int.toNat (i + 1))), qi (xs (Int.toNat (i + 2)))] σ c := p_as d hI hc
  unfold PR at w
  refine v_L_law15_10 (d + 22) L i σ K (by rw [hx]; exact e) ⟨by omega, fun c1 => h1 c1, fun c1 => ⟨by omega, by omega, ?_⟩⟩
  rw [hx]
  exact am_cI w (fun x s hs => by
    rw [hs.1]
    exact am_cI hs.2 (fun y t ht => ⟨fun _ => ⟨by omega, h2 c1 t ht.2⟩, fun e' => absurd ht.1 e'⟩))
set_option maxRecDepth 20000 in
theorem v_L_law16_10 (d : Nat) (L : Nat) (v3 : Int) (σ : am_S) (K : Int → am_S → Prop) (e : (a_and (sI σ 0 (Int.toNat v3)) 63) = 16) (h :
  (-2147483648 ≤ ((L : Nat) : Int) - 7 ∧ ((L : Nat) : Int) - 7 < 2147483648) ∧
  (((((L : Nat) : Int) - 7) < v3 →
    K 1 σ) ∧
  (¬ ((((L : Nat) : Int) - 7) < v3) →
    (0 ≤ v3 ∧ v3 < ((L : Nat) : Int)) ∧
    (-2147483648 ≤ v3 + 1 ∧ v3 + 1 < 2147483648 ∧ 0 ≤ (v3 + 1) ∧ (v3 + 1) < ((L : Nat) : Int) ∧ -2147483648 ≤ v3 + 2 ∧ v3 + 2 < 2147483648 ∧ 0 ≤ (v3 + 2) ∧ (v3 + 2) < ((L : Nat) : Int) ∧ -2147483648 ≤ v3 + 3 ∧ v3 + 3 < 2147483648 ∧ 0 ≤ (v3 + 3) ∧ (v3 + 3) < ((L : Nat) : Int)) ∧
    am_Calls PP MLL (d + 8) m_C_wish [qr (2, 11, 10), qi (sI σ 0 (Int.toNat (v3 + 1))), qi (sI σ 0 (Int.toNat (v3 + 2))), qi (sI σ 0 (Int.toNat (v3 + 3)))] σ (kI fun x2 s2 =>
      am_Calls PP MLL (d + 8) m_M_wish [qr (31, 12, 89), qi (sI s2 0 (Int.toNat (v3 + 1))), qi (sI s2 0 (Int.toNat (v3 + 2))), qi (sI s2 0 (Int.toNat (v3 + 3)))] s2 (kI fun x3 s3 =>
        ((x2 = x3 →
          (-2147483648 ≤ v3 + 7 ∧ v3 + 7 < 2147483648) ∧
          am_Runs PP MLL (d + 8) m_L_law 10 [some (qr (0, 24, L)), some (qr (2, 11, 10)), some (qr (31, 12, 89)), some (qi (v3 + 7))] [] s3 (kI K)) ∧
        (¬ (x2 = x3) →
          K 0 s3))))))) : am_Runs PP MLL (d + 8) m_L_law 10 [some (qr (0, 24, L)), some (qr (2, 11, 10)), some (qr (31, 12, 89)), some (qi v3)] [] σ (kI K) := am_wEF_ok (orc []) 200 (⟨⟨(by decide : 20 ≤ 24), (by decide : 24 < 25)⟩, ⟨⟨h.1.1, h.1.2⟩, ⟨fun c1 => ⟨(Or.inr rfl), (h.2.1 c1)⟩, fun c1 => ⟨⟨rfl, (h.2.2 c1).1.1, (h.2.2 c1).1.2⟩, ⟨fun c => absurd (Eq.trans (Eq.symm e) c) (by decide : ¬ ((16 : Int) = 0)), fun _ => ⟨fun c => absurd (Eq.trans (Eq.symm e) c) (by decide : ¬ ((16 : Int) = 1)), fun _ => ⟨fun c => absurd (Eq.trans (Eq.symm e) c) (by decide : ¬ ((16 : Int) = 2)), fun _ => ⟨fun c => absurd (Eq.trans (Eq.symm e) c) (by decide : ¬ ((16 : Int) = 3)), fun _ => ⟨fun c => absurd (Eq.trans (Eq.symm e) c) (by decide : ¬ ((16 : Int) = 4)), fun _ => ⟨fun c => absurd (Eq.trans (Eq.symm e) c) (by decide : ¬ ((16 : Int) = 5)), fun _ => ⟨fun c => absurd (Eq.trans (Eq.symm e) c) (by decide : ¬ ((16 : Int) = 6)), fun _ => ⟨fun c => absurd (Eq.trans (Eq.symm e) c) (by decide : ¬ ((16 : Int) = 7)), fun _ => ⟨fun c => absurd (Eq.trans (Eq.symm e) c) (by decide : ¬ ((16 : Int) = 8)), fun _ => ⟨fun c => absurd (Eq.trans (Eq.symm e) c) (by decide : ¬ ((16 : Int) = 9)), fun _ => ⟨fun c => absurd (Eq.trans (Eq.symm e) c) (by decide : ¬ ((16 : Int) = 10)), fun _ => ⟨fun c => absurd (Eq.trans (Eq.symm e) c) (by decide : ¬ ((16 : Int) = 11)), fun _ => ⟨fun c => absurd (Eq.trans (Eq.symm e) c) (by decide : ¬ ((16 : Int) = 12)), fun _ => ⟨fun c => absurd (Eq.trans (Eq.symm e) c) (by decide : ¬ ((16 : Int) = 13)), fun _ => ⟨fun c => absurd (Eq.trans (Eq.symm e) c) (by decide : ¬ ((16 : Int) = 14)), fun _ => ⟨fun c => absurd (Eq.trans (Eq.symm e) c) (by decide : ¬ ((16 : Int) = 15)), fun _ => ⟨fun _ => ⟨⟨(h.2.2 c1).2.1.1, (h.2.2 c1).2.1.2.1⟩, ⟨⟨rfl, (h.2.2 c1).2.1.2.2.1, (h.2.2 c1).2.1.2.2.2.1⟩, ⟨⟨(h.2.2 c1).2.1.2.2.2.2.1, (h.2.2 c1).2.1.2.2.2.2.2.1⟩, ⟨⟨rfl, (h.2.2 c1).2.1.2.2.2.2.2.2.1, (h.2.2 c1).2.1.2.2.2.2.2.2.2.1⟩, ⟨⟨(h.2.2 c1).2.1.2.2.2.2.2.2.2.2.1, (h.2.2 c1).2.1.2.2.2.2.2.2.2.2.2.1⟩, ⟨⟨rfl, (h.2.2 c1).2.1.2.2.2.2.2.2.2.2.2.2.1, (h.2.2 c1).2.1.2.2.2.2.2.2.2.2.2.2.2⟩, ⟨rfl, (am_cI (h.2.2 c1).2.2 fun x2 s2 h2 => ⟨⟨(h.2.2 c1).2.1.1, (h.2.2 c1).2.1.2.1⟩, ⟨⟨rfl, (h.2.2 c1).2.1.2.2.1, (h.2.2 c1).2.1.2.2.2.1⟩, ⟨⟨(h.2.2 c1).2.1.2.2.2.2.1, (h.2.2 c1).2.1.2.2.2.2.2.1⟩, ⟨⟨rfl, (h.2.2 c1).2.1.2.2.2.2.2.2.1, (h.2.2 c1).2.1.2.2.2.2.2.2.2.1⟩, ⟨⟨(h.2.2 c1).2.1.2.2.2.2.2.2.2.2.1, (h.2.2 c1).2.1.2.2.2.2.2.2.2.2.2.1⟩, ⟨⟨rfl, (h.2.2 c1).2.1.2.2.2.2.2.2.2.2.2.2.1, (h.2.2 c1).2.1.2.2.2.2.2.2.2.2.2.2.2⟩, ⟨rfl, (am_cI h2 fun x3 s3 h3 => ⟨fun c4 => ⟨⟨(h3.1 c4).1.1, (h3.1 c4).1.2⟩, (h3.1 c4).2⟩, fun c4 => ⟨(Or.inl rfl), (h3.2 c4)⟩⟩)⟩⟩⟩⟩⟩⟩⟩)⟩⟩⟩⟩⟩⟩⟩, fun c => absurd e c⟩⟩⟩⟩⟩⟩⟩⟩⟩⟩⟩⟩⟩⟩⟩⟩⟩⟩⟩⟩⟩)

theorem l_law16 (d : Nat) {L : Nat} {xs : Nat → Int} {σ : am_S} {c : Nat} {K : Int → am_S → Prop} {i : Int} (hI : INV xs σ c) (hc : c + 1 ≤ 600) (hL : L ≤ 3584) (h0 : 0 ≤ i) (h1 : (L : Int) - 7 < i → K 1 σ) (h2 : ¬ ((L : Int) - 7 < i) → ∀ t, INV xs t (c + 1) → am_Runs PP MLL (d + 30) m_L_law 10 [some (qr (0, 24, L)), some (qr (2, 11, 10)), some (qr (31, 12, 89)), some (qi (i + 7))] [] t (kI K)) (e : a_and (xs (Int.toNat i)) 63 = 16) : am_Runs PP MLL (d + 30) m_L_law 10 [some (qr (0, 24, L)), some (qr (2, 11, 10)), some (qr (31, 12, 89)), some (qi i)] [] σ (kI K) := by
  have hx := INV_xs hI
  have w : PR d xs m_C_wish m_M_wish [qi (xs (Int.toNat (i + 1))), qi (xs (Int.toNat (i + 2))), qi (xs (Int.toNat (i + 3)))] σ c := p_wish d hI hc
  unfold PR at w
  refine v_L_law16_10 (d + 22) L i σ K (by rw [hx]; exact e) ⟨by omega, fun c1 => h1 c1, fun c1 => ⟨by omega, by omega, ?_⟩⟩
  rw [hx]
  exact am_cI w (fun x s hs => by
    rw [hs.1]
    exact am_cI hs.2 (fun y t ht => ⟨fun _ => ⟨by omega, h2 c1 t ht.2⟩, fun e' => absurd ht.1 e'⟩))
set_option maxRecDepth 20000 in
theorem v_L_law17_10 (d : Nat) (L : Nat) (v3 : Int) (σ : am_S) (K : Int → am_S → Prop) (e : (a_and (sI σ 0 (Int.toNat v3)) 63) = 17) (h :
  (-2147483648 ≤ ((L : Nat) : Int) - 7 ∧ ((L : Nat) : Int) - 7 < 2147483648) ∧
  (((((L : Nat) : Int) - 7) < v3 →
    K 1 σ) ∧
  (¬ ((((L : Nat) : Int) - 7) < v3) →
    (0 ≤ v3 ∧ v3 < ((L : Nat) : Int)) ∧
    (-2147483648 ≤ v3 + 1 ∧ v3 + 1 < 2147483648 ∧ 0 ≤ (v3 + 1) ∧ (v3 + 1) < ((L : Nat) : Int)) ∧
    am_Calls PP MLL (d + 8) m_C_trace [qr (2, 11, 10), qi (sI σ 0 (Int.toNat (v3 + 1)))] σ (kI fun x2 s2 =>
      am_Calls PP MLL (d + 8) m_M_trace [qr (31, 12, 89), qi (sI s2 0 (Int.toNat (v3 + 1)))] s2 (kI fun x3 s3 =>
        ((x2 = x3 →
          (-2147483648 ≤ v3 + 7 ∧ v3 + 7 < 2147483648) ∧
          am_Runs PP MLL (d + 8) m_L_law 10 [some (qr (0, 24, L)), some (qr (2, 11, 10)), some (qr (31, 12, 89)), some (qi (v3 + 7))] [] s3 (kI K)) ∧
        (¬ (x2 = x3) →
          K 0 s3))))))) : am_Runs PP MLL (d + 8) m_L_law 10 [some (qr (0, 24, L)), some (qr (2, 11, 10)), some (qr (31, 12, 89)), some (qi v3)] [] σ (kI K) := am_wEF_ok (orc []) 200 (⟨⟨(by decide : 20 ≤ 24), (by decide : 24 < 25)⟩, ⟨⟨h.1.1, h.1.2⟩, ⟨fun c1 => ⟨(Or.inr rfl), (h.2.1 c1)⟩, fun c1 => ⟨⟨rfl, (h.2.2 c1).1.1, (h.2.2 c1).1.2⟩, ⟨fun c => absurd (Eq.trans (Eq.symm e) c) (by decide : ¬ ((17 : Int) = 0)), fun _ => ⟨fun c => absurd (Eq.trans (Eq.symm e) c) (by decide : ¬ ((17 : Int) = 1)), fun _ => ⟨fun c => absurd (Eq.trans (Eq.symm e) c) (by decide : ¬ ((17 : Int) = 2)), fun _ => ⟨fun c => absurd (Eq.trans (Eq.symm e) c) (by decide : ¬ ((17 : Int) = 3)), fun _ => ⟨fun c => absurd (Eq.trans (Eq.symm e) c) (by decide : ¬ ((17 : Int) = 4)), fun _ => ⟨fun c => absurd (Eq.trans (Eq.symm e) c) (by decide : ¬ ((17 : Int) = 5)), fun _ => ⟨fun c => absurd (Eq.trans (Eq.symm e) c) (by decide : ¬ ((17 : Int) = 6)), fun _ => ⟨fun c => absurd (Eq.trans (Eq.symm e) c) (by decide : ¬ ((17 : Int) = 7)), fun _ => ⟨fun c => absurd (Eq.trans (Eq.symm e) c) (by decide : ¬ ((17 : Int) = 8)), fun _ => ⟨fun c => absurd (Eq.trans (Eq.symm e) c) (by decide : ¬ ((17 : Int) = 9)), fun _ => ⟨fun c => absurd (Eq.trans (Eq.symm e) c) (by decide : ¬ ((17 : Int) = 10)), fun _ => ⟨fun c => absurd (Eq.trans (Eq.symm e) c) (by decide : ¬ ((17 : Int) = 11)), fun _ => ⟨fun c => absurd (Eq.trans (Eq.symm e) c) (by decide : ¬ ((17 : Int) = 12)), fun _ => ⟨fun c => absurd (Eq.trans (Eq.symm e) c) (by decide : ¬ ((17 : Int) = 13)), fun _ => ⟨fun c => absurd (Eq.trans (Eq.symm e) c) (by decide : ¬ ((17 : Int) = 14)), fun _ => ⟨fun c => absurd (Eq.trans (Eq.symm e) c) (by decide : ¬ ((17 : Int) = 15)), fun _ => ⟨fun c => absurd (Eq.trans (Eq.symm e) c) (by decide : ¬ ((17 : Int) = 16)), fun _ => ⟨fun _ => ⟨⟨(h.2.2 c1).2.1.1, (h.2.2 c1).2.1.2.1⟩, ⟨⟨rfl, (h.2.2 c1).2.1.2.2.1, (h.2.2 c1).2.1.2.2.2⟩, ⟨rfl, (am_cI (h.2.2 c1).2.2 fun x2 s2 h2 => ⟨⟨(h.2.2 c1).2.1.1, (h.2.2 c1).2.1.2.1⟩, ⟨⟨rfl, (h.2.2 c1).2.1.2.2.1, (h.2.2 c1).2.1.2.2.2⟩, ⟨rfl, (am_cI h2 fun x3 s3 h3 => ⟨fun c4 => ⟨⟨(h3.1 c4).1.1, (h3.1 c4).1.2⟩, (h3.1 c4).2⟩, fun c4 => ⟨(Or.inl rfl), (h3.2 c4)⟩⟩)⟩⟩⟩)⟩⟩⟩, fun c => absurd e c⟩⟩⟩⟩⟩⟩⟩⟩⟩⟩⟩⟩⟩⟩⟩⟩⟩⟩⟩⟩⟩⟩)

theorem l_law17 (d : Nat) {L : Nat} {xs : Nat → Int} {σ : am_S} {c : Nat} {K : Int → am_S → Prop} {i : Int} (hI : INV xs σ c) (hc : c + 1 ≤ 600) (hL : L ≤ 3584) (h0 : 0 ≤ i) (h1 : (L : Int) - 7 < i → K 1 σ) (h2 : ¬ ((L : Int) - 7 < i) → ∀ t, INV xs t (c + 1) → am_Runs PP MLL (d + 30) m_L_law 10 [some (qr (0, 24, L)), some (qr (2, 11, 10)), some (qr (31, 12, 89)), some (qi (i + 7))] [] t (kI K)) (e : a_and (xs (Int.toNat i)) 63 = 17) : am_Runs PP MLL (d + 30) m_L_law 10 [some (qr (0, 24, L)), some (qr (2, 11, 10)), some (qr (31, 12, 89)), some (qi i)] [] σ (kI K) := by
  have hx := INV_xs hI
  have w : PR d xs m_C_trace m_M_trace [qi (xs (Int.toNat (i + 1)))] σ c := p_trace d hI hc
  unfold PR at w
  refine v_L_law17_10 (d + 22) L i σ K (by rw [hx]; exact e) ⟨by omega, fun c1 => h1 c1, fun c1 => ⟨by omega, by omega, ?_⟩⟩
  rw [hx]
  exact am_cI w (fun x s hs => by
    rw [hs.1]
    exact am_cI hs.2 (fun y t ht => ⟨fun _ => ⟨by omega, h2 c1 t ht.2⟩, fun e' => absurd ht.1 e'⟩))
set_option maxRecDepth 20000 in
theorem v_L_law18_10 (d : Nat) (L : Nat) (v3 : Int) (σ : am_S) (K : Int → am_S → Prop) (e : (a_and (sI σ 0 (Int.toNat v3)) 63) = 18) (h :
  (-2147483648 ≤ ((L : Nat) : Int) - 7 ∧ ((L : Nat) : Int) - 7 < 2147483648) ∧
  (((((L : Nat) : Int) - 7) < v3 →
    K 1 σ) ∧
  (¬ ((((L : Nat) : Int) - 7) < v3) →
    (0 ≤ v3 ∧ v3 < ((L : Nat) : Int)) ∧
    (-2147483648 ≤ v3 + 1 ∧ v3 + 1 < 2147483648 ∧ 0 ≤ (v3 + 1) ∧ (v3 + 1) < ((L : Nat) : Int) ∧ -2147483648 ≤ v3 + 2 ∧ v3 + 2 < 2147483648 ∧ 0 ≤ (v3 + 2) ∧ (v3 + 2) < ((L : Nat) : Int)) ∧
    am_Calls PP MLL (d + 8) m_C_weigh [qr (2, 11, 10), qi (sI σ 0 (Int.toNat (v3 + 1))), qi (sI σ 0 (Int.toNat (v3 + 2)))] σ (kI fun x2 s2 =>
      am_Calls PP MLL (d + 8) m_M_weigh [qr (31, 12, 89), qi (sI s2 0 (Int.toNat (v3 + 1))), qi (sI s2 0 (Int.toNat (v3 + 2)))] s2 (kI fun x3 s3 =>
        ((x2 = x3 →
          (-2147483648 ≤ v3 + 7 ∧ v3 + 7 < 2147483648) ∧
          am_Runs PP MLL (d + 8) m_L_law 10 [some (qr (0, 24, L)), some (qr (2, 11, 10)), some (qr (31, 12, 89)), some (qi (v3 + 7))] [] s3 (kI K)) ∧
        (¬ (x2 = x3) →
          K 0 s3))))))) : am_Runs PP MLL (d + 8) m_L_law 10 [some (qr (0, 24, L)), some (qr (2, 11, 10)), some (qr (31, 12, 89)), some (qi v3)] [] σ (kI K) := am_wEF_ok (orc []) 200 (⟨⟨(by decide : 20 ≤ 24), (by decide : 24 < 25)⟩, ⟨⟨h.1.1, h.1.2⟩, ⟨fun c1 => ⟨(Or.inr rfl), (h.2.1 c1)⟩, fun c1 => ⟨⟨rfl, (h.2.2 c1).1.1, (h.2.2 c1).1.2⟩, ⟨fun c => absurd (Eq.trans (Eq.symm e) c) (by decide : ¬ ((18 : Int) = 0)), fun _ => ⟨fun c => absurd (Eq.trans (Eq.symm e) c) (by decide : ¬ ((18 : Int) = 1)), fun _ => ⟨fun c => absurd (Eq.trans (Eq.symm e) c) (by decide : ¬ ((18 : Int) = 2)), fun _ => ⟨fun c => absurd (Eq.trans (Eq.symm e) c) (by decide : ¬ ((18 : Int) = 3)), fun _ => ⟨fun c => absurd (Eq.trans (Eq.symm e) c) (by decide : ¬ ((18 : Int) = 4)), fun _ => ⟨fun c => absurd (Eq.trans (Eq.symm e) c) (by decide : ¬ ((18 : Int) = 5)), fun _ => ⟨fun c => absurd (Eq.trans (Eq.symm e) c) (by decide : ¬ ((18 : Int) = 6)), fun _ => ⟨fun c => absurd (Eq.trans (Eq.symm e) c) (by decide : ¬ ((18 : Int) = 7)), fun _ => ⟨fun c => absurd (Eq.trans (Eq.symm e) c) (by decide : ¬ ((18 : Int) = 8)), fun _ => ⟨fun c => absurd (Eq.trans (Eq.symm e) c) (by decide : ¬ ((18 : Int) = 9)), fun _ => ⟨fun c => absurd (Eq.trans (Eq.symm e) c) (by decide : ¬ ((18 : Int) = 10)), fun _ => ⟨fun c => absurd (Eq.trans (Eq.symm e) c) (by decide : ¬ ((18 : Int) = 11)), fun _ => ⟨fun c => absurd (Eq.trans (Eq.symm e) c) (by decide : ¬ ((18 : Int) = 12)), fun _ => ⟨fun c => absurd (Eq.trans (Eq.symm e) c) (by decide : ¬ ((18 : Int) = 13)), fun _ => ⟨fun c => absurd (Eq.trans (Eq.symm e) c) (by decide : ¬ ((18 : Int) = 14)), fun _ => ⟨fun c => absurd (Eq.trans (Eq.symm e) c) (by decide : ¬ ((18 : Int) = 15)), fun _ => ⟨fun c => absurd (Eq.trans (Eq.symm e) c) (by decide : ¬ ((18 : Int) = 16)), fun _ => ⟨fun c => absurd (Eq.trans (Eq.symm e) c) (by decide : ¬ ((18 : Int) = 17)), fun _ => ⟨fun _ => ⟨⟨(h.2.2 c1).2.1.1, (h.2.2 c1).2.1.2.1⟩, ⟨⟨rfl, (h.2.2 c1).2.1.2.2.1, (h.2.2 c1).2.1.2.2.2.1⟩, ⟨⟨(h.2.2 c1).2.1.2.2.2.2.1, (h.2.2 c1).2.1.2.2.2.2.2.1⟩, ⟨⟨rfl, (h.2.2 c1).2.1.2.2.2.2.2.2.1, (h.2.2 c1).2.1.2.2.2.2.2.2.2⟩, ⟨rfl, (am_cI (h.2.2 c1).2.2 fun x2 s2 h2 => ⟨⟨(h.2.2 c1).2.1.1, (h.2.2 c1).2.1.2.1⟩, ⟨⟨rfl, (h.2.2 c1).2.1.2.2.1, (h.2.2 c1).2.1.2.2.2.1⟩, ⟨⟨(h.2.2 c1).2.1.2.2.2.2.1, (h.2.2 c1).2.1.2.2.2.2.2.1⟩, ⟨⟨rfl, (h.2.2 c1).2.1.2.2.2.2.2.2.1, (h.2.2 c1).2.1.2.2.2.2.2.2.2⟩, ⟨rfl, (am_cI h2 fun x3 s3 h3 => ⟨fun c4 => ⟨⟨(h3.1 c4).1.1, (h3.1 c4).1.2⟩, (h3.1 c4).2⟩, fun c4 => ⟨(Or.inl rfl), (h3.2 c4)⟩⟩)⟩⟩⟩⟩⟩)⟩⟩⟩⟩⟩, fun c => absurd e c⟩⟩⟩⟩⟩⟩⟩⟩⟩⟩⟩⟩⟩⟩⟩⟩⟩⟩⟩⟩⟩⟩⟩)

theorem l_law18 (d : Nat) {L : Nat} {xs : Nat → Int} {σ : am_S} {c : Nat} {K : Int → am_S → Prop} {i : Int} (hI : INV xs σ c) (hc : c + 1 ≤ 600) (hL : L ≤ 3584) (h0 : 0 ≤ i) (h1 : (L : Int) - 7 < i → K 1 σ) (h2 : ¬ ((L : Int) - 7 < i) → ∀ t, INV xs t (c + 1) → am_Runs PP MLL (d + 30) m_L_law 10 [some (qr (0, 24, L)), some (qr (2, 11, 10)), some (qr (31, 12, 89)), some (qi (i + 7))] [] t (kI K)) (e : a_and (xs (Int.toNat i)) 63 = 18) : am_Runs PP MLL (d + 30) m_L_law 10 [some (qr (0, 24, L)), some (qr (2, 11, 10)), some (qr (31, 12, 89)), some (qi i)] [] σ (kI K) := by
  have hx := INV_xs hI
  have w : PR d xs m_C_weigh m_M_weigh [qi (xs (Int.toNat (i + 1))), qi (xs (Int.toNat (i + 2)))] σ c := p_weigh d hI hc
  unfold PR at w
  refine v_L_law18_10 (d + 22) L i σ K (by rw [hx]; exact e) ⟨by omega, fun c1 => h1 c1, fun c1 => ⟨by omega, by omega, ?_⟩⟩
  rw [hx]
  exact am_cI w (fun x s hs => by
    rw [hs.1]
    exact am_cI hs.2 (fun y t ht => ⟨fun _ => ⟨by omega, h2 c1 t ht.2⟩, fun e' => absurd ht.1 e'⟩))
set_option maxRecDepth 20000 in
theorem v_L_law19_10 (d : Nat) (L : Nat) (v3 : Int) (σ : am_S) (K : Int → am_S → Prop) (e : (a_and (sI σ 0 (Int.toNat v3)) 63) = 19) (h :
  (-2147483648 ≤ ((L : Nat) : Int) - 7 ∧ ((L : Nat) : Int) - 7 < 2147483648) ∧
  (((((L : Nat) : Int) - 7) < v3 →
    K 1 σ) ∧
  (¬ ((((L : Nat) : Int) - 7) < v3) →
    (0 ≤ v3 ∧ v3 < ((L : Nat) : Int)) ∧
    (-2147483648 ≤ v3 + 1 ∧ v3 + 1 < 2147483648 ∧ 0 ≤ (v3 + 1) ∧ (v3 + 1) < ((L : Nat) : Int) ∧ -2147483648 ≤ v3 + 2 ∧ v3 + 2 < 2147483648 ∧ 0 ≤ (v3 + 2) ∧ (v3 + 2) < ((L : Nat) : Int)) ∧
    am_Calls PP MLL (d + 8) m_C_parts [qr (2, 11, 10), qi (sI σ 0 (Int.toNat (v3 + 1))), qi (sI σ 0 (Int.toNat (v3 + 2)))] σ (kI fun x2 s2 =>
      am_Calls PP MLL (d + 8) m_M_parts [qr (31, 12, 89), qi (sI s2 0 (Int.toNat (v3 + 1))), qi (sI s2 0 (Int.toNat (v3 + 2)))] s2 (kI fun x3 s3 =>
        ((x2 = x3 →
          (-2147483648 ≤ v3 + 7 ∧ v3 + 7 < 2147483648) ∧
          am_Runs PP MLL (d + 8) m_L_law 10 [some (qr (0, 24, L)), some (qr (2, 11, 10)), some (qr (31, 12, 89)), some (qi (v3 + 7))] [] s3 (kI K)) ∧
        (¬ (x2 = x3) →
          K 0 s3))))))) : am_Runs PP MLL (d + 8) m_L_law 10 [some (qr (0, 24, L)), some (qr (2, 11, 10)), some (qr (31, 12, 89)), some (qi v3)] [] σ (kI K) := am_wEF_ok (orc []) 200 (⟨⟨(by decide : 20 ≤ 24), (by decide : 24 < 25)⟩, ⟨⟨h.1.1, h.1.2⟩, ⟨fun c1 => ⟨(Or.inr rfl), (h.2.1 c1)⟩, fun c1 => ⟨⟨rfl, (h.2.2 c1).1.1, (h.2.2 c1).1.2⟩, ⟨fun c => absurd (Eq.trans (Eq.symm e) c) (by decide : ¬ ((19 : Int) = 0)), fun _ => ⟨fun c => absurd (Eq.trans (Eq.symm e) c) (by decide : ¬ ((19 : Int) = 1)), fun _ => ⟨fun c => absurd (Eq.trans (Eq.symm e) c) (by decide : ¬ ((19 : Int) = 2)), fun _ => ⟨fun c => absurd (Eq.trans (Eq.symm e) c) (by decide : ¬ ((19 : Int) = 3)), fun _ => ⟨fun c => absurd (Eq.trans (Eq.symm e) c) (by decide : ¬ ((19 : Int) = 4)), fun _ => ⟨fun c => absurd (Eq.trans (Eq.symm e) c) (by decide : ¬ ((19 : Int) = 5)), fun _ => ⟨fun c => absurd (Eq.trans (Eq.symm e) c) (by decide : ¬ ((19 : Int) = 6)), fun _ => ⟨fun c => absurd (Eq.trans (Eq.symm e) c) (by decide : ¬ ((19 : Int) = 7)), fun _ => ⟨fun c => absurd (Eq.trans (Eq.symm e) c) (by decide : ¬ ((19 : Int) = 8)), fun _ => ⟨fun c => absurd (Eq.trans (Eq.symm e) c) (by decide : ¬ ((19 : Int) = 9)), fun _ => ⟨fun c => absurd (Eq.trans (Eq.symm e) c) (by decide : ¬ ((19 : Int) = 10)), fun _ => ⟨fun c => absurd (Eq.trans (Eq.symm e) c) (by decide : ¬ ((19 : Int) = 11)), fun _ => ⟨fun c => absurd (Eq.trans (Eq.symm e) c) (by decide : ¬ ((19 : Int) = 12)), fun _ => ⟨fun c => absurd (Eq.trans (Eq.symm e) c) (by decide : ¬ ((19 : Int) = 13)), fun _ => ⟨fun c => absurd (Eq.trans (Eq.symm e) c) (by decide : ¬ ((19 : Int) = 14)), fun _ => ⟨fun c => absurd (Eq.trans (Eq.symm e) c) (by decide : ¬ ((19 : Int) = 15)), fun _ => ⟨fun c => absurd (Eq.trans (Eq.symm e) c) (by decide : ¬ ((19 : Int) = 16)), fun _ => ⟨fun c => absurd (Eq.trans (Eq.symm e) c) (by decide : ¬ ((19 : Int) = 17)), fun _ => ⟨fun c => absurd (Eq.trans (Eq.symm e) c) (by decide : ¬ ((19 : Int) = 18)), fun _ => ⟨fun _ => ⟨⟨(h.2.2 c1).2.1.1, (h.2.2 c1).2.1.2.1⟩, ⟨⟨rfl, (h.2.2 c1).2.1.2.2.1, (h.2.2 c1).2.1.2.2.2.1⟩, ⟨⟨(h.2.2 c1).2.1.2.2.2.2.1, (h.2.2 c1).2.1.2.2.2.2.2.1⟩, ⟨⟨rfl, (h.2.2 c1).2.1.2.2.2.2.2.2.1, (h.2.2 c1).2.1.2.2.2.2.2.2.2⟩, ⟨rfl, (am_cI (h.2.2 c1).2.2 fun x2 s2 h2 => ⟨⟨(h.2.2 c1).2.1.1, (h.2.2 c1).2.1.2.1⟩, ⟨⟨rfl, (h.2.2 c1).2.1.2.2.1, (h.2.2 c1).2.1.2.2.2.1⟩, ⟨⟨(h.2.2 c1).2.1.2.2.2.2.1, (h.2.2 c1).2.1.2.2.2.2.2.1⟩, ⟨⟨rfl, (h.2.2 c1).2.1.2.2.2.2.2.2.1, (h.2.2 c1).2.1.2.2.2.2.2.2.2⟩, ⟨rfl, (am_cI h2 fun x3 s3 h3 => ⟨fun c4 => ⟨⟨(h3.1 c4).1.1, (h3.1 c4).1.2⟩, (h3.1 c4).2⟩, fun c4 => ⟨(Or.inl rfl), (h3.2 c4)⟩⟩)⟩⟩⟩⟩⟩)⟩⟩⟩⟩⟩, fun c => absurd e c⟩⟩⟩⟩⟩⟩⟩⟩⟩⟩⟩⟩⟩⟩⟩⟩⟩⟩⟩⟩⟩⟩⟩⟩)

theorem l_law19 (d : Nat) {L : Nat} {xs : Nat → Int} {σ : am_S} {c : Nat} {K : Int → am_S → Prop} {i : Int} (hI : INV xs σ c) (hc : c + 1 ≤ 600) (hL : L ≤ 3584) (h0 : 0 ≤ i) (h1 : (L : Int) - 7 < i → K 1 σ) (h2 : ¬ ((L : Int) - 7 < i) → ∀ t, INV xs t (c + 1) → am_Runs PP MLL (d + 30) m_L_law 10 [some (qr (0, 24, L)), some (qr (2, 11, 10)), some (qr (31, 12, 89)), some (qi (i + 7))] [] t (kI K)) (e : a_and (xs (Int.toNat i)) 63 = 19) : am_Runs PP MLL (d + 30) m_L_law 10 [some (qr (0, 24, L)), some (qr (2, 11, 10)), some (qr (31, 12, 89)), some (qi i)] [] σ (kI K) := by
  have hx := INV_xs hI
  have w : PR d xs m_C_parts m_M_parts [qi (xs (Int.toNat (i + 1))), qi (xs (Int.toNat (i + 2)))] σ c := p_parts d hI hc
  unfold PR at w
  refine v_L_law19_10 (d + 22) L i σ K (by rw [hx]; exact e) ⟨by omega, fun c1 => h1 c1, fun c1 => ⟨by omega, by omega, ?_⟩⟩
  rw [hx]
  exact am_cI w (fun x s hs => by
    rw [hs.1]
    exact am_cI hs.2 (fun y t ht => ⟨fun _ => ⟨by omega, h2 c1 t ht.2⟩, fun e' => absurd ht.1 e'⟩))
set_option maxRecDepth 20000 in
theorem v_L_law20_10 (d : Nat) (L : Nat) (v3 : Int) (σ : am_S) (K : Int → am_S → Prop) (e : (a_and (sI σ 0 (Int.toNat v3)) 63) = 20) (h :
  (-2147483648 ≤ ((L : Nat) : Int) - 7 ∧ ((L : Nat) : Int) - 7 < 2147483648) ∧
  (((((L : Nat) : Int) - 7) < v3 →
    K 1 σ) ∧
  (¬ ((((L : Nat) : Int) - 7) < v3) →
    (0 ≤ v3 ∧ v3 < ((L : Nat) : Int)) ∧
    am_Calls PP MLL (d + 8) m_C_undo [qr (2, 11, 10)] σ (kI fun x2 s2 =>
      am_Calls PP MLL (d + 8) m_M_undo [qr (31, 12, 89)] s2 (kI fun x3 s3 =>
        ((x2 = x3 →
          (-2147483648 ≤ v3 + 7 ∧ v3 + 7 < 2147483648) ∧
          am_Runs PP MLL (d + 8) m_L_law 10 [some (qr (0, 24, L)), some (qr (2, 11, 10)), some (qr (31, 12, 89)), some (qi (v3 + 7))] [] s3 (kI K)) ∧
        (¬ (x2 = x3) →
          K 0 s3))))))) : am_Runs PP MLL (d + 8) m_L_law 10 [some (qr (0, 24, L)), some (qr (2, 11, 10)), some (qr (31, 12, 89)), some (qi v3)] [] σ (kI K) := am_wEF_ok (orc []) 200 (⟨⟨(by decide : 20 ≤ 24), (by decide : 24 < 25)⟩, ⟨⟨h.1.1, h.1.2⟩, ⟨fun c1 => ⟨(Or.inr rfl), (h.2.1 c1)⟩, fun c1 => ⟨⟨rfl, (h.2.2 c1).1.1, (h.2.2 c1).1.2⟩, ⟨fun c => absurd (Eq.trans (Eq.symm e) c) (by decide : ¬ ((20 : Int) = 0)), fun _ => ⟨fun c => absurd (Eq.trans (Eq.symm e) c) (by decide : ¬ ((20 : Int) = 1)), fun _ => ⟨fun c => absurd (Eq.trans (Eq.symm e) c) (by decide : ¬ ((20 : Int) = 2)), fun _ => ⟨fun c => absurd (Eq.trans (Eq.symm e) c) (by decide : ¬ ((20 : Int) = 3)), fun _ => ⟨fun c => absurd (Eq.trans (Eq.symm e) c) (by decide : ¬ ((20 : Int) = 4)), fun _ => ⟨fun c => absurd (Eq.trans (Eq.symm e) c) (by decide : ¬ ((20 : Int) = 5)), fun _ => ⟨fun c => absurd (Eq.trans (Eq.symm e) c) (by decide : ¬ ((20 : Int) = 6)), fun _ => ⟨fun c => absurd (Eq.trans (Eq.symm e) c) (by decide : ¬ ((20 : Int) = 7)), fun _ => ⟨fun c => absurd (Eq.trans (Eq.symm e) c) (by decide : ¬ ((20 : Int) = 8)), fun _ => ⟨fun c => absurd (Eq.trans (Eq.symm e) c) (by decide : ¬ ((20 : Int) = 9)), fun _ => ⟨fun c => absurd (Eq.trans (Eq.symm e) c) (by decide : ¬ ((20 : Int) = 10)), fun _ => ⟨fun c => absurd (Eq.trans (Eq.symm e) c) (by decide : ¬ ((20 : Int) = 11)), fun _ => ⟨fun c => absurd (Eq.trans (Eq.symm e) c) (by decide : ¬ ((20 : Int) = 12)), fun _ => ⟨fun c => absurd (Eq.trans (Eq.symm e) c) (by decide : ¬ ((20 : Int) = 13)), fun _ => ⟨fun c => absurd (Eq.trans (Eq.symm e) c) (by decide : ¬ ((20 : Int) = 14)), fun _ => ⟨fun c => absurd (Eq.trans (Eq.symm e) c) (by decide : ¬ ((20 : Int) = 15)), fun _ => ⟨fun c => absurd (Eq.trans (Eq.symm e) c) (by decide : ¬ ((20 : Int) = 16)), fun _ => ⟨fun c => absurd (Eq.trans (Eq.symm e) c) (by decide : ¬ ((20 : Int) = 17)), fun _ => ⟨fun c => absurd (Eq.trans (Eq.symm e) c) (by decide : ¬ ((20 : Int) = 18)), fun _ => ⟨fun c => absurd (Eq.trans (Eq.symm e) c) (by decide : ¬ ((20 : Int) = 19)), fun _ => ⟨fun _ => ⟨rfl, (am_cI (h.2.2 c1).2 fun x2 s2 h2 => ⟨rfl, (am_cI h2 fun x3 s3 h3 => ⟨fun c4 => ⟨⟨(h3.1 c4).1.1, (h3.1 c4).1.2⟩, (h3.1 c4).2⟩, fun c4 => ⟨(Or.inl rfl), (h3.2 c4)⟩⟩)⟩)⟩, fun c => absurd e c⟩⟩⟩⟩⟩⟩⟩⟩⟩⟩⟩⟩⟩⟩⟩⟩⟩⟩⟩⟩⟩⟩⟩⟩⟩)

theorem l_law20 (d : Nat) {L : Nat} {xs : Nat → Int} {σ : am_S} {c : Nat} {K : Int → am_S → Prop} {i : Int} (hI : INV xs σ c) (hc : c + 1 ≤ 600) (hL : L ≤ 3584) (h0 : 0 ≤ i) (h1 : (L : Int) - 7 < i → K 1 σ) (h2 : ¬ ((L : Int) - 7 < i) → ∀ t, INV xs t (c + 1) → am_Runs PP MLL (d + 30) m_L_law 10 [some (qr (0, 24, L)), some (qr (2, 11, 10)), some (qr (31, 12, 89)), some (qi (i + 7))] [] t (kI K)) (e : a_and (xs (Int.toNat i)) 63 = 20) : am_Runs PP MLL (d + 30) m_L_law 10 [some (qr (0, 24, L)), some (qr (2, 11, 10)), some (qr (31, 12, 89)), some (qi i)] [] σ (kI K) := by
  have hx := INV_xs hI
  have w : PR d xs m_C_undo m_M_undo [] σ c := p_undo d hI hc
  unfold PR at w
  refine v_L_law20_10 (d + 22) L i σ K (by rw [hx]; exact e) ⟨by omega, fun c1 => h1 c1, fun c1 => ⟨by omega, ?_⟩⟩
  exact am_cI w (fun x s hs => am_cI hs.2 (fun y t ht => ⟨fun _ => ⟨by omega, h2 c1 t ht.2⟩, fun e' => absurd ht.1 e'⟩))
set_option maxRecDepth 20000 in
theorem v_L_law21_10 (d : Nat) (L : Nat) (v3 : Int) (σ : am_S) (K : Int → am_S → Prop) (e : (a_and (sI σ 0 (Int.toNat v3)) 63) = 21) (h :
  (-2147483648 ≤ ((L : Nat) : Int) - 7 ∧ ((L : Nat) : Int) - 7 < 2147483648) ∧
  (((((L : Nat) : Int) - 7) < v3 →
    K 1 σ) ∧
  (¬ ((((L : Nat) : Int) - 7) < v3) →
    (0 ≤ v3 ∧ v3 < ((L : Nat) : Int)) ∧
    (-2147483648 ≤ v3 + 1 ∧ v3 + 1 < 2147483648 ∧ 0 ≤ (v3 + 1) ∧ (v3 + 1) < ((L : Nat) : Int) ∧ -2147483648 ≤ v3 + 2 ∧ v3 + 2 < 2147483648 ∧ 0 ≤ (v3 + 2) ∧ (v3 + 2) < ((L : Nat) : Int)) ∧
    am_Calls PP MLL (d + 8) m_C_search [qr (2, 11, 10), qi (sI σ 0 (Int.toNat (v3 + 1))), qi (sI σ 0 (Int.toNat (v3 + 2)))] σ (kI fun x2 s2 =>
      am_Calls PP MLL (d + 8) m_M_search [qr (31, 12, 89), qi (sI s2 0 (Int.toNat (v3 + 1))), qi (sI s2 0 (Int.toNat (v3 + 2)))] s2 (kI fun x3 s3 =>
        ((x2 = x3 →
          (-2147483648 ≤ v3 + 7 ∧ v3 + 7 < 2147483648) ∧
          am_Runs PP MLL (d + 8) m_L_law 10 [some (qr (0, 24, L)), some (qr (2, 11, 10)), some (qr (31, 12, 89)), some (qi (v3 + 7))] [] s3 (kI K)) ∧
        (¬ (x2 = x3) →
          K 0 s3))))))) : am_Runs PP MLL (d + 8) m_L_law 10 [some (qr (0, 24, L)), some (qr (2, 11, 10)), some (qr (31, 12, 89)), some (qi v3)] [] σ (kI K) := am_wEF_ok (orc []) 200 (⟨⟨(by decide : 20 ≤ 24), (by decide : 24 < 25)⟩, ⟨⟨h.1.1, h.1.2⟩, ⟨fun c1 => ⟨(Or.inr rfl), (h.2.1 c1)⟩, fun c1 => ⟨⟨rfl, (h.2.2 c1).1.1, (h.2.2 c1).1.2⟩, ⟨fun c => absurd (Eq.trans (Eq.symm e) c) (by decide : ¬ ((21 : Int) = 0)), fun _ => ⟨fun c => absurd (Eq.trans (Eq.symm e) c) (by decide : ¬ ((21 : Int) = 1)), fun _ => ⟨fun c => absurd (Eq.trans (Eq.symm e) c) (by decide : ¬ ((21 : Int) = 2)), fun _ => ⟨fun c => absurd (Eq.trans (Eq.symm e) c) (by decide : ¬ ((21 : Int) = 3)), fun _ => ⟨fun c => absurd (Eq.trans (Eq.symm e) c) (by decide : ¬ ((21 : Int) = 4)), fun _ => ⟨fun c => absurd (Eq.trans (Eq.symm e) c) (by decide : ¬ ((21 : Int) = 5)), fun _ => ⟨fun c => absurd (Eq.trans (Eq.symm e) c) (by decide : ¬ ((21 : Int) = 6)), fun _ => ⟨fun c => absurd (Eq.trans (Eq.symm e) c) (by decide : ¬ ((21 : Int) = 7)), fun _ => ⟨fun c => absurd (Eq.trans (Eq.symm e) c) (by decide : ¬ ((21 : Int) = 8)), fun _ => ⟨fun c => absurd (Eq.trans (Eq.symm e) c) (by decide : ¬ ((21 : Int) = 9)), fun _ => ⟨fun c => absurd (Eq.trans (Eq.symm e) c) (by decide : ¬ ((21 : Int) = 10)), fun _ => ⟨fun c => absurd (Eq.trans (Eq.symm e) c) (by decide : ¬ ((21 : Int) = 11)), fun _ => ⟨fun c => absurd (Eq.trans (Eq.symm e) c) (by decide : ¬ ((21 : Int) = 12)), fun _ => ⟨fun c => absurd (Eq.trans (Eq.symm e) c) (by decide : ¬ ((21 : Int) = 13)), fun _ => ⟨fun c => absurd (Eq.trans (Eq.symm e) c) (by decide : ¬ ((21 : Int) = 14)), fun _ => ⟨fun c => absurd (Eq.trans (Eq.symm e) c) (by decide : ¬ ((21 : Int) = 15)), fun _ => ⟨fun c => absurd (Eq.trans (Eq.symm e) c) (by decide : ¬ ((21 : Int) = 16)), fun _ => ⟨fun c => absurd (Eq.trans (Eq.symm e) c) (by decide : ¬ ((21 : Int) = 17)), fun _ => ⟨fun c => absurd (Eq.trans (Eq.symm e) c) (by decide : ¬ ((21 : Int) = 18)), fun _ => ⟨fun c => absurd (Eq.trans (Eq.symm e) c) (by decide : ¬ ((21 : Int) = 19)), fun _ => ⟨fun c => absurd (Eq.trans (Eq.symm e) c) (by decide : ¬ ((21 : Int) = 20)), fun _ => ⟨fun _ => ⟨⟨(h.2.2 c1).2.1.1, (h.2.2 c1).2.1.2.1⟩, ⟨⟨rfl, (h.2.2 c1).2.1.2.2.1, (h.2.2 c1).2.1.2.2.2.1⟩, ⟨⟨(h.2.2 c1).2.1.2.2.2.2.1, (h.2.2 c1).2.1.2.2.2.2.2.1⟩, ⟨⟨rfl, (h.2.2 c1).2.1.2.2.2.2.2.2.1, (h.2.2 c1).2.1.2.2.2.2.2.2.2⟩, ⟨rfl, (am_cI (h.2.2 c1).2.2 fun x2 s2 h2 => ⟨⟨(h.2.2 c1).2.1.1, (h.2.2 c1).2.1.2.1⟩, ⟨⟨rfl, (h.2.2 c1).2.1.2.2.1, (h.2.2 c1).2.1.2.2.2.1⟩, ⟨⟨(h.2.2 c1).2.1.2.2.2.2.1, (h.2.2 c1).2.1.2.2.2.2.2.1⟩, ⟨⟨rfl, (h.2.2 c1).2.1.2.2.2.2.2.2.1, (h.2.2 c1).2.1.2.2.2.2.2.2.2⟩, ⟨rfl, (am_cI h2 fun x3 s3 h3 => ⟨fun c4 => ⟨⟨(h3.1 c4).1.1, (h3.1 c4).1.2⟩, (h3.1 c4).2⟩, fun c4 => ⟨(Or.inl rfl), (h3.2 c4)⟩⟩)⟩⟩⟩⟩⟩)⟩⟩⟩⟩⟩, fun c => absurd e c⟩⟩⟩⟩⟩⟩⟩⟩⟩⟩⟩⟩⟩⟩⟩⟩⟩⟩⟩⟩⟩⟩⟩⟩⟩⟩)

theorem l_law21 (d : Nat) {L : Nat} {xs : Nat → Int} {σ : am_S} {c : Nat} {K : Int → am_S → Prop} {i : Int} (hI : INV xs σ c) (hc : c + 1 ≤ 600) (hL : L ≤ 3584) (h0 : 0 ≤ i) (h1 : (L : Int) - 7 < i → K 1 σ) (h2 : ¬ ((L : Int) - 7 < i) → ∀ t, INV xs t (c + 1) → am_Runs PP MLL (d + 30) m_L_law 10 [some (qr (0, 24, L)), some (qr (2, 11, 10)), some (qr (31, 12, 89)), some (qi (i + 7))] [] t (kI K)) (e : a_and (xs (Int.toNat i)) 63 = 21) : am_Runs PP MLL (d + 30) m_L_law 10 [some (qr (0, 24, L)), some (qr (2, 11, 10)), some (qr (31, 12, 89)), some (qi i)] [] σ (kI K) := by
  have hx := INV_xs hI
  have w : PR d xs m_C_search m_M_search [qi (xs (Int.toNat (i + 1))), qi (xs (Int.toNat (i + 2)))] σ c := p_search d hI hc
  unfold PR at w
  refine v_L_law21_10 (d + 22) L i σ K (by rw [hx]; exact e) ⟨by omega, fun c1 => h1 c1, fun c1 => ⟨by omega, by omega, ?_⟩⟩
  rw [hx]
  exact am_cI w (fun x s hs => by
    rw [hs.1]
    exact am_cI hs.2 (fun y t ht => ⟨fun _ => ⟨by omega, h2 c1 t ht.2⟩, fun e' => absurd ht.1 e'⟩))
set_option maxRecDepth 20000 in
theorem v_L_law22_10 (d : Nat) (L : Nat) (v3 : Int) (σ : am_S) (K : Int → am_S → Prop) (e : (a_and (sI σ 0 (Int.toNat v3)) 63) = 22) (h :
  (-2147483648 ≤ ((L : Nat) : Int) - 7 ∧ ((L : Nat) : Int) - 7 < 2147483648) ∧
  (((((L : Nat) : Int) - 7) < v3 →
    K 1 σ) ∧
  (¬ ((((L : Nat) : Int) - 7) < v3) →
    (0 ≤ v3 ∧ v3 < ((L : Nat) : Int)) ∧
    (-2147483648 ≤ v3 + 1 ∧ v3 + 1 < 2147483648 ∧ 0 ≤ (v3 + 1) ∧ (v3 + 1) < ((L : Nat) : Int)) ∧
    am_Calls PP MLL (d + 8) m_C_goOn [qr (2, 11, 10), qi (sI σ 0 (Int.toNat (v3 + 1)))] σ (kI fun x2 s2 =>
      am_Calls PP MLL (d + 8) m_M_goOn [qr (31, 12, 89), qi (sI s2 0 (Int.toNat (v3 + 1)))] s2 (kI fun x3 s3 =>
        ((x2 = x3 →
          (-2147483648 ≤ v3 + 7 ∧ v3 + 7 < 2147483648) ∧
          am_Runs PP MLL (d + 8) m_L_law 10 [some (qr (0, 24, L)), some (qr (2, 11, 10)), some (qr (31, 12, 89)), some (qi (v3 + 7))] [] s3 (kI K)) ∧
        (¬ (x2 = x3) →
          K 0 s3))))))) : am_Runs PP MLL (d + 8) m_L_law 10 [some (qr (0, 24, L)), some (qr (2, 11, 10)), some (qr (31, 12, 89)), some (qi v3)] [] σ (kI K) := am_wEF_ok (orc []) 200 (⟨⟨(by decide : 20 ≤ 24), (by decide : 24 < 25)⟩, ⟨⟨h.1.1, h.1.2⟩, ⟨fun c1 => ⟨(Or.inr rfl), (h.2.1 c1)⟩, fun c1 => ⟨⟨rfl, (h.2.2 c1).1.1, (h.2.2 c1).1.2⟩, ⟨fun c => absurd (Eq.trans (Eq.symm e) c) (by decide : ¬ ((22 : Int) = 0)), fun _ => ⟨fun c => absurd (Eq.trans (Eq.symm e) c) (by decide : ¬ ((22 : Int) = 1)), fun _ => ⟨fun c => absurd (Eq.trans (Eq.symm e) c) (by decide : ¬ ((22 : Int) = 2)), fun _ => ⟨fun c => absurd (Eq.trans (Eq.symm e) c) (by decide : ¬ ((22 : Int) = 3)), fun _ => ⟨fun c => absurd (Eq.trans (Eq.symm e) c) (by decide : ¬ ((22 : Int) = 4)), fun _ => ⟨fun c => absurd (Eq.trans (Eq.symm e) c) (by decide : ¬ ((22 : Int) = 5)), fun _ => ⟨fun c => absurd (Eq.trans (Eq.symm e) c) (by decide : ¬ ((22 : Int) = 6)), fun _ => ⟨fun c => absurd (Eq.trans (Eq.symm e) c) (by decide : ¬ ((22 : Int) = 7)), fun _ => ⟨fun c => absurd (Eq.trans (Eq.symm e) c) (by decide : ¬ ((22 : Int) = 8)), fun _ => ⟨fun c => absurd (Eq.trans (Eq.symm e) c) (by decide : ¬ ((22 : Int) = 9)), fun _ => ⟨fun c => absurd (Eq.trans (Eq.symm e) c) (by decide : ¬ ((22 : Int) = 10)), fun _ => ⟨fun c => absurd (Eq.trans (Eq.symm e) c) (by decide : ¬ ((22 : Int) = 11)), fun _ => ⟨fun c => absurd (Eq.trans (Eq.symm e) c) (by decide : ¬ ((22 : Int) = 12)), fun _ => ⟨fun c => absurd (Eq.trans (Eq.symm e) c) (by decide : ¬ ((22 : Int) = 13)), fun _ => ⟨fun c => absurd (Eq.trans (Eq.symm e) c) (by decide : ¬ ((22 : Int) = 14)), fun _ => ⟨fun c => absurd (Eq.trans (Eq.symm e) c) (by decide : ¬ ((22 : Int) = 15)), fun _ => ⟨fun c => absurd (Eq.trans (Eq.symm e) c) (by decide : ¬ ((22 : Int) = 16)), fun _ => ⟨fun c => absurd (Eq.trans (Eq.symm e) c) (by decide : ¬ ((22 : Int) = 17)), fun _ => ⟨fun c => absurd (Eq.trans (Eq.symm e) c) (by decide : ¬ ((22 : Int) = 18)), fun _ => ⟨fun c => absurd (Eq.trans (Eq.symm e) c) (by decide : ¬ ((22 : Int) = 19)), fun _ => ⟨fun c => absurd (Eq.trans (Eq.symm e) c) (by decide : ¬ ((22 : Int) = 20)), fun _ => ⟨fun c => absurd (Eq.trans (Eq.symm e) c) (by decide : ¬ ((22 : Int) = 21)), fun _ => ⟨fun _ => ⟨⟨(h.2.2 c1).2.1.1, (h.2.2 c1).2.1.2.1⟩, ⟨⟨rfl, (h.2.2 c1).2.1.2.2.1, (h.2.2 c1).2.1.2.2.2⟩, ⟨rfl, (am_cI (h.2.2 c1).2.2 fun x2 s2 h2 => ⟨⟨(h.2.2 c1).2.1.1, (h.2.2 c1).2.1.2.1⟩, ⟨⟨rfl, (h.2.2 c1).2.1.2.2.1, (h.2.2 c1).2.1.2.2.2⟩, ⟨rfl, (am_cI h2 fun x3 s3 h3 => ⟨fun c4 => ⟨⟨(h3.1 c4).1.1, (h3.1 c4).1.2⟩, (h3.1 c4).2⟩, fun c4 => ⟨(Or.inl rfl), (h3.2 c4)⟩⟩)⟩⟩⟩)⟩⟩⟩, fun c => absurd e c⟩⟩⟩⟩⟩⟩⟩⟩⟩⟩⟩⟩⟩⟩⟩⟩⟩⟩⟩⟩⟩⟩⟩⟩⟩⟩⟩)

theorem l_law22 (d : Nat) {L : Nat} {xs : Nat → Int} {σ : am_S} {c : Nat} {K : Int → am_S → Prop} {i : Int} (hI : INV xs σ c) (hc : c + 1 ≤ 600) (hL : L ≤ 3584) (h0 : 0 ≤ i) (h1 : (L : Int) - 7 < i → K 1 σ) (h2 : ¬ ((L : Int) - 7 < i) → ∀ t, INV xs t (c + 1) → am_Runs PP MLL (d + 30) m_L_law 10 [some (qr (0, 24, L)), some (qr (2, 11, 10)), some (qr (31, 12, 89)), some (qi (i + 7))] [] t (kI K)) (e : a_and (xs (Int.toNat i)) 63 = 22) : am_Runs PP MLL (d + 30) m_L_law 10 [some (qr (0, 24, L)), some (qr (2, 11, 10)), some (qr (31, 12, 89)), some (qi i)] [] σ (kI K) := by
  have hx := INV_xs hI
  have w : PR d xs m_C_goOn m_M_goOn [qi (xs (Int.toNat (i + 1)))] σ c := p_goOn d hI hc
  unfold PR at w
  refine v_L_law22_10 (d + 22) L i σ K (by rw [hx]; exact e) ⟨by omega, fun c1 => h1 c1, fun c1 => ⟨by omega, by omega, ?_⟩⟩
  rw [hx]
  exact am_cI w (fun x s hs => by
    rw [hs.1]
    exact am_cI hs.2 (fun y t ht => ⟨fun _ => ⟨by omega, h2 c1 t ht.2⟩, fun e' => absurd ht.1 e'⟩))
set_option maxRecDepth 20000 in
theorem v_L_law23_10 (d : Nat) (L : Nat) (v3 : Int) (σ : am_S) (K : Int → am_S → Prop) (e : (a_and (sI σ 0 (Int.toNat v3)) 63) = 23) (h :
  (-2147483648 ≤ ((L : Nat) : Int) - 7 ∧ ((L : Nat) : Int) - 7 < 2147483648) ∧
  (((((L : Nat) : Int) - 7) < v3 →
    K 1 σ) ∧
  (¬ ((((L : Nat) : Int) - 7) < v3) →
    (0 ≤ v3 ∧ v3 < ((L : Nat) : Int)) ∧
    am_Calls PP MLL (d + 8) m_C_least [qr (2, 11, 10)] σ (kI fun x2 s2 =>
      am_Calls PP MLL (d + 8) m_M_least [qr (31, 12, 89)] s2 (kI fun x3 s3 =>
        ((x2 = x3 →
          (-2147483648 ≤ v3 + 7 ∧ v3 + 7 < 2147483648) ∧
          am_Runs PP MLL (d + 8) m_L_law 10 [some (qr (0, 24, L)), some (qr (2, 11, 10)), some (qr (31, 12, 89)), some (qi (v3 + 7))] [] s3 (kI K)) ∧
        (¬ (x2 = x3) →
          K 0 s3))))))) : am_Runs PP MLL (d + 8) m_L_law 10 [some (qr (0, 24, L)), some (qr (2, 11, 10)), some (qr (31, 12, 89)), some (qi v3)] [] σ (kI K) := am_wEF_ok (orc []) 200 (⟨⟨(by decide : 20 ≤ 24), (by decide : 24 < 25)⟩, ⟨⟨h.1.1, h.1.2⟩, ⟨fun c1 => ⟨(Or.inr rfl), (h.2.1 c1)⟩, fun c1 => ⟨⟨rfl, (h.2.2 c1).1.1, (h.2.2 c1).1.2⟩, ⟨fun c => absurd (Eq.trans (Eq.symm e) c) (by decide : ¬ ((23 : Int) = 0)), fun _ => ⟨fun c => absurd (Eq.trans (Eq.symm e) c) (by decide : ¬ ((23 : Int) = 1)), fun _ => ⟨fun c => absurd (Eq.trans (Eq.symm e) c) (by decide : ¬ ((23 : Int) = 2)), fun _ => ⟨fun c => absurd (Eq.trans (Eq.symm e) c) (by decide : ¬ ((23 : Int) = 3)), fun _ => ⟨fun c => absurd (Eq.trans (Eq.symm e) c) (by decide : ¬ ((23 : Int) = 4)), fun _ => ⟨fun c => absurd (Eq.trans (Eq.symm e) c) (by decide : ¬ ((23 : Int) = 5)), fun _ => ⟨fun c => absurd (Eq.trans (Eq.symm e) c) (by decide : ¬ ((23 : Int) = 6)), fun _ => ⟨fun c => absurd (Eq.trans (Eq.symm e) c) (by decide : ¬ ((23 : Int) = 7)), fun _ => ⟨fun c => absurd (Eq.trans (Eq.symm e) c) (by decide : ¬ ((23 : Int) = 8)), fun _ => ⟨fun c => absurd (Eq.trans (Eq.symm e) c) (by decide : ¬ ((23 : Int) = 9)), fun _ => ⟨fun c => absurd (Eq.trans (Eq.symm e) c) (by decide : ¬ ((23 : Int) = 10)), fun _ => ⟨fun c => absurd (Eq.trans (Eq.symm e) c) (by decide : ¬ ((23 : Int) = 11)), fun _ => ⟨fun c => absurd (Eq.trans (Eq.symm e) c) (by decide : ¬ ((23 : Int) = 12)), fun _ => ⟨fun c => absurd (Eq.trans (Eq.symm e) c) (by decide : ¬ ((23 : Int) = 13)), fun _ => ⟨fun c => absurd (Eq.trans (Eq.symm e) c) (by decide : ¬ ((23 : Int) = 14)), fun _ => ⟨fun c => absurd (Eq.trans (Eq.symm e) c) (by decide : ¬ ((23 : Int) = 15)), fun _ => ⟨fun c => absurd (Eq.trans (Eq.symm e) c) (by decide : ¬ ((23 : Int) = 16)), fun _ => ⟨fun c => absurd (Eq.trans (Eq.symm e) c) (by decide : ¬ ((23 : Int) = 17)), fun _ => ⟨fun c => absurd (Eq.trans (Eq.symm e) c) (by decide : ¬ ((23 : Int) = 18)), fun _ => ⟨fun c => absurd (Eq.trans (Eq.symm e) c) (by decide : ¬ ((23 : Int) = 19)), fun _ => ⟨fun c => absurd (Eq.trans (Eq.symm e) c) (by decide : ¬ ((23 : Int) = 20)), fun _ => ⟨fun c => absurd (Eq.trans (Eq.symm e) c) (by decide : ¬ ((23 : Int) = 21)), fun _ => ⟨fun c => absurd (Eq.trans (Eq.symm e) c) (by decide : ¬ ((23 : Int) = 22)), fun _ => ⟨fun _ => ⟨rfl, (am_cI (h.2.2 c1).2 fun x2 s2 h2 => ⟨rfl, (am_cI h2 fun x3 s3 h3 => ⟨fun c4 => ⟨⟨(h3.1 c4).1.1, (h3.1 c4).1.2⟩, (h3.1 c4).2⟩, fun c4 => ⟨(Or.inl rfl), (h3.2 c4)⟩⟩)⟩)⟩, fun c => absurd e c⟩⟩⟩⟩⟩⟩⟩⟩⟩⟩⟩⟩⟩⟩⟩⟩⟩⟩⟩⟩⟩⟩⟩⟩⟩⟩⟩⟩)

theorem l_law23 (d : Nat) {L : Nat} {xs : Nat → Int} {σ : am_S} {c : Nat} {K : Int → am_S → Prop} {i : Int} (hI : INV xs σ c) (hc : c + 1 ≤ 600) (hL : L ≤ 3584) (h0 : 0 ≤ i) (h1 : (L : Int) - 7 < i → K 1 σ) (h2 : ¬ ((L : Int) - 7 < i) → ∀ t, INV xs t (c + 1) → am_Runs PP MLL (d + 30) m_L_law 10 [some (qr (0, 24, L)), some (qr (2, 11, 10)), some (qr (31, 12, 89)), some (qi (i + 7))] [] t (kI K)) (e : a_and (xs (Int.toNat i)) 63 = 23) : am_Runs PP MLL (d + 30) m_L_law 10 [some (qr (0, 24, L)), some (qr (2, 11, 10)), some (qr (31, 12, 89)), some (qi i)] [] σ (kI K) := by
  have hx := INV_xs hI
  have w : PR d xs m_C_least m_M_least [] σ c := p_least d hI hc
  unfold PR at w
  refine v_L_law23_10 (d + 22) L i σ K (by rw [hx]; exact e) ⟨by omega, fun c1 => h1 c1, fun c1 => ⟨by omega, ?_⟩⟩
  exact am_cI w (fun x s hs => am_cI hs.2 (fun y t ht => ⟨fun _ => ⟨by omega, h2 c1 t ht.2⟩, fun e' => absurd ht.1 e'⟩))
set_option maxRecDepth 20000 in
theorem v_L_law24_10 (d : Nat) (L : Nat) (v3 : Int) (σ : am_S) (K : Int → am_S → Prop) (e : (a_and (sI σ 0 (Int.toNat v3)) 63) = 24) (h :
  (-2147483648 ≤ ((L : Nat) : Int) - 7 ∧ ((L : Nat) : Int) - 7 < 2147483648) ∧
  (((((L : Nat) : Int) - 7) < v3 →
    K 1 σ) ∧
  (¬ ((((L : Nat) : Int) - 7) < v3) →
    (0 ≤ v3 ∧ v3 < ((L : Nat) : Int)) ∧
    am_Calls PP MLL (d + 8) m_C_tree [qr (2, 11, 10)] σ (kI fun x2 s2 =>
      am_Calls PP MLL (d + 8) m_M_tree [qr (31, 12, 89)] s2 (kI fun x3 s3 =>
        ((x2 = x3 →
          (-2147483648 ≤ v3 + 7 ∧ v3 + 7 < 2147483648) ∧
          am_Runs PP MLL (d + 8) m_L_law 10 [some (qr (0, 24, L)), some (qr (2, 11, 10)), some (qr (31, 12, 89)), some (qi (v3 + 7))] [] s3 (kI K)) ∧
        (¬ (x2 = x3) →
          K 0 s3))))))) : am_Runs PP MLL (d + 8) m_L_law 10 [some (qr (0, 24, L)), some (qr (2, 11, 10)), some (qr (31, 12, 89)), some (qi v3)] [] σ (kI K) := am_wEF_ok (orc []) 200 (⟨⟨(by decide : 20 ≤ 24), (by decide : 24 < 25)⟩, ⟨⟨h.1.1, h.1.2⟩, ⟨fun c1 => ⟨(Or.inr rfl), (h.2.1 c1)⟩, fun c1 => ⟨⟨rfl, (h.2.2 c1).1.1, (h.2.2 c1).1.2⟩, ⟨fun c => absurd (Eq.trans (Eq.symm e) c) (by decide : ¬ ((24 : Int) = 0)), fun _ => ⟨fun c => absurd (Eq.trans (Eq.symm e) c) (by decide : ¬ ((24 : Int) = 1)), fun _ => ⟨fun c => absurd (Eq.trans (Eq.symm e) c) (by decide : ¬ ((24 : Int) = 2)), fun _ => ⟨fun c => absurd (Eq.trans (Eq.symm e) c) (by decide : ¬ ((24 : Int) = 3)), fun _ => ⟨fun c => absurd (Eq.trans (Eq.symm e) c) (by decide : ¬ ((24 : Int) = 4)), fun _ => ⟨fun c => absurd (Eq.trans (Eq.symm e) c) (by decide : ¬ ((24 : Int) = 5)), fun _ => ⟨fun c => absurd (Eq.trans (Eq.symm e) c) (by decide : ¬ ((24 : Int) = 6)), fun _ => ⟨fun c => absurd (Eq.trans (Eq.symm e) c) (by decide : ¬ ((24 : Int) = 7)), fun _ => ⟨fun c => absurd (Eq.trans (Eq.symm e) c) (by decide : ¬ ((24 : Int) = 8)), fun _ => ⟨fun c => absurd (Eq.trans (Eq.symm e) c) (by decide : ¬ ((24 : Int) = 9)), fun _ => ⟨fun c => absurd (Eq.trans (Eq.symm e) c) (by decide : ¬ ((24 : Int) = 10)), fun _ => ⟨fun c => absurd (Eq.trans (Eq.symm e) c) (by decide : ¬ ((24 : Int) = 11)), fun _ => ⟨fun c => absurd (Eq.trans (Eq.symm e) c) (by decide : ¬ ((24 : Int) = 12)), fun _ => ⟨fun c => absurd (Eq.trans (Eq.symm e) c) (by decide : ¬ ((24 : Int) = 13)), fun _ => ⟨fun c => absurd (Eq.trans (Eq.symm e) c) (by decide : ¬ ((24 : Int) = 14)), fun _ => ⟨fun c => absurd (Eq.trans (Eq.symm e) c) (by decide : ¬ ((24 : Int) = 15)), fun _ => ⟨fun c => absurd (Eq.trans (Eq.symm e) c) (by decide : ¬ ((24 : Int) = 16)), fun _ => ⟨fun c => absurd (Eq.trans (Eq.symm e) c) (by decide : ¬ ((24 : Int) = 17)), fun _ => ⟨fun c => absurd (Eq.trans (Eq.symm e) c) (by decide : ¬ ((24 : Int) = 18)), fun _ => ⟨fun c => absurd (Eq.trans (Eq.symm e) c) (by decide : ¬ ((24 : Int) = 19)), fun _ => ⟨fun c => absurd (Eq.trans (Eq.symm e) c) (by decide : ¬ ((24 : Int) = 20)), fun _ => ⟨fun c => absurd (Eq.trans (Eq.symm e) c) (by decide : ¬ ((24 : Int) = 21)), fun _ => ⟨fun c => absurd (Eq.trans (Eq.symm e) c) (by decide : ¬ ((24 : Int) = 22)), fun _ => ⟨fun c => absurd (Eq.trans (Eq.symm e) c) (by decide : ¬ ((24 : Int) = 23)), fun _ => ⟨fun _ => ⟨rfl, (am_cI (h.2.2 c1).2 fun x2 s2 h2 => ⟨rfl, (am_cI h2 fun x3 s3 h3 => ⟨fun c4 => ⟨⟨(h3.1 c4).1.1, (h3.1 c4).1.2⟩, (h3.1 c4).2⟩, fun c4 => ⟨(Or.inl rfl), (h3.2 c4)⟩⟩)⟩)⟩, fun c => absurd e c⟩⟩⟩⟩⟩⟩⟩⟩⟩⟩⟩⟩⟩⟩⟩⟩⟩⟩⟩⟩⟩⟩⟩⟩⟩⟩⟩⟩⟩)

theorem l_law24 (d : Nat) {L : Nat} {xs : Nat → Int} {σ : am_S} {c : Nat} {K : Int → am_S → Prop} {i : Int} (hI : INV xs σ c) (hc : c + 1 ≤ 600) (hL : L ≤ 3584) (h0 : 0 ≤ i) (h1 : (L : Int) - 7 < i → K 1 σ) (h2 : ¬ ((L : Int) - 7 < i) → ∀ t, INV xs t (c + 1) → am_Runs PP MLL (d + 30) m_L_law 10 [some (qr (0, 24, L)), some (qr (2, 11, 10)), some (qr (31, 12, 89)), some (qi (i + 7))] [] t (kI K)) (e : a_and (xs (Int.toNat i)) 63 = 24) : am_Runs PP MLL (d + 30) m_L_law 10 [some (qr (0, 24, L)), some (qr (2, 11, 10)), some (qr (31, 12, 89)), some (qi i)] [] σ (kI K) := by
  have hx := INV_xs hI
  have w : PR d xs m_C_tree m_M_tree [] σ c := p_tree d hI hc
  unfold PR at w
  refine v_L_law24_10 (d + 22) L i σ K (by rw [hx]; exact e) ⟨by omega, fun c1 => h1 c1, fun c1 => ⟨by omega, ?_⟩⟩
  exact am_cI w (fun x s hs => am_cI hs.2 (fun y t ht => ⟨fun _ => ⟨by omega, h2 c1 t ht.2⟩, fun e' => absurd ht.1 e'⟩))
set_option maxRecDepth 20000 in
theorem v_L_law25_10 (d : Nat) (L : Nat) (v3 : Int) (σ : am_S) (K : Int → am_S → Prop) (e : (a_and (sI σ 0 (Int.toNat v3)) 63) = 25) (h :
  (-2147483648 ≤ ((L : Nat) : Int) - 7 ∧ ((L : Nat) : Int) - 7 < 2147483648) ∧
  (((((L : Nat) : Int) - 7) < v3 →
    K 1 σ) ∧
  (¬ ((((L : Nat) : Int) - 7) < v3) →
    (0 ≤ v3 ∧ v3 < ((L : Nat) : Int)) ∧
    (-2147483648 ≤ v3 + 1 ∧ v3 + 1 < 2147483648 ∧ 0 ≤ (v3 + 1) ∧ (v3 + 1) < ((L : Nat) : Int) ∧ -2147483648 ≤ v3 + 2 ∧ v3 + 2 < 2147483648 ∧ 0 ≤ (v3 + 2) ∧ (v3 + 2) < ((L : Nat) : Int)) ∧
    am_Calls PP MLL (d + 8) m_C_node [qr (2, 11, 10), qi (sI σ 0 (Int.toNat (v3 + 1))), qi (sI σ 0 (Int.toNat (v3 + 2)))] σ (kI fun x2 s2 =>
      am_Calls PP MLL (d + 8) m_M_node [qr (31, 12, 89), qi (sI s2 0 (Int.toNat (v3 + 1))), qi (sI s2 0 (Int.toNat (v3 + 2)))] s2 (kI fun x3 s3 =>
        ((x2 = x3 →
          (-2147483648 ≤ v3 + 7 ∧ v3 + 7 < 2147483648) ∧
          am_Runs PP MLL (d + 8) m_L_law 10 [some (qr (0, 24, L)), some (qr (2, 11, 10)), some (qr (31, 12, 89)), some (qi (v3 + 7))] [] s3 (kI K)) ∧
        (¬ (x2 = x3) →
          K 0 s3))))))) : am_Runs PP MLL (d + 8) m_L_law 10 [some (qr (0, 24, L)), some (qr (2, 11, 10)), some (qr (31, 12, 89)), some (qi v3)] [] σ (kI K) := am_wEF_ok (orc []) 200 (⟨⟨(by decide : 20 ≤ 24), (by decide : 24 < 25)⟩, ⟨⟨h.1.1, h.1.2⟩, ⟨fun c1 => ⟨(Or.inr rfl), (h.2.1 c1)⟩, fun c1 => ⟨⟨rfl, (h.2.2 c1).1.1, (h.2.2 c1).1.2⟩, ⟨fun c => absurd (Eq.trans (Eq.symm e) c) (by decide : ¬ ((25 : Int) = 0)), fun _ => ⟨fun c => absurd (Eq.trans (Eq.symm e) c) (by decide : ¬ ((25 : Int) = 1)), fun _ => ⟨fun c => absurd (Eq.trans (Eq.symm e) c) (by decide : ¬ ((25 : Int) = 2)), fun _ => ⟨fun c => absurd (Eq.trans (Eq.symm e) c) (by decide : ¬ ((25 : Int) = 3)), fun _ => ⟨fun c => absurd (Eq.trans (Eq.symm e) c) (by decide : ¬ ((25 : Int) = 4)), fun _ => ⟨fun c => absurd (Eq.trans (Eq.symm e) c) (by decide : ¬ ((25 : Int) = 5)), fun _ => ⟨fun c => absurd (Eq.trans (Eq.symm e) c) (by decide : ¬ ((25 : Int) = 6)), fun _ => ⟨fun c => absurd (Eq.trans (Eq.symm e) c) (by decide : ¬ ((25 : Int) = 7)), fun _ => ⟨fun c => absurd (Eq.trans (Eq.symm e) c) (by decide : ¬ ((25 : Int) = 8)), fun _ => ⟨fun c => absurd (Eq.trans (Eq.symm e) c) (by decide : ¬ ((25 : Int) = 9)), fun _ => ⟨fun c => absurd (Eq.trans (Eq.symm e) c) (by decide : ¬ ((25 : Int) = 10)), fun _ => ⟨fun c => absurd (Eq.trans (Eq.symm e) c) (by decide : ¬ ((25 : Int) = 11)), fun _ => ⟨fun c => absurd (Eq.trans (Eq.symm e) c) (by decide : ¬ ((25 : Int) = 12)), fun _ => ⟨fun c => absurd (Eq.trans (Eq.symm e) c) (by decide : ¬ ((25 : Int) = 13)), fun _ => ⟨fun c => absurd (Eq.trans (Eq.symm e) c) (by decide : ¬ ((25 : Int) = 14)), fun _ => ⟨fun c => absurd (Eq.trans (Eq.symm e) c) (by decide : ¬ ((25 : Int) = 15)), fun _ => ⟨fun c => absurd (Eq.trans (Eq.symm e) c) (by decide : ¬ ((25 : Int) = 16)), fun _ => ⟨fun c => absurd (Eq.trans (Eq.symm e) c) (by decide : ¬ ((25 : Int) = 17)), fun _ => ⟨fun c => absurd (Eq.trans (Eq.symm e) c) (by decide : ¬ ((25 : Int) = 18)), fun _ => ⟨fun c => absurd (Eq.trans (Eq.symm e) c) (by decide : ¬ ((25 : Int) = 19)), fun _ => ⟨fun c => absurd (Eq.trans (Eq.symm e) c) (by decide : ¬ ((25 : Int) = 20)), fun _ => ⟨fun c => absurd (Eq.trans (Eq.symm e) c) (by decide : ¬ ((25 : Int) = 21)), fun _ => ⟨fun c => absurd (Eq.trans (Eq.symm e) c) (by decide : ¬ ((25 : Int) = 22)), fun _ => ⟨fun c => absurd (Eq.trans (Eq.symm e) c) (by decide : ¬ ((25 : Int) = 23)), fun _ => ⟨fun c => absurd (Eq.trans (Eq.symm e) c) (by decide : ¬ ((25 : Int) = 24)), fun _ => ⟨fun _ => ⟨⟨(h.2.2 c1).2.1.1, (h.2.2 c1).2.1.2.1⟩, ⟨⟨rfl, (h.2.2 c1).2.1.2.2.1, (h.2.2 c1).2.1.2.2.2.1⟩, ⟨⟨(h.2.2 c1).2.1.2.2.2.2.1, (h.2.2 c1).2.1.2.2.2.2.2.1⟩, ⟨⟨rfl, (h.2.2 c1).2.1.2.2.2.2.2.2.1, (h.2.2 c1).2.1.2.2.2.2.2.2.2⟩, ⟨rfl, (am_cI (h.2.2 c1).2.2 fun x2 s2 h2 => ⟨⟨(h.2.2 c1).2.1.1, (h.2.2 c1).2.1.2.1⟩, ⟨⟨rfl, (h.2.2 c1).2.1.2.2.1, (h.2.2 c1).2.1.2.2.2.1⟩, ⟨⟨(h.2.2 c1).2.1.2.2.2.2.1, (h.2.2 c1).2.1.2.2.2.2.2.1⟩, ⟨⟨rfl, (h.2.2 c1).2.1.2.2.2.2.2.2.1, (h.2.2 c1).2.1.2.2.2.2.2.2.2⟩, ⟨rfl, (am_cI h2 fun x3 s3 h3 => ⟨fun c4 => ⟨⟨(h3.1 c4).1.1, (h3.1 c4).1.2⟩, (h3.1 c4).2⟩, fun c4 => ⟨(Or.inl rfl), (h3.2 c4)⟩⟩)⟩⟩⟩⟩⟩)⟩⟩⟩⟩⟩, fun c => absurd e c⟩⟩⟩⟩⟩⟩⟩⟩⟩⟩⟩⟩⟩⟩⟩⟩⟩⟩⟩⟩⟩⟩⟩⟩⟩⟩⟩⟩⟩⟩)

theorem l_law25 (d : Nat) {L : Nat} {xs : Nat → Int} {σ : am_S} {c : Nat} {K : Int → am_S → Prop} {i : Int} (hI : INV xs σ c) (hc : c + 1 ≤ 600) (hL : L ≤ 3584) (h0 : 0 ≤ i) (h1 : (L : Int) - 7 < i → K 1 σ) (h2 : ¬ ((L : Int) - 7 < i) → ∀ t, INV xs t (c + 1) → am_Runs PP MLL (d + 30) m_L_law 10 [some (qr (0, 24, L)), some (qr (2, 11, 10)), some (qr (31, 12, 89)), some (qi (i + 7))] [] t (kI K)) (e : a_and (xs (Int.toNat i)) 63 = 25) : am_Runs PP MLL (d + 30) m_L_law 10 [some (qr (0, 24, L)), some (qr (2, 11, 10)), some (qr (31, 12, 89)), some (qi i)] [] σ (kI K) := by
  have hx := INV_xs hI
  have w : PR d xs m_C_node m_M_node [qi (xs (Int.toNat (i + 1))), qi (xs (Int.toNat (i + 2)))] σ c := p_node d hI hc
  unfold PR at w
  refine v_L_law25_10 (d + 22) L i σ K (by rw [hx]; exact e) ⟨by omega, fun c1 => h1 c1, fun c1 => ⟨by omega, by omega, ?_⟩⟩
  rw [hx]
  exact am_cI w (fun x s hs => by
    rw [hs.1]
    exact am_cI hs.2 (fun y t ht => ⟨fun _ => ⟨by omega, h2 c1 t ht.2⟩, fun e' => absurd ht.1 e'⟩))
