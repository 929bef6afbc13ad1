/-! the calls in pairs: judge -/
theorem v_C_judge_0 (d : Nat) (β μ κ ρ : Nat → Nat) (me : Nat → Nat → Nat) (aH nH aL nL aY nY aS nS n : Nat) (p1 p2 : Int) (σ : am_S) (K : Int → am_S → Prop) (hR : TR σ aH nH aL nL aY nY aS nS) (hB : BS σ β μ κ ρ me n) (h :
  ((p1 < 0 →
    K (-1001) σ) ∧
  (¬ (p1 < 0) →
    (((sI σ 2 5) ≤ p1 →
      K (-1001) σ) ∧
    (¬ ((sI σ 2 5) ≤ p1) →
      ((p2 < 1 →
        K (-1001) σ) ∧
      (¬ (p2 < 1) →
        ((p2 ≤ 6 →
          am_Calls PP MLL (d + 6) m_Jury_hasAll [qr (26, 1, 8), qi p2] σ (kI fun x5 s5 =>
            (TR s5 aH nH aL nL aY nY aS nS ∧ BS s5 β μ κ ρ me n) ∧
            ((x5 = 0 →
              K (-1002) s5) ∧
            (¬ (x5 = 0) →
              (0 ≤ p1 ∧ p1 < 12 ∧ (Int.toNat p1) < n) ∧
              am_Calls PP MLL (d + 6) m_Balance_isWhole [qr (β (Int.toNat p1), 0, 9), qi p2] s5 (kI fun x7 s7 =>
                (TR s7 aH nH aL nL aY nY aS nS ∧ BS s7 β μ κ ρ me n) ∧
                ((x7 = 0 →
                  am_Calls PP MLL (d + 6) m_C_found [qr (2, 11, 10), qi p1, qi 1] s7 (kI fun x9 s9 =>
                    (TR s9 aH nH aL nL aY nY aS nS ∧ BS s9 β μ κ ρ me n) ∧
                    K x9 s9)) ∧
                (¬ (x7 = 0) →
                  am_Calls PP MLL (d + 6) m_Jury_sentence [qr (26, 1, 8), qr (3, 9, 11), qr (β (Int.toNat p1), 0, 9), qi p2] s7 (kI fun x10 s10 =>
                    (TR s10 aH nH aL nL aY nY aS nS ∧ BS s10 β μ κ ρ me n) ∧
                    K x10 s10)))))))) ∧
        (¬ (p2 ≤ 6) →
          K (-1001) σ))))))))) : am_Runs PP MLL (d + 6) m_C_judge 0 [some (qr (2, 11, 10)), some (qi p1), some (qi p2)] [] σ (kI K) := am_wEF_ok (orc [(13, 26, 1, 8), (20, 9, 22, 12), (22, β (Int.toNat p1), 0, 9), (32, 26, 1, 8), (34, 3, 9, 11), (36, 9, 22, 12), (38, β (Int.toNat p1), 0, 9)]) 200 (⟨rfl, am_wEF_ok (orc []) 200 (⟨fun c1 => ⟨(Or.inl rfl), ⟨fun _ => (h.1 c1), fun c => absurd (by decide : (0 : Int) = 0) c⟩⟩, fun c1 => ⟨rfl, ⟨fun c2 => ⟨(Or.inl rfl), ⟨fun _ => ((h.2 c1).1 c2), fun c => absurd (by decide : (0 : Int) = 0) c⟩⟩, fun c2 => ⟨(Or.inr rfl), ⟨fun c => absurd c (by decide : ¬ ((1 : Int) = 0)), fun _ => ⟨fun c3 => (((h.2 c1).2 c2).1 c3), fun c3 => ⟨fun c4 => ⟨⟨rfl, (hR.1 2 4 _ rfl)⟩, ⟨rfl, (am_cI ((((h.2 c1).2 c2).2 c3).1 c4) fun x5 s5 h5 => ⟨fun c6 => (h5.2.1 c6), fun c6 => ⟨⟨rfl, (h5.1.1.1 2 1 _ rfl)⟩, ⟨⟨rfl, (h5.2.2 c6).1.1, (h5.2.2 c6).1.2.1, (h5.1.2 (Int.toNat p1) (h5.2.2 c6).1.2.2).1⟩, ⟨rfl, (am_cI (h5.2.2 c6).2 fun x7 s7 h7 => ⟨fun c8 => ⟨rfl, (am_cI (h7.2.1 c8) fun x9 s9 h9 => h9.2)⟩, fun c8 => ⟨⟨rfl, (h7.1.1.1 2 4 _ rfl)⟩, ⟨⟨rfl, (h7.1.1.1 2 0 _ rfl)⟩, ⟨⟨rfl, (h7.1.1.1 2 1 _ rfl)⟩, ⟨⟨rfl, (h5.2.2 c6).1.1, (h5.2.2 c6).1.2.1, (h7.1.2 (Int.toNat p1) (h5.2.2 c6).1.2.2).1⟩, ⟨rfl, (am_cI (h7.2.2 c8) fun x10 s10 h10 => h10.2)⟩⟩⟩⟩⟩⟩)⟩⟩⟩⟩)⟩⟩, fun c4 => ((((h.2 c1).2 c2).2 c3).2 c4)⟩⟩⟩⟩⟩⟩⟩)⟩)

theorem v_M_judgeT_0 (d : Nat) (p1 p2 : Int) (σ : am_S) (K : Int → am_S → Prop) (hF : MF σ) (hT : sI σ 31 26 = 0) (h :
  (-2147483648 ≤ (sI σ 31 16) - 1 ∧ (sI σ 31 16) - 1 < 2147483648) ∧
  ((p1 < 0 →
    K (-1001) σ) ∧
  (¬ (p1 < 0) →
    ((((sI σ 31 16) - 1) < p1 →
      K (-1001) σ) ∧
    (¬ (((sI σ 31 16) - 1) < p1) →
      ((p2 < 1 →
        K (-1001) σ) ∧
      (¬ (p2 < 1) →
        ((6 < p2 →
          K (-1001) σ) ∧
        (¬ (6 < p2) →
          am_Runs PP MLL (d + 3) m_M_judge 13 [some (qr (31, 12, 89)), some (qi p1), some (qi p2), some (qi 0), none, none, none] [] σ (kI K)))))))))) : am_Runs PP MLL (d + 3) m_M_judge 0 [some (qr (31, 12, 89)), some (qi p1), some (qi p2), none, none, none, none] [] σ (kI K) := am_wEF_ok (orc []) 200 (⟨rfl, am_wEF_ok (orc []) 200 (⟨rfl, ⟨⟨h.1.1, h.1.2⟩, am_wEF_ok (orc []) 200 (⟨fun c1 => ⟨(Or.inl rfl), ⟨(Or.inl rfl), ⟨fun _ => (h.2.1 c1), fun c => absurd (by decide : (0 : Int) = 0) c⟩⟩⟩, fun c1 => ⟨fun c2 => ⟨(Or.inl rfl), ⟨(Or.inl rfl), ⟨fun _ => ((h.2.2 c1).1 c2), fun c => absurd (by decide : (0 : Int) = 0) c⟩⟩⟩, fun c2 => ⟨(Or.inr rfl), ⟨(Or.inr rfl), ⟨fun c => absurd c (by decide : ¬ ((1 : Int) = 0)), fun _ => am_wEF_ok (orc []) 200 (⟨fun c3 => ⟨(Or.inl rfl), ⟨fun _ => (((h.2.2 c1).2 c2).1 c3), fun c => absurd (by decide : (0 : Int) = 0) c⟩⟩, fun c3 => ⟨fun c4 => ⟨(Or.inl rfl), ⟨fun _ => ((((h.2.2 c1).2 c2).2 c3).1 c4), fun c => absurd (by decide : (0 : Int) = 0) c⟩⟩, fun c4 => ⟨(Or.inr rfl), ⟨fun c => absurd c (by decide : ¬ ((1 : Int) = 0)), fun _ => ((((h.2.2 c1).2 c2).2 c3).2 c4)⟩⟩⟩⟩)⟩⟩⟩⟩⟩)⟩⟩)⟩)

theorem v_M_judgeT_13 (d : Nat) (p1 p2 v3 : Int) (z4 z5 z6 : Option am_V) (σ : am_S) (K : Int → am_S → Prop) (hF : MF σ) (hT : sI σ 31 26 = 0) (h :
  ((p2 ≤ v3 →
    (0 ≤ p1 ∧ p1 < 12) ∧
    ((0 ≤ (sI σ 41 (Int.toNat p1)) →
      am_Runs PP MLL (d + 3) m_M_judge 33 [some (qr (31, 12, 89)), some (qi p1), some (qi p2), some (qi 1), some (qi 0), z5, z6] [] σ (kI K)) ∧
    (¬ (0 ≤ (sI σ 41 (Int.toNat p1))) →
      am_Runs PP MLL (d + 3) m_M_judge 33 [some (qr (31, 12, 89)), some (qi p1), some (qi p2), some (qi 0), some (qi 0), z5, z6] [] σ (kI K)))) ∧
  (¬ (p2 ≤ v3) →
    (0 ≤ v3 ∧ v3 < 6) ∧
    (((a_cmp (sI σ 83 (Int.toNat v3)) 0) = 0 →
      K (-1002) σ) ∧
    (¬ ((a_cmp (sI σ 83 (Int.toNat v3)) 0) = 0) →
      (-2147483648 ≤ v3 + 1 ∧ v3 + 1 < 2147483648) ∧
      am_Runs PP MLL (d + 3) m_M_judge 13 [some (qr (31, 12, 89)), some (qi p1), some (qi p2), some (qi (v3 + 1)), z4, z5, z6] [] σ (kI K)))))) : am_Runs PP MLL (d + 3) m_M_judge 13 [some (qr (31, 12, 89)), some (qi p1), some (qi p2), some (qi v3), z4, z5, z6] [] σ (kI K) := am_wEF_ok (orc [(17, 83, 21, 6)]) 200 (⟨fun c1 => ⟨rfl, c_M_isThere _ hF (h.1 c1).1.1 (h.1 c1).1.2 (fun c2 => ((h.1 c1).2.1 c2)) (fun c2 => ((h.1 c1).2.2 c2))⟩, fun c1 => ⟨⟨rfl, (hF 81)⟩, ⟨⟨rfl, (h.2 c1).1.1, (h.2 c1).1.2⟩, ⟨fun c3 => ((h.2 c1).2.1 c3), fun c3 => ⟨⟨((h.2 c1).2.2 c3).1.1, ((h.2 c1).2.2 c3).1.2⟩, ((h.2 c1).2.2 c3).2⟩⟩⟩⟩⟩)

theorem v_M_judgeT_33 (d : Nat) (p1 p2 v3 v4 : Int) (z5 z6 : Option am_V) (σ : am_S) (K : Int → am_S → Prop) (hF : MF σ) (hT : sI σ 31 26 = 0) (h :
  ((v3 = 0 →
    am_Calls PP MLL (d + 3) m_M_finds [qr (31, 12, 89), qi p1, qi 1] σ (kI fun x6 s6 =>
      (MF s6 ∧ sI s6 31 26 = 0) ∧
      K x6 s6)) ∧
  (¬ (v3 = 0) →
    (0 ≤ p1 ∧ p1 < 12) ∧
    (((sI σ 41 (Int.toNat p1)) = 6 →
      ((p2 ≤ v4 →
        am_Runs PP MLL (d + 3) m_M_judge 77 [some (qr (31, 12, 89)), some (qi p1), some (qi p2), some (qi v3), some (qi 0), z5, z6] [] (putI (putI σ 31 85 0) 31 86 0) (kI K)) ∧
      (¬ (p2 ≤ v4) →
        (-2147483648 ≤ 3 * p1 ∧ 3 * p1 < 2147483648 ∧ (sI σ 47 (Int.toNat p1)) ≠ 0 ∧ -2147483648 ≤ (3 * p1) + (Int.tmod v4 (sI σ 47 (Int.toNat p1))) ∧ (3 * p1) + (Int.tmod v4 (sI σ 47 (Int.toNat p1))) < 2147483648 ∧ 0 ≤ ((3 * p1) + (Int.tmod v4 (sI σ 47 (Int.toNat p1)))) ∧ ((3 * p1) + (Int.tmod v4 (sI σ 47 (Int.toNat p1)))) < 36) ∧
        (0 ≤ (sI σ 46 (Int.toNat ((3 * p1) + (Int.tmod v4 (sI σ 47 (Int.toNat p1)))))) ∧ (sI σ 46 (Int.toNat ((3 * p1) + (Int.tmod v4 (sI σ 47 (Int.toNat p1)))))) < 12) ∧
        ((0 ≤ (sI σ 41 (Int.toNat (sI σ 46 (Int.toNat ((3 * p1) + (Int.tmod v4 (sI σ 47 (Int.toNat p1)))))))) →
          (-2147483648 ≤ v4 + 1 ∧ v4 + 1 < 2147483648) ∧
          am_Runs PP MLL (d + 3) m_M_judge 33 [some (qr (31, 12, 89)), some (qi p1), some (qi p2), some (qi 1), some (qi (v4 + 1)), z5, z6] [] σ (kI K)) ∧
        (¬ (0 ≤ (sI σ 41 (Int.toNat (sI σ 46 (Int.toNat ((3 * p1) + (Int.tmod v4 (sI σ 47 (Int.toNat p1))))))))) →
          (-2147483648 ≤ v4 + 1 ∧ v4 + 1 < 2147483648) ∧
          am_Runs PP MLL (d + 3) m_M_judge 33 [some (qr (31, 12, 89)), some (qi p1), some (qi p2), some (qi 0), some (qi (v4 + 1)), z5, z6] [] σ (kI K)))))) ∧
    (¬ ((sI σ 41 (Int.toNat p1)) = 6) →
      am_Runs PP MLL (d + 3) m_M_judge 77 [some (qr (31, 12, 89)), some (qi p1), some (qi p2), some (qi v3), some (qi 0), z5, z6] [] (putI (putI σ 31 85 0) 31 86 0) (kI K)))))) : am_Runs PP MLL (d + 3) m_M_judge 33 [some (qr (31, 12, 89)), some (qi p1), some (qi p2), some (qi v3), some (qi v4), z5, z6] [] σ (kI K) := am_wEF_ok (orc [(36, 41, 20, 12), (46, 46, 20, 36), (52, 47, 20, 12)]) 200 (⟨fun c5 => ⟨fun _ => ⟨rfl, (am_cI (h.1 c5) fun x6 s6 h6 => h6.2)⟩, fun c => absurd c5 c⟩, fun c5 => ⟨⟨rfl, (hF 17)⟩, ⟨⟨rfl, (h.2 c5).1.1, (h.2 c5).1.2⟩, ⟨fun c10 => ⟨fun c13 => ⟨fun c => absurd c c5, fun _ => ⟨rfl, ⟨rfl, (((h.2 c5).2.1 c10).1 c13)⟩⟩⟩, fun c13 => ⟨⟨rfl, (hF 22)⟩, ⟨⟨(((h.2 c5).2.1 c10).2 c13).1.1, (((h.2 c5).2.1 c10).2 c13).1.2.1⟩, ⟨⟨rfl, (hF 23)⟩, ⟨⟨rfl, (h.2 c5).1.1, (h.2 c5).1.2⟩, ⟨(((h.2 c5).2.1 c10).2 c13).1.2.2.1, ⟨⟨(((h.2 c5).2.1 c10).2 c13).1.2.2.2.1, (((h.2 c5).2.1 c10).2 c13).1.2.2.2.2.1⟩, ⟨⟨rfl, (((h.2 c5).2.1 c10).2 c13).1.2.2.2.2.2.1, (((h.2 c5).2.1 c10).2 c13).1.2.2.2.2.2.2⟩, ⟨rfl, c_M_isThere _ hF (((h.2 c5).2.1 c10).2 c13).2.1.1 (((h.2 c5).2.1 c10).2 c13).2.1.2 (fun c14 => ⟨⟨((((h.2 c5).2.1 c10).2 c13).2.2.1 c14).1.1, ((((h.2 c5).2.1 c10).2 c13).2.2.1 c14).1.2⟩, ((((h.2 c5).2.1 c10).2 c13).2.2.1 c14).2⟩) (fun c14 => ⟨⟨((((h.2 c5).2.1 c10).2 c13).2.2.2 c14).1.1, ((((h.2 c5).2.1 c10).2 c13).2.2.2 c14).1.2⟩, ((((h.2 c5).2.1 c10).2 c13).2.2.2 c14).2⟩)⟩⟩⟩⟩⟩⟩⟩⟩⟩, fun c10 => ⟨fun c => absurd c c5, fun _ => ⟨rfl, ⟨rfl, ((h.2 c5).2.2 c10)⟩⟩⟩⟩⟩⟩⟩)

theorem l_jd (d : Nat) {b k nb : Nat} {σ : am_S} {K : Int → am_S → Prop} (hF : MF σ) (hT : sI σ 31 26 = 0) (hb : b < nb) (hn : nb ≤ 12) (qv : QV σ nb) (hk : k ≤ 6) (h1 : (∃ i, i < k ∧ sI σ 83 i = 0) → K (-1002) σ)
    (h2 : (∀ i, i < k → sI σ 83 i ≠ 0) → (sI σ 41 b < 0 ∨ (0 ≤ sI σ 41 b ∧ ∃ i, i < k ∧ sI σ 41 (wr σ b i) < 0)) → am_Calls PP MLL (d + 3) m_M_finds [qr (31, 12, 89), qi (b : Int), qi 1] σ (kI fun x6 s6 => (MF s6 ∧ sI s6 31 26 = 0) ∧ K x6 s6))
    (h3 : (∀ i, i < k → sI σ 83 i ≠ 0) → 0 ≤ sI σ 41 b → (sI σ 41 b = 6 → ∀ i, i < k → 0 ≤ sI σ 41 (wr σ b i)) → ∀ z3 z5 z6, am_Runs PP MLL (d + 3) m_M_judge 77 [some (qr (31, 12, 89)), some (qi (b : Int)), some (qi (k : Int)), z3, some (qi 0), z5, z6] [] (putI (putI σ 31 85 0) 31 86 0) (kI K)) (z4 z5 z6 : Option am_V) : am_Runs PP MLL (d + 3) m_M_judge 13 [some (qr (31, 12, 89)), some (qi (b : Int)), some (qi (k : Int)), some (qi 0), z4, z5, z6] [] σ (kI K) := by
  have second : (∀ i, i < k → sI σ 83 i ≠ 0) → 0 ≤ sI σ 41 b → ∀ j i : Nat, i + j = k → (sI σ 41 b = 6 → ∀ q, q < i → 0 ≤ sI σ 41 (wr σ b q)) → ∀ z5 z6, am_Runs PP MLL (d + 3) m_M_judge 33 [some (qr (31, 12, 89)), some (qi (b : Int)), some (qi (k : Int)), some (qi 1), some (qi (i : Int)), z5, z6] [] σ (kI K) := by
    intro ha h0 j
    induction j with
    | zero =>
      intro i hi hq z5 z6
      refine v_M_judgeT_33 d (b : Int) (k : Int) 1 (i : Int) z5 z6 σ K hF hT ?_
      rw [Int.toNat_natCast]
      exact ⟨fun q => absurd q (by decide), fun _ => ⟨by omega, fun e6 => ⟨fun _ => h3 ha h0 (fun e6 q hq' => hq e6 q (by omega)) _ _ _, fun q => by omega⟩, fun e6 => h3 ha h0 (fun q => absurd q e6) _ _ _⟩⟩
    | succ j ih =>
      intro i hi hq z5 z6
      refine v_M_judgeT_33 d (b : Int) (k : Int) 1 (i : Int) z5 z6 σ K hF hT ?_
      rw [Int.toNat_natCast]
      refine ⟨fun q => absurd q (by decide), fun _ => ⟨by omega, fun e6 => ⟨fun q => by omega, fun _ => ?_⟩, fun e6 => h3 ha h0 (fun q => absurd q e6) _ _ _⟩⟩
      obtain ⟨v1, v2, v3⟩ := qv b hb e6
      obtain ⟨c, ec⟩ : ∃ c : Nat, sI σ 47 b = c := ⟨(sI σ 47 b).toNat, by omega⟩
      have hm : i % c < c := Nat.mod_lt _ (by omega)
      have em : Int.tmod (i : Int) (c : Int) = ((i % c : Nat) : Int) := by
        rw [Int.tmod_eq_emod_of_nonneg (by omega)]
        omega
      have ew : wr σ b i = (sI σ 46 (3 * b + i % c)).toNat := by
        unfold wr
        rw [if_pos e6, ec, Int.toNat_natCast]
      obtain ⟨u1, u2⟩ := v3 (i % c) (by omega)
      rw [ec, em, show (3 * (b : Int) + ((i % c : Nat) : Int)).toNat = 3 * b + i % c by omega, ← ew]
      refine ⟨⟨by omega, by omega, by omega, by omega, by omega, by omega, by omega⟩, by omega, fun h => ⟨by omega, ?_⟩, fun h => ⟨by omega, ?_⟩⟩
      · exact ih (i + 1) (by omega) (fun e6 q hq' => by
          by_cases e : q = i
          · rw [e]; exact h
          · exact hq e6 q (by omega)) _ _
      · exact v_M_judgeT_33 d (b : Int) (k : Int) 0 _ _ _ σ K hF hT ⟨fun _ => h2 ha (Or.inr ⟨h0, i, by omega, by omega⟩), fun q => absurd rfl q⟩
  have first : ∀ j i : Nat, i + j = k → (∀ q, q < i → sI σ 83 q ≠ 0) → ∀ z4 z5 z6, am_Runs PP MLL (d + 3) m_M_judge 13 [some (qr (31, 12, 89)), some (qi (b : Int)), some (qi (k : Int)), some (qi (i : Int)), z4, z5, z6] [] σ (kI K) := by
    intro j
    induction j with
    | zero =>
      intro i hi hq z4 z5 z6
      have ha : ∀ q, q < k → sI σ 83 q ≠ 0 := fun q hq' => hq q (by omega)
      refine v_M_judgeT_13 d (b : Int) (k : Int) (i : Int) z4 z5 z6 σ K hF hT ⟨fun _ => ⟨by omega, ?_⟩, fun q => by omega⟩
      rw [Int.toNat_natCast]
      refine ⟨fun h => second ha h k 0 (by omega) (fun _ q hq' => absurd hq' (Nat.not_lt_zero q)) _ _, fun h => ?_⟩
      exact v_M_judgeT_33 d (b : Int) (k : Int) 0 _ _ _ σ K hF hT ⟨fun _ => h2 ha (Or.inl (by omega)), fun q => absurd rfl q⟩
    | succ j ih =>
      intro i hi hq z4 z5 z6
      refine v_M_judgeT_13 d (b : Int) (k : Int) (i : Int) z4 z5 z6 σ K hF hT ?_
      rw [Int.toNat_natCast, cmp0]
      refine ⟨fun q => by omega, fun _ => ⟨by omega, fun z => h1 ⟨i, by omega, z⟩, fun z => ⟨by omega, ?_⟩⟩⟩
      exact ih (i + 1) (by omega) (fun q hq' => by
        by_cases e : q = i
        · rw [e]; exact z
        · exact hq q (by omega)) _ _ _
  exact first k 0 (by omega) (fun q hq => absurd hq (Nat.not_lt_zero q)) _ _ _
theorem jr_cg {s σ : am_S} {b t : Nat} (h : ∀ x, 31 < x → x < 85 → sI s x = sI σ x) : ∀ k, jr s b t k = jr σ b t k
  | 0 => rfl
  | k + 1 => by
    show 7 * jr s b t k + tl (sI s 41 (wr s b k)) (jd s k t) + 3 = 7 * jr σ b t k + tl (sI σ 41 (wr σ b k)) (jd σ k t) + 3
    rw [jr_cg h k]
    unfold wr jd
    rw [h 41 (by decide) (by decide), h 46 (by decide) (by decide), h 47 (by decide) (by decide), h 83 (by decide) (by decide), h 84 (by decide) (by decide), h 33 (by decide) (by decide), h 34 (by decide) (by decide), h 35 (by decide) (by decide)]
/-- whole as far as turn k, in both -/
theorem IB_whk {σ : am_S} {own β μ κ ρ : Nat → Nat} {me : Nat → Nat → Nat} {n c b k : Nat} (h : IB σ own β μ κ ρ me n c) (hb : b < n) : (sI σ (β b) 6 = 0 → (∀ i, i < κ b → i < k → sI σ (β (me b i)) 6 = 0) → 0 ≤ sI σ 41 b ∧ ∀ i, i < k → 0 ≤ sI σ 41 (wr σ b i) ∧ sI σ 41 (wr σ b i) = sI σ (β (cw κ me b i)) 0) ∧ ((sI σ (β b) 6 ≠ 0 ∨ ∃ i, i < κ b ∧ i < k ∧ sI σ (β (me b i)) 6 ≠ 0) → sI σ 41 b < 0 ∨ (0 ≤ sI σ 41 b ∧ sI σ 41 b = 6 ∧ ∃ i, i < k ∧ sI σ 41 (wr σ b i) < 0)) := by
  have wrr := fun i => IB_wr h hb i
  obtain ⟨a1, a2, a3, ⟨n12, a4, a5⟩, bd, a6, a7, a8, a9, a10⟩ := h
  obtain ⟨d1, d2, d3, d4, d5, d6, d7, d8, d9⟩ := bd b hb
  constructor
  · intro t0 tm
    rw [if_pos t0] at d3
    refine ⟨by omega, fun i hi => ?_⟩
    obtain ⟨_, hc, ew, en, eq⟩ := wrr i
    rw [ew (by omega)]
    by_cases e : sI σ (β b) 0 = 6
    · obtain ⟨v1, v2, v3, v4, v5⟩ := d9 e
      have hm : i % κ b < κ b := Nat.mod_lt _ (by omega)
      have hl : i % κ b ≤ i := Nat.mod_le _ _
      have ec : cw κ me b i = me b (i % κ b) := by unfold cw; rw [if_neg (by omega)]
      obtain ⟨f1, f2, f3, _⟩ := bd _ hc
      rw [ec] at f1 f3 ⊢
      rw [f3, if_pos (tm _ hm (by omega))]
      exact ⟨f1.1, rfl⟩
    · rw [en e, d3]
      exact ⟨d1.1, rfl⟩
  · intro hh
    by_cases t0 : sI σ (β b) 6 = 0
    · rw [if_pos t0] at d3
      rcases hh with q | ⟨i, i1, i2, i3⟩
      · exact absurd t0 q
      · have e : sI σ (β b) 0 = 6 := Classical.byContradiction fun q => by
          have := (d8 q).1
          omega
        obtain ⟨_, hc, ew, en, eq⟩ := wrr i
        have ec : cw κ me b i = me b i := by
          unfold cw
          rw [if_neg (by omega), Nat.mod_eq_of_lt i1]
        obtain ⟨f1, f2, f3, _⟩ := bd _ hc
        rw [ec] at f3
        rw [if_neg i3] at f3
        exact Or.inr ⟨by omega, by omega, i, i2, by rw [ew (by omega), ec, f3]; decide⟩
    · rw [if_neg t0] at d3
      exact Or.inl (by omega)
theorem p_judge (d : Nat) {xs : Nat → Int} {c : Nat} {σ : am_S} {p1 p2 : Int} (hI : INV xs σ c) (hc : c + 1 ≤ 600) : PR d xs m_C_judge m_M_judge [qi p1, qi p2] σ c := by
  have hs := INV_s hI hc
  obtain ⟨own, β, μ, κ, ρ, me, n, aH, nH, aL, nL, aY, nY, aS, nS, N, l, m, T, W, kd, aR, nR, aV, nV, aI, nI, aQ, nQ, g, w, hx⟩ := hI
  have hx0 := hx
  obtain ⟨⟨hF, hab, hxs⟩, it, il, ib, im, ij, sc, rz, is, ir, hc6⟩ := hx
  have it0 := it
  obtain ⟨hR, ow, ti, kt, ks, ⟨w1, w2, w3, w4, w5, w6, w7, w8⟩, ⟨l1, l2, l3, l4⟩, lz, ⟨q1, q2, q3, q4⟩, h87⟩ := it
  have o1 := ow.1
  have ib0 := ib
  obtain ⟨a1, a2, a3, ⟨n12, a4, a5⟩, bd, a6, a7, a8, a9, a10⟩ := ib
  obtain ⟨m1, ⟨m2, T26⟩, m3, m4, m5, m6⟩ := im
  have tN := ti.2.2.2.2.1
  have tT := ti.2.2.2.2.2.2.1
  have T4 := ti.2.2.2.2.2.2.2.2.1
  have nB : ∀ b, b < n → ∀ x, x < 87 → x ≠ β b := fun b hb x hx' e => by
    have := (a2 b hb).1
    rw [← e, o1 x hx'] at this
    omega
  have fd : ∀ (b : Nat) (f : Int) (K : Int → am_S → Prop) (e : Nat), b < n → 0 ≤ f ∧ f ≤ 6 → (TR (fdC σ β b f) aH nH aL nL aY nY aS nS → BS (fdC σ β b f) β μ κ ρ me n → K (-1010 - f) (fdC σ β b f)) → am_Calls PP MLL (e + 1) m_C_found [qr (2, 11, 10), qi (b : Int), qi f] σ (kI K) := fun b f K e hb hf h => c_found e hR.1 a1 n12 hb (nB b hb 2 (by decide)).symm (by omega) (by omega) (h (TR_2 fdC_2 hR) (BS_2 fdC_2 a1))
  have fe : ∀ (b : Nat) (f : Int) (e : Nat), b < n → 0 ≤ f ∧ f ≤ 6 → am_Calls PP MLL (e + 2) m_M_finds [qr (31, 12, 89), qi (b : Int), qi f] (fdC σ β b f) (kI fun x s => (MF s ∧ sI s 31 26 = 0) ∧ -1010 - f = x ∧ INV xs s (c + 1)) := fun b f e hb hf => by
    have e31 : sI (fdC σ β b f) 31 = sI σ 31 := fdC_o (by decide) (nB b hb 31 (by decide))
    refine c_M_finds e (MF_I hF fdC_2) (by omega) (by omega) (by rw [e31]; omega) ⟨⟨MF_I hF (show (mFinds (fdC σ β b f) b f).2 = σ.2 from fdC_2), by rw [mF_31, if_neg (by decide), if_neg (by decide), e31]; exact T26⟩, rfl, INV_fd hx0 hc hb hf⟩
  have fx : ∀ b f, b < n → sI (fdC σ β b f) 0 = xs := fun b f hb => by rw [fdC_o (by decide) (nB b hb 0 (by decide))]; exact hxs
  have fr : ∀ b f x, b < n → x < 87 → x ≠ 2 → sI (fdC σ β b f) x = sI σ x := fun b f x hb hx' h2 => fdC_o h2 (nB b hb x hx')
  have ij0 := ij
  obtain ⟨j1, j2, j3, j4, j5, j6, j7, j8, j9, j10, j11, j12, j13, j14, j15⟩ := ij
  have bad : (p1 < 0 ∨ (n : Int) ≤ p1 ∨ p2 < 1 ∨ 6 < p2) → am_Calls PP MLL (d + 30) m_M_judge [qr (31, 12, 89), qi p1, qi p2] σ (kI fun y t => -1001 = y ∧ INV xs t (c + 1)) := by
    intro hp
    refine v_M_judgeT_0 (d + 26) p1 p2 σ _ hF T26 ?_
    rw [a5]
    exact ⟨by omega, fun c1 => ⟨rfl, hs⟩, fun c1 => ⟨fun c2 => ⟨rfl, hs⟩, fun c2 => ⟨fun c3 => ⟨rfl, hs⟩, fun c3 => ⟨fun c4 => ⟨rfl, hs⟩, fun c4 => by omega⟩⟩⟩⟩
  refine v_C_judge_0 (d + 23) β μ κ ρ me aH nH aL nL aY nY aS nS n p1 p2 σ _ hR a1 ?_
  rw [a4]
  refine ⟨fun c1 => ⟨hxs, bad (by omega)⟩, fun c1 => ⟨fun c2 => ⟨hxs, bad (by omega)⟩, fun c2 => ⟨fun c3 => ⟨hxs, bad (by omega)⟩, fun c3 => ⟨fun c4 => ?_, fun c4 => ⟨hxs, bad (by omega)⟩⟩⟩⟩⟩
  obtain ⟨b, eb⟩ : ∃ b : Nat, p1 = b := ⟨p1.toNat, by omega⟩
  obtain ⟨k, ek⟩ : ∃ k : Nat, p2 = k := ⟨p2.toNat, by omega⟩
  subst eb
  subst ek
  have hb : b < n := by omega
  have hk : k ≤ 6 := by omega
  rw [Int.toNat_natCast]
  have qv := IB_QV ib0
  have wh := IB_whk (k := k) ib0 hb
  have kb := (IB_wr ib0 hb 0).1
  have e27 : ∀ i, i < k → sI σ 27 i = sI σ 83 i := fun i hi => (j11 i (by omega)).1
  have ref : ∀ (st : am_S) (K : Int → am_S → Prop), MF st → (∀ x, 31 ≤ x → x < 87 → sI st x = sI σ x) → ((∃ i, i < k ∧ sI σ 83 i = 0) → K (-1002) st) → ((∀ i, i < k → sI σ 83 i ≠ 0) → (sI σ 41 b < 0 ∨ (0 ≤ sI σ 41 b ∧ ∃ i, i < k ∧ sI σ 41 (wr σ b i) < 0)) → am_Calls PP MLL (d + 29) m_M_finds [qr (31, 12, 89), qi (b : Int), qi 1] st (kI fun x6 s6 => (MF s6 ∧ sI s6 31 26 = 0) ∧ K x6 s6)) → ((∀ i, i < k → sI σ 83 i ≠ 0) → 0 ≤ sI σ 41 b → (sI σ 41 b = 6 → ∀ i, i < k → 0 ≤ sI σ 41 (wr σ b i)) → K (al (sI st 37) (fun t => jr st b t k) T T) (mJudge st (fun t => jr st b t k) T)) → am_Calls PP MLL (d + 30) m_M_judge [qr (31, 12, 89), qi (b : Int), qi (k : Int)] st (kI K) := by
    intro st K f1 fr k1 k2 k3
    have f31 := fr 31 (by decide) (by decide)
    have f41 := fr 41 (by decide) (by decide)
    have f83 := fr 83 (by decide) (by decide)
    have qvs : QV st n := by unfold QV at qv ⊢; rw [f41, fr 46 (by decide) (by decide), fr 47 (by decide) (by decide)]; exact qv
    have wrs : ∀ i, wr st b i = wr σ b i := fun i => by unfold wr; rw [f41, fr 46 (by decide) (by decide), fr 47 (by decide) (by decide)]
    have T26s : sI st 31 26 = 0 := by rw [f31]; exact T26
    refine v_M_judgeT_0 (d + 26) (b : Int) (k : Int) st _ f1 T26s ?_
    rw [f31, a5]
    refine ⟨by omega, fun c1 => by omega, fun c1 => ⟨fun c2 => by omega, fun c2 => ⟨fun c3 => by omega, fun c3 => ⟨fun c4 => by omega, fun c4 => ?_⟩⟩⟩⟩
    refine l_jd (d + 26) f1 T26s hb n12 qvs hk (by rw [f83]; exact k1) (fun h1 h2 => k2 (by rw [f83] at h1; exact h1) (by rw [f41] at h2; simp only [wrs] at h2; exact h2)) (fun h1 h2 h3 z3 z5 z6 => ?_) _ _ _
    rw [f83] at h1
    rw [f41] at h2 h3
    simp only [wrs] at h3
    refine l_M_judge (d + 26) (b := b) (m := n) (k := k) (n := T) f1 T26s n12 hb qvs hk (by rw [f31]; exact tT) T4 (fun t ht => by rw [fr 33 (by decide) (by decide), fr 34 (by decide) (by decide), fr 35 (by decide) (by decide)]; exact TI_40 ti ht) (by rw [f83, fr 84 (by decide) (by decide)]; exact j12) (by rw [fr 85 (by decide) (by decide)]; exact j10) (k3 h1 h2 h3) z3 z5 z6
  refine c_hasAll (d + 28) hR a1 hk (fun ha => ⟨⟨hR, a1⟩, fun q => absurd q (by decide), fun _ => ⟨by omega, ?_⟩⟩) (fun ⟨i, hi, z⟩ => ⟨⟨hR, a1⟩, fun _ => ⟨hxs, ref σ _ hF (fun _ _ _ => rfl) (fun _ => ⟨rfl, hs⟩) (fun h _ => absurd (by rw [← e27 i hi]; exact z) (h i hi)) (fun h _ _ => absurd (by rw [← e27 i hi]; exact z) (h i hi))⟩, fun q => absurd rfl q⟩)
  have ha' : ∀ i, i < k → sI σ 83 i ≠ 0 := fun i hi => by rw [← e27 i hi]; exact ha i hi
  refine c_isWhole (t := k) (d + 28) a1 hb kb (fun t0 tm => ⟨⟨hR, a1⟩, fun q => absurd q (by decide), fun _ => ?_⟩) (fun hh => ⟨⟨hR, a1⟩, fun _ => ?_, fun q => absurd rfl q⟩)
  · obtain ⟨h41, hw⟩ := wh.1 t0 tm
    have jh : JH σ β κ me b n k := fun i hi => by
      obtain ⟨_, hc', ew, en, eq⟩ := IB_wr ib0 hb i
      obtain ⟨x1, x2, x3, x4⟩ := j12 i
      have y := j11 i (by omega)
      obtain ⟨f1, f2, f3, f4, f5, f6, f7, f8, f9⟩ := bd _ hc'
      have k6 : sI σ (β (cw κ me b i)) 0 ≠ 6 := by
        by_cases e : sI σ (β b) 0 = 6
        · exact (eq e).2
        · rw [en e]; exact e
      rw [y.1, y.2]
      exact ⟨hc', (f8 k6).2, x1, x2, x3, x4, j13 i⟩
    have sm' : same (fun t => cr σ β κ me b t k) (fun t => jr σ b t k) T := cr_jr (fun t ht => TI_40 ti ht) k jh (fun i hi => ⟨(j11 i (by omega)).1, (j11 i (by omega)).2, (hw i hi).2⟩)
    refine c_sentence (d + 23) hR a1 ow a2 h87 a3 ⟨q1, q2, q3, q4⟩ hb kb ti kt ks w3 l1 l2 l4 m2 j1 j2 j3 j4 j5 j6 j7 j8 j9 hk jh (fun s own' aR' nR' aV' nV' js => ?_)
    obtain ⟨s1, s2, s3, s4, s5, s6, s7, ⟨s8, s9, s10, s11⟩, s12, s13, s14, s15, s16, s17, s18, s19⟩ := js
    have sl : ∀ x, x < 87 → ¬ (x = 26 ∨ x = 29 ∨ x = 30) → sI s x = sI σ x := fun x hx' hn => s12 x (by omega) (by rw [o1 x hx']; omega) (by rw [o1 x hx']; omega) (by omega)
    have CFs : CF s := CF_fr hR.1 (fun a j q1 q2 q3 q4 q5 q6 q7 q8 q9 => by
      by_cases e : a = 26
      · rw [e]; exact s14 j (by have := q5 e; omega) (by have := q5 e; omega)
      · exact s13 a (by omega) e j)
    have nhi : ∀ x, x < sN σ → 1000 ≤ own x → x ≠ 26 := fun x hx' h e => by rw [e, o1 26 (by decide)] at h; omega
    refine ⟨TB_run n12 CFs hR a1 a2 a3 o1 h87 (fun x hx' hr j => s13 x hx' (fun e => by rw [e, o1 26 (by decide)] at hr; omega) j), by rw [sl 0 (by decide) (by omega)]; exact hxs, ?_⟩
    have Fs : MF s := fun j => by rw [s13 31 (by omega) (by decide)]; exact hF j
    refine ref s _ Fs (fun x x1 x2 => sl x x2 (by omega)) (fun ⟨i, hi, z⟩ => absurd z (ha' i hi)) (fun _ q => ?_) (fun _ _ _ => ?_)
    · rcases q with q | ⟨_, i, hi, q⟩
      · omega
      · have := (hw i hi).1
        omega
    have ejr : (fun t => jr s b t k) = fun t => jr σ b t k := by
      funext t
      exact jr_cg (fun x x1 x2 => sl x (by omega) (by omega)) k
    have s37 := sl 37 (by decide) (by omega)
    rw [ejr, s37]
    refine ⟨al_same sm' T (Nat.le_refl _), ?_⟩
    obtain ⟨t, et⟩ : ∃ t, t = mJudge s (fun t => jr σ b t k) T := ⟨_, rfl⟩
    rw [← et]
    have t2 : t.2 = s.2 := by rw [et]; rfl
    obtain ⟨tr', tN', tU'⟩ := R2 t2
    have tI : ∀ x, x ≠ 31 → x ≠ 85 → x ≠ 86 → sI t x = sI s x := fun x h1 h2 h3 => by
      rw [et]
      unfold mJudge JS
      rw [put_ne h1, put_ne h1, put_ne h1, put_ne h1, row_ne h2, row_ne h3]
    have t31 : ∀ j, sI t 31 j = if j = 83 then 1 else if j = 84 then sh (sI s 37) (fun t => jr σ b t k) T T else if j = 86 then lg (sI s 37) (fun t => jr σ b t k) T else if j = 85 then un (sI s 37) (fun t => jr σ b t k) T else sI s 31 j := fun j => by
      rw [et]
      unfold mJudge JS
      rw [put_at, put_at, put_at, put_at, row_ne (by decide), row_ne (by decide)]
    have t85 : ∀ v, sI t 85 v = 0 := fun v => by
      rw [et]
      unfold mJudge JS
      rw [put_ne (by decide), put_ne (by decide), put_ne (by decide), put_ne (by decide), row_at]
    have tlow : ∀ x, x < 87 → ¬ (x = 26 ∨ x = 29 ∨ x = 30) → x ≠ 31 → x ≠ 85 → x ≠ 86 → sI t x = sI σ x := fun x hx' h0 h1 h2 h3 => by rw [tI x h1 h2 h3, sl x hx' h0]
    have aVn : aV' ≠ 31 ∧ aV' ≠ 85 ∧ aV' ≠ 86 := by
      have o' : ∀ x, x < 87 → own' x = x := fun x hx' => by rw [s5 x (by omega)]; exact o1 x hx'
      exact ⟨fun e => by rw [e, o' 31 (by decide)] at s4; omega, fun e => by rw [e, o' 85 (by decide)] at s4; omega, fun e => by rw [e, o' 86 (by decide)] at s4; omega⟩
    refine INV_jury (own' := own') hx0 hc (by omega) s5 (fun x hx' r1 r2 => ?_) (fun x hx' hn j => by rw [tr', s13 x hx' hn]) (fun j hj => by rw [tr', s14 j (by omega) (by omega)]) (fun j hj => by rw [t31, if_neg (by omega), if_neg (by omega), if_neg (by omega), if_neg (by omega), sl 31 (by decide) (by omega)]) (aR' := aR') (nR' := nR') (aV' := aV') (nV' := nV') ?_ ?_
    · have e : ¬ (x < 87 ∧ own x ≠ x) := fun q => q.2 (o1 x q.1)
      rw [tI x (by omega) (by omega) (by omega), s12 x hx' (by omega) (by omega) (by omega)]
    · refine ⟨by rw [tr']; exact s1, by rw [tr']; exact s2, s3, s4, by omega, by omega, s18, s19, by rw [tI aV' aVn.1 aVn.2.1 aVn.2.2]; exact s7, t85, fun i hi => ?_, ?_, ?_, ?_, fun _ => ?_⟩
      · rw [tlow 27 (by decide) (by omega) (by decide) (by decide) (by decide), tlow 28 (by decide) (by omega) (by decide) (by decide) (by decide), tlow 83 (by decide) (by omega) (by decide) (by decide) (by decide), tlow 84 (by decide) (by omega) (by decide) (by decide) (by decide)]
        exact j11 i hi
      · rw [tlow 83 (by decide) (by omega) (by decide) (by decide) (by decide), tlow 84 (by decide) (by omega) (by decide) (by decide) (by decide)]
        exact j12
      · rw [tlow 83 (by decide) (by omega) (by decide) (by decide) (by decide), tlow 84 (by decide) (by omega) (by decide) (by decide) (by decide)]
        exact j13
      · rw [tI 26 (by decide) (by decide) (by decide), s8, t31, if_pos rfl]
        exact ⟨rfl, Or.inr rfl⟩
      · rw [tI 26 (by decide) (by decide) (by decide), s9, s10, s11, t31, t31, t31, if_neg (by decide), if_pos rfl, if_neg (by decide), if_neg (by decide), if_neg (by decide), if_pos rfl, if_neg (by decide), if_neg (by decide), if_pos rfl, s37]
        exact ⟨sh_same sm' T (Nat.le_refl _), un_same sm', lg_same sm' T (Nat.le_refl _)⟩
    · unfold IR at ir ⊢
      rw [tN', tU']
      omega
  · have hno := wh.2 hh
    refine fd b 1 _ (d + 28) hb (by omega) (fun t1 t2 => ⟨⟨t1, t2⟩, fx b 1 hb, ?_⟩)
    refine ref _ _ (MF_I hF fdC_2) (fun x x1 x2 => fr b 1 x hb x2 (by omega)) (fun ⟨i, hi, z⟩ => absurd z (ha' i hi)) (fun _ _ => fe b 1 (d + 27) hb (by omega)) (fun _ h1 h2 => ?_)
    rcases hno with q | ⟨_, q6, i, hi, q⟩
    · omega
    · have := h2 q6 i hi
      omega
