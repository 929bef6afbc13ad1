/-! the class: rows of weighings told ahead -/
def cdg (σ : am_S) (β κ : Nat → Nat) (me : Nat → Nat → Nat) (b k : Nat) : Int := 2 * sI σ (β (cw κ me b k)) 5 + 1
def ctl (σ : am_S) (β κ : Nat → Nat) (me : Nat → Nat → Nat) (b t k : Nat) : Int := tl (sI σ (β (cw κ me b k)) 0) (df (fun c => bt (sI σ 27 k).toNat c - bt (sI σ 28 k).toNat c) (sI σ 33) (sI σ 34) (sI σ 35) t)
/-- a row as one number -/
def cr (σ : am_S) (β κ : Nat → Nat) (me : Nat → Nat → Nat) (b t : Nat) : Nat → Int
  | 0 => 0
  | k + 1 => cdg σ β κ me b k * cr σ β κ me b t k + sI σ (β (cw κ me b k)) 5 + ctl σ β κ me b t k
def cpr (σ : am_S) (β κ : Nat → Nat) (me : Nat → Nat → Nat) (b : Nat) : Nat → Int
  | 0 => 1
  | k + 1 => cpr σ β κ me b k * cdg σ β κ me b k
/-- what judging needs of the balances and of the weighings told ahead -/
def JH (σ : am_S) (β κ : Nat → Nat) (me : Nat → Nat → Nat) (b n k : Nat) : Prop := ∀ i, i < k → cw κ me b i < n ∧ sI σ (β (cw κ me b i)) 5 = mo (sI σ (β (cw κ me b i)) 0) ∧ 0 ≤ sI σ 27 i ∧ sI σ 27 i < 1099511627776 ∧ 0 ≤ sI σ 28 i ∧ sI σ 28 i < 1099511627776 ∧ ∀ c, bt (sI σ 27 i).toNat c * bt (sI σ 28 i).toNat c = 0
theorem cr_bd {σ : am_S} {β κ : Nat → Nat} {me : Nat → Nat → Nat} {b n t : Nat} (hv : TVt (sI σ 33) (sI σ 34) (sI σ 35) 40 t) : ∀ k, JH σ β κ me b n k → 0 ≤ cr σ β κ me b t k ∧ cr σ β κ me b t k < cpr σ β κ me b k ∧ 1 ≤ cpr σ β κ me b k ∧ cpr σ β κ me b k ≤ 7 ^ k
  | 0, _ => by
    show (0 : Int) ≤ 0 ∧ (0 : Int) < 1 ∧ (1 : Int) ≤ 1 ∧ (1 : Int) ≤ 7 ^ 0
    decide
  | k + 1, h => by
    obtain ⟨i1, i2, i3, i4⟩ := cr_bd (β := β) (κ := κ) (me := me) (b := b) (n := n) hv k (fun i hi => h i (by omega))
    obtain ⟨j1, j2, j3⟩ := h k (by omega)
    have ht : -mo (sI σ (β (cw κ me b k)) 0) ≤ ctl σ β κ me b t k ∧ ctl σ β κ me b t k ≤ mo (sI σ (β (cw κ me b k)) 0) := tl_mo (df_bd hv (fun c => bt_pm _ _ c))
    rw [← j2] at ht
    have hm := mo_13 (sI σ (β (cw κ me b k)) 0)
    rw [← j2] at hm
    show 0 ≤ cdg σ β κ me b k * cr σ β κ me b t k + sI σ (β (cw κ me b k)) 5 + ctl σ β κ me b t k ∧ cdg σ β κ me b k * cr σ β κ me b t k + sI σ (β (cw κ me b k)) 5 + ctl σ β κ me b t k < cpr σ β κ me b k * cdg σ β κ me b k ∧ 1 ≤ cpr σ β κ me b k * cdg σ β κ me b k ∧ cpr σ β κ me b k * cdg σ β κ me b k ≤ 7 ^ (k + 1)
    rw [Int.pow_succ]
    have ed : cdg σ β κ me b k = 2 * sI σ (β (cw κ me b k)) 5 + 1 := rfl
    rcases hm with e | e
    · rw [e] at ed ht ⊢
      rw [ed]
      omega
    · rw [e] at ed ht ⊢
      rw [ed]
      omega
/-- two truths have one number just if they have one row -/
theorem cr_eq {σ : am_S} {β κ : Nat → Nat} {me : Nat → Nat → Nat} {b n t u : Nat} (hv : TVt (sI σ 33) (sI σ 34) (sI σ 35) 40 t) (hu : TVt (sI σ 33) (sI σ 34) (sI σ 35) 40 u) : ∀ k, JH σ β κ me b n k → (cr σ β κ me b t k = cr σ β κ me b u k ↔ ∀ i, i < k → ctl σ β κ me b t i = ctl σ β κ me b u i)
  | 0, _ => ⟨fun _ i hi => absurd hi (Nat.not_lt_zero i), fun _ => rfl⟩
  | k + 1, h => by
    have ih := cr_eq (β := β) (κ := κ) (me := me) (b := b) (n := n) hv hu k (fun i hi => h i (by omega))
    obtain ⟨j1, j2, j3⟩ := h k (by omega)
    have ht : -mo (sI σ (β (cw κ me b k)) 0) ≤ ctl σ β κ me b t k ∧ ctl σ β κ me b t k ≤ mo (sI σ (β (cw κ me b k)) 0) := tl_mo (df_bd hv (fun c => bt_pm _ _ c))
    have hs : -mo (sI σ (β (cw κ me b k)) 0) ≤ ctl σ β κ me b u k ∧ ctl σ β κ me b u k ≤ mo (sI σ (β (cw κ me b k)) 0) := tl_mo (df_bd hu (fun c => bt_pm _ _ c))
    rw [← j2] at ht hs
    have hm := mo_13 (sI σ (β (cw κ me b k)) 0)
    rw [← j2] at hm
    have ed : cdg σ β κ me b k = 2 * sI σ (β (cw κ me b k)) 5 + 1 := rfl
    have key : cdg σ β κ me b k * cr σ β κ me b t k + sI σ (β (cw κ me b k)) 5 + ctl σ β κ me b t k = cdg σ β κ me b k * cr σ β κ me b u k + sI σ (β (cw κ me b k)) 5 + ctl σ β κ me b u k ↔ cr σ β κ me b t k = cr σ β κ me b u k ∧ ctl σ β κ me b t k = ctl σ β κ me b u k := by
      rcases hm with e | e
      · rw [e] at ed ht hs ⊢
        rw [ed]
        omega
      · rw [e] at ed ht hs ⊢
        rw [ed]
        omega
    show cdg σ β κ me b k * cr σ β κ me b t k + sI σ (β (cw κ me b k)) 5 + ctl σ β κ me b t k = cdg σ β κ me b k * cr σ β κ me b u k + sI σ (β (cw κ me b k)) 5 + ctl σ β κ me b u k ↔ _
    rw [key, ih]
    constructor
    · rintro ⟨q1, q2⟩ i hi
      by_cases e : i = k
      · rw [e]; exact q2
      · exact q1 i (by omega)
    · intro q
      exact ⟨fun i hi => q i (by omega), q k (by omega)⟩
/-- what the rows' making leaves -/
def JR (σ s : am_S) (own own' : Nat → Nat) (nR nV aR' nR' aV' nV' T : Nat) (P : Int) : Prop :=
  sR s 26 6 = some (aR', 20, nR') ∧ sR s 26 7 = some (aV', 20, nV') ∧ own' aR' = 29 ∧ own' aV' = 30 ∧ (∀ x, x < sN σ → own' x = own x) ∧ (aR' < sN s ∧ aV' < sN s) ∧ (T ≤ nR' ∧ P ≤ nV') ∧ (∀ v, sI s aV' v = 0)
  ∧ (∀ x, x < sN σ → own x ≠ 29 → sI s x = sI σ x) ∧ (∀ x, x < sN σ → x ≠ 26 → ∀ j, sR s x j = sR σ x j) ∧ (∀ j, j ≠ 6 → j ≠ 7 → sR s 26 j = sR σ 26 j)
  ∧ sN σ ≤ sN s ∧ sN s + (nR + nV) ≤ sN σ + (nR' + nV') ∧ sU s + 2 * (nR + nV) ≤ sU σ + 2 * (nR' + nV') ∧ nR' ≤ 20000 ∧ nV' ≤ 235298
theorem own_upd {own : Nat → Nat} {a a' r N : Nat} (ha : own a = r) (h : a' = a ∨ N ≤ a') : ∀ x, x < N → (if x = a' then r else own x) = own x := by
  intro x hx
  by_cases e : x = a'
  · rw [if_pos e]
    rcases h with q | q
    · rw [e, q, ha]
    · omega
  · rw [if_neg e]
theorem BS_fr {σ s : am_S} {β μ κ ρ : Nat → Nat} {me : Nat → Nat → Nat} {n : Nat} (hB : BS σ β μ κ ρ me n) (h9 : ∀ b, b < n → sR s 9 b = sR σ 9 b) (h : ∀ b, b < n → ∀ j, sR s (β b) j = sR σ (β b) j ∧ sR s (ρ b) j = sR σ (ρ b) j ∧ sR s (ρ b + 2) j = sR σ (ρ b + 2) j ∧ sR s (μ b) j = sR σ (μ b) j) : BS s β μ κ ρ me n := by
  intro b hb
  obtain ⟨g1, g2, g3, g4, g5, g6, g7, g8⟩ := hB b hb
  have q := h b hb
  exact ⟨by rw [h9 b hb]; exact g1, by rw [(q 1).1]; exact g2, by rw [(q 2).1]; exact g3, by rw [(q 3).1]; exact g4, by rw [(q 4).1]; exact g5, by rw [(q 0).2.1]; exact g6, by rw [(q 0).2.2.1]; exact g7, fun i hi => by rw [(q i).2.2.2]; exact g8 i hi⟩
theorem TR_fr {σ s : am_S} {aH nH aL nL aY nY aS nS : Nat} (hR : TR σ aH nH aL nL aY nY aS nS) (h : ∀ a j, a < 31 → (a = 26 → j < 2) → (a = 12 → j = 0 ∨ j = 1 ∨ j = 3) → (a = 13 → j < 2) → a ≠ 9 → a ≠ 18 → a ≠ 20 → a ≠ 23 → sR s a j = sR σ a j) : TR s aH nH aL nL aY nY aS nS := by
  refine ⟨CF_fr hR.1 (fun a j q1 q2 q3 q4 q5 q6 q7 q8 q9 => h a j q1 q5 q3 q4 q6 q7 q8 q9), ?_, ?_, ?_, ?_⟩
  · rw [h 3 6 (by decide) (by decide) (by decide) (by decide) (by decide) (by decide) (by decide) (by decide)]; exact hR.2.1
  · rw [h 3 7 (by decide) (by decide) (by decide) (by decide) (by decide) (by decide) (by decide) (by decide)]; exact hR.2.2.1
  · rw [h 3 8 (by decide) (by decide) (by decide) (by decide) (by decide) (by decide) (by decide) (by decide)]; exact hR.2.2.2.1
  · rw [h 3 9 (by decide) (by decide) (by decide) (by decide) (by decide) (by decide) (by decide) (by decide)]; exact hR.2.2.2.2

theorem v_Jury_tellRows_0 (d : Nat) (β μ κ ρ : Nat → Nat) (me : Nat → Nat → Nat) (b aH nH aL nL aY nY aS nS n : Nat) (p3 : Int) (σ : am_S) (K : am_S → Prop) (hR : TR σ aH nH aL nL aY nY aS nS) (hB : BS σ β μ κ ρ me n) (h :
  am_Calls PP MLL (d + 4) m_C_roomFor_AIIAI [qo (sR σ 26 6), qi (sI σ 3 1)] σ (kO fun x1 s1 =>
    (TR s1 aH nH aL nL aY nY aS nS ∧ BS s1 β μ κ ρ me n) ∧
    am_Calls PP MLL (d + 4) m_Arr_fill_AIIV [qo x1, qi 0] (putR s1 26 6 x1) (kV fun s2 =>
      (TR s2 aH nH aL nL aY nY aS nS ∧ BS s2 β μ κ ρ me n) ∧
      am_Runs PP MLL (d + 4) m_Jury_tellRows 15 [some (qr (26, 1, 8)), some (qr (3, 9, 11)), some (qr (β b, 0, 9)), some (qi p3), some (qi 1), some (qi 0), none, none, none, none] [] s2 (kV K)))) : am_Runs PP MLL (d + 4) m_Jury_tellRows 0 [some (qr (26, 1, 8)), some (qr (3, 9, 11)), some (qr (β b, 0, 9)), some (qi p3), none, none, none, none, none, none] [] σ (kV K) := am_wEF_ok (orc []) 200 (⟨rfl, ⟨rfl, (am_cO h fun x1 s1 h1 => ⟨rfl, ⟨rfl, (am_cV h1.2 fun s2 h2 => h2.2)⟩⟩)⟩⟩)

theorem v_Jury_tellRows_15 (d : Nat) (β μ κ ρ : Nat → Nat) (me : Nat → Nat → Nat) (b aH nH aL nL aY nY aS nS n : Nat) (p3 v4 v5 : Int) (z6 z7 z8 z9 : Option am_V) (σ : am_S) (K : am_S → Prop) (hR : TR σ aH nH aL nL aY nY aS nS) (hB : BS σ β μ κ ρ me n) (h :
  ((p3 ≤ v5 →
    am_Calls PP MLL (d + 4) m_C_roomFor_AIIAI [qo (sR σ 26 7), qi v4] σ (kO fun x3 s3 =>
      (TR s3 aH nH aL nL aY nY aS nS ∧ BS s3 β μ κ ρ me n) ∧
      K (putR s3 26 7 x3))) ∧
  (¬ (p3 ≤ v5) →
    am_Calls PP MLL (d + 4) m_Balance_weigherAt [qr (β b, 0, 9), qi v5] σ (kO fun x4 s4 =>
      (TR s4 aH nH aL nL aY nY aS nS ∧ BS s4 β μ κ ρ me n) ∧
      ((rg x4).2.1 = 0 ∧ -2147483648 ≤ 2 * (sI s4 ((rg x4).1) 5) ∧ 2 * (sI s4 ((rg x4).1) 5) < 2147483648 ∧ -2147483648 ≤ (2 * (sI s4 ((rg x4).1) 5)) + 1 ∧ (2 * (sI s4 ((rg x4).1) 5)) + 1 < 2147483648 ∧ -2147483648 ≤ v4 * ((2 * (sI s4 ((rg x4).1) 5)) + 1) ∧ v4 * ((2 * (sI s4 ((rg x4).1) 5)) + 1) < 2147483648) ∧
      am_Runs PP MLL (d + 4) m_Jury_tellRows 35 [some (qr (26, 1, 8)), some (qr (3, 9, 11)), some (qr (β b, 0, 9)), some (qi p3), some (qi (v4 * ((2 * (sI s4 ((rg x4).1) 5)) + 1))), some (qi v5), some (qo x4), some (qi ((2 * (sI s4 ((rg x4).1) 5)) + 1)), some (qi 0), z9] [] s4 (kV K))))) : am_Runs PP MLL (d + 4) m_Jury_tellRows 15 [some (qr (26, 1, 8)), some (qr (3, 9, 11)), some (qr (β b, 0, 9)), some (qi p3), some (qi v4), some (qi v5), z6, z7, z8, z9] [] σ (kV K) := am_wEF_ok (orc []) 200 (⟨fun c2 => ⟨rfl, (am_cO (h.1 c2) fun x3 s3 h3 => ⟨rfl, h3.2⟩)⟩, fun c2 => ⟨rfl, (am_cO (h.2 c2) fun x4 s4 h4 => ⟨h4.2.1.1, ⟨⟨h4.2.1.2.1, h4.2.1.2.2.1⟩, ⟨⟨h4.2.1.2.2.2.1, h4.2.1.2.2.2.2.1⟩, ⟨⟨h4.2.1.2.2.2.2.2.1, h4.2.1.2.2.2.2.2.2⟩, h4.2.2⟩⟩⟩⟩)⟩⟩)

theorem v_Jury_tellRows_35 (d : Nat) (β μ κ ρ : Nat → Nat) (me : Nat → Nat → Nat) (b g aH nH aL nL aY nY aS nS n aR nR : Nat) (p3 v4 v5 v7 v8 : Int) (z9 : Option am_V) (σ : am_S) (K : am_S → Prop) (hR : TR σ aH nH aL nL aY nY aS nS) (hB : BS σ β μ κ ρ me n) (hr : sR σ 26 6 = some (aR, 20, nR)) (h :
  (((sI σ 3 1) ≤ v8 →
    (-2147483648 ≤ v5 + 1 ∧ v5 + 1 < 2147483648) ∧
    am_Runs PP MLL (d + 4) m_Jury_tellRows 15 [some (qr (26, 1, 8)), some (qr (3, 9, 11)), some (qr (β b, 0, 9)), some (qi p3), some (qi v4), some (qi (v5 + 1)), some (qr (β g, 0, 9)), some (qi v7), some (qi v8), z9] [] σ (kV K)) ∧
  (¬ ((sI σ 3 1) ≤ v8) →
    (0 ≤ v8 ∧ v8 < ((nS : Nat) : Int)) ∧
    (((sI σ aS (Int.toNat v8)) = 0 →
      (0 ≤ v5 ∧ v5 < 6) ∧
      am_Calls PP MLL (d + 4) m_Truths_difference [qr (3, 9, 11), qi v8, ql (sI σ 27 (Int.toNat v5)), ql (sI σ 28 (Int.toNat v5))] σ (kI fun x4 s4 =>
        (TR s4 aH nH aL nL aY nY aS nS ∧ BS s4 β μ κ ρ me n ∧ sR s4 26 6 = some (aR, 20, nR)) ∧
        am_Calls PP MLL (d + 4) m_Balance_tells [qr (β g, 0, 9), qi x4] s4 (kI fun x5 s5 =>
          (TR s5 aH nH aL nL aY nY aS nS ∧ BS s5 β μ κ ρ me n ∧ sR s5 26 6 = some (aR, 20, nR)) ∧
          (v8 < ((nR : Nat) : Int) ∧ -2147483648 ≤ v7 * (sI s5 aR (Int.toNat v8)) ∧ v7 * (sI s5 aR (Int.toNat v8)) < 2147483648 ∧ -2147483648 ≤ (v7 * (sI s5 aR (Int.toNat v8))) + (sI s5 (β g) 5) ∧ (v7 * (sI s5 aR (Int.toNat v8))) + (sI s5 (β g) 5) < 2147483648 ∧ -2147483648 ≤ ((v7 * (sI s5 aR (Int.toNat v8))) + (sI s5 (β g) 5)) + x5 ∧ ((v7 * (sI s5 aR (Int.toNat v8))) + (sI s5 (β g) 5)) + x5 < 2147483648 ∧ -2147483648 ≤ v8 + 1 ∧ v8 + 1 < 2147483648) ∧
          am_Runs PP MLL (d + 4) m_Jury_tellRows 35 [some (qr (26, 1, 8)), some (qr (3, 9, 11)), some (qr (β b, 0, 9)), some (qi p3), some (qi v4), some (qi v5), some (qr (β g, 0, 9)), some (qi v7), some (qi (v8 + 1)), some (qi x5)] [] (putI s5 aR (Int.toNat v8) (((v7 * (sI s5 aR (Int.toNat v8))) + (sI s5 (β g) 5)) + x5)) (kV K)))) ∧
    (¬ ((sI σ aS (Int.toNat v8)) = 0) →
      (-2147483648 ≤ v8 + 1 ∧ v8 + 1 < 2147483648) ∧
      am_Runs PP MLL (d + 4) m_Jury_tellRows 35 [some (qr (26, 1, 8)), some (qr (3, 9, 11)), some (qr (β b, 0, 9)), some (qi p3), some (qi v4), some (qi v5), some (qr (β g, 0, 9)), some (qi v7), some (qi (v8 + 1)), z9] [] σ (kV K)))))) : am_Runs PP MLL (d + 4) m_Jury_tellRows 35 [some (qr (26, 1, 8)), some (qr (3, 9, 11)), some (qr (β b, 0, 9)), some (qi p3), some (qi v4), some (qi v5), some (qr (β g, 0, 9)), some (qi v7), some (qi v8), z9] [] σ (kV K) := am_wEF_ok (orc [(48, 27, 21, 6), (52, 28, 21, 6), (59, aR, 20, nR), (63, aR, 20, nR)]) 200 (⟨rfl, ⟨fun c2 => ⟨⟨(h.1 c2).1.1, (h.1 c2).1.2⟩, (h.1 c2).2⟩, fun c2 => ⟨rfl, am_wEF_ok (orc [(1, aS, 20, nS)]) 200 (⟨⟨rfl, hR.2.2.2.2⟩, ⟨⟨rfl, (h.2 c2).1.1, (h.2 c2).1.2⟩, ⟨fun c3 => ⟨(Or.inr rfl), ⟨fun c => absurd c (by decide : ¬ ((1 : Int) = 0)), fun _ => ⟨⟨rfl, (hR.1 26 0 _ rfl)⟩, ⟨⟨rfl, ((h.2 c2).2.1 c3).1.1, ((h.2 c2).2.1 c3).1.2⟩, ⟨⟨rfl, (hR.1 26 1 _ rfl)⟩, ⟨⟨rfl, ((h.2 c2).2.1 c3).1.1, ((h.2 c2).2.1 c3).1.2⟩, ⟨rfl, (am_cI ((h.2 c2).2.1 c3).2 fun x4 s4 h4 => ⟨rfl, (am_cI h4.2 fun x5 s5 h5 => ⟨⟨rfl, h5.1.2.2⟩, ⟨⟨rfl, h5.1.2.2⟩, ⟨⟨rfl, (h.2 c2).1.1, h5.2.1.1⟩, ⟨⟨h5.2.1.2.1, h5.2.1.2.2.1⟩, ⟨rfl, ⟨⟨h5.2.1.2.2.2.1, h5.2.1.2.2.2.2.1⟩, ⟨⟨h5.2.1.2.2.2.2.2.1, h5.2.1.2.2.2.2.2.2.1⟩, ⟨⟨rfl, (h.2 c2).1.1, h5.2.1.1⟩, ⟨⟨h5.2.1.2.2.2.2.2.2.2.1, h5.2.1.2.2.2.2.2.2.2.2⟩, h5.2.2⟩⟩⟩⟩⟩⟩⟩⟩⟩)⟩)⟩⟩⟩⟩⟩⟩⟩, fun c3 => ⟨(Or.inl rfl), ⟨fun _ => ⟨⟨((h.2 c2).2.2 c3).1.1, ((h.2 c2).2.2 c3).1.2⟩, ((h.2 c2).2.2 c3).2⟩, fun c => absurd (by decide : (0 : Int) = 0) c⟩⟩⟩⟩⟩)⟩⟩⟩)

