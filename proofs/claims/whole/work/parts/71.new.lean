/-! the class: new balances -/
theorem nwI {σ : am_S} {t l x j : Nat} : sI (newC σ t l) x j = if x = sN σ then 0 else sI σ x j := rfl
theorem nwR {σ : am_S} {t l x j : Nat} : sR (newC σ t l) x j = if x = sN σ then none else sR σ x j := rfl
theorem nwN {σ : am_S} {t l : Nat} : sN (newC σ t l) = sN σ + 1 := rfl
theorem nwU {σ : am_S} {t l : Nat} : sU (newC σ t l) = sU σ + l := rfl
theorem ptN {σ : am_S} {a i : Nat} {v : Int} : sN (putI σ a i v) = sN σ := rfl
theorem ptU {σ : am_S} {a i : Nat} {v : Int} : sU (putI σ a i v) = sU σ := rfl
theorem prN {σ : am_S} {a i : Nat} {v : Option am_R} : sN (putR σ a i v) = sN σ := rfl
theorem prU {σ : am_S} {a i : Nat} {v : Option am_R} : sU (putR σ a i v) = sU σ := rfl
theorem prI {σ : am_S} {a i x j : Nat} {v : Option am_R} : sI (putR σ a i v) x j = sI σ x j := rfl
theorem ptR {σ : am_S} {a i x j : Nat} {v : Int} : sR (putI σ a i v) x j = sR σ x j := rfl
theorem mo_235 : Int.tdiv 3 2 = 1 := rfl
theorem v_Balance_mostAloneN_0 (d : Nat) (a : Nat) (σ : am_S) (K : Int → am_S → Prop) (hC : CF σ) (ht : sR σ a 2 = some (10, 7, 3)) (ho : (sI σ 10 2) = 0) (h :
  (((sI σ a 0) = 1 →
    K 3 σ) ∧
  (¬ ((sI σ a 0) = 1) →
  (((sI σ a 0) = 2 →
    (-2147483648 ≤ Int.tdiv 3 2 ∧ Int.tdiv 3 2 < 2147483648) ∧
    K (Int.tdiv 3 2) σ) ∧
  (¬ ((sI σ a 0) = 2) →
  (((sI σ a 0) = 3 →
    (-2147483648 ≤ Int.tdiv 3 2 ∧ Int.tdiv 3 2 < 2147483648) ∧
    K (Int.tdiv 3 2) σ) ∧
  (¬ ((sI σ a 0) = 3) →
  K 1 σ))))))) : am_Runs PP MLL (d + 4) m_Balance_mostAlone 0 [some (qr (a, 0, 9))] [] σ (kI K) := am_wEF_ok (orc []) 200 (⟨rfl, ⟨fun c1 => ⟨rfl, am_wEF_ok (orc [(1, 10, 7, 3)]) 200 (⟨⟨rfl, ht⟩, ⟨rfl, am_wEF_ok (orc []) 200 (⟨rfl, ⟨fun _ => ⟨rfl, am_wEF_ok (orc [(1, 10, 7, 3)]) 200 (⟨⟨rfl, ht⟩, ⟨rfl, am_wEF_ok (orc []) 200 (⟨rfl, ⟨fun _ => ⟨⟨(by decide : (-2147483648 : Int) ≤ 3), (by decide : (3 : Int) < 2147483648)⟩, (h.1 c1)⟩, fun c => absurd ho c⟩⟩)⟩⟩)⟩, fun c => absurd ho c⟩⟩)⟩⟩)⟩, fun c1 => ⟨fun c2 => ⟨rfl, am_wEF_ok (orc [(1, 10, 7, 3)]) 200 (⟨⟨rfl, ht⟩, ⟨rfl, am_wEF_ok (orc []) 200 (⟨rfl, ⟨fun _ => ⟨rfl, am_wEF_ok (orc [(1, 10, 7, 3)]) 200 (⟨⟨rfl, ht⟩, ⟨rfl, am_wEF_ok (orc []) 200 (⟨rfl, ⟨fun _ => ⟨rfl, am_wEF_ok (orc [(1, 10, 7, 3)]) 200 (⟨⟨rfl, ht⟩, ⟨rfl, am_wEF_ok (orc []) 200 (⟨rfl, ⟨fun _ => ⟨⟨(by decide : (-2147483648 : Int) ≤ 3), (by decide : (3 : Int) < 2147483648)⟩, ⟨⟨(by decide : (2 : Int) ≠ 0), ((h.2 c1).1 c2).1.1, ((h.2 c1).1 c2).1.2⟩, ((h.2 c1).1 c2).2⟩⟩, fun c => absurd ho c⟩⟩)⟩⟩)⟩, fun c => absurd ho c⟩⟩)⟩⟩)⟩, fun c => absurd ho c⟩⟩)⟩⟩)⟩, fun c2 => ⟨fun c3 => ⟨rfl, am_wEF_ok (orc [(1, 10, 7, 3)]) 200 (⟨⟨rfl, ht⟩, ⟨rfl, am_wEF_ok (orc []) 200 (⟨rfl, ⟨fun _ => ⟨rfl, am_wEF_ok (orc [(1, 10, 7, 3)]) 200 (⟨⟨rfl, ht⟩, ⟨rfl, am_wEF_ok (orc []) 200 (⟨rfl, ⟨fun _ => ⟨rfl, am_wEF_ok (orc [(1, 10, 7, 3)]) 200 (⟨⟨rfl, ht⟩, ⟨rfl, am_wEF_ok (orc []) 200 (⟨rfl, ⟨fun _ => ⟨⟨(by decide : (-2147483648 : Int) ≤ 3), (by decide : (3 : Int) < 2147483648)⟩, ⟨⟨(by decide : (2 : Int) ≠ 0), (((h.2 c1).2 c2).1 c3).1.1, (((h.2 c1).2 c2).1 c3).1.2⟩, (((h.2 c1).2 c2).1 c3).2⟩⟩, fun c => absurd ho c⟩⟩)⟩⟩)⟩, fun c => absurd ho c⟩⟩)⟩⟩)⟩, fun c => absurd ho c⟩⟩)⟩⟩)⟩, fun c3 => ⟨rfl, am_wEF_ok (orc [(1, 10, 7, 3)]) 200 (⟨⟨rfl, ht⟩, ⟨rfl, am_wEF_ok (orc []) 200 (⟨rfl, ⟨fun _ => (((h.2 c1).2 c2).2 c3), fun c => absurd ho c⟩⟩)⟩⟩)⟩⟩⟩⟩⟩)

theorem c_mostAloneN (d : Nat) {a : Nat} {σ : am_S} {K : Int → am_S → Prop} (hC : CF σ) (ht : sR σ a 2 = some (10, 7, 3)) (ho : sI σ 10 2 = 0) (h : K (mo (sI σ a 0)) σ) : am_Calls PP MLL (d + 5) m_Balance_mostAlone [qr (a, 0, 9)] σ (kI K) := by
  refine v_Balance_mostAloneN_0 d a σ K hC ht ho ?_
  rw [mo_235]
  repeat' first | apply And.intro | intro _
  all_goals first | omega | skip
  all_goals
    refine kEq h ?_ rfl
    unfold mo
    (repeat' split) <;> omega
theorem v_Balance_mostN_0 (d : Nat) (a m k : Nat) (σ : am_S) (K : Int → am_S → Prop) (hC : CF σ) (ht : sR σ a 2 = some (10, 7, 3)) (hm : sR σ a 1 = some (m, 22, k)) (ho : (sI σ 10 2) = 0) (h :
  (((sI σ a 0) = 6 →
    am_Runs PP MLL (d + 5) m_Balance_most 21 [some (qr (a, 0, 9)), some (qi 0), some (qr (m, 22, k)), some (qi ((k : Nat) : Int)), some (qi 0), none] [] σ (kI K)) ∧
  (¬ ((sI σ a 0) = 6) →
    am_Calls PP MLL (d + 5) m_Balance_mostAlone [qr (a, 0, 9)] σ (kI fun x2 s2 =>
      (CF s2 ∧ sR s2 a 2 = some (10, 7, 3) ∧ sR s2 a 1 = some (m, 22, k)) ∧
      K x2 s2)))) : am_Runs PP MLL (d + 5) m_Balance_most 0 [some (qr (a, 0, 9)), none, none, none, none, none] [] σ (kI K) := am_wEF_ok (orc [(8, 10, 7, 3), (14, m, 22, k)]) 200 (⟨rfl, ⟨fun c1 => ⟨⟨rfl, ht⟩, ⟨rfl, am_wEF_ok (orc []) 200 (⟨rfl, ⟨fun _ => ⟨⟨rfl, hm⟩, ⟨⟨(by decide : 20 ≤ 22), (by decide : 22 < 25)⟩, (h.1 c1)⟩⟩, fun c => absurd ho c⟩⟩)⟩⟩, fun c1 => ⟨rfl, (am_cI (h.2 c1) fun x2 s2 h2 => h2.2)⟩⟩⟩)

theorem v_Balance_mostN_21 (d : Nat) (β μ κ ρ q : Nat → Nat) (me : Nat → Nat → Nat) (m k n : Nat) (v1 v3 v4 : Int) (z0 z5 : Option am_V) (σ : am_S) (K : Int → am_S → Prop) (hC : CF σ) (hB : BS σ β μ κ ρ me n) (hq : ∀ i, i < k → sR σ m i = some (β (q i), 0, 9)) (ho : (sI σ 10 2) = 0) (h :
  ((v3 ≤ v4 →
    K v1 σ) ∧
  (¬ (v3 ≤ v4) →
    (0 ≤ v4 ∧ v4 < ((k : Nat) : Int) ∧ (Int.toNat v4) < k) ∧
    (((sI σ (β (q (Int.toNat v4))) 6) = 0 →
      am_Calls PP MLL (d + 5) m_Balance_mostAlone [qr (β (q (Int.toNat v4)), 0, 9)] σ (kI fun x3 s3 =>
        (CF s3 ∧ BS s3 β μ κ ρ me n ∧ ∀ i, i < k → sR s3 m i = some (β (q i), 0, 9)) ∧
        (-2147483648 ≤ v4 + 1 ∧ v4 + 1 < 2147483648) ∧
        am_Runs PP MLL (d + 5) m_Balance_most 21 [(am_cl z0), some (qi (if v1 < x3 then (x3 : Int) else v1)), some (qr (m, 22, k)), some (qi v3), some (qi (v4 + 1)), some (qr (β (q (Int.toNat v4)), 0, 9))] [] s3 (kI K))) ∧
    (¬ ((sI σ (β (q (Int.toNat v4))) 6) = 0) →
      K (-1000) σ))))) : am_Runs PP MLL (d + 5) m_Balance_most 21 [z0, some (qi v1), some (qr (m, 22, k)), some (qi v3), some (qi v4), z5] [] σ (kI K) := am_wEF_ok (orc [(26, β (q (Int.toNat v4)), 0, 9)]) 200 (⟨fun c1 => (h.1 c1), fun c1 => ⟨⟨rfl, (h.2 c1).1.1, (h.2 c1).1.2.1, (hq (Int.toNat v4) (h.2 c1).1.2.2)⟩, ⟨rfl, ⟨fun c2 => ⟨rfl, (am_cI ((h.2 c1).2.1 c2) fun x3 s3 h3 => c_max _  (⟨⟨h3.2.1.1, h3.2.1.2⟩, h3.2.2⟩))⟩, fun c2 => ((h.2 c1).2.2 c2)⟩⟩⟩⟩)

/-- the greatest MOST of a queue's members -/
def mxQ (σ : am_S) (β q : Nat → Nat) (k : Nat) : Int := oqA (fun i => mo (sI σ (β (q i)) 0)) 0 k
theorem c_mostN (d : Nat) {β μ κ ρ q : Nat → Nat} {me : Nat → Nat → Nat} {a m k n : Nat} {σ : am_S} {K : Int → am_S → Prop} (hC : CF σ) (hB : BS σ β μ κ ρ me n) (ht : sR σ a 2 = some (10, 7, 3)) (hm : sR σ a 1 = some (m, 22, k)) (ho : sI σ 10 2 = 0) (h0 : sI σ a 0 ≠ 6 → K (mo (sI σ a 0)) σ)
    (hq : sI σ a 0 = 6 → k ≤ 3 ∧ (∀ i, i < k → sR σ m i = some (β (q i), 0, 9)) ∧ (∀ i, i < k → q i < n ∧ sI σ (β (q i)) 6 = 0) ∧ K (mxQ σ β q k) σ) : am_Calls PP MLL (d + 6) m_Balance_most [qr (a, 0, 9)] σ (kI K) := by
  refine v_Balance_mostN_0 d a m k σ K hC ht hm ho ⟨fun c => ?_, fun c => c_mostAloneN d hC ht ho ⟨⟨hC, ht, hm⟩, h0 c⟩⟩
  obtain ⟨q1, q2, q3, q4⟩ := hq c
  have hS : ∀ i : Nat, i ≤ k → ∀ z0 z5, am_Runs PP MLL (d + 5) m_Balance_most 21 [z0, some (qi (mxQ σ β q i)), some (qr (m, 22, k)), some (qi ((k : Nat) : Int)), some (qi (i : Int)), z5] [] σ (kI K) := by
    refine lp ?_ ?_
    · intro z0 z5
      exact v_Balance_mostN_21 d β μ κ ρ q me m k n _ _ _ z0 z5 σ K hC hB q2 ho ⟨fun _ => q4, fun c => absurd (Int.le_refl _) c⟩
    · intro i hi ih z0 z5
      refine v_Balance_mostN_21 d β μ κ ρ q me m k n _ _ _ z0 z5 σ K hC hB q2 ho ⟨fun c => absurd c (by omega), fun _ => ?_⟩
      rw [Int.toNat_natCast]
      refine ⟨by omega, fun _ => ?_, fun c => absurd (q3 i hi).2 c⟩
      refine c_mostAlone d hB (q3 i hi).1 ho ⟨⟨hC, hB, q2⟩, by omega, ?_⟩
      have e5 : (if mxQ σ β q i < mo (sI σ (β (q i)) 0) then (mo (sI σ (β (q i)) 0) : Int) else mxQ σ β q i) = mxQ σ β q (i + 1) := by
        show _ = oqA (fun i => mo (sI σ (β (q i)) 0)) 0 (i + 1)
        unfold oqA
        rw [if_pos rfl]
        show (if mxQ σ β q i < mo (sI σ (β (q i)) 0) then (mo (sI σ (β (q i)) 0) : Int) else mxQ σ β q i) = (if mo (sI σ (β (q i)) 0) ≤ mxQ σ β q i then mxQ σ β q i else mo (sI σ (β (q i)) 0))
        (repeat' split) <;> omega
      rw [e5]
      exact ih _ _
  exact hS 0 (Nat.zero_le _) _ _
theorem v_Balance_init_0 (d : Nat) (a m k : Nat) (p1 : Int) (σ : am_S) (K : am_S → Prop) (hC : CF σ) (h :
  am_Calls PP MLL (d + 6) m_Balance_most [qr (a, 0, 9)] (putR (putR (putI (putR (putI (putR (newC (newC (putR (putI (putR (newC (newC σ 2 2) 20 20) (sN σ) 0 (some (sN (newC σ 2 2), 20, 20))) (sN σ) 1 (-1)) a 3 (some (sN σ, 2, 2))) 2 2) 20 20) (sN (putR (putI (putR (newC (newC σ 2 2) 20 20) (sN σ) 0 (some (sN (newC σ 2 2), 20, 20))) (sN σ) 1 (-1)) a 3 (some (sN σ, 2, 2)))) 0 (some (sN (newC (putR (putI (putR (newC (newC σ 2 2) 20 20) (sN σ) 0 (some (sN (newC σ 2 2), 20, 20))) (sN σ) 1 (-1)) a 3 (some (sN σ, 2, 2))) 2 2), 20, 20))) (sN (putR (putI (putR (newC (newC σ 2 2) 20 20) (sN σ) 0 (some (sN (newC σ 2 2), 20, 20))) (sN σ) 1 (-1)) a 3 (some (sN σ, 2, 2)))) 1 (-1)) a 4 (some (sN (putR (putI (putR (newC (newC σ 2 2) 20 20) (sN σ) 0 (some (sN (newC σ 2 2), 20, 20))) (sN σ) 1 (-1)) a 3 (some (sN σ, 2, 2))), 2, 2))) a 0 p1) a 1 (some (m, 22, k))) a 2 (some (10, 7, 3))) (kI fun x1 s1 =>
    (CF s1) ∧
    K (putI s1 a 5 x1))) : am_Runs PP MLL (d + 6) m_Balance_init 0 [some (qr (a, 0, 9)), some (qi p1), some (qr (m, 22, k)), some (qr (10, 7, 3))] [] σ (kV K) := am_wEF_ok (orc []) 200 (⟨rfl, am_wEF_ok (orc []) 200 (⟨⟨(by decide : (0 : Int) ≤ 20), (by decide : (20 : Int) ≤ 1000000)⟩, ⟨rfl, ⟨rfl, ⟨rfl, ⟨rfl, am_wEF_ok (orc []) 200 (⟨⟨(by decide : (0 : Int) ≤ 20), (by decide : (20 : Int) ≤ 1000000)⟩, ⟨rfl, ⟨rfl, ⟨rfl, ⟨rfl, ⟨rfl, ⟨rfl, ⟨rfl, (am_cI h fun x1 s1 h1 => ⟨rfl, h1.2⟩)⟩⟩⟩⟩⟩⟩⟩⟩)⟩⟩⟩⟩⟩)⟩)

/-- a balance made at a, its pans behind all that was there -/
def BIP (σ s : am_S) (a m k : Nat) (p r : Int) : Prop :=
  sR s a 1 = some (m, 22, k) ∧ sR s a 2 = some (10, 7, 3) ∧ sR s a 3 = some (sN σ, 2, 2) ∧ sR s a 4 = some (sN σ + 2, 2, 2) ∧ sR s (sN σ) 0 = some (sN σ + 1, 20, 20) ∧ sR s (sN σ + 2) 0 = some (sN σ + 3, 20, 20)
  ∧ sI s a 0 = p ∧ sI s a 5 = r ∧ (∀ j, j ≠ 0 → j ≠ 5 → sI s a j = sI σ a j) ∧ sI s (sN σ) 1 = -1 ∧ sI s (sN σ + 2) 1 = -1 ∧ (∀ j, sI s (sN σ + 1) j = 0 ∧ sI s (sN σ + 3) j = 0)
  ∧ (∀ x, x < sN σ → x ≠ a → sI s x = sI σ x ∧ ∀ j, sR s x j = sR σ x j) ∧ sN s = sN σ + 4 ∧ sU s = sU σ + 44
theorem c_init (d : Nat) {β μ κ ρ q : Nat → Nat} {me : Nat → Nat → Nat} {a m k n : Nat} {p : Int} {σ : am_S} {K : am_S → Prop} (h87 : 87 ≤ sN σ) (hC : CF σ) (hB : BS σ β μ κ ρ me n) (hbl : ∀ b, b < n → β b < sN σ ∧ μ b < sN σ ∧ ρ b + 3 < sN σ ∧ β b ≠ a ∧ μ b ≠ a ∧ ρ b ≠ a ∧ ρ b + 2 ≠ a) (ha : a < sN σ) (ha2 : 87 ≤ a) (hm : m < sN σ) (hma : m ≠ a) (ho : sI σ 10 2 = 0)
    (hq : p = 6 → k ≤ 3 ∧ (∀ i, i < k → sR σ m i = some (β (q i), 0, 9)) ∧ ∀ i, i < k → q i < n ∧ sI σ (β (q i)) 6 = 0)
    (h : ∀ s, BIP σ s a m k p (if p = 6 then mxQ σ β q k else mo p) → K s) : am_Calls PP MLL (d + 7) m_Balance_init [qr (a, 0, 9), qi p, qr (m, 22, k), qr (10, 7, 3)] σ (kV K) := by
  refine v_Balance_init_0 d a m k p σ K hC ?_
  obtain ⟨τ, hτ⟩ : ∃ τ, τ = putR (putR (putI (putR (putI (putR (newC (newC (putR (putI (putR (newC (newC σ 2 2) 20 20) (sN σ) 0 (some (sN (newC σ 2 2), 20, 20))) (sN σ) 1 (-1)) a 3 (some (sN σ, 2, 2))) 2 2) 20 20) (sN (putR (putI (putR (newC (newC σ 2 2) 20 20) (sN σ) 0 (some (sN (newC σ 2 2), 20, 20))) (sN σ) 1 (-1)) a 3 (some (sN σ, 2, 2)))) 0 (some (sN (newC (putR (putI (putR (newC (newC σ 2 2) 20 20) (sN σ) 0 (some (sN (newC σ 2 2), 20, 20))) (sN σ) 1 (-1)) a 3 (some (sN σ, 2, 2))) 2 2), 20, 20))) (sN (putR (putI (putR (newC (newC σ 2 2) 20 20) (sN σ) 0 (some (sN (newC σ 2 2), 20, 20))) (sN σ) 1 (-1)) a 3 (some (sN σ, 2, 2)))) 1 (-1)) a 4 (some (sN (putR (putI (putR (newC (newC σ 2 2) 20 20) (sN σ) 0 (some (sN (newC σ 2 2), 20, 20))) (sN σ) 1 (-1)) a 3 (some (sN σ, 2, 2))), 2, 2))) a 0 p) a 1 (some (m, 22, k))) a 2 (some (10, 7, 3)) := ⟨_, rfl⟩
  rw [← hτ]
  have tI : ∀ x j, sI τ x j = if x = a ∧ j = 0 then p else if x = sN σ + 2 ∧ j = 1 then -1 else if x = sN σ + 3 then 0 else if x = sN σ + 2 then 0 else if x = sN σ ∧ j = 1 then -1 else if x = sN σ + 1 then 0 else if x = sN σ then 0 else sI σ x j := by
    intro x j
    rw [hτ]
    simp only [sI_putI, prI, nwI, nwN, ptN, prN]
    rfl
  have tR : ∀ x j, sR τ x j = if x = a ∧ j = 2 then some (10, 7, 3) else if x = a ∧ j = 1 then some (m, 22, k) else if x = a ∧ j = 4 then some (sN σ + 2, 2, 2) else if x = sN σ + 2 ∧ j = 0 then some (sN σ + 3, 20, 20) else if x = sN σ + 3 then none else if x = sN σ + 2 then none else if x = a ∧ j = 3 then some (sN σ, 2, 2) else if x = sN σ ∧ j = 0 then some (sN σ + 1, 20, 20) else if x = sN σ + 1 then none else if x = sN σ then none else sR σ x j := by
    intro x j
    rw [hτ]
    simp only [sR_putR, ptR, nwR, nwN, ptN, prN]
    rfl
  have tN : sN τ = sN σ + 4 := by rw [hτ]; rfl
  have tU : sU τ = sU σ + 44 := by
    rw [hτ]
    simp only [ptU, prU, nwU]
  have fI : ∀ x, x < sN σ → x ≠ a → sI τ x = sI σ x := by
    intro x hx hxa
    funext j
    rw [tI, if_neg (by omega), if_neg (by omega), if_neg (by omega), if_neg (by omega), if_neg (by omega), if_neg (by omega), if_neg (by omega)]
  have fR : ∀ x, x < sN σ → x ≠ a → ∀ j, sR τ x j = sR σ x j := by
    intro x hx hxa j
    rw [tR, if_neg (by omega), if_neg (by omega), if_neg (by omega), if_neg (by omega), if_neg (by omega), if_neg (by omega), if_neg (by omega), if_neg (by omega), if_neg (by omega), if_neg (by omega)]
  have hCt : CF τ := CF_fr hC (fun x j hx _ _ _ _ _ _ _ _ => fR x (by omega) (by omega) j)
  have hBt : BS τ β μ κ ρ me n := BS_fr hB (fun b _ => fR 9 (by omega) (by omega) b) (fun b hb j => by
    obtain ⟨q1, q2, q3, q4, q5, q6, q7⟩ := hbl b hb
    exact ⟨fR _ q1 q4 j, fR _ (by omega) q6 j, fR _ (by omega) q7 j, fR _ q2 q5 j⟩)
  have a0 : sI τ a 0 = p := by rw [tI, if_pos ⟨rfl, rfl⟩]
  have a2 : sR τ a 2 = some (10, 7, 3) := by rw [tR, if_pos ⟨rfl, rfl⟩]
  have a1 : sR τ a 1 = some (m, 22, k) := by rw [tR, if_neg (by omega), if_pos ⟨rfl, rfl⟩]
  have fin : ∀ r, BIP σ (putI τ a 5 r) a m k p r := by
    intro r
    refine ⟨a1, a2, ?_, ?_, ?_, ?_, ?_, ?_, ?_, ?_, ?_, ?_, ?_, tN, tU⟩
    · rw [ptR, tR, if_neg (by omega), if_neg (by omega), if_neg (by omega), if_neg (by omega), if_neg (by omega), if_neg (by omega), if_pos ⟨rfl, rfl⟩]
    · rw [ptR, tR, if_neg (by omega), if_neg (by omega), if_pos ⟨rfl, rfl⟩]
    · rw [ptR, tR, if_neg (by omega), if_neg (by omega), if_neg (by omega), if_neg (by omega), if_neg (by omega), if_neg (by omega), if_neg (by omega), if_pos ⟨rfl, rfl⟩]
    · rw [ptR, tR, if_neg (by omega), if_neg (by omega), if_neg (by omega), if_pos ⟨rfl, rfl⟩]
    · rw [put_at, if_neg (by decide), a0]
    · rw [put_at, if_pos rfl]
    · intro j j0 j5
      rw [put_at, if_neg j5, tI, if_neg (by omega), if_neg (by omega), if_neg (by omega), if_neg (by omega), if_neg (by omega), if_neg (by omega), if_neg (by omega)]
    · rw [put_ne (by omega), tI, if_neg (by omega), if_neg (by omega), if_neg (by omega), if_neg (by omega), if_pos ⟨rfl, rfl⟩]
    · rw [put_ne (by omega), tI, if_neg (by omega), if_pos ⟨rfl, rfl⟩]
    · intro j
      rw [put_ne (by omega), put_ne (by omega), tI, tI]
      constructor
      · (repeat' split) <;> omega
      · (repeat' split) <;> omega
    · intro x hx hxa
      rw [put_ne hxa, fI x hx hxa]
      exact ⟨rfl, fun j => fR x hx hxa j⟩
  refine c_mostN d (q := q) (m := m) (k := k) hCt hBt a2 a1 (by rw [fI 10 (by omega) (by omega)]; exact ho) (fun c => ?_) (fun c => ?_)
  · rw [a0] at c ⊢
    refine ⟨hCt, h _ ?_⟩
    rw [if_neg c]
    exact fin _
  · rw [a0] at c
    obtain ⟨q1, q2, q3⟩ := hq c
    refine ⟨q1, fun i hi => by rw [fR m hm hma]; exact q2 i hi, fun i hi => ?_, hCt, h _ ?_⟩
    · have w := hbl _ (q3 i hi).1
      rw [fI _ w.1 w.2.2.2.1]
      exact q3 i hi
    · rw [if_pos c]
      have e : mxQ τ β q k = mxQ σ β q k := by
        have : ∀ i, i ≤ k → oqA (fun i => mo (sI τ (β (q i)) 0)) 0 i = oqA (fun i => mo (sI σ (β (q i)) 0)) 0 i := by
          intro i
          induction i with
          | zero => intro _; rfl
          | succ i ih =>
            intro hi
            have w := hbl _ (q3 i (by omega)).1
            unfold oqA
            rw [ih (by omega), fI _ w.1 w.2.2.2.1]
        exact this k (Nat.le_refl _)
      rw [e]
      exact fin _
