/-! the class: pans and balances -/
theorem v_Pan_load_0 (d : Nat) (p0 : Nat) (σ : am_S) (K : Int → am_S → Prop) (hP : PF σ p0) (h :
  am_Runs PP MLL d m_Pan_load 4 [some (qr (p0, 2, 2)), some (qi 0), some (qi 0)] [] σ (kI K)) : am_Runs PP MLL d m_Pan_load 0 [some (qr (p0, 2, 2)), none, none] [] σ (kI K) := am_wEC_ok (orc []) [15] 200 (h)

theorem v_Pan_load_4 (d : Nat) (p0 : Nat) (v1 v2 : Int) (σ : am_S) (K : Int → am_S → Prop) (hP : PF σ p0) (h :
  (((sI σ p0 1) ≤ v2 →
    K v1 σ) ∧
  (¬ ((sI σ p0 1) ≤ v2) →
    (0 ≤ v2 ∧ v2 < 20) ∧
    ((¬ ((sI σ (p0 + 1) (Int.toNat v2)) = (-1)) → -2147483648 ≤ v1 + 1) ∧ (¬ ((sI σ (p0 + 1) (Int.toNat v2)) = (-1)) → v1 + 1 < 2147483648)) ∧
    (-2147483648 ≤ v2 + 1 ∧ v2 + 1 < 2147483648) ∧
    am_Runs PP MLL d m_Pan_load 4 [some (qr (p0, 2, 2)), some (qi (if (sI σ (p0 + 1) (Int.toNat v2)) = (-1) then (v1 : Int) else (v1 + 1))), some (qi (v2 + 1))] [] σ (kI K)))) : am_Runs PP MLL d m_Pan_load 4 [some (qr (p0, 2, 2)), some (qi v1), some (qi v2)] [] σ (kI K) := am_wEC_ok (orc [(9, p0 + 1, 20, 20)]) [15] 200 (⟨rfl, ⟨fun c3 => (h.1 c3), fun c3 => ⟨⟨rfl, hP⟩, ⟨⟨rfl, (h.2 c3).1.1, (h.2 c3).1.2⟩, am_use (fun H5 => ⟨fun c4 => (Eq.mp (congrArg (fun z => am_Runs _ _ _ _ _ [_, some (qi z), _] _ _ _) (if_pos c4 : (if (sI σ (p0 + 1) (Int.toNat v2)) = (-1) then (v1 : Int) else v1 + 1) = v1)) H5), fun c4 => ⟨⟨((h.2 c3).2.1.1 c4), ((h.2 c3).2.1.2 c4)⟩, (Eq.mp (congrArg (fun z => am_Runs _ _ _ _ _ [_, some (qi z), _] _ _ _) (if_neg c4 : (if (sI σ (p0 + 1) (Int.toNat v2)) = (-1) then (v1 : Int) else v1 + 1) = v1 + 1)) H5)⟩⟩) (am_wEC_ok (orc []) [15] 200 (⟨⟨(h.2 c3).2.2.1.1, (h.2 c3).2.2.1.2⟩, (h.2 c3).2.2.2⟩))⟩⟩⟩⟩)

theorem sm_le1 (g : Nat → Int) (hg : ∀ i, 0 ≤ g i ∧ g i ≤ 1) (n : Nat) : 0 ≤ sm g n ∧ sm g n ≤ n := by
  have h := sm_bd (f := g) (c := 1) n (fun i _ => hg i)
  omega
theorem c_Pan_load (d : Nat) {a : Nat} {σ : am_S} {K : Int → am_S → Prop} (hP : PF σ a) (hp : sI σ a 1 ≤ 20) (hl : ∀ i, -1 ≤ sI σ (a + 1) i) (h : K (ldn (sI σ (a + 1)) (sI σ a 1)) σ) : am_Calls PP MLL (d + 1) m_Pan_load [qr (a, 2, 2)] σ (kI K) := by
  refine v_Pan_load_0 d a σ K hP ?_
  have hb := sm_le1 (fun i => if sI σ (a + 1) i < 0 then 0 else 1) (fun i => by split <;> omega)
  refine lp (P := fun i => am_Runs PP MLL d m_Pan_load 4 [some (qr (a, 2, 2)), some (qi (sm (fun i => if sI σ (a + 1) i < 0 then 0 else 1) i)), some (qi (i : Int))] [] σ (kI K)) (N := (sI σ a 1).toNat) ?_ ?_ 0 (Nat.zero_le _)
  · exact v_Pan_load_4 d a _ _ σ K hP ⟨fun _ => h, fun c => absurd (by omega) c⟩
  · intro i hi ih
    have hbi := hb i
    have hli := hl i
    refine v_Pan_load_4 d a _ _ σ K hP ⟨fun c => absurd c (by omega), fun _ => ?_⟩
    rw [Int.toNat_natCast]
    refine ⟨by omega, ⟨fun _ => by omega, fun _ => by omega⟩, by omega, ?_⟩
    have e : (if sI σ (a + 1) i = -1 then (sm (fun i => if sI σ (a + 1) i < 0 then 0 else 1) i : Int) else sm (fun i => if sI σ (a + 1) i < 0 then 0 else 1) i + 1) = sm (fun i => if sI σ (a + 1) i < 0 then 0 else 1) (i + 1) := by
      show _ = sm (fun i => if sI σ (a + 1) i < 0 then 0 else 1) i + (if sI σ (a + 1) i < 0 then 0 else 1)
      by_cases c : sI σ (a + 1) i < 0
      · rw [if_pos (by omega), if_pos c, Int.add_zero]
      · rw [if_neg (by omega), if_neg c]
    rw [e]
    exact ih
theorem v_Pan_bits_0 (d : Nat) (p0 : Nat) (σ : am_S) (K : Int → am_S → Prop) (hP : PF σ p0) (h :
  am_Runs PP MLL d m_Pan_bits 4 [some (qr (p0, 2, 2)), some (ql 0), none, some (qi 0)] [] σ (kL K)) : am_Runs PP MLL d m_Pan_bits 0 [some (qr (p0, 2, 2)), none, none, none] [] σ (kL K) := am_wEF_ok (orc []) 200 (h)

theorem v_Pan_bits_4 (d : Nat) (p0 : Nat) (v1 v3 : Int) (z2 : Option am_V) (σ : am_S) (K : Int → am_S → Prop) (hP : PF σ p0) (h :
  (((sI σ p0 1) ≤ v3 →
    K v1 σ) ∧
  (¬ ((sI σ p0 1) ≤ v3) →
    (0 ≤ v3 ∧ v3 < 20) ∧
    (((sI σ (p0 + 1) (Int.toNat v3)) = (-1) →
      (-2147483648 ≤ v3 + 1 ∧ v3 + 1 < 2147483648) ∧
      am_Runs PP MLL d m_Pan_bits 4 [some (qr (p0, 2, 2)), some (ql v1), (am_cl z2), some (qi (v3 + 1))] [] σ (kL K)) ∧
    (¬ ((sI σ (p0 + 1) (Int.toNat v3)) = (-1)) →
      (-2147483648 ≤ v3 + 1 ∧ v3 + 1 < 2147483648) ∧
      am_Runs PP MLL d m_Pan_bits 4 [some (qr (p0, 2, 2)), some (ql (a_lor v1 (a_lshl 1 (sI σ (p0 + 1) (Int.toNat v3))))), none, some (qi (v3 + 1))] [] σ (kL K)))))) : am_Runs PP MLL d m_Pan_bits 4 [some (qr (p0, 2, 2)), some (ql v1), z2, some (qi v3)] [] σ (kL K) := am_wEF_ok (orc [(9, p0 + 1, 20, 20), (17, p0 + 1, 20, 20)]) 200 (⟨rfl, ⟨fun c3 => (h.1 c3), fun c3 => ⟨⟨rfl, hP⟩, ⟨⟨rfl, (h.2 c3).1.1, (h.2 c3).1.2⟩, ⟨fun c5 => ⟨⟨((h.2 c3).2.1 c5).1.1, ((h.2 c3).2.1 c5).1.2⟩, ((h.2 c3).2.1 c5).2⟩, fun c5 => ⟨⟨rfl, hP⟩, ⟨⟨rfl, (h.2 c3).1.1, (h.2 c3).1.2⟩, ⟨⟨((h.2 c3).2.2 c5).1.1, ((h.2 c3).2.2 c5).1.2⟩, ((h.2 c3).2.2 c5).2⟩⟩⟩⟩⟩⟩⟩⟩)

/-- the coins of a pan as bits -/
def bts (f : Nat → Int) : Nat → Nat
  | 0 => 0
  | i + 1 => if f i < 0 then bts f i else bts f i ||| 2 ^ (f i).toNat
theorem p40 {k : Nat} (h : k < 40) : 2 ^ k < 1099511627776 := Nat.pow_lt_pow_right (a := 2) (n := 40) (by omega) h
theorem bts_lt {f : Nat → Int} (hf : ∀ i, f i < 40) : ∀ n, bts f n < 1099511627776
  | 0 => by show 0 < 1099511627776; omega
  | n + 1 => by
    unfold bts
    split
    · exact bts_lt hf n
    · have := hf n
      exact Nat.or_lt_two_pow (n := 40) (bts_lt hf n) (p40 (by omega))
theorem c_Pan_bits (d : Nat) {a : Nat} {σ : am_S} {K : Int → am_S → Prop} (hP : PF σ a) (hp : sI σ a 1 ≤ 20) (hl : ∀ i, -1 ≤ sI σ (a + 1) i ∧ sI σ (a + 1) i < 40) (h : K (bts (sI σ (a + 1)) (sI σ a 1).toNat : Nat) σ) : am_Calls PP MLL (d + 1) m_Pan_bits [qr (a, 2, 2)] σ (kL K) := by
  refine v_Pan_bits_0 d a σ K hP ?_
  have hS : ∀ i : Nat, i ≤ (sI σ a 1).toNat → ∀ z2, am_Runs PP MLL d m_Pan_bits 4 [some (qr (a, 2, 2)), some (ql ((bts (sI σ (a + 1)) i : Nat) : Int)), z2, some (qi (i : Int))] [] σ (kL K) := by
    refine lp ?_ ?_
    · intro z2
      exact v_Pan_bits_4 d a _ _ z2 σ K hP ⟨fun _ => h, fun c => absurd (by omega) c⟩
    · intro i hi ih z2
      have hli := hl i
      have hb := bts_lt (f := sI σ (a + 1)) (fun i => (hl i).2) i
      have es : bts (sI σ (a + 1)) (i + 1) = if sI σ (a + 1) i < 0 then bts (sI σ (a + 1)) i else bts (sI σ (a + 1)) i ||| 2 ^ (sI σ (a + 1) i).toNat := rfl
      refine v_Pan_bits_4 d a _ _ z2 σ K hP ⟨fun c => absurd c (by omega), fun _ => ?_⟩
      rw [Int.toNat_natCast]
      refine ⟨by omega, fun c => ⟨by omega, ?_⟩, fun c => ⟨by omega, ?_⟩⟩
      · have ih := ih (am_cl z2)
        rw [es, if_pos (by omega)] at ih
        exact ih
      · have ih := ih none
        rw [es, if_neg (by omega)] at ih
        obtain ⟨k, hk⟩ := nn (show 0 ≤ sI σ (a + 1) i by omega)
        rw [hk] at ih ⊢
        rw [Int.toNat_natCast] at ih
        have hp := p40 (k := k) (by omega)
        have e1 : a_lshl 1 (k : Int) = ((2 ^ k : Nat) : Int) := by
          have := a_lshl_n (x := 1) (k := k) (by omega) (by omega)
          rw [Nat.one_mul] at this
          exact this
        rw [e1, a_lor_n (by omega) (by omega)]
        exact ih
  exact hS 0 (Nat.zero_le _) none
theorem v_Pan_digestOnto_0 (d : Nat) (p0 : Nat) (p1 : Int) (σ : am_S) (K : Int → am_S → Prop) (hP : PF σ p0) (h :
  am_Runs PP MLL d m_Pan_digestOnto 10 [some (qr (p0, 2, 2)), some (ql p1), none, some (ql (w64 ((w64 (31 * p1)) + (sI σ p0 1)))), none, some (qi 0)] [] σ (kL K)) : am_Runs PP MLL d m_Pan_digestOnto 0 [some (qr (p0, 2, 2)), some (ql p1), none, none, none, none] [] σ (kL K) := am_wEF_ok (orc []) 200 (⟨rfl, h⟩)

theorem v_Pan_digestOnto_10 (d : Nat) (p0 : Nat) (v3 v5 : Int) (z1 z2 z4 : Option am_V) (σ : am_S) (K : Int → am_S → Prop) (hP : PF σ p0) (h :
  (((sI σ p0 1) ≤ v5 →
    K v3 σ) ∧
  (¬ ((sI σ p0 1) ≤ v5) →
    (0 ≤ v5 ∧ v5 < 20 ∧ -2147483648 ≤ v5 + 1 ∧ v5 + 1 < 2147483648) ∧
    am_Runs PP MLL d m_Pan_digestOnto 10 [some (qr (p0, 2, 2)), z1, (am_cl z2), some (ql (w64 ((w64 (31 * v3)) + (sI σ (p0 + 1) (Int.toNat v5))))), none, some (qi (v5 + 1))] [] σ (kL K)))) : am_Runs PP MLL d m_Pan_digestOnto 10 [some (qr (p0, 2, 2)), z1, z2, some (ql v3), z4, some (qi v5)] [] σ (kL K) := am_wEF_ok (orc [(18, p0 + 1, 20, 20)]) 200 (⟨rfl, ⟨fun c2 => (h.1 c2), fun c2 => ⟨⟨rfl, hP⟩, ⟨⟨rfl, (h.2 c2).1.1, (h.2 c2).1.2.1⟩, ⟨⟨(h.2 c2).1.2.2.1, (h.2 c2).1.2.2.2⟩, (h.2 c2).2⟩⟩⟩⟩⟩)

theorem c_Pan_digest (d : Nat) {a : Nat} {v : Int} {σ : am_S} {K : Int → am_S → Prop} (hP : PF σ a) (hp : sI σ a 1 ≤ 20) (h : K (dgP (sI σ (a + 1)) (sI σ a 1) v) σ) : am_Calls PP MLL (d + 1) m_Pan_digestOnto [qr (a, 2, 2), ql v] σ (kL K) := by
  refine v_Pan_digestOnto_0 d a v σ K hP ?_
  have hS : ∀ i : Nat, i ≤ (sI σ a 1).toNat → ∀ z1 z2 z4, am_Runs PP MLL d m_Pan_digestOnto 10 [some (qr (a, 2, 2)), z1, z2, some (ql (dgT (sI σ (a + 1)) i (w64 (w64 (31 * v) + sI σ a 1)))), z4, some (qi (i : Int))] [] σ (kL K) := by
    refine lp ?_ ?_
    · intro z1 z2 z4
      exact v_Pan_digestOnto_10 d a _ _ z1 z2 z4 σ K hP ⟨fun _ => h, fun c => absurd (by omega) c⟩
    · intro i hi ih z1 z2 z4
      refine v_Pan_digestOnto_10 d a _ _ z1 z2 z4 σ K hP ⟨fun c => absurd c (by omega), fun _ => ⟨by omega, ?_⟩⟩
      rw [Int.toNat_natCast]
      exact ih _ _ _
  exact hS 0 (Nat.zero_le _) _ _ _
theorem v_Pan_clear_0 (d : Nat) (p0 : Nat) (σ : am_S) (K : am_S → Prop) (hP : PF σ p0) (h :
  am_Calls PP MLL (d + 1) m_Arr_fill_AIIV [qr (p0 + 1, 20, 20), qi (-1)] σ (kV fun s1 =>
    (PF s1 p0) ∧
    K s1)) : am_Runs PP MLL (d + 1) m_Pan_clear 0 [some (qr (p0, 2, 2))] [] σ (kV K) := am_wEF_ok (orc [(1, p0 + 1, 20, 20)]) 200 (⟨⟨rfl, hP⟩, (am_cV h fun s1 h1 => h1.2)⟩)

theorem c_Pan_clear (d : Nat) {a : Nat} {σ : am_S} {K : am_S → Prop} (hP : PF σ a) (h : K (rowI σ (a + 1) (fun j => if j < 20 then -1 else sI σ (a + 1) j))) : am_Calls PP MLL (d + 2) m_Pan_clear [qr (a, 2, 2)] σ (kV K) :=
  v_Pan_clear_0 d a σ K hP (c_fillI d (by decide) ⟨hP, h⟩)
theorem v_Pan_lay_0 (d : Nat) (p0 : Nat) (p1 : Int) (σ : am_S) (K : am_S → Prop) (hP : PF σ p0) (h :
  am_Calls PP MLL (d + 2) m_Pan_clear [qr (p0, 2, 2)] (putI σ p0 1 p1) (kV fun s1 =>
    (PF s1 p0) ∧
    K s1)) : am_Runs PP MLL (d + 2) m_Pan_lay 0 [some (qr (p0, 2, 2)), some (qi p1)] [] σ (kV K) := am_wEF_ok (orc []) 200 (⟨rfl, ⟨rfl, (am_cV h fun s1 h1 => h1.2)⟩⟩)

theorem c_Pan_lay (d : Nat) {a : Nat} {n : Int} {σ : am_S} {K : am_S → Prop} (hP : PF σ a) (h : K (rowI (putI σ a 1 n) (a + 1) (fun j => if j < 20 then -1 else sI σ (a + 1) j))) : am_Calls PP MLL (d + 3) m_Pan_lay [qr (a, 2, 2), qi n] σ (kV K) := by
  refine v_Pan_lay_0 d a n σ K hP (c_Pan_clear d hP ⟨hP, ?_⟩)
  have e : sI (putI σ a 1 n) (a + 1) = sI σ (a + 1) := put_ne (by omega)
  rw [e]
  exact h
theorem v_Balance_tells_0 (d : Nat) (β μ κ ρ : Nat → Nat) (me : Nat → Nat → Nat) (b n : Nat) (p1 : Int) (σ : am_S) (K : Int → am_S → Prop) (hB : BS σ β μ κ ρ me n) (ho : (sI σ 10 2) = 0) (h :
  (((sI σ (β b) 0) = 1 →
    b < n ∧
    K p1 σ) ∧
  (¬ ((sI σ (β b) 0) = 1) →
  (((sI σ (β b) 0) = 2 →
    b < n ∧
    (-2147483648 ≤ Int.tdiv p1 2 ∧ Int.tdiv p1 2 < 2147483648) ∧
    K (Int.tdiv p1 2) σ) ∧
  (¬ ((sI σ (β b) 0) = 2) →
  (((sI σ (β b) 0) = 3 →
    b < n ∧
    (-2147483648 ≤ Int.tdiv p1 2 ∧ Int.tdiv p1 2 < 2147483648) ∧
    K (Int.tdiv p1 2) σ) ∧
  (¬ ((sI σ (β b) 0) = 3) →
  (((sI σ (β b) 0) = 4 →
    b < n ∧
    ((p1 < (-1) →
      K (if p1 ≤ 0 then (if 0 ≤ p1 then (0 : Int) else (-1) : Int) else 1) σ) ∧
    (¬ (p1 < (-1)) →
      ((1 < p1 →
        K (if p1 ≤ 0 then (if 0 ≤ p1 then (0 : Int) else (-1) : Int) else 1) σ) ∧
      (¬ (1 < p1) →
        K 0 σ))))) ∧
  (¬ ((sI σ (β b) 0) = 4) →
  b < n ∧
  K (if p1 ≤ 0 then (if 0 ≤ p1 then (0 : Int) else (-1) : Int) else 1) σ))))))))) : am_Runs PP MLL (d + 3) m_Balance_tells 0 [some (qr (β b, 0, 9)), some (qi p1)] [] σ (kI K) := am_wEF_ok (orc []) 200 (⟨rfl, ⟨fun c1 => ⟨rfl, am_wEF_ok (orc [(1, 10, 7, 3)]) 200 (⟨⟨rfl, (hB b (h.1 c1).1).2.2.1⟩, ⟨rfl, am_wEF_ok (orc []) 200 (⟨rfl, ⟨fun _ => (h.1 c1).2, fun c => absurd ho c⟩⟩)⟩⟩)⟩, fun c1 => ⟨fun c2 => ⟨rfl, am_wEF_ok (orc [(1, 10, 7, 3)]) 200 (⟨⟨rfl, (hB b ((h.2 c1).1 c2).1).2.2.1⟩, ⟨rfl, am_wEF_ok (orc []) 200 (⟨rfl, ⟨fun _ => ⟨rfl, am_wEF_ok (orc [(1, 10, 7, 3)]) 200 (⟨⟨rfl, (hB b ((h.2 c1).1 c2).1).2.2.1⟩, ⟨rfl, am_wEF_ok (orc []) 200 (⟨rfl, ⟨fun _ => ⟨⟨(by decide : (2 : Int) ≠ 0), ((h.2 c1).1 c2).2.1.1, ((h.2 c1).1 c2).2.1.2⟩, ((h.2 c1).1 c2).2.2⟩, fun c => absurd ho c⟩⟩)⟩⟩)⟩, fun c => absurd ho c⟩⟩)⟩⟩)⟩, fun c2 => ⟨fun c3 => ⟨rfl, am_wEF_ok (orc [(1, 10, 7, 3)]) 200 (⟨⟨rfl, (hB b (((h.2 c1).2 c2).1 c3).1).2.2.1⟩, ⟨rfl, am_wEF_ok (orc []) 200 (⟨rfl, ⟨fun _ => ⟨rfl, am_wEF_ok (orc [(1, 10, 7, 3)]) 200 (⟨⟨rfl, (hB b (((h.2 c1).2 c2).1 c3).1).2.2.1⟩, ⟨rfl, am_wEF_ok (orc []) 200 (⟨rfl, ⟨fun _ => ⟨⟨(by decide : (2 : Int) ≠ 0), (((h.2 c1).2 c2).1 c3).2.1.1, (((h.2 c1).2 c2).1 c3).2.1.2⟩, (((h.2 c1).2 c2).1 c3).2.2⟩, fun c => absurd ho c⟩⟩)⟩⟩)⟩, fun c => absurd ho c⟩⟩)⟩⟩)⟩, fun c3 => ⟨fun c4 => ⟨rfl, am_wEF_ok (orc [(1, 10, 7, 3)]) 200 (⟨⟨rfl, (hB b ((((h.2 c1).2 c2).2 c3).1 c4).1).2.2.1⟩, ⟨rfl, am_wEF_ok (orc []) 200 (⟨rfl, ⟨fun _ => ⟨fun c6 => ⟨rfl, am_wEC_ok (orc [(1, 10, 7, 3)]) [13] 200 (⟨⟨rfl, (hB b ((((h.2 c1).2 c2).2 c3).1 c4).1).2.2.1⟩, ⟨rfl, am_wEF_ok (orc []) 200 (⟨rfl, ⟨fun _ => am_use (fun H9 => ⟨fun c7 => ⟨fun c8 => (Eq.mp (congrArg (fun z => am_Runs _ _ _ _ _ _ (qi z :: _) _ _) (Eq.trans (if_pos c7 : (if p1 ≤ 0 then (if 0 ≤ p1 then (0 : Int) else (-1) : Int) else 1) = if 0 ≤ p1 then (0 : Int) else (-1)) (if_pos c8 : (if 0 ≤ p1 then (0 : Int) else (-1)) = 0))) H9), fun c8 => (Eq.mp (congrArg (fun z => am_Runs _ _ _ _ _ _ (qi z :: _) _ _) (Eq.trans (if_pos c7 : (if p1 ≤ 0 then (if 0 ≤ p1 then (0 : Int) else (-1) : Int) else 1) = if 0 ≤ p1 then (0 : Int) else (-1)) (if_neg c8 : (if 0 ≤ p1 then (0 : Int) else (-1)) = (-1)))) H9)⟩, fun c7 => (Eq.mp (congrArg (fun z => am_Runs _ _ _ _ _ _ (qi z :: _) _ _) (if_neg c7 : (if p1 ≤ 0 then (if 0 ≤ p1 then (0 : Int) else (-1) : Int) else 1) = 1)) H9)⟩) (am_wEC_ok (orc []) [13] 200 ((((((h.2 c1).2 c2).2 c3).1 c4).2.1 c6))), fun c => absurd ho c⟩⟩)⟩⟩)⟩, fun c6 => ⟨fun c11 => ⟨rfl, am_wEC_ok (orc [(1, 10, 7, 3)]) [13] 200 (⟨⟨rfl, (hB b ((((h.2 c1).2 c2).2 c3).1 c4).1).2.2.1⟩, ⟨rfl, am_wEF_ok (orc []) 200 (⟨rfl, ⟨fun _ => am_use (fun H14 => ⟨fun c12 => ⟨fun c13 => (Eq.mp (congrArg (fun z => am_Runs _ _ _ _ _ _ (qi z :: _) _ _) (Eq.trans (if_pos c12 : (if p1 ≤ 0 then (if 0 ≤ p1 then (0 : Int) else (-1) : Int) else 1) = if 0 ≤ p1 then (0 : Int) else (-1)) (if_pos c13 : (if 0 ≤ p1 then (0 : Int) else (-1)) = 0))) H14), fun c13 => (Eq.mp (congrArg (fun z => am_Runs _ _ _ _ _ _ (qi z :: _) _ _) (Eq.trans (if_pos c12 : (if p1 ≤ 0 then (if 0 ≤ p1 then (0 : Int) else (-1) : Int) else 1) = if 0 ≤ p1 then (0 : Int) else (-1)) (if_neg c13 : (if 0 ≤ p1 then (0 : Int) else (-1)) = (-1)))) H14)⟩, fun c12 => (Eq.mp (congrArg (fun z => am_Runs _ _ _ _ _ _ (qi z :: _) _ _) (if_neg c12 : (if p1 ≤ 0 then (if 0 ≤ p1 then (0 : Int) else (-1) : Int) else 1) = 1)) H14)⟩) (am_wEC_ok (orc []) [13] 200 (((((((h.2 c1).2 c2).2 c3).1 c4).2.2 c6).1 c11))), fun c => absurd ho c⟩⟩)⟩⟩)⟩, fun c11 => ((((((h.2 c1).2 c2).2 c3).1 c4).2.2 c6).2 c11)⟩⟩, fun c => absurd ho c⟩⟩)⟩⟩)⟩, fun c4 => ⟨rfl, am_wEC_ok (orc [(1, 10, 7, 3)]) [13] 200 (⟨⟨rfl, (hB b ((((h.2 c1).2 c2).2 c3).2 c4).1).2.2.1⟩, ⟨rfl, am_wEF_ok (orc []) 200 (⟨rfl, ⟨fun _ => am_use (fun H17 => ⟨fun c15 => ⟨fun c16 => (Eq.mp (congrArg (fun z => am_Runs _ _ _ _ _ _ (qi z :: _) _ _) (Eq.trans (if_pos c15 : (if p1 ≤ 0 then (if 0 ≤ p1 then (0 : Int) else (-1) : Int) else 1) = if 0 ≤ p1 then (0 : Int) else (-1)) (if_pos c16 : (if 0 ≤ p1 then (0 : Int) else (-1)) = 0))) H17), fun c16 => (Eq.mp (congrArg (fun z => am_Runs _ _ _ _ _ _ (qi z :: _) _ _) (Eq.trans (if_pos c15 : (if p1 ≤ 0 then (if 0 ≤ p1 then (0 : Int) else (-1) : Int) else 1) = if 0 ≤ p1 then (0 : Int) else (-1)) (if_neg c16 : (if 0 ≤ p1 then (0 : Int) else (-1)) = (-1)))) H17)⟩, fun c15 => (Eq.mp (congrArg (fun z => am_Runs _ _ _ _ _ _ (qi z :: _) _ _) (if_neg c15 : (if p1 ≤ 0 then (if 0 ≤ p1 then (0 : Int) else (-1) : Int) else 1) = 1)) H17)⟩) (am_wEC_ok (orc []) [13] 200 (((((h.2 c1).2 c2).2 c3).2 c4).2)), fun c => absurd ho c⟩⟩)⟩⟩)⟩⟩⟩⟩⟩⟩)

theorem c_tells (d : Nat) {β μ κ ρ : Nat → Nat} {me : Nat → Nat → Nat} {b n : Nat} {x : Int} {σ : am_S} {K : Int → am_S → Prop} (hB : BS σ β μ κ ρ me n) (hb : b < n) (ho : sI σ 10 2 = 0) (hx : -100 ≤ x ∧ x ≤ 100) (h : K (tl (sI σ (β b) 0) x) σ) : am_Calls PP MLL (d + 4) m_Balance_tells [qr (β b, 0, 9), qi x] σ (kI K) := by
  refine v_Balance_tells_0 d β μ κ ρ me b n x σ K hB ho ?_
  have hd := tdiv2_bd hx
  repeat' first | apply And.intro | intro _
  all_goals try first | omega | assumption
  all_goals
    refine kEq h ?_ rfl
    unfold tl sgn
    (repeat' split) <;> omega
theorem v_Balance_mostAlone_0 (d : Nat) (β μ κ ρ : Nat → Nat) (me : Nat → Nat → Nat) (b n : Nat) (σ : am_S) (K : Int → am_S → Prop) (hB : BS σ β μ κ ρ me n) (ho : (sI σ 10 2) = 0) (h :
  (((sI σ (β b) 0) = 1 →
    b < n ∧
    K 3 σ) ∧
  (¬ ((sI σ (β b) 0) = 1) →
  (((sI σ (β b) 0) = 2 →
    b < n ∧
    (-2147483648 ≤ Int.tdiv 3 2 ∧ Int.tdiv 3 2 < 2147483648) ∧
    K (Int.tdiv 3 2) σ) ∧
  (¬ ((sI σ (β b) 0) = 2) →
  (((sI σ (β b) 0) = 3 →
    b < n ∧
    (-2147483648 ≤ Int.tdiv 3 2 ∧ Int.tdiv 3 2 < 2147483648) ∧
    K (Int.tdiv 3 2) σ) ∧
  (¬ ((sI σ (β b) 0) = 3) →
  b < n ∧
  K 1 σ))))))) : am_Runs PP MLL (d + 4) m_Balance_mostAlone 0 [some (qr (β b, 0, 9))] [] σ (kI K) := am_wEF_ok (orc []) 200 (⟨rfl, ⟨fun c1 => ⟨rfl, am_wEF_ok (orc [(1, 10, 7, 3)]) 200 (⟨⟨rfl, (hB b (h.1 c1).1).2.2.1⟩, ⟨rfl, am_wEF_ok (orc []) 200 (⟨rfl, ⟨fun _ => ⟨rfl, am_wEF_ok (orc [(1, 10, 7, 3)]) 200 (⟨⟨rfl, (hB b (h.1 c1).1).2.2.1⟩, ⟨rfl, am_wEF_ok (orc []) 200 (⟨rfl, ⟨fun _ => ⟨⟨(by decide : (-2147483648 : Int) ≤ 3), (by decide : (3 : Int) < 2147483648)⟩, (h.1 c1).2⟩, fun c => absurd ho c⟩⟩)⟩⟩)⟩, fun c => absurd ho c⟩⟩)⟩⟩)⟩, fun c1 => ⟨fun c2 => ⟨rfl, am_wEF_ok (orc [(1, 10, 7, 3)]) 200 (⟨⟨rfl, (hB b ((h.2 c1).1 c2).1).2.2.1⟩, ⟨rfl, am_wEF_ok (orc []) 200 (⟨rfl, ⟨fun _ => ⟨rfl, am_wEF_ok (orc [(1, 10, 7, 3)]) 200 (⟨⟨rfl, (hB b ((h.2 c1).1 c2).1).2.2.1⟩, ⟨rfl, am_wEF_ok (orc []) 200 (⟨rfl, ⟨fun _ => ⟨rfl, am_wEF_ok (orc [(1, 10, 7, 3)]) 200 (⟨⟨rfl, (hB b ((h.2 c1).1 c2).1).2.2.1⟩, ⟨rfl, am_wEF_ok (orc []) 200 (⟨rfl, ⟨fun _ => ⟨⟨(by decide : (-2147483648 : Int) ≤ 3), (by decide : (3 : Int) < 2147483648)⟩, ⟨⟨(by decide : (2 : Int) ≠ 0), ((h.2 c1).1 c2).2.1.1, ((h.2 c1).1 c2).2.1.2⟩, ((h.2 c1).1 c2).2.2⟩⟩, fun c => absurd ho c⟩⟩)⟩⟩)⟩, fun c => absurd ho c⟩⟩)⟩⟩)⟩, fun c => absurd ho c⟩⟩)⟩⟩)⟩, fun c2 => ⟨fun c3 => ⟨rfl, am_wEF_ok (orc [(1, 10, 7, 3)]) 200 (⟨⟨rfl, (hB b (((h.2 c1).2 c2).1 c3).1).2.2.1⟩, ⟨rfl, am_wEF_ok (orc []) 200 (⟨rfl, ⟨fun _ => ⟨rfl, am_wEF_ok (orc [(1, 10, 7, 3)]) 200 (⟨⟨rfl, (hB b (((h.2 c1).2 c2).1 c3).1).2.2.1⟩, ⟨rfl, am_wEF_ok (orc []) 200 (⟨rfl, ⟨fun _ => ⟨rfl, am_wEF_ok (orc [(1, 10, 7, 3)]) 200 (⟨⟨rfl, (hB b (((h.2 c1).2 c2).1 c3).1).2.2.1⟩, ⟨rfl, am_wEF_ok (orc []) 200 (⟨rfl, ⟨fun _ => ⟨⟨(by decide : (-2147483648 : Int) ≤ 3), (by decide : (3 : Int) < 2147483648)⟩, ⟨⟨(by decide : (2 : Int) ≠ 0), (((h.2 c1).2 c2).1 c3).2.1.1, (((h.2 c1).2 c2).1 c3).2.1.2⟩, (((h.2 c1).2 c2).1 c3).2.2⟩⟩, fun c => absurd ho c⟩⟩)⟩⟩)⟩, fun c => absurd ho c⟩⟩)⟩⟩)⟩, fun c => absurd ho c⟩⟩)⟩⟩)⟩, fun c3 => ⟨rfl, am_wEF_ok (orc [(1, 10, 7, 3)]) 200 (⟨⟨rfl, (hB b (((h.2 c1).2 c2).2 c3).1).2.2.1⟩, ⟨rfl, am_wEF_ok (orc []) 200 (⟨rfl, ⟨fun _ => (((h.2 c1).2 c2).2 c3).2, fun c => absurd ho c⟩⟩)⟩⟩)⟩⟩⟩⟩⟩)

theorem c_mostAlone (d : Nat) {β μ κ ρ : Nat → Nat} {me : Nat → Nat → Nat} {b n : Nat} {σ : am_S} {K : Int → am_S → Prop} (hB : BS σ β μ κ ρ me n) (hb : b < n) (ho : sI σ 10 2 = 0) (h : K (mo (sI σ (β b) 0)) σ) : am_Calls PP MLL (d + 5) m_Balance_mostAlone [qr (β b, 0, 9)] σ (kI K) := by
  refine v_Balance_mostAlone_0 d β μ κ ρ me b n σ K hB ho ?_
  have h32 : Int.tdiv 3 2 = 1 := rfl
  repeat' first | apply And.intro | intro _
  all_goals try first | omega | assumption
  all_goals
    refine kEq h ?_ rfl
    unfold mo
    (repeat' split) <;> omega
theorem v_Balance_weigherAt_0 (d : Nat) (β μ κ ρ : Nat → Nat) (me : Nat → Nat → Nat) (b n : Nat) (p1 : Int) (σ : am_S) (K : Option am_R → am_S → Prop) (hB : BS σ β μ κ ρ me n) (h :
  b < n ∧
  ((((κ b : Nat) : Int) = 0 →
    K (some (β b, 0, 9)) σ) ∧
  (¬ (((κ b : Nat) : Int) = 0) →
    (0 < ((κ b : Nat) : Int) ∧ ((κ b : Nat) : Int) ≤ 100 ∧ 0 ≤ p1 ∧ p1 ≤ 100) ∧
    (0 ≤ (p1 % ((κ b : Nat) : Int)) ∧ (p1 % ((κ b : Nat) : Int)) < ((κ b : Nat) : Int) ∧ (Int.toNat (p1 % ((κ b : Nat) : Int))) < κ b) ∧
    K (some (β (me b (Int.toNat (p1 % ((κ b : Nat) : Int)))), 0, 9)) σ))) : am_Runs PP MLL (d + 1) m_Balance_weigherAt 0 [some (qr (β b, 0, 9)), some (qi p1)] [] σ (kO K) := am_wEF_ok (orc [(1, μ b, 22, κ b), (7, μ b, 22, κ b), (10, μ b, 22, κ b), (13, β (me b (Int.toNat (p1 % ((κ b : Nat) : Int)))), 0, 9)]) 200 (⟨⟨rfl, (hB b h.1).2.1⟩, ⟨⟨(by decide : 20 ≤ 22), (by decide : 22 < 25)⟩, ⟨fun c1 => (h.2.1 c1), fun c1 => ⟨⟨rfl, (hB b h.1).2.1⟩, ⟨⟨rfl, (hB b h.1).2.1⟩, ⟨⟨(by decide : 20 ≤ 22), (by decide : 22 < 25)⟩, c_floorMod _ (h.2.2 c1).1.1 (h.2.2 c1).1.2.1 (h.2.2 c1).1.2.2.1 (h.2.2 c1).1.2.2.2 (⟨⟨rfl, (h.2.2 c1).2.1.1, (h.2.2 c1).2.1.2.1, (hB b h.1).2.2.2.2.2.2.2 (Int.toNat (p1 % ((κ b : Nat) : Int))) (h.2.2 c1).2.1.2.2⟩, (h.2.2 c1).2.2⟩)⟩⟩⟩⟩⟩⟩)

/-- which balance weighs, in the class -/
def cw (κ : Nat → Nat) (me : Nat → Nat → Nat) (b t : Nat) : Nat := if κ b = 0 then b else me b (t % κ b)
theorem c_weigherAt (d : Nat) {β μ κ ρ : Nat → Nat} {me : Nat → Nat → Nat} {b n : Nat} {t : Nat} {σ : am_S} {K : Option am_R → am_S → Prop} (hB : BS σ β μ κ ρ me n) (hb : b < n) (hk : κ b ≤ 3) (ht : t ≤ 100) (h : K (some (β (cw κ me b t), 0, 9)) σ) : am_Calls PP MLL (d + 2) m_Balance_weigherAt [qr (β b, 0, 9), qi (t : Int)] σ (kO K) := by
  unfold cw at h
  refine v_Balance_weigherAt_0 d β μ κ ρ me b n t σ K hB ⟨hb, fun c => ?_, fun c => ?_⟩
  · rw [if_pos (by omega)] at h; exact h
  · rw [if_neg (by omega)] at h
    have hlt : t % κ b < κ b := Nat.mod_lt _ (by omega)
    have e : Int.toNat ((t : Int) % ((κ b : Nat) : Int)) = t % κ b := by omega
    rw [e]
    exact ⟨by omega, by omega, h⟩
theorem v_Balance_isWhole_0 (d : Nat) (β μ κ ρ : Nat → Nat) (me : Nat → Nat → Nat) (b n : Nat) (p1 : Int) (σ : am_S) (K : Int → am_S → Prop) (hB : BS σ β μ κ ρ me n) (h :
  (((sI σ (β b) 6) = 0 →
    am_Runs PP MLL d m_Balance_isWhole 7 [some (qr (β b, 0, 9)), some (qi p1), some (qi 0)] [] σ (kI K)) ∧
  (¬ ((sI σ (β b) 6) = 0) →
    K 0 σ))) : am_Runs PP MLL d m_Balance_isWhole 0 [some (qr (β b, 0, 9)), some (qi p1), none] [] σ (kI K) := am_wEF_ok (orc []) 200 (⟨rfl, ⟨fun c1 => (h.1 c1), fun c1 => ⟨(Or.inl rfl), (h.2 c1)⟩⟩⟩)

theorem v_Balance_isWhole_7 (d : Nat) (β μ κ ρ : Nat → Nat) (me : Nat → Nat → Nat) (b n : Nat) (p1 v2 : Int) (σ : am_S) (K : Int → am_S → Prop) (hB : BS σ β μ κ ρ me n) (h :
  b < n ∧
  ((((κ b : Nat) : Int) ≤ v2 →
    K 1 σ) ∧
  (¬ (((κ b : Nat) : Int) ≤ v2) →
    ((p1 ≤ v2 →
      K 1 σ) ∧
    (¬ (p1 ≤ v2) →
      (0 ≤ v2 ∧ v2 < ((κ b : Nat) : Int) ∧ (Int.toNat v2) < κ b) ∧
      (((sI σ (β (me b (Int.toNat v2))) 6) = 0 →
        (-2147483648 ≤ v2 + 1 ∧ v2 + 1 < 2147483648) ∧
        am_Runs PP MLL d m_Balance_isWhole 7 [some (qr (β b, 0, 9)), some (qi p1), some (qi (v2 + 1))] [] σ (kI K)) ∧
      (¬ ((sI σ (β (me b (Int.toNat v2))) 6) = 0) →
        K 0 σ))))))) : am_Runs PP MLL d m_Balance_isWhole 7 [some (qr (β b, 0, 9)), some (qi p1), some (qi v2)] [] σ (kI K) := am_wEF_ok (orc [(9, μ b, 22, κ b), (16, μ b, 22, κ b), (18, β (me b (Int.toNat v2)), 0, 9)]) 200 (⟨⟨rfl, (hB b h.1).2.1⟩, ⟨⟨(by decide : 20 ≤ 22), (by decide : 22 < 25)⟩, ⟨fun c1 => ⟨(Or.inr rfl), (h.2.1 c1)⟩, fun c1 => ⟨fun c2 => ⟨(Or.inr rfl), ((h.2.2 c1).1 c2)⟩, fun c2 => ⟨⟨rfl, (hB b h.1).2.1⟩, ⟨⟨rfl, ((h.2.2 c1).2 c2).1.1, ((h.2.2 c1).2 c2).1.2.1, (hB b h.1).2.2.2.2.2.2.2 (Int.toNat v2) ((h.2.2 c1).2 c2).1.2.2⟩, ⟨rfl, ⟨fun c3 => ⟨⟨(((h.2.2 c1).2 c2).2.1 c3).1.1, (((h.2.2 c1).2 c2).2.1 c3).1.2⟩, (((h.2.2 c1).2 c2).2.1 c3).2⟩, fun c3 => ⟨(Or.inl rfl), (((h.2.2 c1).2 c2).2.2 c3)⟩⟩⟩⟩⟩⟩⟩⟩⟩)

theorem c_isWhole (d : Nat) {β μ κ ρ : Nat → Nat} {me : Nat → Nat → Nat} {b n : Nat} {t : Nat} {σ : am_S} {K : Int → am_S → Prop} (hB : BS σ β μ κ ρ me n) (hb : b < n) (hk : κ b ≤ 3)
    (hy : sI σ (β b) 6 = 0 → (∀ i, i < κ b → i < t → sI σ (β (me b i)) 6 = 0) → K 1 σ) (hn : (sI σ (β b) 6 ≠ 0 ∨ ∃ i, i < κ b ∧ i < t ∧ sI σ (β (me b i)) 6 ≠ 0) → K 0 σ) : am_Calls PP MLL (d + 1) m_Balance_isWhole [qr (β b, 0, 9), qi (t : Int)] σ (kI K) := by
  refine v_Balance_isWhole_0 d β μ κ ρ me b n t σ K hB ⟨fun c => ?_, fun c => hn (Or.inl c)⟩
  have hS : ∀ i : Nat, i ≤ κ b → (∀ j, j < i → j < t → sI σ (β (me b j)) 6 = 0) → am_Runs PP MLL d m_Balance_isWhole 7 [some (qr (β b, 0, 9)), some (qi (t : Int)), some (qi (i : Int))] [] σ (kI K) := by
    refine lp ?_ ?_
    · intro hj
      exact v_Balance_isWhole_7 d β μ κ ρ me b n t _ σ K hB ⟨hb, fun _ => hy c hj, fun c => absurd (Int.le_refl _) c⟩
    · intro i hi ih hj
      refine v_Balance_isWhole_7 d β μ κ ρ me b n t _ σ K hB ⟨hb, fun c => absurd c (by omega), fun _ => ⟨fun c1 => hy c (fun j _ hjt => hj j (by omega) hjt), fun c1 => ?_⟩⟩
      rw [Int.toNat_natCast]
      refine ⟨by omega, fun c2 => ⟨by omega, ?_⟩, fun c2 => hn (Or.inr ⟨i, hi, by omega, c2⟩)⟩
      refine ih (fun j hji hjt => ?_)
      by_cases e : j = i
      · rw [e]; exact c2
      · exact hj j (by omega) hjt
  exact hS 0 (Nat.zero_le _) (fun j hj => absurd hj (Nat.not_lt_zero j))
theorem v_Balance_digestOnto_0 (d : Nat) (β μ κ ρ : Nat → Nat) (me : Nat → Nat → Nat) (b n : Nat) (p1 : Int) (σ : am_S) (K : Int → am_S → Prop) (hB : BS σ β μ κ ρ me n) (h :
  (((sI σ (β b) 6) = 0 →
    (((sI σ (β b) 0) = 6 →
      K (w64 ((w64 (31 * (w64 ((w64 (31 * p1)) + (sI σ (β b) 0))))) + (sI σ (β b) 7))) σ) ∧
    (¬ ((sI σ (β b) 0) = 6) →
      b < n ∧
      am_Calls PP MLL (d + 1) m_Pan_digestOnto [qr (ρ b, 2, 2), ql (w64 ((w64 (31 * (w64 ((w64 (31 * p1)) + (sI σ (β b) 0))))) + (sI σ (β b) 7)))] σ (kL fun x4 s4 =>
        (BS s4 β μ κ ρ me n) ∧
        am_Calls PP MLL (d + 1) m_Pan_digestOnto [qr (ρ b + 2, 2, 2), ql x4] s4 (kL fun x5 s5 =>
          (BS s5 β μ κ ρ me n) ∧
          K x5 s5))))) ∧
  (¬ ((sI σ (β b) 6) = 0) →
    K (w64 ((w64 (31 * p1)) - 1)) σ))) : am_Runs PP MLL (d + 1) m_Balance_digestOnto 0 [some (qr (β b, 0, 9)), some (ql p1), none, none, none] [] σ (kL K) := am_wEF_ok (orc [(30, ρ b + 2, 2, 2), (32, ρ b, 2, 2)]) 200 (⟨rfl, ⟨fun c1 => ⟨rfl, ⟨rfl, ⟨rfl, ⟨fun c3 => ((h.1 c1).1 c3), fun c3 => ⟨⟨rfl, (hB b ((h.1 c1).2 c3).1).2.2.2.2.1⟩, ⟨⟨rfl, (hB b ((h.1 c1).2 c3).1).2.2.2.1⟩, ⟨rfl, (am_cL ((h.1 c1).2 c3).2 fun x4 s4 h4 => ⟨rfl, (am_cL h4.2 fun x5 s5 h5 => h5.2)⟩)⟩⟩⟩⟩⟩⟩⟩, fun c1 => (h.2 c1)⟩⟩)

theorem BS_pan {β μ κ ρ : Nat → Nat} {me : Nat → Nat → Nat} {b n : Nat} {σ : am_S} (hB : BS σ β μ κ ρ me n) (hb : b < n) : PF σ (ρ b) ∧ PF σ (ρ b + 2) := ⟨(hB b hb).2.2.2.2.2.1, (hB b hb).2.2.2.2.2.2.1⟩
theorem c_Bdigest (d : Nat) {β μ κ ρ : Nat → Nat} {me : Nat → Nat → Nat} {b n : Nat} {v : Int} {σ : am_S} {K : Int → am_S → Prop} (hB : BS σ β μ κ ρ me n) (hb : b < n) (hp : sI σ (ρ b) 1 ≤ 20 ∧ sI σ (ρ b + 2) 1 ≤ 20) (hk : 0 ≤ sI σ (β b) 0) (ht : sI σ (β b) 6 = 0 ∨ sI σ (β b) 6 = 1) (h : K (dgB (if sI σ (β b) 6 = 0 then sI σ (β b) 0 else -1) (sI σ (β b) 7) (sI σ (ρ b) 1) (sI σ (ρ b + 2) 1) (sI σ (ρ b + 1)) (sI σ (ρ b + 3)) v) σ) : am_Calls PP MLL (d + 2) m_Balance_digestOnto [qr (β b, 0, 9), ql v] σ (kL K) := by
  unfold dgB at h
  obtain ⟨q1, q2⟩ := BS_pan hB hb
  refine v_Balance_digestOnto_0 d β μ κ ρ me b n v σ K hB ⟨fun c => ⟨fun c1 => ?_, fun c1 => ⟨hb, ?_⟩⟩, fun c => ?_⟩
  · rw [if_pos c, if_pos hk, if_pos c1] at h; exact h
  · rw [if_pos c, if_pos hk, if_neg c1] at h
    exact c_Pan_digest d q1 hp.1 ⟨hB, c_Pan_digest d q2 hp.2 ⟨hB, h⟩⟩
  · rw [if_neg c, if_neg (by decide)] at h; exact h
theorem v_Balance_belongsTo_0 (d : Nat) (p0 : Nat) (p1 : Int) (σ : am_S) (K : Int → am_S → Prop) (h :
  am_Runs PP MLL d m_Balance_belongsTo 5 [some (qr (p0, 0, 9)), some (qi p1), some (qi (sI σ p0 0)), some (qi 0)] [] σ (kI K)) : am_Runs PP MLL d m_Balance_belongsTo 0 [some (qr (p0, 0, 9)), some (qi p1), none, none] [] σ (kI K) := am_wEF_ok (orc []) 200 (⟨rfl, h⟩)

theorem v_Balance_belongsTo_5 (d : Nat) (p1 v2 v3 : Int) (z0 : Option am_V) (σ : am_S) (K : Int → am_S → Prop) (h :
  ((7 ≤ v3 →
    K 0 σ) ∧
  (¬ (7 ≤ v3) →
    ((v2 < 0 →
      K 0 σ) ∧
    (¬ (v2 < 0) →
      ((v2 = p1 →
        K 1 σ) ∧
      (¬ (v2 = p1) →
        (0 ≤ v2 ∧ v2 < 7 ∧ -2147483648 ≤ v3 + 1 ∧ v3 + 1 < 2147483648) ∧
        am_Runs PP MLL d m_Balance_belongsTo 5 [z0, some (qi p1), some (qi (sI σ 1 (Int.toNat v2))), some (qi (v3 + 1))] [] σ (kI K)))))))) : am_Runs PP MLL d m_Balance_belongsTo 5 [z0, some (qi p1), some (qi v2), some (qi v3)] [] σ (kI K) := am_wEF_ok (orc []) 200 (⟨⟨(by decide : 20 ≤ 24), (by decide : 24 < 25)⟩, ⟨fun c1 => ⟨(Or.inl rfl), (h.1 c1)⟩, fun c1 => ⟨fun c2 => ⟨(Or.inl rfl), ((h.2 c1).1 c2)⟩, fun c2 => ⟨fun c3 => ⟨(Or.inr rfl), (((h.2 c1).2 c2).1 c3)⟩, fun c3 => ⟨⟨rfl, (((h.2 c1).2 c2).2 c3).1.1, (((h.2 c1).2 c2).2 c3).1.2.1⟩, ⟨⟨(((h.2 c1).2 c2).2 c3).1.2.2.1, (((h.2 c1).2 c2).2 c3).1.2.2.2⟩, (((h.2 c1).2 c2).2 c3).2⟩⟩⟩⟩⟩⟩)

/-- the kinds above -/
def AB (σ : am_S) : Prop := sI σ 1 0 = -1 ∧ sI σ 1 1 = 0 ∧ sI σ 1 2 = 1 ∧ sI σ 1 3 = 2 ∧ sI σ 1 4 = 0 ∧ sI σ 1 5 = 0 ∧ sI σ 1 6 = -1
def blw (k o : Int) : Prop := k = o ∨ (o = 0 ∧ k < 6) ∨ (o = 1 ∧ (k = 2 ∨ k = 3)) ∨ (o = 2 ∧ k = 3)
theorem c_belongsTo (d : Nat) {a : Nat} {o : Int} {σ : am_S} {K : Int → am_S → Prop} (hA : AB σ) (hk : 0 ≤ sI σ a 0 ∧ sI σ a 0 ≤ 6) (ho : 0 ≤ o ∧ o ≤ 6) (hy : blw (sI σ a 0) o → K 1 σ) (hn : ¬ blw (sI σ a 0) o → K 0 σ) : am_Calls PP MLL (d + 1) m_Balance_belongsTo [qr (a, 0, 9), qi o] σ (kI K) := by
  obtain ⟨a0, a1, a2, a3, a4, a5, a6⟩ := hA
  refine v_Balance_belongsTo_0 d a o σ K ?_
  obtain ⟨k, hk1⟩ : ∃ k, k = sI σ a 0 := ⟨_, rfl⟩
  rw [← hk1] at hk hy hn ⊢
  unfold blw at hy hn
  have step : ∀ (v w i : Int) (z : Option am_V), 0 ≤ v → v ≤ 6 → 0 ≤ i → i ≤ 6 → sI σ 1 v.toNat = w → (v = o → K 1 σ) → (v ≠ o → ∀ z, am_Runs PP MLL d m_Balance_belongsTo 5 [z, some (qi o), some (qi w), some (qi (i + 1))] [] σ (kI K)) → am_Runs PP MLL d m_Balance_belongsTo 5 [z, some (qi o), some (qi v), some (qi i)] [] σ (kI K) := by
    intro v w i z h0 h1 h2 h3 hw h4 h5
    refine v_Balance_belongsTo_5 d o v i z σ K ⟨fun c => absurd c (by omega), fun _ => ⟨fun c => absurd c (by omega), fun _ => ⟨fun c => h4 c, fun c => ?_⟩⟩⟩
    rw [hw]
    exact ⟨by omega, h5 c z⟩
  have stop : ∀ (i : Int) (z : Option am_V), ¬ (k = o ∨ (o = 0 ∧ k < 6) ∨ (o = 1 ∧ (k = 2 ∨ k = 3)) ∨ (o = 2 ∧ k = 3)) → am_Runs PP MLL d m_Balance_belongsTo 5 [z, some (qi o), some (qi (-1)), some (qi i)] [] σ (kI K) := by
    intro i z hh
    exact v_Balance_belongsTo_5 d o (-1) i z σ K ⟨fun _ => hn hh, fun _ => ⟨fun _ => hn hh, fun c => absurd (by decide) c⟩⟩
  clear hk1
  rcases (show k = 0 ∨ k = 1 ∨ k = 2 ∨ k = 3 ∨ k = 4 ∨ k = 5 ∨ k = 6 by omega) with rfl | rfl | rfl | rfl | rfl | rfl | rfl
  · exact step 0 (-1) 0 _ (by omega) (by omega) (by omega) (by omega) a0 (fun q => hy (by omega)) (fun q z => stop _ _ (by omega))
  · exact step 1 0 0 _ (by omega) (by omega) (by omega) (by omega) a1 (fun q => hy (by omega)) (fun q z => step 0 (-1) _ _ (by omega) (by omega) (by omega) (by omega) a0 (fun q => hy (by omega)) (fun q z => stop _ _ (by omega)))
  · exact step 2 1 0 _ (by omega) (by omega) (by omega) (by omega) a2 (fun q => hy (by omega)) (fun q z => step 1 0 _ _ (by omega) (by omega) (by omega) (by omega) a1 (fun q => hy (by omega)) (fun q z => step 0 (-1) _ _ (by omega) (by omega) (by omega) (by omega) a0 (fun q => hy (by omega)) (fun q z => stop _ _ (by omega))))
  · exact step 3 2 0 _ (by omega) (by omega) (by omega) (by omega) a3 (fun q => hy (by omega)) (fun q z => step 2 1 _ _ (by omega) (by omega) (by omega) (by omega) a2 (fun q => hy (by omega)) (fun q z => step 1 0 _ _ (by omega) (by omega) (by omega) (by omega) a1 (fun q => hy (by omega)) (fun q z => step 0 (-1) _ _ (by omega) (by omega) (by omega) (by omega) a0 (fun q => hy (by omega)) (fun q z => stop _ _ (by omega)))))
  · exact step 4 0 0 _ (by omega) (by omega) (by omega) (by omega) a4 (fun q => hy (by omega)) (fun q z => step 0 (-1) _ _ (by omega) (by omega) (by omega) (by omega) a0 (fun q => hy (by omega)) (fun q z => stop _ _ (by omega)))
  · exact step 5 0 0 _ (by omega) (by omega) (by omega) (by omega) a5 (fun q => hy (by omega)) (fun q z => step 0 (-1) _ _ (by omega) (by omega) (by omega) (by omega) a0 (fun q => hy (by omega)) (fun q z => stop _ _ (by omega)))
  · exact step 6 (-1) 0 _ (by omega) (by omega) (by omega) (by omega) a6 (fun q => hy (by omega)) (fun q z => stop _ _ (by omega))
