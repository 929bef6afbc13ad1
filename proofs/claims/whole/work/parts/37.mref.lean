/-! the reference: is it left, is it there -/
theorem v_M_isLeft_0 (d : Nat) (p1 : Int) (σ : am_S) (K : Int → am_S → Prop) (hF : MF σ) (h :
  (0 ≤ p1 ∧ p1 < 10000) ∧
  ((0 ≤ (sI σ 37 (Int.toNat p1)) →
    K 0 σ) ∧
  (¬ (0 ≤ (sI σ 37 (Int.toNat p1))) →
    K 1 σ))) : am_Runs PP MLL d m_M_isLeft 0 [some (qr (31, 12, 89)), some (qi p1)] [] σ (kI K) := am_wEF_ok (orc [(1, 37, 20, 10000)]) 200 (⟨⟨rfl, (hF 11)⟩, ⟨⟨rfl, h.1.1, h.1.2⟩, ⟨fun c1 => ⟨(Or.inl rfl), (h.2.1 c1)⟩, fun c1 => ⟨(Or.inr rfl), (h.2.2 c1)⟩⟩⟩⟩)

theorem v_M_isThere_0 (d : Nat) (p1 : Int) (σ : am_S) (K : Int → am_S → Prop) (hF : MF σ) (h :
  (0 ≤ p1 ∧ p1 < 12) ∧
  (((sI σ 41 (Int.toNat p1)) < 0 →
    K 0 σ) ∧
  (¬ ((sI σ 41 (Int.toNat p1)) < 0) →
    K 1 σ))) : am_Runs PP MLL d m_M_isThere 0 [some (qr (31, 12, 89)), some (qi p1)] [] σ (kI K) := am_wEF_ok (orc [(1, 41, 20, 12)]) 200 (⟨⟨rfl, (hF 17)⟩, ⟨⟨rfl, h.1.1, h.1.2⟩, ⟨fun c1 => ⟨(Or.inl rfl), (h.2.1 c1)⟩, fun c1 => ⟨(Or.inr rfl), (h.2.2 c1)⟩⟩⟩⟩)

theorem c_M_isLeft (d : Nat) {t : Int} {σ : am_S} {K : Int → am_S → Prop} (hF : MF σ) (h0 : 0 ≤ t) (h1 : t < 10000) (hy : sI σ 37 t.toNat < 0 → K 1 σ) (hn : ¬ (sI σ 37 t.toNat < 0) → K 0 σ) : am_Calls PP MLL (d + 1) m_M_isLeft [qr (31, 12, 89), qi t] σ (kI K) :=
  v_M_isLeft_0 d t σ K hF ⟨⟨h0, h1⟩, fun c => hn (by omega), fun c => hy (by omega)⟩
theorem c_M_isThere (d : Nat) {t : Int} {σ : am_S} {K : Int → am_S → Prop} (hF : MF σ) (h0 : 0 ≤ t) (h1 : t < 12) (hy : 0 ≤ sI σ 41 t.toNat → K 1 σ) (hn : ¬ (0 ≤ sI σ 41 t.toNat) → K 0 σ) : am_Calls PP MLL (d + 1) m_M_isThere [qr (31, 12, 89), qi t] σ (kI K) :=
  v_M_isThere_0 d t σ K hF ⟨⟨h0, h1⟩, fun c => hn (by omega), fun c => hy (by omega)⟩
theorem c_M_differenceI (d : Nat) {t : Int} {σ : am_S} {K : Int → am_S → Prop} (hF : MF σ) (h0 : 0 ≤ t) (h1 : t < 10000) (hv : TVt (sI σ 33) (sI σ 34) (sI σ 35) 40 t.toNat) (hs : ∀ k, -1 ≤ sI σ 50 k ∧ sI σ 50 k ≤ 1) (h : K (df (sI σ 50) (sI σ 33) (sI σ 34) (sI σ 35) t.toNat) σ) : am_Calls PP MLL (d + 1) m_M_difference [qr (31, 12, 89), qi t] σ (kI K) := by
  obtain ⟨n, rfl⟩ := nn h0
  rw [Int.toNat_natCast] at hv h
  exact c_M_difference d hF (by omega) hv hs h
