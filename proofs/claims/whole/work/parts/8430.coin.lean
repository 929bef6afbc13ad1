/-! the class: a coin of a node -/
theorem lowb0 : ∀ a : Fin 64, ∀ b : Fin 64, 64 * a.val + b.val = 0 ∨ ∃ c : Fin 12, (64 * a.val + b.val) % 2 ^ c.val = 0 ∧ (64 * a.val + b.val) / 2 ^ c.val % 2 = 1 ∧ (((64 * a.val + b.val) &&& ((64 * a.val + b.val) - 1)) + 2 ^ c.val = (64 * a.val + b.val) ∧ ∀ c' : Fin 12, ((64 * a.val + b.val) &&& ((64 * a.val + b.val) - 1)) / 2 ^ c'.val % 2 = if c' = c then 0 else (64 * a.val + b.val) / 2 ^ c'.val % 2) := by decide +kernel
theorem lowb (x : Nat) (hx : x < 4096) : x = 0 ∨ ∃ c : Fin 12, x % 2 ^ c.val = 0 ∧ x / 2 ^ c.val % 2 = 1 ∧ ((x &&& (x - 1)) + 2 ^ c.val = x ∧ ∀ c' : Fin 12, (x &&& (x - 1)) / 2 ^ c'.val % 2 = if c' = c then 0 else x / 2 ^ c'.val % 2) := by
  have := lowb0 ⟨x / 64, by omega⟩ ⟨x % 64, by omega⟩
  have e : 64 * (x / 64) + x % 64 = x := by omega
  rw [e] at this
  exact this
theorem bt_12 {x c : Nat} (hx : x < 4096) (hc : 12 ≤ c) : bt x c = 0 := by
  unfold bt
  have : x / 2 ^ c = 0 := Nat.div_eq_of_lt (Nat.lt_of_lt_of_le (show x < 2 ^ 12 from hx) (Nat.pow_le_pow_right (by decide) hc))
  rw [this]
  rfl
/-- the lowest bit -/
theorem low_x {x : Nat} (hx : x < 4096) (h0 : x ≠ 0) : ∃ c q, c < 12 ∧ x = 2 ^ c * (2 * q + 1) ∧ KB x 0 c ∧ (x &&& (x - 1)) < 4096 ∧ pc (x &&& (x - 1)) = pc x - 1 ∧ ∀ m c', KB (x &&& (x - 1)) m c' → KB x (m + 1) c' := by
  rcases lowb x hx with e | ⟨⟨c, hc⟩, h1, h2, h3, h4⟩
  · exact absurd e h0
  have h1' : x % 2 ^ c = 0 := h1
  have h2' : x / 2 ^ c % 2 = 1 := h2
  have h3' : (x &&& (x - 1)) + 2 ^ c = x := h3
  have y4 : (x &&& (x - 1)) < 4096 := by omega
  have hb : ∀ c', bt (x &&& (x - 1)) c' = if c' = c then 0 else bt x c' := by
    intro c'
    by_cases g : c' < 12
    · have := h4 ⟨c', g⟩
      have e : (x &&& (x - 1)) / 2 ^ c' % 2 = if c' = c then 0 else x / 2 ^ c' % 2 := by
        have e1 : (x &&& (x - 1)) / 2 ^ c' % 2 = if (⟨c', g⟩ : Fin 12) = ⟨c, hc⟩ then 0 else x / 2 ^ c' % 2 := this
        rw [e1]
        by_cases z : c' = c
        · rw [if_pos z, if_pos (by rw [Fin.mk.injEq]; exact z)]
        · rw [if_neg z, if_neg (by rw [Fin.mk.injEq]; exact z)]
      unfold bt
      rw [e]
      by_cases z : c' = c
      · rw [if_pos z, if_pos z]; rfl
      · rw [if_neg z, if_neg z]
    · rw [bt_12 y4 (by omega), bt_12 hx (by omega)]
      split <;> rfl
  have b1 : bt x c = 1 := by unfold bt; rw [h2']; rfl
  have lo : ∀ c', c' < c → bt x c' = 0 := by
    intro c' h
    unfold bt
    obtain ⟨k, hk⟩ : ∃ k, c = c' + 1 + k := ⟨c - c' - 1, by omega⟩
    obtain ⟨Z, eZ⟩ : ∃ Z, Z = x / 2 ^ c := ⟨_, rfl⟩
    have e : x = 2 ^ c * Z := by have := Nat.div_add_mod x (2 ^ c); rw [eZ]; omega
    have p1 : 2 ^ c = 2 ^ c' * (2 * 2 ^ k) := by rw [hk, Nat.pow_add, Nat.pow_add, Nat.pow_one, Nat.mul_assoc]
    have e2 : x / 2 ^ c' = 2 * (2 ^ k * Z) := by
      rw [e, p1, Nat.mul_assoc, Nat.mul_div_cancel_left _ (Nat.pow_pos (by decide)), Nat.mul_assoc]
    rw [e2, Nat.mul_mod_right]
    rfl
  have sz : ∀ n, n ≤ c → sm (bt x) n = 0 := by
    intro n
    induction n with
    | zero => intro _; rfl
    | succ n ih =>
      intro hn
      have e : sm (bt x) (n + 1) = sm (bt x) n + bt x n := rfl
      rw [e, ih (by omega), lo n (by omega)]
      rfl
  have sy : ∀ n, sm (bt (x &&& (x - 1))) n = sm (bt x) n - (if c < n then 1 else 0) := by
    intro n
    induction n with
    | zero => rfl
    | succ n ih =>
      have e : sm (bt x) (n + 1) = sm (bt x) n + bt x n := rfl
      have e2 : sm (bt (x &&& (x - 1))) (n + 1) = sm (bt (x &&& (x - 1))) n + bt (x &&& (x - 1)) n := rfl
      rw [e, e2, ih, hb n]
      by_cases z : n = c
      · rw [if_pos z, if_neg (by omega), if_pos (by omega), z, b1]
        omega
      · rw [if_neg z]
        by_cases w : c < n
        · rw [if_pos w, if_pos (by omega)]
          omega
        · rw [if_neg w, if_neg (by omega)]
          omega
  refine ⟨c, x / 2 ^ c / 2, hc, ?_, ⟨b1, sz c (Nat.le_refl _)⟩, y4, ?_, fun m c' hk => ?_⟩
  · have e := Nat.div_add_mod x (2 ^ c)
    have e2 : 2 * (x / 2 ^ c / 2) + 1 = x / 2 ^ c := by omega
    rw [e2]
    omega
  · unfold pc
    rw [sy 40, if_pos (by omega)]
  · have h5 := hk.1
    rw [hb c'] at h5
    have ne : c' ≠ c := fun e => by rw [if_pos e] at h5; omega
    rw [if_neg ne] at h5
    have gt : c < c' := by
      rcases Nat.lt_trichotomy c' c with w | w | w
      · have := lo c' w; omega
      · exact absurd w ne
      · exact w
    have h6 := hk.2
    rw [sy c', if_pos gt] at h6
    exact ⟨h5, by omega⟩
theorem c_coinOf (d : Nat) {i k aC nC x : Nat} {w : Int} {σ : am_S} {K : Int → am_S → Prop} (hC : CF σ) (hc : sR σ 18 0 = some (aC, 20, nC)) (hn : nC ≤ 144000) (hi : 12 * i + 12 ≤ nC) (hw : w = 0 ∨ w = 1) (hx : sI σ aC (12 * i + w.toNat) = x) (hx4 : x < 4096) (hk : (k : Int) < pc x) (h : ∀ c, KB x k c → K (c : Int) σ) : am_Calls PP MLL (d + 2) m_Tree_coinOf [qr (18, 8, 2), qi (i : Int), qi w, qi (k : Int)] σ (kI K) := by
  have pcx := pc_bd x
  have loop : ∀ q j y, j + q = k → y < 4096 → (q : Int) < pc y → (∀ c, KB y q c → KB x k c) → ∀ z0 z1 z2, am_Runs PP MLL (d + 1) m_Tree_coinOf 7 [z0, z1, z2, some (qi (k : Int)), some (qi (y : Int)), some (qi (j : Int))] [] σ (kI K) := by
    intro q
    induction q with
    | zero =>
      intro j y hj hy hp hy2 z0 z1 z2
      have y0 : y ≠ 0 := fun e => by rw [e, pc_0] at hp; exact absurd hp (by decide)
      obtain ⟨c, q, c12, eq, kb, _⟩ := low_x hy y0
      refine v_Tree_coinOf_7 d aC nC (k : Int) (y : Int) (j : Int) z0 z1 z2 σ K hC hc ⟨fun _ => ?_, fun g => absurd (by omega) g⟩
      refine c_intz d (u := y) (k := c) (q := q) (by rw [BitVec.ofInt_natCast, BitVec.toNat_ofNat]; omega) eq (by omega) (by omega) ⟨⟨hC, hc⟩, h c (hy2 c kb)⟩
    | succ q ih =>
      intro j y hj hy hp hy2 z0 z1 z2
      have y0 : y ≠ 0 := fun e => by rw [e, pc_0] at hp; omega
      obtain ⟨c, q', c12, eq, kb, l4, lp', lk⟩ := low_x hy y0
      refine v_Tree_coinOf_7 d aC nC (k : Int) (y : Int) (j : Int) z0 z1 z2 σ K hC hc ⟨fun g => absurd g (by omega), fun _ => ⟨by omega, ?_⟩⟩
      rw [show (y : Int) - 1 = ((y - 1 : Nat) : Int) by omega, a_and_n (by omega) (by omega), show (j : Int) + 1 = ((j + 1 : Nat) : Int) by omega]
      exact ih (j + 1) _ (by omega) l4 (by rw [lp']; omega) (fun c' hc' => hy2 c' (lk q c' hc')) _ _ _
  refine v_Tree_coinOf_0 d aC nC (i : Int) w (k : Int) σ K hC hc ?_
  have e : Int.toNat ((i : Int) * 12 + (if w = 0 then (0 : Int) else 1)) = 12 * i + w.toNat := by
    rcases hw with e | e
    · rw [e, if_pos rfl]; show _ = 12 * i + 0; omega
    · rw [e, if_neg (by decide)]; show _ = 12 * i + 1; omega
  have e2 : 0 ≤ (if w = 0 then (0 : Int) else 1) ∧ (if w = 0 then (0 : Int) else 1) ≤ 1 := by split <;> omega
  rw [e, hx]
  refine ⟨by omega, by omega, ?_⟩
  exact loop k 0 x (by omega) hx4 hk (fun c hc => hc) _ _ _
