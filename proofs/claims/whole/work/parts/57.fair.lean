/-! a fair load: the class's test and the reference's laying -/
theorem pc_or {B k : Nat} (hk : k < 40) : pc (B ||| 2 ^ k) = pc B + (1 - bt B k) := by
  have e : ∀ c, bt (B ||| 2 ^ k) c = bt B c + (if c = k then 1 - bt B k else 0) := by
    intro c
    rw [bt_or, bt_pow]
    by_cases h : c = k
    · rw [if_pos h, if_pos h, h]; omega
    · rw [if_neg h, if_neg h]; omega
  unfold pc
  rw [sm_congr 40 (fun c _ => e c), sm_lin, sm_one, if_pos hk]
theorem pc_le_ld (f : Nat → Int) (hf : ∀ i, f i < 40) : ∀ n, pc (bts f n) ≤ sm (fun i => if f i < 0 then 0 else 1) n
  | 0 => by
    show sm (bt 0) 40 ≤ 0
    rw [sm_congr 40 (fun c _ => bt_0 c), sm_zero]
    exact Int.le_refl 0
  | n + 1 => by
    have ih := pc_le_ld f hf n
    show pc (if f n < 0 then bts f n else bts f n ||| 2 ^ (f n).toNat) ≤ sm (fun i => if f i < 0 then 0 else 1) n + (if f n < 0 then 0 else 1)
    by_cases h : f n < 0
    · rw [if_pos h, if_pos h]; omega
    · have := hf n
      have hb := bt_01 (bts f n) (f n).toNat
      rw [if_neg h, if_neg h, pc_or (by omega)]; omega
theorem layL_ok (f : Nat → Int) (hf : ∀ i, f i < 40) : ∀ n, (layL f n).2.2 = sm (fun i => if f i < 0 then 0 else 1) n ∧ (∀ c, (layL f n).1 c = bt (bts f n) c) ∧ ((layL f n).2.1 = 0 ↔ pc (bts f n) = sm (fun i => if f i < 0 then 0 else 1) n)
  | 0 => by
    refine ⟨rfl, fun c => (bt_0 c).symm, fun _ => ?_, fun _ => rfl⟩
    show sm (bt 0) 40 = 0
    rw [sm_congr 40 (fun c _ => bt_0 c), sm_zero]
  | n + 1 => by
    obtain ⟨h1, h2, h3⟩ := layL_ok f hf n
    have hle := pc_le_ld f hf n
    have es : sm (fun i => if f i < 0 then 0 else 1) (n + 1) = sm (fun i => if f i < 0 then 0 else 1) n + (if f n < 0 then 0 else 1) := rfl
    have eb : bts f (n + 1) = if f n < 0 then bts f n else bts f n ||| 2 ^ (f n).toNat := rfl
    rw [es, eb]
    unfold layL
    by_cases h : f n < 0
    · rw [if_pos h, if_pos h, if_pos h, Int.add_zero]
      exact ⟨h1, h2, h3⟩
    · have hk := hf n
      have hb := bt_01 (bts f n) (f n).toNat
      rw [if_neg h, if_neg h, if_neg h, pc_or (by omega)]
      refine ⟨by dsimp only; rw [h1], fun c => ?_, ?_⟩
      · dsimp only
        rw [bt_or, bt_pow]
        by_cases e : c = (f n).toNat
        · rw [if_pos e, if_pos e]; omega
        · rw [if_neg e, if_neg e, h2 c]; omega
      · dsimp only
        rw [h2]
        constructor
        · intro q
          by_cases e : (layL f n).2.1 = 0 ∧ bt (bts f n) (f n).toNat = 0
          · have := h3.mp e.1
            rw [e.2]; omega
          · rw [if_neg e] at q
            exact absurd q (by decide)
        · intro q
          rw [if_pos ⟨h3.mpr (by omega), by omega⟩]
theorem layR_ok (q : (Nat → Int) × Int) (L : Nat) (hq : ∀ c, q.1 c = bt L c) (f : Nat → Int) (hf : ∀ i, f i < 40) : ∀ n, (layR q f n).2.2 = sm (fun i => if f i < 0 then 0 else 1) n ∧ (∀ c, (layR q f n).1 c = if bt (bts f n) c = 1 then -1 else bt L c) ∧ ((layR q f n).2.1 = 0 ↔ (q.2 = 0 ∧ pc (bts f n) = sm (fun i => if f i < 0 then 0 else 1) n ∧ ∀ c, bt L c * bt (bts f n) c = 0))
  | 0 => by
    refine ⟨rfl, fun c => ?_, fun h => ⟨h, ?_, fun c => ?_⟩, fun h => h.1⟩
    · show q.1 c = if bt 0 c = 1 then -1 else bt L c
      rw [bt_0, if_neg (by decide), hq]
    · show sm (bt 0) 40 = 0
      rw [sm_congr 40 (fun c _ => bt_0 c), sm_zero]
    · show bt L c * bt 0 c = 0
      rw [bt_0, Int.mul_zero]
  | n + 1 => by
    obtain ⟨h1, h2, h3⟩ := layR_ok q L hq f hf n
    have hle := pc_le_ld f hf n
    have es : sm (fun i => if f i < 0 then 0 else 1) (n + 1) = sm (fun i => if f i < 0 then 0 else 1) n + (if f n < 0 then 0 else 1) := rfl
    have eb : bts f (n + 1) = if f n < 0 then bts f n else bts f n ||| 2 ^ (f n).toNat := rfl
    rw [es, eb]
    unfold layR
    by_cases h : f n < 0
    · rw [if_pos h, if_pos h, if_pos h, Int.add_zero]
      exact ⟨h1, h2, h3⟩
    · have hk := hf n
      have hb := bt_01 (bts f n) (f n).toNat
      have hbL := bt_01 L (f n).toNat
      rw [if_neg h, if_neg h, if_neg h, pc_or (by omega)]
      refine ⟨by dsimp only; rw [h1], fun c => ?_, ?_⟩
      · dsimp only
        rw [bt_or, bt_pow]
        by_cases e : c = (f n).toNat
        · subst e
          rw [if_pos rfl, if_pos rfl, if_pos (by omega)]
        · rw [if_neg e, if_neg e, h2 c, Int.mul_zero, Int.add_zero, Int.sub_zero]
      · dsimp only
        rw [h2]
        constructor
        · intro u
          by_cases e : (layR q f n).2.1 = 0 ∧ (if bt (bts f n) (f n).toNat = 1 then -1 else bt L (f n).toNat) = 0
          · obtain ⟨e1, e2⟩ := e
            have w := h3.mp e1
            have hb0 : bt (bts f n) (f n).toNat = 0 := by
              by_cases z : bt (bts f n) (f n).toNat = 1
              · rw [if_pos z] at e2; exact absurd e2 (by decide)
              · omega
            rw [hb0, if_neg (by decide)] at e2
            refine ⟨w.1, by omega, fun c => ?_⟩
            rw [bt_or, bt_pow]
            by_cases z : c = (f n).toNat
            · rw [z, e2, Int.zero_mul]
            · rw [if_neg z, Int.mul_zero, Int.add_zero, Int.sub_zero]; exact w.2.2 c
          · rw [if_neg e] at u
            exact absurd u (by decide)
        · intro ⟨u1, u2, u3⟩
          have k1 := u3 (f n).toNat
          rw [bt_or, bt_pow, if_pos rfl] at k1
          have hL0 : bt L (f n).toNat = 0 := by
            rcases (show bt L (f n).toNat = 0 ∨ bt L (f n).toNat = 1 by omega) with z | z
            · exact z
            · rw [z] at k1; omega
          have w : (layR q f n).2.1 = 0 := h3.mpr ⟨u1, by omega, fun c => by
            have k2 := u3 c
            rw [bt_or, bt_pow] at k2
            by_cases z : c = (f n).toNat
            · rw [z, hL0, Int.zero_mul]
            · rw [if_neg z, Int.mul_zero, Int.add_zero, Int.sub_zero] at k2; exact k2⟩
          rw [if_pos ⟨w, by rw [if_neg (by omega)]; exact hL0⟩]
/-- what the class tests of a balance's load -/
def FL (f0 : Nat → Int) (n0 : Int) (f1 : Nat → Int) (n1 : Int) : Prop := ldn f0 n0 ≠ 0 ∧ ldn f0 n0 = ldn f1 n1 ∧ (bts f0 n0.toNat &&& bts f1 n1.toNat) = 0 ∧ pc (bts f0 n0.toNat) = ldn f0 n0 ∧ pc (bts f1 n1.toNat) = ldn f0 n0
theorem and_0 {x y : Nat} : (x &&& y) = 0 ↔ ∀ c, bt x c * bt y c = 0 := by
  constructor
  · intro h c
    rw [← bt_and, h, bt_0]
  · intro h
    refine bt_ext fun c => ?_
    rw [bt_and, h c, bt_0]
theorem lay_fair {σ : am_S} {b : Nat} (hpl : ∀ i, sI σ 45 i < 40) : ((layQ2 σ b).2.1 = 0 ∧ (layQ σ b).2.2 = (layQ2 σ b).2.2 ∧ (layQ σ b).2.2 ≠ 0) ↔ FL (fun i => sI σ 45 (40 * b + i)) (sI σ 44 (2 * b)) (fun i => sI σ 45 (40 * b + 20 + i)) (sI σ 44 (2 * b + 1)) := by
  obtain ⟨a1, a2, a3⟩ := layL_ok (fun i => sI σ 45 (40 * b + i)) (fun i => hpl _) (sI σ 44 (2 * b)).toNat
  obtain ⟨b1, b2, b3⟩ := layR_ok ((layQ σ b).1, (layQ σ b).2.1) (bts (fun i => sI σ 45 (40 * b + i)) (sI σ 44 (2 * b)).toNat) a2 (fun i => sI σ 45 (40 * b + 20 + i)) (fun i => hpl _) (sI σ 44 (2 * b + 1)).toNat
  have e1 : (layQ σ b).2.2 = ldn (fun i => sI σ 45 (40 * b + i)) (sI σ 44 (2 * b)) := a1
  have e2 : (layQ2 σ b).2.2 = ldn (fun i => sI σ 45 (40 * b + 20 + i)) (sI σ 44 (2 * b + 1)) := b1
  have e3 : (layQ σ b).2.1 = 0 ↔ pc (bts (fun i => sI σ 45 (40 * b + i)) (sI σ 44 (2 * b)).toNat) = ldn (fun i => sI σ 45 (40 * b + i)) (sI σ 44 (2 * b)) := a3
  have e4 : (layQ2 σ b).2.1 = 0 ↔ ((layQ σ b).2.1 = 0 ∧ pc (bts (fun i => sI σ 45 (40 * b + 20 + i)) (sI σ 44 (2 * b + 1)).toNat) = ldn (fun i => sI σ 45 (40 * b + 20 + i)) (sI σ 44 (2 * b + 1)) ∧ ∀ c, bt (bts (fun i => sI σ 45 (40 * b + i)) (sI σ 44 (2 * b)).toNat) c * bt (bts (fun i => sI σ 45 (40 * b + 20 + i)) (sI σ 44 (2 * b + 1)).toNat) c = 0) := b3
  rw [e4, e3, e1, e2, ← and_0]
  unfold FL
  constructor
  · intro ⟨⟨q1, q2, q3⟩, q4, q5⟩
    exact ⟨q5, q4, q3, q1, by omega⟩
  · intro ⟨q1, q2, q3, q4, q5⟩
    exact ⟨⟨q4, by omega, q3⟩, q2, q1⟩
theorem lay_side {σ : am_S} {b : Nat} (hpl : ∀ i, sI σ 45 i < 40) (h : (bts (fun i => sI σ 45 (40 * b + i)) (sI σ 44 (2 * b)).toNat &&& bts (fun i => sI σ 45 (40 * b + 20 + i)) (sI σ 44 (2 * b + 1)).toNat) = 0) (c : Nat) : (layQ2 σ b).1 c = bt (bts (fun i => sI σ 45 (40 * b + i)) (sI σ 44 (2 * b)).toNat) c - bt (bts (fun i => sI σ 45 (40 * b + 20 + i)) (sI σ 44 (2 * b + 1)).toNat) c := by
  obtain ⟨a1, a2, a3⟩ := layL_ok (fun i => sI σ 45 (40 * b + i)) (fun i => hpl _) (sI σ 44 (2 * b)).toNat
  obtain ⟨b1, b2, b3⟩ := layR_ok ((layQ σ b).1, (layQ σ b).2.1) (bts (fun i => sI σ 45 (40 * b + i)) (sI σ 44 (2 * b)).toNat) a2 (fun i => sI σ 45 (40 * b + 20 + i)) (fun i => hpl _) (sI σ 44 (2 * b + 1)).toNat
  have e : (layQ2 σ b).1 c = if bt (bts (fun i => sI σ 45 (40 * b + 20 + i)) (sI σ 44 (2 * b + 1)).toNat) c = 1 then -1 else bt (bts (fun i => sI σ 45 (40 * b + i)) (sI σ 44 (2 * b)).toNat) c := b2 c
  have h0 := and_0.mp h c
  have q1 := bt_01 (bts (fun i => sI σ 45 (40 * b + i)) (sI σ 44 (2 * b)).toNat) c
  have q2 := bt_01 (bts (fun i => sI σ 45 (40 * b + 20 + i)) (sI σ 44 (2 * b + 1)).toNat) c
  rw [e]
  by_cases z : bt (bts (fun i => sI σ 45 (40 * b + 20 + i)) (sI σ 44 (2 * b + 1)).toNat) c = 1
  · rw [if_pos z]
    rw [z, Int.mul_one] at h0
    omega
  · rw [if_neg z]; omega
theorem c_fair (d : Nat) {β μ κ ρ : Nat → Nat} {me : Nat → Nat → Nat} {b n : Nat} {σ : am_S} {K : Int → am_S → Prop} (hB : BS σ β μ κ ρ me n) (hb : b < n) (hp : sI σ (ρ b) 1 ≤ 20 ∧ sI σ (ρ b + 2) 1 ≤ 20) (hl : ∀ i, -1 ≤ sI σ (ρ b + 1) i ∧ sI σ (ρ b + 1) i < 40) (hr : ∀ i, -1 ≤ sI σ (ρ b + 3) i ∧ sI σ (ρ b + 3) i < 40)
    (hy : FL (sI σ (ρ b + 1)) (sI σ (ρ b) 1) (sI σ (ρ b + 3)) (sI σ (ρ b + 2) 1) → K 1 σ) (hn : ¬ FL (sI σ (ρ b + 1)) (sI σ (ρ b) 1) (sI σ (ρ b + 3)) (sI σ (ρ b + 2) 1) → K 0 σ) : am_Calls PP MLL (d + 2) m_Balance_isLoadedFairly [qr (β b, 0, 9)] σ (kI K) := by
  obtain ⟨q1, q2⟩ := BS_pan hB hb
  have b1 := bts_lt (f := sI σ (ρ b + 1)) (fun i => (hl i).2) (sI σ (ρ b) 1).toNat
  have b2 := bts_lt (f := sI σ (ρ b + 3)) (fun i => (hr i).2) (sI σ (ρ b + 2) 1).toNat
  unfold FL at hy hn
  refine v_Balance_isLoadedFairly_0 d β μ κ ρ me b n σ K hB ⟨hb, ?_⟩
  refine c_Pan_bits d q1 hp.1 hl ⟨hB, ?_⟩
  refine c_Pan_bits d q2 hp.2 hr ⟨hB, ?_⟩
  refine c_Pan_load d q1 hp.1 (fun i => (hl i).1) ⟨hB, fun c1 => ?_, fun c1 => ?_⟩
  · exact hn (fun q => q.1 c1)
  · refine c_Pan_load d q2 hp.2 (fun i => (hr i).1) ⟨hB, fun c2 => ?_, fun c2 => hn (fun q => c2 q.2.1)⟩
    have ea : a_land ((bts (sI σ (ρ b + 1)) (sI σ (ρ b) 1).toNat : Nat) : Int) ((bts (sI σ (ρ b + 3)) (sI σ (ρ b + 2) 1).toNat : Nat) : Int) = ((bts (sI σ (ρ b + 1)) (sI σ (ρ b) 1).toNat &&& bts (sI σ (ρ b + 3)) (sI σ (ρ b + 2) 1).toNat : Nat) : Int) := a_land_n (by omega) (by omega)
    have ec : ∀ v : Nat, a_cmp (v : Int) 0 = 0 ↔ v = 0 := by
      intro v
      unfold a_cmp
      (repeat' split) <;> omega
    rw [ea]
    simp only [Int.toNat_natCast]
    refine ⟨fun c3 => ?_, fun c3 => hn (fun q => c3 ((ec _).mpr q.2.2.1))⟩
    have b1 : bts (sI σ (ρ b + 1)) (sI σ (ρ b) 1).toNat < 1099511627776 := b1
    have b2 : bts (sI σ (ρ b + 2 + 1)) (sI σ (ρ b + 2) 1).toNat < 1099511627776 := b2
    refine ⟨by omega, ⟨fun _ => by omega, fun _ => by omega⟩, ?_, ?_⟩
    · (repeat' split) <;> simp
    · by_cases c4 : pc (bts (sI σ (ρ b + 1)) (sI σ (ρ b) 1).toNat) = ldn (sI σ (ρ b + 1)) (sI σ (ρ b) 1)
      · rw [if_pos c4]
        by_cases c5 : pc (bts (sI σ (ρ b + 2 + 1)) (sI σ (ρ b + 2) 1).toNat) = ldn (sI σ (ρ b + 1)) (sI σ (ρ b) 1)
        · rw [if_pos c5]
          exact hy ⟨c1, c2, (ec _).mp c3, c4, c5⟩
        · rw [if_neg c5]
          exact hn (fun q => c5 q.2.2.2.2)
      · rw [if_neg c4]
        exact hn (fun q => c4 q.2.2.2.1)
