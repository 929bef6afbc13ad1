/-! flavour F with cuts of one's own (C): where two ways meet, one goal behind them -/
def inC : List Nat → Nat → Bool
  | [], _ => false
  | q :: t, i => match Nat.beq q i with
    | true => true
    | false => inC t i
def am_wpC (O : Nat → Option am_R) (C : List Nat) (P : am_P) (ML : Nat → Nat) (d m : Nat) (K : am_K) : Nat → Nat → am_L → List am_V → am_S → Prop
  | 0, i, ls, st, σ => am_Runs P ML d m i ls st σ K
  | n + 1, i, ls, st, σ => match P m i with
    | none => False
    | some e => match e.2.2.2.2.2.2.2 || inC C i with
      | true => am_Runs P ML d m i ls st σ K
      | false => am_wq P ML d (am_wpC O C P ML d m K n) K σ (am_stepF O e i ls st σ)
def am_wEC (O : Nat → Option am_R) (C : List Nat) (P : am_P) (ML : Nat → Nat) (d m : Nat) (K : am_K) (n i : Nat) (ls : am_L) (st : List am_V) (σ : am_S) : Prop := match P m i with
  | none => False
  | some e => am_wq P ML d (am_wpC O C P ML d m K n) K σ (am_stepF O e i ls st σ)
theorem am_wpC_ok {O : Nat → Option am_R} {C : List Nat} {P : am_P} {ML : Nat → Nat} {d m : Nat} {K : am_K} : ∀ (n i : Nat) (ls : am_L) (st : List am_V) (σ : am_S), am_wpC O C P ML d m K n i ls st σ → am_Runs P ML d m i ls st σ K := by
  intro n
  induction n with
  | zero => intro i ls st σ h; exact h
  | succ n ih =>
    intro i ls st σ h
    unfold am_wpC at h
    cases he : P m i with
    | none => rw [he] at h; exact absurd h id
    | some e =>
      rw [he] at h
      dsimp only at h
      split at h
      · exact h
      · exact am_wqF_ok ih he h
theorem am_wEC_ok (O : Nat → Option am_R) (C : List Nat) {P : am_P} {ML : Nat → Nat} {d m : Nat} {K : am_K} (n : Nat) {i : Nat} {ls : am_L} {st : List am_V} {σ : am_S} (h : am_wEC O C P ML d m K n i ls st σ) : am_Runs P ML d m i ls st σ K := by
  unfold am_wEC at h
  cases he : P m i with
  | none => rw [he] at h; exact absurd h id
  | some e =>
    rw [he] at h
    exact am_wqF_ok (am_wpC_ok n) he h
theorem am_use {A B : Prop} (f : A → B) (H : A) : B := f H
