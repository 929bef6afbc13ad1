/-! known references: the class's single objects (CF), its balances (BS), pans, questions, weighings; small tools -/
def crefL : List (Nat × Nat × am_R) := [(2, 0, 3, 9, 11), (2, 1, 9, 22, 12), (2, 2, 10, 7, 3), (2, 3, 12, 5, 18), (2, 4, 26, 1, 8), (3, 10, 8, 20, 3), (10, 0, 11, 20, 6), (12, 0, 3, 9, 11), (12, 1, 13, 6, 5), (12, 3, 18, 8, 2), (13, 0, 14, 20, 60), (13, 1, 15, 20, 60), (26, 0, 27, 21, 6), (26, 1, 28, 21, 6)]
def crefF : List (Nat × Nat × am_R) → Nat → Nat → Option am_R
  | [], _, _ => none
  | q :: t, a, j => match Nat.beq q.1 a && Nat.beq q.2.1 j with
    | true => some q.2.2
    | false => crefF t a j
def cref (a j : Nat) : Option am_R := crefF crefL a j
def CF (σ : am_S) : Prop := ∀ a j r, cref a j = some r → sR σ a j = some r
def BS (σ : am_S) (β μ κ ρ : Nat → Nat) (me : Nat → Nat → Nat) (n : Nat) : Prop := ∀ b, b < n → sR σ 9 b = some (β b, 0, 9) ∧ sR σ (β b) 1 = some (μ b, 22, κ b) ∧ sR σ (β b) 2 = some (10, 7, 3) ∧ sR σ (β b) 3 = some (ρ b, 2, 2) ∧ sR σ (β b) 4 = some (ρ b + 2, 2, 2) ∧ sR σ (ρ b) 0 = some (ρ b + 1, 20, 20) ∧ sR σ (ρ b + 2) 0 = some (ρ b + 3, 20, 20) ∧ ∀ i, i < κ b → sR σ (μ b) i = some (β (me b i), 0, 9)
def PF (σ : am_S) (a : Nat) : Prop := sR σ a 0 = some (a + 1, 20, 20)
def QF (σ : am_S) (a : Nat) : Prop := sR σ a 0 = some (a + 1, 20, 60) ∧ sR σ a 1 = some (a + 2, 20, 60) ∧ sR σ a 2 = some (a + 3, 10, 11)
def WF (σ : am_S) (a : Nat) : Prop := sR σ a 0 = some (a + 1, 20, 12) ∧ sR σ a 1 = some (a + 2, 20, 12) ∧ sR σ a 2 = some (a + 3, 20, 12) ∧ sR σ a 3 = some (a + 4, 20, 12) ∧ sR σ a 4 = some (a + 5, 20, 12)
theorem kEq {K : Int → am_S → Prop} {x y : Int} {s t : am_S} (h : K x s) (e : x = y) (e' : s = t) : K y t := by subst e; subst e'; exact h
theorem kEv {K : am_S → Prop} {s t : am_S} (h : K s) (e' : s = t) : K t := by subst e'; exact h
/-- a loop backwards -/
theorem lp {P : Nat → Prop} {N : Nat} (hN : P N) (step : ∀ i, i < N → P (i + 1) → P i) : ∀ i, i ≤ N → P i := by
  intro i hi
  obtain ⟨k, rfl⟩ := Nat.le.dest hi
  clear hi
  induction k generalizing i with
  | zero => exact hN
  | succ k ih => exact step i (by omega) (ih (i + 1) (by rw [show i + 1 + k = i + (k + 1) by omega]; exact hN) (fun j hj => step j (by omega)))
/-- sums -/
def sm (f : Nat → Int) : Nat → Int
  | 0 => 0
  | n + 1 => sm f n + f n
theorem sm_congr {f g : Nat → Int} : ∀ n, (∀ i, i < n → f i = g i) → sm f n = sm g n
  | 0, _ => rfl
  | n + 1, h => by
    show sm f n + f n = sm g n + g n
    rw [sm_congr n (fun i hi => h i (by omega)), h n (by omega)]
theorem sm_bd {f : Nat → Int} {c : Int} : ∀ n, (∀ i, i < n → 0 ≤ f i ∧ f i ≤ c) → 0 ≤ sm f n ∧ sm f n ≤ c * n
  | 0, _ => by simp [sm]
  | n + 1, h => by
    have h1 := sm_bd n (fun i hi => h i (by omega))
    have h2 := h n (by omega)
    show 0 ≤ sm f n + f n ∧ sm f n + f n ≤ c * ((n + 1 : Nat) : Int)
    rw [show c * ((n + 1 : Nat) : Int) = c * n + c by push_cast; exact Int.mul_add c n 1 ▸ (by rw [Int.mul_one])]
    omega
