/-! what holds between two calls -/
theorem R2 {σ τ : am_S} (h : τ.2 = σ.2) : (∀ x j, sR τ x j = sR σ x j) ∧ sN τ = sN σ ∧ sU τ = sU σ := by
  refine ⟨fun x j => ?_, ?_, ?_⟩
  · unfold sR; rw [h]
  · unfold sN; rw [h]
  · unfold sU; rw [h]
/-- the truths -/
def IT (σ : am_S) (own : Nat → Nat) (aH nH aL nL aY nY aS nS N l m T W : Nat) (kd : Int) : Prop :=
  TR σ aH nH aL nL aY nY aS nS ∧ OW own aH aL aY aS ∧ TI σ N l m kd T ∧ KT σ aH aL N l m kd T ∧ KS σ aY aS T W ∧ (W ≤ 30 ∧ sI σ 3 0 = N ∧ sI σ 3 1 = T ∧ sI σ 3 2 = lf (sI σ 37) T ∧ sI σ 3 3 = W ∧ sI σ 31 13 = W ∧ sI σ 3 4 = l ∧ sI σ 3 5 = kd) ∧ (T ≤ nH ∧ T ≤ nL ∧ T ≤ nY ∧ T ≤ nS) ∧ (nH ≤ 20000 ∧ nL ≤ 20000 ∧ nY ≤ 20000 ∧ nS ≤ 20000) ∧ (aH < sN σ ∧ aL < sN σ ∧ aY < sN σ ∧ aS < sN σ)
/-- one balance in the class and in the reference -/
def BD (σ : am_S) (β κ ρ : Nat → Nat) (me : Nat → Nat → Nat) (n c b : Nat) : Prop :=
  (0 ≤ sI σ (β b) 0 ∧ sI σ (β b) 0 ≤ 6) ∧ (sI σ (β b) 6 = 0 ∨ sI σ (β b) 6 = 1) ∧ sI σ 41 b = (if sI σ (β b) 6 = 0 then sI σ (β b) 0 else -1) ∧ (sI σ (β b) 7 = sI σ 42 b ∧ 0 ≤ sI σ 42 b ∧ sI σ 42 b ≤ c) ∧ (sI σ (β b) 8 = sI σ 43 b ∧ 0 ≤ sI σ 43 b ∧ sI σ 43 b ≤ 6) ∧ PV σ ρ b
  ∧ (sI σ (ρ b) 1 = sI σ 44 (2 * b) ∧ sI σ (ρ b + 2) 1 = sI σ 44 (2 * b + 1) ∧ (∀ i : Nat, (i : Int) < sI σ 44 (2 * b) → sI σ (ρ b + 1) i = sI σ 45 (40 * b + i)) ∧ ∀ i : Nat, (i : Int) < sI σ 44 (2 * b + 1) → sI σ (ρ b + 3) i = sI σ 45 (40 * b + 20 + i))
  ∧ (sI σ (β b) 0 ≠ 6 → κ b = 0 ∧ sI σ (β b) 5 = mo (sI σ (β b) 0)) ∧ (sI σ (β b) 0 = 6 → 2 ≤ κ b ∧ κ b ≤ 3 ∧ sI σ 47 b = κ b ∧ (∀ i, i < κ b → me b i < n ∧ sI σ 46 (3 * b + i) = me b i ∧ sI σ (β (me b i)) 0 ≠ 6) ∧ sI σ (β b) 5 = mxQ σ β (me b) (κ b))
def IB (σ : am_S) (own β μ κ ρ : Nat → Nat) (me : Nat → Nat → Nat) (n c : Nat) : Prop :=
  BS σ β μ κ ρ me n ∧ OB own β μ ρ n ∧ (∀ b, b < n → β b < sN σ ∧ μ b < sN σ ∧ ρ b + 3 < sN σ) ∧ (n ≤ 12 ∧ sI σ 2 5 = n ∧ sI σ 31 16 = n) ∧ (∀ b, b < n → BD σ β κ ρ me n c b) ∧ (∀ b, n ≤ b → sI σ 41 b = -1 ∨ 12 ≤ b) ∧ (∀ k, -1 ≤ sI σ 44 k ∧ sI σ 44 k ≤ 20) ∧ ∀ i, -1 ≤ sI σ 45 i ∧ sI σ 45 i < 40
/-- what is told, the trace -/
def IM (σ : am_S) (c : Nat) : Prop :=
  (sI σ 10 1 = sI σ 31 25 ∧ 0 ≤ sI σ 31 25 ∧ sI σ 31 25 ≤ 6 ∧ ∀ i : Nat, (i : Int) < sI σ 31 25 → sI σ 11 i = sI σ 48 i) ∧ (sI σ 10 2 = 0 ∧ sI σ 31 26 = 0) ∧ (sI σ 2 6 = sI σ 31 4 ∧ 0 ≤ sI σ 31 4 ∧ sI σ 31 4 ≤ 3) ∧ (sI σ 2 7 = sI σ 31 38 ∧ 0 ≤ sI σ 31 38 ∧ sI σ 31 38 ≤ 30000) ∧ sI σ 2 8 = sI σ 31 0 ∧ (sI σ 2 9 = sI σ 31 1 ∧ 0 ≤ sI σ 31 1 ∧ sI σ 31 1 ≤ c)
/-- weighings told ahead -/
def IJ (σ : am_S) (own : Nat → Nat) (aR nR aV nV : Nat) : Prop :=
  sR σ 26 6 = some (aR, 20, nR) ∧ sR σ 26 7 = some (aV, 20, nV) ∧ own aR = 29 ∧ own aV = 30 ∧ aR < sN σ ∧ aV < sN σ ∧ nR ≤ 20000 ∧ nV ≤ 235298 ∧ (∀ v, sI σ aV v = 0) ∧ (∀ v, sI σ 85 v = 0) ∧ (∀ k, k < 6 → sI σ 27 k = sI σ 83 k ∧ sI σ 28 k = sI σ 84 k) ∧ (∀ k, 0 ≤ sI σ 83 k ∧ sI σ 83 k < 1099511627776 ∧ 0 ≤ sI σ 84 k ∧ sI σ 84 k < 1099511627776) ∧ (∀ k c, bt (sI σ 83 k).toNat c * bt (sI σ 84 k).toNat c = 0)
  ∧ (sI σ 26 2 = sI σ 31 83 ∧ (sI σ 31 83 = 0 ∨ sI σ 31 83 = 1)) ∧ (sI σ 31 83 = 1 → sI σ 26 3 = sI σ 31 84 ∧ sI σ 26 4 = sI σ 31 85 ∧ sI σ 26 5 = sI σ 31 86)
/-- where the search's rows lie -/
def ISt (σ : am_S) (own : Nat → Nat) (aI nI aQ nQ aC nC g w g1 m1 g2 m2 w1 k1 w2 k2 : Nat) : Prop :=
  sR σ 13 4 = some (aI, 20, nI) ∧ sR σ 12 2 = some (aQ, 23, nQ) ∧ sR σ 18 0 = some (aC, 20, nC) ∧ ((g = 20 ∧ w = 23) ∨ (g = 23 ∧ w = 20)) ∧ sR σ 12 4 = some (g, 4, 3) ∧ sR σ 12 5 = some (w, 4, 3) ∧ (sR σ g 0 = some (g1, 20, m1) ∧ sR σ g 1 = some (g2, 20, m2) ∧ sR σ w 0 = some (w1, 20, k1) ∧ sR σ w 1 = some (w2, 20, k2))
  ∧ (own aI = 16 ∧ own aQ = 17 ∧ own aC = 19 ∧ own g1 = g + 1 ∧ own g2 = g + 2 ∧ own w1 = w + 1 ∧ own w2 = w + 2) ∧ (aI < sN σ ∧ aQ < sN σ ∧ aC < sN σ ∧ g1 < sN σ ∧ g2 < sN σ ∧ w1 < sN σ ∧ w2 < sN σ) ∧ (nI ≤ 3960 ∧ nC ≤ 144000 ∧ m1 ≤ 1200 ∧ m2 ≤ 1200 ∧ k1 ≤ 1200 ∧ k2 ≤ 1200)
  ∧ (nQ = 0 ∨ (nQ = 7 ∧ aQ + 64 ≤ sN σ ∧ ∀ i, i < 7 → sR σ aQ i = some (aQ + 1 + 9 * i, 3, 10) ∧ QF σ (aQ + 1 + 9 * i) ∧ WF σ (aQ + 4 + 9 * i) ∧ ∀ k, k < 9 → own (aQ + 1 + 9 * i + k) = 2000 + 9 * i + k))
/-- no search -/
def ISn (σ : am_S) : Prop := sR σ 12 6 = none ∧ sI σ 12 13 = 0 ∧ sI σ 31 33 = 0 ∧ sI σ 31 34 = 0 ∧ sI σ 31 35 = -1000 ∧ sI σ 31 37 = 0 ∧ sI σ 31 73 = 0 ∧ sI σ 31 76 = 0 ∧ sI σ 31 77 = 0 ∧ sI σ 31 78 = 0

