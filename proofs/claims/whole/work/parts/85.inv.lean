/-! what holds between two calls -/
theorem R2 {σ τ : am_S} (h : τ.2 = σ.2) : (∀ x j, sR τ x j = sR σ x j) ∧ sN τ = sN σ ∧ sU τ = sU σ := by
  refine ⟨fun x j => ?_, ?_, ?_⟩
  · unfold sR; rw [h]
  · unfold sN; rw [h]
  · unfold sU; rw [h]
def BD (σ : am_S) (β κ ρ : Nat → Nat) (me : Nat → Nat → Nat) (n c b : Nat) : Prop :=
  (0 ≤ sI σ (β b) 0 ∧ sI σ (β b) 0 ≤ 6) ∧ (sI σ (β b) 6 = 0 ∨ sI σ (β b) 6 = 1) ∧ sI σ 41 b = (if sI σ (β b) 6 = 0 then sI σ (β b) 0 else -1) ∧ (sI σ (β b) 7 = sI σ 42 b ∧ 0 ≤ sI σ 42 b ∧ sI σ 42 b ≤ c) ∧ (sI σ (β b) 8 = sI σ 43 b ∧ 0 ≤ sI σ 43 b ∧ sI σ 43 b ≤ 6) ∧ PV σ ρ b
  ∧ (sI σ (ρ b) 1 = sI σ 44 (2 * b) ∧ sI σ (ρ b + 2) 1 = sI σ 44 (2 * b + 1) ∧ (∀ i : Nat, (i : Int) < sI σ 44 (2 * b) → sI σ (ρ b + 1) i = sI σ 45 (40 * b + i)) ∧ ∀ i : Nat, (i : Int) < sI σ 44 (2 * b + 1) → sI σ (ρ b + 3) i = sI σ 45 (40 * b + 20 + i))
  ∧ (sI σ (β b) 0 ≠ 6 → κ b = 0 ∧ sI σ (β b) 5 = mo (sI σ (β b) 0)) ∧ (sI σ (β b) 0 = 6 → 2 ≤ κ b ∧ κ b ≤ 3 ∧ sI σ 47 b = κ b ∧ (∀ i, i < κ b → me b i < n ∧ sI σ 46 (3 * b + i) = me b i ∧ sI σ (β (me b i)) 0 ≠ 6) ∧ sI σ (β b) 5 = mxQ σ β (me b) (κ b))
def IB (σ : am_S) (own β μ κ ρ : Nat → Nat) (me : Nat → Nat → Nat) (n c : Nat) : Prop :=
  BS σ β μ κ ρ me n ∧ OB own β μ ρ n ∧ (∀ b, b < n → β b < sN σ ∧ μ b < sN σ ∧ ρ b + 3 < sN σ) ∧ (n ≤ 12 ∧ sI σ 2 5 = n ∧ sI σ 31 16 = n) ∧ (∀ b, b < n → BD σ β κ ρ me n c b) ∧ (∀ b, n ≤ b → sI σ 41 b = -1 ∨ 12 ≤ b) ∧ (∀ k, -1 ≤ sI σ 44 k ∧ sI σ 44 k ≤ 20) ∧ (∀ i, -1 ≤ sI σ 45 i ∧ sI σ 45 i < 40) ∧ (∀ j, n ≤ j → sR σ 9 j = none) ∧ (∀ j, 0 ≤ sI σ 42 j ∧ sI σ 42 j ≤ 1000)
def IM (σ : am_S) (c : Nat) : Prop :=
  (sI σ 10 1 = sI σ 31 25 ∧ 0 ≤ sI σ 31 25 ∧ sI σ 31 25 ≤ 6 ∧ ∀ i : Nat, (i : Int) < sI σ 31 25 → sI σ 11 i = sI σ 48 i) ∧ (sI σ 10 2 = 0 ∧ sI σ 31 26 = 0) ∧ (sI σ 2 6 = sI σ 31 4 ∧ 0 ≤ sI σ 31 4 ∧ sI σ 31 4 ≤ 3) ∧ (sI σ 2 7 = sI σ 31 38 ∧ 0 ≤ sI σ 31 38 ∧ sI σ 31 38 ≤ 30000) ∧ sI σ 2 8 = sI σ 31 0 ∧ (sI σ 2 9 = sI σ 31 1 ∧ 0 ≤ sI σ 31 1 ∧ sI σ 31 1 ≤ c)
def IJ (σ : am_S) (own : Nat → Nat) (aR nR aV nV : Nat) : Prop :=
  sR σ 26 6 = some (aR, 20, nR) ∧ sR σ 26 7 = some (aV, 20, nV) ∧ own aR = 29 ∧ own aV = 30 ∧ aR < sN σ ∧ aV < sN σ ∧ nR ≤ 20000 ∧ nV ≤ 235298 ∧ (∀ v, sI σ aV v = 0) ∧ (∀ v, sI σ 85 v = 0) ∧ (∀ k, k < 6 → sI σ 27 k = sI σ 83 k ∧ sI σ 28 k = sI σ 84 k) ∧ (∀ k, 0 ≤ sI σ 83 k ∧ sI σ 83 k < 1099511627776 ∧ 0 ≤ sI σ 84 k ∧ sI σ 84 k < 1099511627776) ∧ (∀ k c, bt (sI σ 83 k).toNat c * bt (sI σ 84 k).toNat c = 0)
  ∧ (sI σ 26 2 = sI σ 31 83 ∧ (sI σ 31 83 = 0 ∨ sI σ 31 83 = 1)) ∧ (sI σ 31 83 = 1 → sI σ 26 3 = sI σ 31 84 ∧ sI σ 26 4 = sI σ 31 85 ∧ sI σ 26 5 = sI σ 31 86)
/-- no search -/
def ISn (σ : am_S) : Prop := sR σ 12 6 = none ∧ sI σ 12 13 = 0 ∧ sI σ 31 33 = 0 ∧ sI σ 31 34 = 0 ∧ (sI σ 31 35 = -1000 ∨ sI σ 31 35 = 0) ∧ sI σ 31 37 = 0 ∧ sI σ 31 73 = 0 ∧ sI σ 31 76 = 0 ∧ sI σ 31 77 = 0 ∧ sI σ 31 78 = 0
/-- what a search is about, as it goes on -/
def SBs (σ : am_S) (own : Nat → Nat) (T n : Nat) (X : sX) (ob nb : Nat) (tr : Nat → Nat) (c0 : Nat → Int) (k0 aQ st : Nat) : Prop := SE σ own aQ k0 tr X c0 ∧ MX σ X ob nb tr ∧ nb ≤ n ∧ ¬ mn X c0 ≤ 0 ∧ k0 ≤ 30 ∧ sI σ 31 13 = k0 ∧ (∀ s, s < xM X → sI σ 36 (tr s) = c0 s) ∧ (∀ t, t < T → sI σ 37 t < 0 → ∃ p, p < xM X ∧ tr p = t ∧ 0 ≤ c0 p) ∧ sI σ 31 33 = 1 ∧ sI σ 31 37 = st ∧ sI σ 12 15 = st ∧ (st : Int) ≤ sI σ 31 38 ∧ (0 ≤ sI σ 31 39 ∧ sI σ 31 39 ≤ 1000000)
/-- it runs -/
def SR1 (σ : am_S) (own : Nat → Nat) (X : sX) (ob nb : Nat) (tr : Nat → Nat) (c0 : Nat → Int) (k0 aQ st : Nat) : Prop := ∃ A : sA, A.1 ≤ 1 ∧ CS σ own aQ k0 tr X c0 A st ∧ MS σ X ob nb tr c0 k0 A ∧ sI σ 31 34 = 0 ∧ sI σ 31 35 = -1000 ∧ sI σ 31 73 = 0 ∧ sI σ 31 76 = 0 ∧ sI σ 31 77 = 0 ∧ sI σ 31 78 = 0
/-- the rows of a search that is over -/
def ORw (σ : am_S) (own : Nat → Nat) (X : sX) (c0 : Nat → Int) (k0 n0 : Nat) : Prop := (sI σ 12 17 = 0 ∧ sI σ 31 78 = 0 ∧ sI σ 31 77 = 0 ∧ sI σ 31 76 = 0 ∧ ∃ g w G, RW σ own g w G (wh X c0 k0 n0)) ∨ (sI σ 12 17 = 1 ∧ sI σ 31 78 = 1 ∧ sI σ 31 59 = 0 ∧ 1 ≤ n0 ∧ ∃ g w G W, RW σ own g w G W ∧ ((W.length ≤ 600 ∧ 1 ≤ W.length ∧ sI σ 31 77 = 1 ∧ RO σ W ∧ ∀ i, i < W.length → -100000 ≤ (W.getD i (0, 0)).2 ∧ (W.getD i (0, 0)).2 ≤ 100000) ∨ (600 < W.length ∧ sI σ 31 77 = 0 ∧ sI σ 31 76 = 0)))
/-- it is over, with LEAST -/
def SR2 (σ : am_S) (own : Nat → Nat) (X : sX) (ob nb : Nat) (tr : Nat → Nat) (c0 : Nat → Int) (k0 st : Nat) : Prop := ∃ n0 : Nat, n0 ≤ 6 ∧ (sI σ 12 13 = 1 ∧ sI σ 12 16 = n0) ∧ (∀ m, m < n0 → ¬ can X m c0 k0) ∧ can X n0 c0 k0 ∧ TC X tr (tcl σ) n0 c0 k0 0 0 ∧ TV σ own (tsz X n0 c0 k0) ∧ sI σ 18 1 = tsz X n0 c0 k0 ∧ (sI σ 31 34 = 1 ∧ sI σ 31 35 = n0 ∧ sI σ 31 73 = tsz X n0 c0 k0 ∧ sI σ 31 60 = tsz X n0 c0 k0) ∧ RS σ X tr n0 c0 k0 0 0 0 ∧ hBT σ X n0 c0 k0 0 ∧ hNT σ X n0 c0 k0 0 0 ∧ ORw σ own X c0 k0 n0
/-- it is over, without -/
def SR3 (σ : am_S) (own : Nat → Nat) : Prop := (sI σ 12 13 = 1 ∧ sI σ 12 16 = -1000 ∧ sI σ 12 17 = 0) ∧ (sI σ 31 34 = 1 ∧ sI σ 31 35 = -1000 ∧ sI σ 31 73 = 0 ∧ sI σ 31 76 = 0 ∧ sI σ 31 77 = 0 ∧ sI σ 31 78 = 0)
def ISs (σ : am_S) (own : Nat → Nat) (T n : Nat) : Prop := ISn σ ∨ ∃ X ob nb tr c0 k0 aQ st, SBs σ own T n X ob nb tr c0 k0 aQ st ∧ (SR1 σ own X ob nb tr c0 k0 aQ st ∨ SR2 σ own X ob nb tr c0 k0 st ∨ SR3 σ own)
def IR (σ : am_S) (c z : Nat) : Prop := sN σ ≤ 300 + 100 * c + z ∧ sU σ ≤ 400000 + 2000 * c + 2 * z
/-- lies of truths -/
def IL (σ : am_S) (T : Nat) : Prop := ∀ t, t < T → sI σ 36 t ≤ sI σ 31 4
/-- all of it -/
def INVx (xs : Nat → Int) (σ : am_S) (c : Nat) (own β μ κ ρ : Nat → Nat) (me : Nat → Nat → Nat) (n aH nH aL nL aY nY aS nS N l m T W : Nat) (kd : Int) (aR nR aV nV aI nI aQ nQ g w : Nat) : Prop := (MF σ ∧ AB σ ∧ sI σ 0 = xs) ∧ IT σ own aH nH aL nL aY nY aS nS N l m T W kd ∧ IL σ T ∧ IB σ own β μ κ ρ me n c ∧ IM σ c ∧ IJ σ own aR nR aV nV ∧ SCb σ own aI nI aQ nQ g w ∧ RZ σ ∧ ISs σ own T n ∧ IR σ c (zl σ + nI + nH + nL + nY + nS + nR + nV) ∧ c ≤ 600
def INV (xs : Nat → Int) (σ : am_S) (c : Nat) : Prop := ∃ own β μ κ ρ me n aH nH aL nL aY nY aS nS N l m T W kd aR nR aV nV aI nI aQ nQ g w, INVx xs σ c own β μ κ ρ me n aH nH aL nL aY nY aS nS N l m T W kd aR nR aV nV aI nI aQ nQ g w
/-- a change that no search sees -/
def XF (σ s : am_S) (own own' : Nat → Nat) (n : Nat) : Prop := (sN σ ≤ sN s ∧ ∀ x, x < sN σ → own' x = own x) ∧ (∀ x, x < sN σ → (own x = 3 ∨ own x = 4 ∨ own x = 5 ∨ (12 ≤ own x ∧ own x ≤ 25) ∨ 2000 ≤ own x ∨ (32 ≤ own x ∧ own x ≤ 38) ∨ (51 ≤ own x ∧ own x ≤ 82)) → sI s x = sI σ x) ∧ (∀ x, x < sN σ → (own x < 26 ∨ own x = 31 ∨ 1000 ≤ own x) → own x ≠ 9 → ∀ j, sR s x j = sR σ x j) ∧ ((∀ j, sR σ 9 j ≠ none → sR s 9 j = sR σ 9 j) ∧ ∀ j, j < 2 → sR s 26 j = sR σ 26 j) ∧ (∀ x g, x < sN σ → own x = 1000 + 8 * g → sI s x 0 = sI σ x 0 ∧ sI s x 5 = sI σ x 5) ∧ sI s 10 2 = sI σ 10 2 ∧ (∀ j, (j = 2 ∨ j = 3 ∨ j = 4 ∨ j = 5 ∨ j = 13 ∨ j = 26 ∨ (33 ≤ j ∧ j ≤ 40 ∧ j ≠ 38) ∨ (57 ≤ j ∧ j ≤ 60) ∨ j = 73 ∨ j = 76 ∨ j = 77 ∨ j = 78) → sI s 31 j = sI σ 31 j) ∧ sI σ 31 38 ≤ sI s 31 38 ∧ (∀ b, b < n → sI s 41 b = sI σ 41 b ∧ sI s 47 b = sI σ 47 b) ∧ ∀ i, i < 3 * n → sI s 46 i = sI σ 46 i
theorem OW_f {own own' : Nat → Nat} {N aH aL aY aS : Nat} (h : ∀ x, x < N → own' x = own x) (h87 : 87 ≤ N) (p : aH < N ∧ aL < N ∧ aY < N ∧ aS < N) (o : OW own aH aL aY aS) : OW own' aH aL aY aS := ⟨fun a ha => by rw [h a (by omega)]; exact o.1 a ha, by rw [h aH p.1]; exact o.2.1, by rw [h aL p.2.1]; exact o.2.2.1, by rw [h aY p.2.2.1]; exact o.2.2.2.1, by rw [h aS p.2.2.2]; exact o.2.2.2.2⟩
theorem OB_f {own own' β μ ρ : Nat → Nat} {N n : Nat} (h : ∀ x, x < N → own' x = own x) (p : ∀ b, b < n → β b < N ∧ μ b < N ∧ ρ b + 3 < N) (o : OB own β μ ρ n) : OB own' β μ ρ n := fun b hb => by
  obtain ⟨z1, z2, z3⟩ := o b hb
  obtain ⟨p1, p2, p3⟩ := p b hb
  exact ⟨by rw [h _ p1]; exact z1, by rw [h _ p2]; exact z2, fun k hk => by rw [h _ (by omega)]; exact z3 k hk⟩

