/-! the search, pure: a case, its groups, its weighings -/
/-- coins, suspects; images of suspects with two coins exchanged; differences by sides; kinds by turns; lies; outcomes of one -/
abbrev sX : Type := (Nat × Nat) × (Nat → Nat → Nat → Int) × ((Nat → Int) → Nat → Int) × (Nat → Int) × Int × Int
def xN (X : sX) : Nat := X.1.1
def xM (X : sX) : Nat := X.1.2
def xW (X : sX) (s a b : Nat) : Int := X.2.1 s a b
def xD (X : sX) (f : Nat → Int) (s : Nat) : Int := X.2.2.1 f s
def xK (X : sX) (k : Nat) : Int := X.2.2.2.1 k
def xL (X : sX) : Int := X.2.2.2.2.1
def xO (X : sX) : Int := X.2.2.2.2.2
def XV (X : sX) : Prop := xN X ≤ 12 ∧ xM X ≤ 60 ∧ (∀ s a b, -1 ≤ xW X s a b ∧ xW X s a b < xM X) ∧ (∀ f s, (∀ c, -1 ≤ f c ∧ f c ≤ 1) → s < xM X → -3 ≤ xD X f s ∧ xD X f s ≤ 3) ∧ (∀ f g s, (∀ c, c < xN X → f c = g c) → xD X f s = xD X g s) ∧ (0 ≤ xL X ∧ xL X ≤ 3) ∧ (xO X = 3 ∨ xO X = 7)
def ud (f : Nat → Int) (i : Nat) (v : Int) : Nat → Int := fun k => if k = i then v else f k
/-- how many are left in a case -/
def mn (X : sX) (c : Nat → Int) : Int := sm (fun s => if 0 ≤ c s then 1 else 0) (xM X)
def AL (X : sX) (c : Nat → Int) (a b : Nat) : Prop := ∀ s, s < xM X → 0 ≤ c s → 0 ≤ xW X s a b ∧ c (xW X s a b).toNat = c s
/-- the first number from i on, k of them, that has it -/
noncomputable def ff (p : Nat → Prop) : Nat → Nat → Nat
  | 0, i => i
  | k + 1, i => @ite _ (p i) (Classical.propDecidable _) i (ff p k (i + 1))
theorem ff_spec (p : Nat → Prop) : ∀ k i, i ≤ ff p k i ∧ ff p k i ≤ i + k ∧ (∀ j, i ≤ j → j < ff p k i → ¬ p j) ∧ (ff p k i < i + k → p (ff p k i))
  | 0, i => ⟨Nat.le_refl _, Nat.le_refl _, fun j h1 h2 => absurd h2 (Nat.not_lt.mpr h1), fun h => absurd h (Nat.lt_irrefl _)⟩
  | k + 1, i => by
    by_cases h : p i
    · have e : ff p (k + 1) i = i := by unfold ff; exact if_pos h
      rw [e]
      exact ⟨Nat.le_refl _, by omega, fun j h1 h2 => by omega, fun _ => h⟩
    · have e : ff p (k + 1) i = ff p k (i + 1) := by
        show @ite _ (p i) (Classical.propDecidable _) i (ff p k (i + 1)) = _
        exact if_neg h
      obtain ⟨h1, h2, h3, h4⟩ := ff_spec p k (i + 1)
      rw [e]
      refine ⟨by omega, by omega, fun j j1 j2 => ?_, fun q => h4 (by omega)⟩
      by_cases ej : j = i
      · rw [ej]; exact h
      · exact h3 j (by omega) j2
theorem ff_unique {p : Nat → Prop} {k i j : Nat} (h1 : i ≤ j) (h2 : j ≤ i + k) (h3 : ∀ q, i ≤ q → q < j → ¬ p q) (h4 : j < i + k → p j) : ff p k i = j := by
  obtain ⟨a1, a2, a3, a4⟩ := ff_spec p k i
  rcases Nat.lt_trichotomy (ff p k i) j with h | h | h
  · exact absurd (a4 (by omega)) (h3 _ a1 h)
  · exact h
  · exact absurd (h4 (by omega)) (a3 _ h1 h)
/-- groups of the first i coins: how many, their least coins, each coin's, their sizes -/
noncomputable def gst (X : sX) (c : Nat → Int) : Nat → Nat × (Nat → Nat) × (Nat → Nat) × (Nat → Nat)
  | 0 => (0, fun _ => 0, fun _ => 0, fun _ => 0)
  | i + 1 => (
    (if ff (fun g => AL X c ((gst X c i).2.1 g) i) (gst X c i).1 0 = (gst X c i).1 then (gst X c i).1 + 1 else (gst X c i).1),
    (fun g => if g = ff (fun g => AL X c ((gst X c i).2.1 g) i) (gst X c i).1 0 ∧ ff (fun g => AL X c ((gst X c i).2.1 g) i) (gst X c i).1 0 = (gst X c i).1 then i else (gst X c i).2.1 g),
    (fun q => if q = i then ff (fun g => AL X c ((gst X c i).2.1 g) i) (gst X c i).1 0 else (gst X c i).2.2.1 q),
    (fun g => if g = ff (fun g => AL X c ((gst X c i).2.1 g) i) (gst X c i).1 0 then (if g = (gst X c i).1 then 1 else (gst X c i).2.2.2 g + 1) else (gst X c i).2.2.2 g))
noncomputable def gF (X : sX) (c : Nat → Int) (i : Nat) : Nat := ff (fun g => AL X c ((gst X c i).2.1 g) i) (gst X c i).1 0
noncomputable def gN (X : sX) (c : Nat → Int) (i : Nat) : Nat := (gst X c i).1
noncomputable def gL (X : sX) (c : Nat → Int) (i g : Nat) : Nat := (gst X c i).2.1 g
noncomputable def gG (X : sX) (c : Nat → Int) (i q : Nat) : Nat := (gst X c i).2.2.1 q
noncomputable def gZ (X : sX) (c : Nat → Int) (i g : Nat) : Nat := (gst X c i).2.2.2 g
theorem gF_le (X : sX) (c : Nat → Int) (i : Nat) : gF X c i ≤ gN X c i := by
  have := (ff_spec (fun g => AL X c ((gst X c i).2.1 g) i) (gst X c i).1 0).2.1
  rw [Nat.zero_add] at this
  exact this
theorem gN_s (X : sX) (c : Nat → Int) (i : Nat) : gN X c (i + 1) = if gF X c i = gN X c i then gN X c i + 1 else gN X c i := rfl
theorem gL_s (X : sX) (c : Nat → Int) (i g : Nat) : gL X c (i + 1) g = if g = gF X c i ∧ gF X c i = gN X c i then i else gL X c i g := rfl
theorem gG_s (X : sX) (c : Nat → Int) (i q : Nat) : gG X c (i + 1) q = if q = i then gF X c i else gG X c i q := rfl
theorem gZ_s (X : sX) (c : Nat → Int) (i g : Nat) : gZ X c (i + 1) g = if g = gF X c i then (if g = gN X c i then 1 else gZ X c i g + 1) else gZ X c i g := rfl
/-- what groups are -/
theorem g_inv (X : sX) (c : Nat → Int) : ∀ i, gN X c i ≤ i ∧ (∀ q, q < i → gG X c i q < gN X c i) ∧ (∀ g, g < gN X c i → gL X c i g < i ∧ gG X c i (gL X c i g) = g ∧ (∀ q, q < gL X c i g → gG X c i q ≠ g) ∧ 1 ≤ gZ X c i g ∧ gZ X c i g ≤ i) ∧ (∀ g h, g < h → h < gN X c i → gL X c i g < gL X c i h)
  | 0 => ⟨Nat.le_refl _, fun q h => absurd h (Nat.not_lt_zero q), fun g h => absurd h (Nat.not_lt_zero g), fun g h _ h2 => absurd h2 (Nat.not_lt_zero h)⟩
  | i + 1 => by
    obtain ⟨h1, h2, h3, h4⟩ := g_inv X c i
    have hf := gF_le X c i
    by_cases e : gF X c i = gN X c i
    · have eN : gN X c (i + 1) = gN X c i + 1 := by rw [gN_s, if_pos e]
      refine ⟨by omega, fun q hq => ?_, fun g hg => ?_, fun g h hgh hh => ?_⟩
      · rw [gG_s, eN]
        split
        · omega
        · have := h2 q (by omega); omega
      · by_cases eg : g = gN X c i
        · have eL : gL X c (i + 1) g = i := by rw [gL_s, if_pos ⟨by omega, e⟩]
          rw [eL, gG_s, if_pos rfl, gZ_s, if_pos (by omega), if_pos eg]
          refine ⟨by omega, by omega, fun q hq => ?_, by omega, by omega⟩
          rw [gG_s, if_neg (by omega)]
          have := h2 q hq
          omega
        · have hg' : g < gN X c i := by omega
          have eL : gL X c (i + 1) g = gL X c i g := by rw [gL_s, if_neg (by omega)]
          obtain ⟨a1, a2, a3, a4, a5⟩ := h3 g hg'
          rw [eL, gG_s, if_neg (by omega), gZ_s, if_neg (by omega)]
          refine ⟨by omega, a2, fun q hq => ?_, a4, by omega⟩
          rw [gG_s, if_neg (by omega)]
          exact a3 q hq
      · have eL : gL X c (i + 1) g = gL X c i g := by rw [gL_s, if_neg (by omega)]
        rw [eL]
        by_cases eh : h = gN X c i
        · rw [gL_s, if_pos ⟨by omega, e⟩]
          exact (h3 g (by omega)).1
        · rw [gL_s, if_neg (by omega)]
          exact h4 g h hgh (by omega)
    · have eN : gN X c (i + 1) = gN X c i := by rw [gN_s, if_neg e]
      have eL : ∀ g, gL X c (i + 1) g = gL X c i g := fun g => by rw [gL_s, if_neg (fun q => e q.2)]
      refine ⟨by omega, fun q hq => ?_, fun g hg => ?_, fun g h hgh hh => ?_⟩
      · rw [gG_s, eN]
        split
        · omega
        · exact h2 q (by omega)
      · rw [eN] at hg
        obtain ⟨a1, a2, a3, a4, a5⟩ := h3 g hg
        rw [eL, gG_s, if_neg (by omega), gZ_s]
        refine ⟨by omega, a2, fun q hq => ?_, ?_, ?_⟩
        · rw [gG_s, if_neg (by omega)]
          exact a3 q hq
        · split
          · rw [if_neg (by omega)]; omega
          · exact a4
        · split
          · rw [if_neg (by omega)]; omega
          · omega
      · rw [eL, eL]
        exact h4 g h hgh (by omega)
theorem sm_ext {f g : Nat → Int} (h : ∀ i, f i = g i) (n : Nat) : sm f n = sm g n := sm_congr n (fun i _ => h i)
theorem g_sum (X : sX) (c : Nat → Int) : ∀ i, sm (fun g => (gZ X c i g : Int)) (gN X c i) = i
  | 0 => rfl
  | i + 1 => by
    have ih := g_sum X c i
    have hf := gF_le X c i
    by_cases e : gF X c i = gN X c i
    · have eN : gN X c (i + 1) = gN X c i + 1 := by rw [gN_s, if_pos e]
      rw [eN]
      show sm (fun g => (gZ X c (i + 1) g : Int)) (gN X c i) + (gZ X c (i + 1) (gN X c i) : Int) = _
      rw [sm_congr (gN X c i) (g := fun g => (gZ X c i g : Int)) (fun g hg => by rw [gZ_s, if_neg (by omega)]), ih, gZ_s, if_pos e.symm, if_pos rfl]
      omega
    · have eN : gN X c (i + 1) = gN X c i := by rw [gN_s, if_neg e]
      rw [eN]
      rw [sm_congr (gN X c i) (g := fun g => (gZ X c i g : Int) + (if g = gF X c i then 1 else 0)) (fun g hg => by
        rw [gZ_s]
        split
        · rw [if_neg (by omega)]; omega
        · omega), sm_lin, ih, sm_one, if_pos (by omega)]
      omega
