/-! the class: where a search stands -/
noncomputable def gR (X : sX) (c0 : Nat → Int) (k0 n0 : Nat) (js : Nat → Nat) (os : Nat → Int) (i : Nat) : List (Int × Int) := rwl X (rw1 X (n0 - (i + 1)) (csq X c0 k0 js os i) (k0 + i)) (js i)
theorem grq_s (X : sX) (c0 : Nat → Int) (k0 n0 : Nat) (js : Nat → Nat) (os : Nat → Int) (i : Nat) : grq X c0 k0 n0 js os (i + 1) = grq X c0 k0 n0 js os i ++ gR X c0 k0 n0 js os i ++ [((js i : Int), 0)] := rfl
noncomputable def wh (X : sX) (c0 : Nat → Int) (k0 n0 : Nat) : List (Int × Int) := if n0 = 0 then [] else rws X (n0 - 1) c0 k0
def LQ (σ : am_S) (aQ : Nat) (X : sX) (c0 : Nat → Int) (k0 n0 : Nat) (js : Nat → Nat) (os : Nat → Int) (i : Nat) : Prop := QB σ (qA aQ i) X (csq X c0 k0 js os i) ∧ QWg σ (qA aQ i + 3) X (csq X c0 k0 js os i) ∧ QWj σ (qA aQ i + 3) X (csq X c0 k0 js os i) (js i) ∧ sI σ (qA aQ i) 5 = mo (xK X (k0 + i)) ∧ sI σ (qA aQ i) 7 = ndq X c0 k0 n0 js os i ∧ sI σ (qA aQ i) 8 = (grq X c0 k0 n0 js os i).length
def LT (σ : am_S) (aQ : Nat) (X : sX) (c0 : Nat → Int) (k0 n0 : Nat) (js : Nat → Nat) (os : Nat → Int) (i : Nat) : Prop := QT σ (qA aQ i) X (csq X c0 k0 js os i) (k0 + i) (wAt X (csq X c0 k0 js os i) (js i)) ∧ sI σ (qA aQ i) 6 = os i ∧ sI σ (qA aQ i) 9 = ((grq X c0 k0 n0 js os i).length + (gR X c0 k0 n0 js os i).length : Nat)
theorem LQ_fr {σ s : am_S} {aQ : Nat} {X : sX} {c0 : Nat → Int} {k0 n0 : Nat} {js : Nat → Nat} {os : Nat → Int} {i : Nat} (hf : ∀ k, k < 9 → sI s (qA aQ i + k) = sI σ (qA aQ i + k)) : (LQ σ aQ X c0 k0 n0 js os i → LQ s aQ X c0 k0 n0 js os i) ∧ (LT σ aQ X c0 k0 n0 js os i → LT s aQ X c0 k0 n0 js os i) := by
  have e0 := hf 0 (by decide)
  rw [Nat.add_zero] at e0
  have e1 := hf 1 (by decide)
  have e2 := hf 2 (by decide)
  have e3 := hf 3 (by decide)
  have e4 : sI s (qA aQ i + 3 + 1) = sI σ (qA aQ i + 3 + 1) := hf 4 (by decide)
  have e5 : sI s (qA aQ i + 3 + 2) = sI σ (qA aQ i + 3 + 2) := hf 5 (by decide)
  have e6 : sI s (qA aQ i + 3 + 3) = sI σ (qA aQ i + 3 + 3) := hf 6 (by decide)
  have e7 : sI s (qA aQ i + 3 + 4) = sI σ (qA aQ i + 3 + 4) := hf 7 (by decide)
  have e8 : sI s (qA aQ i + 3 + 5) = sI σ (qA aQ i + 3 + 5) := hf 8 (by decide)
  refine ⟨fun h => ?_, fun h => ?_⟩
  · unfold LQ QB QWg QWj QWb at h ⊢
    rw [e0, e1, e3, e4, e5, e6, e7, e8]
    exact h
  · unfold LT QT at h ⊢
    rw [e0, e2]
    exact h
theorem gR_cg {X : sX} {c0 : Nat → Int} {k0 n0 : Nat} {js js' : Nat → Nat} {os os' : Nat → Int} {i : Nat} (h : ∀ q, q < i → js q = js' q ∧ os q = os' q) (hj : js i = js' i) : gR X c0 k0 n0 js os i = gR X c0 k0 n0 js' os' i := by
  unfold gR
  rw [csq_congr (X := X) (c0 := c0) (k0 := k0) i h, hj]
theorem LQ_cg {σ : am_S} {aQ : Nat} {X : sX} {c0 : Nat → Int} {k0 n0 : Nat} {js js' : Nat → Nat} {os os' : Nat → Int} {i : Nat} (h : ∀ q, q < i → js q = js' q ∧ os q = os' q) (hj : js i = js' i) : (LQ σ aQ X c0 k0 n0 js os i → LQ σ aQ X c0 k0 n0 js' os' i) ∧ (os i = os' i → LT σ aQ X c0 k0 n0 js os i → LT σ aQ X c0 k0 n0 js' os' i) := by
  have e1 := csq_congr (X := X) (c0 := c0) (k0 := k0) i h
  have e2 := (ndq_congr (X := X) (c0 := c0) (k0 := k0) (n0 := n0) i h).1
  have e3 := grq_congr (X := X) (c0 := c0) (k0 := k0) (n0 := n0) i (fun q hq => ⟨(h q hq).1, fun _ => (h q hq).2⟩)
  have e4 := gR_cg (X := X) (c0 := c0) (k0 := k0) (n0 := n0) h hj
  refine ⟨fun q => ?_, fun ho q => ?_⟩
  · unfold LQ at q ⊢
    rw [← e1, ← e2, ← e3, ← hj]
    exact q
  · unfold LT at q ⊢
    rw [← e1, ← e3, ← e4, ← hj, ← ho]
    exact q
/-- rows that grow, rows that are whole -/
def RW (σ : am_S) (own : Nat → Nat) (g w : Nat) (G W : List (Int × Int)) : Prop := ((g = 20 ∧ w = 23) ∨ (g = 23 ∧ w = 20)) ∧ sR σ 12 4 = some (g, 4, 3) ∧ sR σ 12 5 = some (w, 4, 3) ∧ RV σ own g G.length ∧ RL σ g G ∧ RV σ own w W.length ∧ RL σ w W
/-- the link of a level to the next -/
noncomputable def LK (X : sX) (c0 : Nat → Int) (k0 n0 : Nat) (js : Nat → Nat) (os : Nat → Int) (i : Nat) : Int := if mn X (csq X c0 k0 js os (i + 1)) ≤ 0 then -1000 else (ndq X c0 k0 n0 js os (i + 1) : Int)
def TL (X : sX) (tr : Nat → Nat) (f : Nat → Int) (c0 : Nat → Int) (k0 n0 : Nat) (js : Nat → Nat) (os : Nat → Int) (l : Nat) : Prop := ∀ i, i < l → ND X tr f c0 k0 n0 js os i (oi X (k0 + i) (os i)) (LK X c0 k0 n0 js os i)
def T0' (X : sX) (tr : Nat → Nat) (f : Nat → Int) (c0 : Nat → Int) (k0 n0 : Nat) (js : Nat → Nat) (os : Nat → Int) (l : Nat) : Prop := ∀ i, i < l → ND X tr f c0 k0 n0 js os i (oi X (k0 + i) (os i)) (if i + 1 = l then -1000 else LK X c0 k0 n0 js os i)
/-- what holds all along -/
def CB (σ : am_S) (own : Nat → Nat) (aQ k0 : Nat) (tr : Nat → Nat) (X : sX) (c0 : Nat → Int) (n0 st : Nat) : Prop := SE σ own aQ k0 tr X c0 ∧ n0 ≤ 6 ∧ st ≤ 100000 ∧ (sI σ 12 10 = n0 ∧ sI σ 12 13 = 0 ∧ sI σ 12 15 = st ∧ sI σ 12 16 = -1000 ∧ sI σ 12 17 = 0) ∧ ∀ m, m < n0 → ¬ can X m c0 k0
/-- asking -/
def P0 (σ : am_S) (own : Nat → Nat) (aQ k0 : Nat) (tr : Nat → Nat) (X : sX) (c0 : Nat → Int) (n0 l : Nat) (js : Nat → Nat) (os : Nat → Int) (st : Nat) : Prop := CB σ own aQ k0 tr X c0 n0 st ∧ GL X c0 k0 n0 js os l ∧ sI σ 12 11 = l ∧ sI σ 12 12 = 1 ∧ (∀ i, i < l → LQ σ aQ X c0 k0 n0 js os i ∧ LT σ aQ X c0 k0 n0 js os i ∧ js i ≤ st) ∧ QB σ (qA aQ l) X (csq X c0 k0 js os l) ∧ (∃ g w, RW σ own g w (grq X c0 k0 n0 js os l) (wh X c0 k0 n0)) ∧ ((grq X c0 k0 n0 js os l).length ≤ st ∧ (wh X c0 k0 n0).length ≤ st) ∧ T0' X tr (tcl σ) c0 k0 n0 js os l ∧ TV σ own (ndq X c0 k0 n0 js os l) ∧ sI σ 18 1 = ndq X c0 k0 n0 js os l
/-- looking -/
def P1 (σ : am_S) (own : Nat → Nat) (aQ k0 : Nat) (tr : Nat → Nat) (X : sX) (c0 : Nat → Int) (n0 l : Nat) (js : Nat → Nat) (os : Nat → Int) (st : Nat) : Prop := CB σ own aQ k0 tr X c0 n0 st ∧ GL X c0 k0 n0 js os l ∧ (l < n0 ∧ ¬ mn X (csq X c0 k0 js os l) < 2 ∧ ¬ big X (n0 - l) (csq X c0 k0 js os l) ∧ js l < wct X (csq X c0 k0 js os l) ∧ js l ≤ st ∧ ∀ j, j < js l → ¬ yw X (n0 - (l + 1)) (csq X c0 k0 js os l) (k0 + l) (wAt X (csq X c0 k0 js os l) j)) ∧ sI σ 12 11 = l ∧ sI σ 12 12 = 0 ∧ (∀ i, i < l → LQ σ aQ X c0 k0 n0 js os i ∧ LT σ aQ X c0 k0 n0 js os i ∧ js i ≤ st) ∧ LQ σ aQ X c0 k0 n0 js os l ∧ (∃ g w, RW σ own g w (grq X c0 k0 n0 js os l ++ gR X c0 k0 n0 js os l) (wh X c0 k0 n0)) ∧ ((grq X c0 k0 n0 js os l ++ gR X c0 k0 n0 js os l).length ≤ st ∧ (wh X c0 k0 n0).length ≤ st) ∧ TL X tr (tcl σ) c0 k0 n0 js os l ∧ NH X (tcl σ) (csq X c0 k0 js os l) l (ndq X c0 k0 n0 js os l) ∧ TV σ own (ndq X c0 k0 n0 js os l + 1)
/-- over, with LEAST -/
def P2 (σ : am_S) (own : Nat → Nat) (aQ k0 : Nat) (tr : Nat → Nat) (X : sX) (c0 : Nat → Int) (n0 st : Nat) : Prop := SE σ own aQ k0 tr X c0 ∧ n0 ≤ 6 ∧ st ≤ 100000 ∧ (sI σ 12 13 = 1 ∧ sI σ 12 15 = st ∧ sI σ 12 16 = n0 ∧ sI σ 12 17 = 0) ∧ (∀ m, m < n0 → ¬ can X m c0 k0) ∧ can X n0 c0 k0 ∧ (∃ g w G, RW σ own g w G (wh X c0 k0 n0)) ∧ (wh X c0 k0 n0).length ≤ st ∧ (mn X c0 ≤ 0 ∨ TC X tr (tcl σ) n0 c0 k0 0 0) ∧ TV σ own (tsz X n0 c0 k0) ∧ sI σ 18 1 = tsz X n0 c0 k0
/-- over, without -/
def P3 (σ : am_S) (own : Nat → Nat) (aQ k0 : Nat) (tr : Nat → Nat) (X : sX) (c0 : Nat → Int) (st : Nat) : Prop := SE σ own aQ k0 tr X c0 ∧ st ≤ 100000 ∧ (sI σ 12 13 = 1 ∧ sI σ 12 15 = st ∧ sI σ 12 16 = -1000 ∧ sI σ 12 17 = 0) ∧ (∀ m, m ≤ 6 → ¬ can X m c0 k0) ∧ (∃ g w G W, RW σ own g w G W) ∧ TV σ own 0
def CS (σ : am_S) (own : Nat → Nat) (aQ k0 : Nat) (tr : Nat → Nat) (X : sX) (c0 : Nat → Int) (A : sA) (st : Nat) : Prop := (A.1 = 0 ∧ P0 σ own aQ k0 tr X c0 A.2.1 A.2.2.1 A.2.2.2.1 A.2.2.2.2 st) ∨ (A.1 = 1 ∧ P1 σ own aQ k0 tr X c0 A.2.1 A.2.2.1 A.2.2.2.1 A.2.2.2.2 st) ∨ (A.1 = 2 ∧ P2 σ own aQ k0 tr X c0 A.2.1 st) ∨ (A.1 = 3 ∧ P3 σ own aQ k0 tr X c0 st)
/-- yes at level l -/
def KY (σ : am_S) (own : Nat → Nat) (aQ k0 : Nat) (tr : Nat → Nat) (X : sX) (c0 : Nat → Int) (n0 l : Nat) (js : Nat → Nat) (os : Nat → Int) (st : Nat) : Prop := CB σ own aQ k0 tr X c0 n0 st ∧ GL X c0 k0 n0 js os l ∧ can X (n0 - l) (csq X c0 k0 js os l) (k0 + l) ∧ sI σ 12 11 = l ∧ sI σ 12 12 = 1 ∧ (∀ i, i < l → LQ σ aQ X c0 k0 n0 js os i ∧ LT σ aQ X c0 k0 n0 js os i ∧ js i ≤ st) ∧ sI σ (qA aQ l) 8 = (grq X c0 k0 n0 js os l).length ∧ (∃ g w M, RW σ own g w (grq X c0 k0 n0 js os l ++ M) (wh X c0 k0 n0)) ∧ ((grq X c0 k0 n0 js os l).length ≤ st ∧ (wh X c0 k0 n0).length ≤ st) ∧ TL X tr (tcl σ) c0 k0 n0 js os l ∧ (mn X (csq X c0 k0 js os l) ≤ 0 ∨ TC X tr (tcl σ) (n0 - l) (csq X c0 k0 js os l) (k0 + l) l (ndq X c0 k0 n0 js os l)) ∧ TV σ own (ndq X c0 k0 n0 js os l + tsz X (n0 - l) (csq X c0 k0 js os l) (k0 + l)) ∧ sI σ 18 1 = (ndq X c0 k0 n0 js os l + tsz X (n0 - l) (csq X c0 k0 js os l) (k0 + l) : Nat)
/-- no at level l -/
def KN (σ : am_S) (own : Nat → Nat) (aQ k0 : Nat) (tr : Nat → Nat) (X : sX) (c0 : Nat → Int) (n0 l : Nat) (js : Nat → Nat) (os : Nat → Int) (st : Nat) : Prop := CB σ own aQ k0 tr X c0 n0 st ∧ GL X c0 k0 n0 js os l ∧ ¬ can X (n0 - l) (csq X c0 k0 js os l) (k0 + l) ∧ sI σ 12 11 = l ∧ (∀ i, i < l → LQ σ aQ X c0 k0 n0 js os i ∧ LT σ aQ X c0 k0 n0 js os i ∧ js i < st) ∧ (∃ g w, RW σ own g w (grq X c0 k0 n0 js os l ++ rws X (n0 - l) (csq X c0 k0 js os l) (k0 + l)) (wh X c0 k0 n0)) ∧ ((grq X c0 k0 n0 js os l ++ rws X (n0 - l) (csq X c0 k0 js os l) (k0 + l)).length ≤ st ∧ (wh X c0 k0 n0).length ≤ st) ∧ (∀ i, i + 1 < l → ND X tr (tcl σ) c0 k0 n0 js os i (oi X (k0 + i) (os i)) (LK X c0 k0 n0 js os i)) ∧ (∀ l', l = l' + 1 → NH X (tcl σ) (csq X c0 k0 js os l') l' (ndq X c0 k0 n0 js os l') ∧ TV σ own (ndq X c0 k0 n0 js os l' + 1)) ∧ TV σ own 0
