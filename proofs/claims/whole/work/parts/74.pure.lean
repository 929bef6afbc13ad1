/-! the search, pure: cases, the row of weighings, what can be found, rows, steps -/
noncomputable def zC (X : sX) (c : Nat → Int) : Nat → Int := fun g => (gZ X c (xN X) g : Int)
noncomputable def nC (X : sX) (c : Nat → Int) : Nat := gN X c (xN X)
noncomputable def nxC (X : sX) (c : Nat → Int) (w : sW) : Option sW := nx (zC X c) (nC X c) (xN X) w
noncomputable def wsq (X : sX) (c : Nat → Int) : Nat → Option sW
  | 0 => nxC X c (0, fun _ => 0, fun _ => 0)
  | j + 1 => match wsq X c j with
    | none => none
    | some w => nxC X c w
theorem zC_bd {X : sX} (hX : XV X) (c : Nat → Int) (g : Nat) (hg : g < nC X c) : 0 ≤ zC X c g ∧ zC X c g ≤ 12 := by
  have h := (g_inv X c (xN X)).2.2.1 g hg
  have := hX.1
  unfold zC
  omega
theorem zC_sm (X : sX) (c : Nat → Int) : sm (zC X c) (nC X c) = xN X := g_sum X c (xN X)
theorem nC_le (X : sX) (c : Nat → Int) : nC X c ≤ xN X := (g_inv X c (xN X)).1
theorem wsq_WV {X : sX} (hX : XV X) (c : Nat → Int) : ∀ j w, wsq X c j = some w → WV (zC X c) (nC X c) (xN X) w
  | 0, w, h => (nx_ok (w := (0, fun _ => 0, fun _ => 0)) (w' := w) (fun g hg => zC_bd hX c g hg) (zC_sm X c) (Or.inl rfl) (show nx (zC X c) (nC X c) (xN X) (0, fun _ => 0, fun _ => 0) = some w from h)).1
  | j + 1, w, h => by
    unfold wsq at h
    cases hj : wsq X c j with
    | none => rw [hj] at h; cases h
    | some w0 =>
      rw [hj] at h
      exact (nx_ok (fun g hg => zC_bd hX c g hg) (zC_sm X c) (Or.inr (wsq_WV hX c j w0 hj)) h).1
noncomputable def meas (X : sX) (c : Nat → Int) (w : sW) : Nat := ((13 - w.1) * 169 ^ nC X c + wval w.2.1 w.2.2 (nC X c)).toNat
theorem meas_lt {X : sX} (hX : XV X) (c : Nat → Int) {w w' : sW} (hw : WV (zC X c) (nC X c) (xN X) w) (h : nxC X c w = some w') : meas X c w' < meas X c w := by
  obtain ⟨h1, h2⟩ := nx_ok (fun g hg => zC_bd hX c g hg) (zC_sm X c) (Or.inr hw) h
  have b1 := wval_bd (L := w.2.1) (R := w.2.2) (sz := zC X c) (nC X c) (fun g hg => ⟨(hw.2.1 g hg).1, (hw.2.1 g hg).2.1, (hw.2.1 g hg).2.2, (zC_bd hX c g hg).2⟩)
  have b2 := wval_bd (L := w'.2.1) (R := w'.2.2) (sz := zC X c) (nC X c) (fun g hg => ⟨(h1.2.1 g hg).1, (h1.2.1 g hg).2.1, (h1.2.1 g hg).2.2, (zC_bd hX c g hg).2⟩)
  have h12 := hX.1
  have p1 := h1.1
  have p2 := hw.1
  unfold meas
  obtain ⟨Q, hQ⟩ : ∃ Q : Int, Q = 169 ^ nC X c := ⟨_, rfl⟩
  rw [← hQ] at b1 b2 ⊢
  have hq : 0 < Q := by omega
  have nn : 0 ≤ (13 - w.1) * Q := Int.mul_nonneg (by omega) (by omega)
  rcases h2 with ⟨e1, e2⟩ | e1
  · rw [e1]
    omega
  · have nn' : 0 ≤ (13 - w'.1) * Q := Int.mul_nonneg (by omega) (by omega)
    have e3 : (13 - w.1) * Q = (13 - w'.1) * Q + Q := by
      rw [show 13 - w.1 = (13 - w'.1) + 1 by omega, Int.add_mul, Int.one_mul]
    omega
/-- the row of weighings has an end -/
theorem wsq_end {X : sX} (hX : XV X) (c : Nat → Int) : ∃ J, wsq X c J = none ∧ ∀ j, j < J → ∃ w, wsq X c j = some w := by
  have key : ∀ m j w, wsq X c j = some w → meas X c w ≤ m → ∃ J, j < J ∧ wsq X c J = none ∧ ∀ i, j ≤ i → i < J → ∃ w, wsq X c i = some w := by
    intro m
    induction m with
    | zero =>
      intro j w hj hm
      have e : wsq X c (j + 1) = nxC X c w := by
        show (match wsq X c j with | none => none | some w => nxC X c w) = _
        rw [hj]
      cases hn : nxC X c w with
      | none =>
        exact ⟨j + 1, by omega, by rw [e, hn], fun i h1 h2 => by rw [show i = j by omega]; exact ⟨w, hj⟩⟩
      | some w' =>
        have := meas_lt hX c (wsq_WV hX c j w hj) hn
        omega
    | succ m ih =>
      intro j w hj hm
      have e : wsq X c (j + 1) = nxC X c w := by
        show (match wsq X c j with | none => none | some w => nxC X c w) = _
        rw [hj]
      cases hn : nxC X c w with
      | none =>
        exact ⟨j + 1, by omega, by rw [e, hn], fun i h1 h2 => by rw [show i = j by omega]; exact ⟨w, hj⟩⟩
      | some w' =>
        have h1 := meas_lt hX c (wsq_WV hX c j w hj) hn
        obtain ⟨J, q1, q2, q3⟩ := ih (j + 1) w' (by rw [e, hn]) (by omega)
        refine ⟨J, by omega, q2, fun i i1 i2 => ?_⟩
        by_cases ei : i = j
        · rw [ei]; exact ⟨w, hj⟩
        · exact q3 i (by omega) i2
  cases h0 : wsq X c 0 with
  | none => exact ⟨0, h0, fun j hj => absurd hj (Nat.not_lt_zero j)⟩
  | some w =>
    obtain ⟨J, _, q2, q3⟩ := key (meas X c w) 0 w h0 (Nat.le_refl _)
    exact ⟨J, q2, fun j hj => q3 j (Nat.zero_le _) hj⟩
/-- how many weighings a case has -/
noncomputable def wct (X : sX) (c : Nat → Int) : Nat := @dite _ (∃ J, wsq X c J = none ∧ ∀ j, j < J → ∃ w, wsq X c j = some w) (Classical.propDecidable _) (fun h => Classical.choose h) (fun _ => 0)
theorem wct_spec {X : sX} (hX : XV X) (c : Nat → Int) : wsq X c (wct X c) = none ∧ ∀ j, j < wct X c → ∃ w, wsq X c j = some w := by
  have h := wsq_end hX c
  unfold wct
  rw [dif_pos h]
  exact Classical.choose_spec h
theorem wct_iff {X : sX} (hX : XV X) {c : Nat → Int} {j : Nat} {w : sW} (h : wsq X c j = some w) : j < wct X c := by
  obtain ⟨h1, h2⟩ := wct_spec hX c
  rcases Nat.lt_or_ge j (wct X c) with q | q
  · exact q
  · exfalso
    have : ∀ i, wsq X c (wct X c + i) = none := by
      intro i
      induction i with
      | zero => exact h1
      | succ i ih =>
        show (match wsq X c (wct X c + i) with | none => none | some w => nxC X c w) = none
        rw [ih]
    have e := this (j - wct X c)
    rw [show wct X c + (j - wct X c) = j by omega, h] at e
    cases e
/-- the rank of a coin in its group; the side where it lies -/
def rkq (G : Nat → Nat) (q : Nat) : Int := sm (fun i => if G i = G q then 1 else 0) q
noncomputable def sdw (X : sX) (c : Nat → Int) (w : sW) : Nat → Int := fun q => if rkq (gG X c (xN X)) q < w.2.1 (gG X c (xN X) q) then 1 else if rkq (gG X c (xN X)) q < w.2.1 (gG X c (xN X) q) + w.2.2 (gG X c (xN X) q) then -1 else 0
/-- the case that an outcome makes -/
def mkc (X : sX) (c : Nat → Int) (k : Nat) (f : Nat → Int) (o : Int) : Nat → Int := fun s => if c s < 0 then -1 else lb (xK X k) (tl (xK X k) (xD X f s)) o (c s) (xL X)
def big (X : sX) (n : Nat) (c : Nat → Int) : Prop := n = 0 ∨ xO X ^ n < mn X c
noncomputable def can (X : sX) : Nat → (Nat → Int) → Nat → Prop
  | 0, c, _ => mn X c < 2
  | n + 1, c, k => mn X c < 2 ∨ (¬ big X (n + 1) c ∧ ∃ j w, wsq X c j = some w ∧ ∀ o, -mo (xK X k) ≤ o → o ≤ mo (xK X k) → can X n (mkc X c k (sdw X c w) o) (k + 1))
/-- how far the outcomes of a weighing answer yes, from the least on -/
noncomputable def fon (X : sX) (n : Nat) (c : Nat → Int) (k : Nat) (w : sW) : Nat := ff (fun i => ¬ can X n (mkc X c k (sdw X c w) (-mo (xK X k) + (i : Int))) (k + 1)) (2 * mo (xK X k) + 1).toNat 0
noncomputable def fo (X : sX) (n : Nat) (c : Nat → Int) (k : Nat) (w : sW) : Int := -mo (xK X k) + (fon X n c k w : Int)
def rwl (X : sX) (row : Nat → List (Int × Int)) : Nat → List (Int × Int)
  | 0 => []
  | j + 1 => rwl X row j ++ row j
noncomputable def wAt (X : sX) (c : Nat → Int) (j : Nat) : sW := (wsq X c j).getD (0, fun _ => 0, fun _ => 0)
/-- rows that show that n don't do -/
noncomputable def rws (X : sX) : Nat → (Nat → Int) → Nat → List (Int × Int)
  | 0, c, _ => [(-1, mn X c)]
  | n + 1, c, k => @ite _ (big X (n + 1) c) (Classical.propDecidable _) [(-1, mn X c)] (rwl X (fun j => ((j : Int), fo X n c k (wAt X c j)) :: rws X n (mkc X c k (sdw X c (wAt X c j)) (fo X n c k (wAt X c j))) (k + 1)) (wct X c))
/-- rows of one weighing that does not do -/
noncomputable def rw1 (X : sX) (n : Nat) (c : Nat → Int) (k j : Nat) : List (Int × Int) := ((j : Int), fo X n c k (wAt X c j)) :: rws X n (mkc X c k (sdw X c (wAt X c j)) (fo X n c k (wAt X c j))) (k + 1)
theorem rws_s {X : sX} {n : Nat} {c : Nat → Int} {k : Nat} (h : ¬ big X (n + 1) c) : rws X (n + 1) c k = rwl X (rw1 X n c k) (wct X c) := by
  show @ite _ (big X (n + 1) c) (Classical.propDecidable _) _ _ = _
  rw [if_neg h]
  rfl
theorem rws_b {X : sX} {n : Nat} {c : Nat → Int} {k : Nat} (h : big X n c) : rws X n c k = [(-1, mn X c)] := by
  cases n with
  | zero => rfl
  | succ n =>
    show @ite _ (big X (n + 1) c) (Classical.propDecidable _) _ _ = _
    rw [if_pos h]
/-- cases along the levels, by the weighing and the outcome of each -/
noncomputable def csq (X : sX) (c0 : Nat → Int) (k0 : Nat) (js : Nat → Nat) (os : Nat → Int) : Nat → Nat → Int
  | 0 => c0
  | i + 1 => mkc X (csq X c0 k0 js os i) (k0 + i) (sdw X (csq X c0 k0 js os i) (wAt X (csq X c0 k0 js os i) (js i))) (os i)
theorem csq_congr {X : sX} {c0 : Nat → Int} {k0 : Nat} {js js' : Nat → Nat} {os os' : Nat → Int} : ∀ l, (∀ i, i < l → js i = js' i ∧ os i = os' i) → csq X c0 k0 js os l = csq X c0 k0 js' os' l
  | 0, _ => rfl
  | l + 1, h => by
    have ih := csq_congr (X := X) (c0 := c0) (k0 := k0) l (fun i hi => h i (by omega))
    have := h l (by omega)
    unfold csq
    rw [ih, this.1, this.2]
/-- where a search stands: 0 asking, 1 looking, 2 over with LEAST, 3 over without; n, level, weighings, outcomes -/
abbrev sA : Type := Nat × Nat × Nat × (Nat → Nat) × (Nat → Int)
def uN (f : Nat → Nat) (i v : Nat) : Nat → Nat := fun k => if k = i then v else f k
def upY (X : sX) (k0 n0 : Nat) (js : Nat → Nat) (os : Nat → Int) : Nat → sA
  | 0 => (2, n0, 0, js, os)
  | l + 1 => if os l < mo (xK X (k0 + l)) then (0, n0, l + 1, js, ud os l (os l + 1)) else upY X k0 n0 js os l
noncomputable def upN (X : sX) (c0 : Nat → Int) (k0 n0 : Nat) (js : Nat → Nat) (os : Nat → Int) : Nat → sA
  | 0 => if 6 ≤ n0 then (3, n0, 0, js, os) else (0, n0 + 1, 0, js, os)
  | l + 1 => match wsq X (csq X c0 k0 js os l) (js l + 1) with
    | some _ => (1, n0, l, uN js l (js l + 1), os)
    | none => upN X c0 k0 n0 js os l
noncomputable def stp (X : sX) (c0 : Nat → Int) (k0 : Nat) (A : sA) : sA :=
  if A.1 = 0 then
    (if mn X (csq X c0 k0 A.2.2.2.1 A.2.2.2.2 A.2.2.1) < 2 then upY X k0 A.2.1 A.2.2.2.1 A.2.2.2.2 A.2.2.1
    else @ite _ (big X (A.2.1 - A.2.2.1) (csq X c0 k0 A.2.2.2.1 A.2.2.2.2 A.2.2.1)) (Classical.propDecidable _) (upN X c0 k0 A.2.1 A.2.2.2.1 A.2.2.2.2 A.2.2.1)
      (match wsq X (csq X c0 k0 A.2.2.2.1 A.2.2.2.2 A.2.2.1) 0 with
      | some _ => (1, A.2.1, A.2.2.1, uN A.2.2.2.1 A.2.2.1 0, A.2.2.2.2)
      | none => upN X c0 k0 A.2.1 A.2.2.2.1 A.2.2.2.2 A.2.2.1))
  else if A.1 = 1 then (0, A.2.1, A.2.2.1 + 1, A.2.2.2.1, ud A.2.2.2.2 A.2.2.1 (-mo (xK X (k0 + A.2.2.1))))
  else A
