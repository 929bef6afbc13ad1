/-! the search, pure: not more nodes than 5868; where nodes and rows stand -/
theorem pth_mono : ∀ L l, pth L l ≤ pth L (l + 1)
  | 0, _ => Nat.le_refl _
  | L + 1, 0 => by
    show pth L 0 ≤ pth L (0 + 1) + 2 * pth L 0
    have := pth_mono L 0
    omega
  | L + 1, l + 1 => by
    show pth L (l + 1) + 2 * pth L l ≤ pth L (l + 1 + 1) + 2 * pth L (l + 1)
    have := pth_mono L (l + 1)
    have := pth_mono L l
    omega
theorem pth_le {L l m : Nat} (h : l ≤ m) : pth L l ≤ pth L m := by
  obtain ⟨k, rfl⟩ := Nat.le.dest h
  induction k with
  | zero => exact Nat.le_refl _
  | succ k ih => exact Nat.le_trans (ih (by omega)) (pth_mono L _)
def tkX (X : sX) (k : Nat) : Nat := if xK X k = 1 then 1 else if xK X k = 5 then 2 else 0
theorem tkX_1 (X : sX) (k : Nat) : (tyk (tkX X k)).1 = oc X k ∧ (tyk (tkX X k)).2 = (if xK X k = 5 then 1 else 0) := by
  unfold tkX oc
  by_cases h1 : xK X k = 1
  · rw [if_pos h1]
    have : mo (xK X k) = 3 := by unfold mo; rw [if_pos h1]
    rw [this, if_neg (by omega)]
    exact ⟨rfl, rfl⟩
  · have : mo (xK X k) = 1 := by unfold mo; rw [if_neg h1]
    rw [if_neg h1, this]
    by_cases h5 : xK X k = 5
    · rw [if_pos h5, if_pos h5]
      exact ⟨rfl, rfl⟩
    · rw [if_neg h5, if_neg h5]
      exact ⟨rfl, rfl⟩
theorem prO_T {X : sX} {k : Nat} {f : Nat → Nat} {m : Nat} (hf : ∀ i, i < m → f i = tkX X (k + i)) : ∀ e i, i + e ≤ m → prO X (k + i) e = prT f i e ∧ lyn X (k + i) e = lyT f i e
  | 0, _, _ => ⟨rfl, rfl⟩
  | e + 1, i, h => by
    have ih := prO_T (X := X) (k := k) (f := f) (m := m) hf e (i + 1) (by omega)
    have t := tkX_1 X (k + i)
    rw [← hf i (by omega)] at t
    constructor
    · show oc X (k + i) * prO X (k + i + 1) e = (tyk (f i)).1 * prT f (i + 1) e
      rw [t.1, ← ih.1]
      rfl
    · show (if xK X (k + i) = 5 then 1 else 0) + lyn X (k + i + 1) e = (tyk (f i)).2 + lyT f (i + 1) e
      rw [t.2, ← ih.2]
      rfl
theorem pot_bd {X : sX} (hX : XV X) {c : Nat → Int} {k e : Nat} : pot X c k e ≤ 60 * pth (lyn X k e) 3 := by
  unfold pot
  have h : sN' (fun s => if 0 ≤ c s then pth (lyn X k e) (xL X - c s).toNat else 0) (xM X) ≤ sN' (fun _ => pth (lyn X k e) 3) (xM X) := by
    refine sN'_le _ (fun s _ => ?_)
    have := hX.2.2.2.2.2.1
    split
    · exact pth_le (by omega)
    · exact Nat.zero_le _
  rw [sN'_const] at h
  exact Nat.le_trans h (Nat.mul_le_mul_right _ hX.2.1)
theorem phi_mono {X : sX} {c : Nat → Int} {k m n : Nat} (h : m ≤ n) : phi X c k m ≤ phi X c k n := by
  obtain ⟨j, rfl⟩ := Nat.le.dest h
  induction j with
  | zero => exact Nat.le_refl _
  | succ j ih => exact Nat.le_trans (ih (by omega)) (Nat.le_add_right _ _)
theorem tkX_3 (X : sX) (k : Nat) : tkX X k < 3 := by
  unfold tkX
  (repeat' split) <;> omega
theorem phi_bd {X : sX} (hX : XV X) {c : Nat → Int} {k n : Nat} (hn : n ≤ 6) : phi X c k n ≤ 5868 := by
  refine Nat.le_trans (phi_mono hn) ?_
  obtain ⟨f, hf⟩ : ∃ f : Nat → Nat, f = fun i => ([tkX X (k + 0), tkX X (k + 1), tkX X (k + 2), tkX X (k + 3), tkX X (k + 4), tkX X (k + 5)] : List Nat).getD i 0 := ⟨_, rfl⟩
  have hfi : ∀ i, i < 6 → f i = tkX X (k + i) := by
    intro i hi
    rw [hf]
    match i, hi with
    | 0, _ => rfl
    | 1, _ => rfl
    | 2, _ => rfl
    | 3, _ => rfl
    | 4, _ => rfl
    | 5, _ => rfl
  have hb : phT f 6 ≤ 5868 := by
    rw [hf]
    exact phT_bd ⟨_, tkX_3 X (k + 0)⟩ ⟨_, tkX_3 X (k + 1)⟩ ⟨_, tkX_3 X (k + 2)⟩ ⟨_, tkX_3 X (k + 3)⟩ ⟨_, tkX_3 X (k + 4)⟩ ⟨_, tkX_3 X (k + 5)⟩
  have key : ∀ e, e ≤ 6 → min (prO X k e) (pot X c k e) ≤ min (prT f 0 e) (60 * pth (lyT f 0 e) 3) := by
    intro e he
    have h1 := prO_T (X := X) (k := k) (f := f) (m := 6) hfi e 0 (by omega)
    rw [Nat.add_zero] at h1
    have h2 := pot_bd hX (c := c) (k := k) (e := e)
    rw [h1.2] at h2
    rw [h1.1]
    omega
  have all : ∀ e, e ≤ 6 → phi X c k e ≤ phT f e := by
    intro e
    induction e with
    | zero => intro h; exact key 0 h
    | succ e ih =>
      intro h
      have := ih (by omega)
      have := key (e + 1) h
      show phi X c k e + min (prO X k (e + 1)) (pot X c k (e + 1)) ≤ phT f e + min (prT f 0 (e + 1)) (60 * pth (lyT f 0 (e + 1)) 3)
      omega
  exact Nat.le_trans (all 6 (Nat.le_refl _)) hb
/-- the number of an outcome -/
def oi (X : sX) (k : Nat) (o : Int) : Nat := (o + mo (xK X k)).toNat
/-- the node of each level -/
noncomputable def ndq (X : sX) (c0 : Nat → Int) (k0 n0 : Nat) (js : Nat → Nat) (os : Nat → Int) : Nat → Nat
  | 0 => 0
  | i + 1 => ndq X c0 k0 n0 js os i + 1 + tof X (n0 - (i + 1)) (csq X c0 k0 js os i) (k0 + i) (wAt X (csq X c0 k0 js os i) (js i)) (oi X (k0 + i) (os i))
/-- records kept ahead of each level -/
noncomputable def rcq (X : sX) (c0 : Nat → Int) (k0 n0 : Nat) (js : Nat → Nat) (os : Nat → Int) : Nat → Nat
  | 0 => 0
  | i + 1 => rcq X c0 k0 n0 js os i + tof X (n0 - (i + 1)) (csq X c0 k0 js os i) (k0 + i) (wAt X (csq X c0 k0 js os i) (js i)) (oi X (k0 + i) (os i))
/-- rows ahead of each level -/
noncomputable def grq (X : sX) (c0 : Nat → Int) (k0 n0 : Nat) (js : Nat → Nat) (os : Nat → Int) : Nat → List (Int × Int)
  | 0 => []
  | i + 1 => grq X c0 k0 n0 js os i ++ rwl X (rw1 X (n0 - (i + 1)) (csq X c0 k0 js os i) (k0 + i)) (js i) ++ [((js i : Int), 0)]
theorem ndq_congr {X : sX} {c0 : Nat → Int} {k0 n0 : Nat} {js js' : Nat → Nat} {os os' : Nat → Int} : ∀ l, (∀ i, i < l → js i = js' i ∧ os i = os' i) → ndq X c0 k0 n0 js os l = ndq X c0 k0 n0 js' os' l ∧ rcq X c0 k0 n0 js os l = rcq X c0 k0 n0 js' os' l
  | 0, _ => ⟨rfl, rfl⟩
  | l + 1, h => by
    have ih := ndq_congr (X := X) (c0 := c0) (k0 := k0) (n0 := n0) l (fun i hi => h i (by omega))
    have e := csq_congr (X := X) (c0 := c0) (k0 := k0) l (fun i hi => h i (by omega))
    have := h l (by omega)
    unfold ndq rcq
    rw [ih.1, ih.2, e, this.1, this.2]
    exact ⟨rfl, rfl⟩
theorem grq_congr {X : sX} {c0 : Nat → Int} {k0 n0 : Nat} {js js' : Nat → Nat} {os os' : Nat → Int} : ∀ l, (∀ i, i < l → js i = js' i ∧ (i + 1 < l → os i = os' i)) → grq X c0 k0 n0 js os l = grq X c0 k0 n0 js' os' l
  | 0, _ => rfl
  | l + 1, h => by
    have ih := grq_congr (X := X) (c0 := c0) (k0 := k0) (n0 := n0) l (fun i hi => ⟨(h i (by omega)).1, fun _ => (h i (by omega)).2 (by omega)⟩)
    have e := csq_congr (X := X) (c0 := c0) (k0 := k0) l (fun i hi => ⟨(h i (by omega)).1, (h i (by omega)).2 (by omega)⟩)
    have := (h l (by omega)).1
    unfold grq
    rw [ih, e, this]
