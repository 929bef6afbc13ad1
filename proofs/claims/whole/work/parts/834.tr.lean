/-! the class: the tree and the rows of a search -/
/-- lengths of the rows that a search makes longer -/
def zl (σ : am_S) : Nat := (rg (sR σ 18 0)).2.2 + (rg (sR σ 20 0)).2.2 + (rg (sR σ 20 1)).2.2 + (rg (sR σ 23 0)).2.2 + (rg (sR σ 23 1)).2.2
/-- only cells of some roles change, and new ones come -/
def OFr (σ s : am_S) (own own' : Nat → Nat) (p : Nat → Prop) : Prop := (∀ x, x < sN σ → ¬ p (own x) → sI s x = sI σ x ∧ ∀ j, sR s x j = sR σ x j) ∧ (∀ x, x < sN σ → own' x = own x) ∧ sN σ ≤ sN s ∧ sN s + zl σ ≤ sN σ + zl s ∧ sU s + 2 * zl σ ≤ sU σ + 2 * zl s
theorem OFr_rf (σ : am_S) (own : Nat → Nat) (p : Nat → Prop) : OFr σ σ own own p := ⟨fun _ _ _ => ⟨rfl, fun _ => rfl⟩, fun _ _ => rfl, Nat.le_refl _, Nat.le_refl _, Nat.le_refl _⟩
theorem OFr_tr {σ s t : am_S} {own own' own'' : Nat → Nat} {p q r : Nat → Prop} (h : OFr σ s own own' p) (h2 : OFr s t own' own'' q) (hp : ∀ x, p x → r x) (hq : ∀ x, q x → r x) : OFr σ t own own'' r := by
  obtain ⟨a1, a2, a3, a4, a5⟩ := h
  obtain ⟨b1, b2, b3, b4, b5⟩ := h2
  refine ⟨fun x hx hr => ?_, fun x hx => (b2 x (by omega)).trans (a2 x hx), by omega, by omega, by omega⟩
  have e1 := a1 x hx (fun w => hr (hp _ w))
  have e2 := b1 x (by omega) (fun w => hr (hq _ (by rw [a2 x hx] at w; exact w)))
  exact ⟨e2.1.trans e1.1, fun j => (e2.2 j).trans (e1.2 j)⟩
/-- only ints change -/
theorem OFr_I {σ s : am_S} {own : Nat → Nat} {p : Nat → Prop} (h2 : s.2 = σ.2) (h : ∀ x, x < sN σ → ¬ p (own x) → sI s x = sI σ x) : OFr σ s own own p := by
  have e : sR s = sR σ := by
    funext a j
    exact R2' h2 a j
  have e1 : sN s = sN σ := by unfold sN; rw [h2]
  have e2 : sU s = sU σ := by unfold sU; rw [h2]
  have e3 : zl s = zl σ := by unfold zl; rw [e]
  exact ⟨fun x hx hp => ⟨h x hx hp, fun j => by rw [e]⟩, fun _ _ => rfl, by omega, by omega, by omega⟩
def pT (r : Nat) : Prop := r = 18 ∨ r = 19
def pR (o r : Nat) : Prop := o ≤ r ∧ r ≤ o + 2
def tcl (σ : am_S) (i : Nat) : Int := sI σ (rg (sR σ 18 0)).1 i
/-- the tree's row: room for so many nodes -/
def TV (σ : am_S) (own : Nat → Nat) (sz : Nat) : Prop := (∃ a n, sR σ 18 0 = some (a, 20, n) ∧ own a = 19 ∧ a < sN σ ∧ 12 * sz ≤ n ∧ n ≤ 144000) ∧ own 18 = 18 ∧ own 20 = 20 ∧ own 23 = 23 ∧ 87 ≤ sN σ

theorem v_Tree_layOn_0 (d : Nat) (aC nC : Nat) (p1 p2 p3 : Int) (σ : am_S) (K : am_S → Prop) (hC : CF σ) (hc : sR σ 18 0 = some (aC, 20, nC)) (h :
  (-2147483648 ≤ p1 * 12 ∧ p1 * 12 < 2147483648 ∧ -2147483648 ≤ (p1 * 12) + 0 ∧ (p1 * 12) + 0 < 2147483648 ∧ 0 ≤ ((p1 * 12) + 0) ∧ ((p1 * 12) + 0) < ((nC : Nat) : Int) ∧ -2147483648 ≤ (p1 * 12) + 1 ∧ (p1 * 12) + 1 < 2147483648 ∧ 0 ≤ ((p1 * 12) + 1) ∧ ((p1 * 12) + 1) < ((nC : Nat) : Int) ∧ -2147483648 ≤ (p1 * 12) + 5 ∧ (p1 * 12) + 5 < 2147483648) ∧
  am_Runs PP MLL d m_Tree_layOn 22 [some (qr (18, 8, 2)), some (qi p1), some (qi p2), some (qi p3), some (qi (p1 * 12)), some (qi ((p1 * 12) + 5))] [] (putI (putI σ aC (Int.toNat ((p1 * 12) + 0)) p2) aC (Int.toNat ((p1 * 12) + 1)) p3) (kV K)) : am_Runs PP MLL d m_Tree_layOn 0 [some (qr (18, 8, 2)), some (qi p1), some (qi p2), some (qi p3), none, none] [] σ (kV K) := am_wEF_ok (orc [(5, aC, 20, nC), (12, aC, 20, nC)]) 200 (⟨⟨h.1.1, h.1.2.1⟩, ⟨⟨rfl, hc⟩, ⟨⟨h.1.2.2.1, h.1.2.2.2.1⟩, ⟨⟨rfl, h.1.2.2.2.2.1, h.1.2.2.2.2.2.1⟩, ⟨⟨rfl, hc⟩, ⟨⟨h.1.2.2.2.2.2.2.1, h.1.2.2.2.2.2.2.2.1⟩, ⟨⟨rfl, h.1.2.2.2.2.2.2.2.2.1, h.1.2.2.2.2.2.2.2.2.2.1⟩, ⟨⟨h.1.2.2.2.2.2.2.2.2.2.2.1, h.1.2.2.2.2.2.2.2.2.2.2.2⟩, h.2⟩⟩⟩⟩⟩⟩⟩⟩)

theorem v_Tree_layOn_22 (d : Nat) (aC nC : Nat) (p1 v4 v5 : Int) (z2 z3 : Option am_V) (σ : am_S) (K : am_S → Prop) (hC : CF σ) (hc : sR σ 18 0 = some (aC, 20, nC)) (h :
  (-2147483648 ≤ v4 + 12 ∧ v4 + 12 < 2147483648) ∧
  (((v4 + 12) ≤ v5 →
    (-2147483648 ≤ p1 + 1 ∧ p1 + 1 < 2147483648) ∧
    K (putI σ 18 1 (p1 + 1))) ∧
  (¬ ((v4 + 12) ≤ v5) →
    (0 ≤ v5 ∧ v5 < ((nC : Nat) : Int) ∧ -2147483648 ≤ v5 + 1 ∧ v5 + 1 < 2147483648) ∧
    am_Runs PP MLL d m_Tree_layOn 22 [some (qr (18, 8, 2)), some (qi p1), z2, z3, some (qi v4), some (qi (v5 + 1))] [] (putI σ aC (Int.toNat v5) (-1000)) (kV K)))) : am_Runs PP MLL d m_Tree_layOn 22 [some (qr (18, 8, 2)), some (qi p1), z2, z3, some (qi v4), some (qi v5)] [] σ (kV K) := am_wEF_ok (orc [(28, aC, 20, nC)]) 200 (⟨⟨h.1.1, h.1.2⟩, ⟨fun c2 => ⟨⟨(h.2.1 c2).1.1, (h.2.1 c2).1.2⟩, ⟨rfl, (h.2.1 c2).2⟩⟩, fun c2 => ⟨⟨rfl, hc⟩, ⟨⟨rfl, (h.2.2 c2).1.1, (h.2.2 c2).1.2.1⟩, ⟨⟨(h.2.2 c2).1.2.2.1, (h.2.2 c2).1.2.2.2⟩, (h.2.2 c2).2⟩⟩⟩⟩⟩)

theorem c_layOn (d : Nat) {own : Nat → Nat} {i : Nat} {lf rt : Int} {σ : am_S} {K : am_S → Prop} (hC : CF σ) (hT : TV σ own (i + 1)) (hi : i < 6000)
    (h : ∀ s, s.2 = σ.2 → (∀ x, ¬ pT (own x) → sI s x = sI σ x) → sI s 18 1 = i + 1 → (∀ j, (j < 12 * i ∨ 12 * i + 12 ≤ j ∨ (12 * i + 2 ≤ j ∧ j < 12 * i + 5)) → tcl s j = tcl σ j) → tcl s (12 * i) = lf → tcl s (12 * i + 1) = rt → (∀ j, 5 ≤ j → j < 12 → tcl s (12 * i + j) = -1000) → K s) : am_Calls PP MLL (d + 1) m_Tree_layOn [qr (18, 8, 2), qi (i : Int), qi lf, qi rt] σ (kV K) := by
  obtain ⟨⟨a, n, r18, oa, la, cap, nle⟩, o18, o20, o23, h87⟩ := hT
  have n18 : a ≠ 18 := own_ne oa o18 (by decide)
  have tc : ∀ s, s.2 = σ.2 → ∀ j, tcl s j = sI s a j := by
    intro s hs j
    unfold tcl
    rw [R2' hs 18 0, r18]
    rfl
  have fx : ∀ s, s.2 = σ.2 → CF s ∧ sR s 18 0 = some (a, 20, n) := by
    intro s hs
    have e : sR s = sR σ := by
      funext a j
      exact R2' hs a j
    unfold CF
    rw [e]
    exact ⟨hC, r18⟩
  refine v_Tree_layOn_0 d a n i lf rt σ K hC r18 ?_
  rw [show Int.toNat ((i : Int) * 12 + 0) = 12 * i by omega, show Int.toNat ((i : Int) * 12 + 1) = 12 * i + 1 by omega]
  refine ⟨by omega, ?_⟩
  have lp0 : ∀ j : Nat, j ≤ 12 → 5 ≤ j → ∀ s z2 z3, s.2 = σ.2 → (∀ x, x ≠ a → sI s x = sI σ x) → (∀ q, (q < 12 * i ∨ 12 * i + 12 ≤ q ∨ (12 * i + 2 ≤ q ∧ q < 12 * i + 5)) → sI s a q = sI σ a q) → sI s a (12 * i) = lf → sI s a (12 * i + 1) = rt → (∀ q, 5 ≤ q → q < j → sI s a (12 * i + q) = -1000) → am_Runs PP MLL d m_Tree_layOn 22 [some (qr (18, 8, 2)), some (qi (i : Int)), z2, z3, some (qi ((i : Int) * 12)), some (qi ((i : Int) * 12 + (j : Int)))] [] s (kV K) := by
    refine lp ?_ ?_
    · intro _ s z2 z3 s1 s2 s3 s4 s5 s6
      obtain ⟨f1, f2⟩ := fx s s1
      refine v_Tree_layOn_22 d a n i _ _ z2 z3 s K f1 f2 ⟨by omega, fun _ => ⟨by omega, ?_⟩, fun c => absurd (by omega) c⟩
      have e2 : (putI s 18 1 ((i : Int) + 1)).2 = σ.2 := s1
      refine h _ e2 (fun x hx => ?_) (by rw [put_at, if_pos rfl]) (fun q hq => ?_) ?_ ?_ (fun q q1 q2 => ?_)
      · have x18 : x ≠ 18 := fun e => hx (Or.inl (by rw [e]; exact o18))
        have xa : x ≠ a := fun e => hx (Or.inr (by rw [e]; exact oa))
        rw [put_ne x18, s2 x xa]
      · rw [tc _ e2, tc σ rfl, put_ne n18]
        exact s3 q hq
      · rw [tc _ e2, put_ne n18]
        exact s4
      · rw [tc _ e2, put_ne n18]
        exact s5
      · rw [tc _ e2, put_ne n18]
        exact s6 q q1 q2
    · intro j hj ih h5 s z2 z3 s1 s2 s3 s4 s5 s6
      obtain ⟨f1, f2⟩ := fx s s1
      refine v_Tree_layOn_22 d a n i _ _ z2 z3 s K f1 f2 ⟨by omega, fun c => absurd c (by omega), fun _ => ?_⟩
      rw [show Int.toNat ((i : Int) * 12 + (j : Int)) = 12 * i + j by omega, show (i : Int) * 12 + (j : Int) + 1 = (i : Int) * 12 + ((j + 1 : Nat) : Int) by omega]
      refine ⟨by omega, ih (by omega) _ _ _ s1 (fun x hx => by rw [put_ne hx]; exact s2 x hx) (fun q hq => by rw [put_at, if_neg (by omega)]; exact s3 q hq) (by rw [put_at, if_neg (by omega)]; exact s4) (by rw [put_at, if_neg (by omega)]; exact s5) (fun q q1 q2 => ?_)⟩
      rw [put_at]
      by_cases e : q = j
      · rw [if_pos (by omega)]
      · rw [if_neg (by omega)]
        exact s6 q q1 (by omega)
  refine lp0 5 (by omega) (by omega) _ _ _ rfl (fun x hx => by rw [put_ne hx, put_ne hx]) (fun q hq => by rw [put_at, if_neg (by omega), put_at, if_neg (by omega)]) (by rw [put_at, if_neg (by omega), put_at, if_pos rfl]) (by rw [put_at, if_pos rfl]) (fun q q1 q2 => by omega)
theorem v_Tree_add_0 (d : Nat) (p1 p2 p3 : Int) (σ : am_S) (K : Int → am_S → Prop) (hC : CF σ) (h :
  (-2147483648 ≤ (sI σ 18 1) * 12 ∧ (sI σ 18 1) * 12 < 2147483648 ∧ -2147483648 ≤ ((sI σ 18 1) * 12) + 12 ∧ ((sI σ 18 1) * 12) + 12 < 2147483648) ∧
  am_Calls PP MLL (d + 3) m_C_roomFor_AIIAI [qo (sR σ 18 0), qi (((sI σ 18 1) * 12) + 12)] σ (kO fun x1 s1 =>
    (CF s1) ∧
    (-2147483648 ≤ ((sI σ 18 1) * 12) + 2 ∧ ((sI σ 18 1) * 12) + 2 < 2147483648 ∧ (rg x1).2.1 = 20 ∧ 0 ≤ (((sI σ 18 1) * 12) + 2) ∧ (((sI σ 18 1) * 12) + 2) < (((rg x1).2.2 : Nat) : Int) ∧ -2147483648 ≤ ((sI σ 18 1) * 12) + 3 ∧ ((sI σ 18 1) * 12) + 3 < 2147483648 ∧ 0 ≤ (((sI σ 18 1) * 12) + 3) ∧ (((sI σ 18 1) * 12) + 3) < (((rg x1).2.2 : Nat) : Int) ∧ -2147483648 ≤ ((sI σ 18 1) * 12) + 4 ∧ ((sI σ 18 1) * 12) + 4 < 2147483648 ∧ 0 ≤ (((sI σ 18 1) * 12) + 4) ∧ (((sI σ 18 1) * 12) + 4) < (((rg x1).2.2 : Nat) : Int) ∧ -2147483648 ≤ (sI (putI (putI (putI (putR s1 18 0 x1) ((rg x1).1) (Int.toNat (((sI σ 18 1) * 12) + 2)) p1) ((rg x1).1) (Int.toNat (((sI σ 18 1) * 12) + 3)) p2) ((rg x1).1) (Int.toNat (((sI σ 18 1) * 12) + 4)) p3) 18 1) + 1 ∧ (sI (putI (putI (putI (putR s1 18 0 x1) ((rg x1).1) (Int.toNat (((sI σ 18 1) * 12) + 2)) p1) ((rg x1).1) (Int.toNat (((sI σ 18 1) * 12) + 3)) p2) ((rg x1).1) (Int.toNat (((sI σ 18 1) * 12) + 4)) p3) 18 1) + 1 < 2147483648 ∧ -2147483648 ≤ ((sI (putI (putI (putI (putR s1 18 0 x1) ((rg x1).1) (Int.toNat (((sI σ 18 1) * 12) + 2)) p1) ((rg x1).1) (Int.toNat (((sI σ 18 1) * 12) + 3)) p2) ((rg x1).1) (Int.toNat (((sI σ 18 1) * 12) + 4)) p3) 18 1) + 1) - 1 ∧ ((sI (putI (putI (putI (putR s1 18 0 x1) ((rg x1).1) (Int.toNat (((sI σ 18 1) * 12) + 2)) p1) ((rg x1).1) (Int.toNat (((sI σ 18 1) * 12) + 3)) p2) ((rg x1).1) (Int.toNat (((sI σ 18 1) * 12) + 4)) p3) 18 1) + 1) - 1 < 2147483648) ∧
    am_Calls PP MLL (d + 3) m_Tree_layOn [qr (18, 8, 2), qi (((sI (putI (putI (putI (putR s1 18 0 x1) ((rg x1).1) (Int.toNat (((sI σ 18 1) * 12) + 2)) p1) ((rg x1).1) (Int.toNat (((sI σ 18 1) * 12) + 3)) p2) ((rg x1).1) (Int.toNat (((sI σ 18 1) * 12) + 4)) p3) 18 1) + 1) - 1), qi 0, qi 0] (putI (putI (putI (putI (putR s1 18 0 x1) ((rg x1).1) (Int.toNat (((sI σ 18 1) * 12) + 2)) p1) ((rg x1).1) (Int.toNat (((sI σ 18 1) * 12) + 3)) p2) ((rg x1).1) (Int.toNat (((sI σ 18 1) * 12) + 4)) p3) 18 1 ((sI (putI (putI (putI (putR s1 18 0 x1) ((rg x1).1) (Int.toNat (((sI σ 18 1) * 12) + 2)) p1) ((rg x1).1) (Int.toNat (((sI σ 18 1) * 12) + 3)) p2) ((rg x1).1) (Int.toNat (((sI σ 18 1) * 12) + 4)) p3) 18 1) + 1)) (kV fun s2 =>
      (CF s2) ∧
      (-2147483648 ≤ (sI s2 18 1) - 1 ∧ (sI s2 18 1) - 1 < 2147483648) ∧
      K ((sI s2 18 1) - 1) s2))) : am_Runs PP MLL (d + 3) m_Tree_add 0 [some (qr (18, 8, 2)), some (qi p1), some (qi p2), some (qi p3), none] [] σ (kI K) := am_wEF_ok (orc []) 200 (⟨rfl, ⟨⟨h.1.1, h.1.2.1⟩, ⟨rfl, ⟨⟨h.1.2.2.1, h.1.2.2.2⟩, (am_cO h.2 fun x1 s1 h1 => ⟨rfl, ⟨rfl, ⟨⟨h1.2.1.1, h1.2.1.2.1⟩, ⟨⟨h1.2.1.2.2.1, h1.2.1.2.2.2.1, h1.2.1.2.2.2.2.1⟩, ⟨rfl, ⟨⟨h1.2.1.2.2.2.2.2.1, h1.2.1.2.2.2.2.2.2.1⟩, ⟨⟨h1.2.1.2.2.1, h1.2.1.2.2.2.2.2.2.2.1, h1.2.1.2.2.2.2.2.2.2.2.1⟩, ⟨rfl, ⟨⟨h1.2.1.2.2.2.2.2.2.2.2.2.1, h1.2.1.2.2.2.2.2.2.2.2.2.2.1⟩, ⟨⟨h1.2.1.2.2.1, h1.2.1.2.2.2.2.2.2.2.2.2.2.2.1, h1.2.1.2.2.2.2.2.2.2.2.2.2.2.2.1⟩, ⟨rfl, ⟨⟨h1.2.1.2.2.2.2.2.2.2.2.2.2.2.2.2.1, h1.2.1.2.2.2.2.2.2.2.2.2.2.2.2.2.2.1⟩, ⟨rfl, ⟨rfl, ⟨⟨h1.2.1.2.2.2.2.2.2.2.2.2.2.2.2.2.2.2.1, h1.2.1.2.2.2.2.2.2.2.2.2.2.2.2.2.2.2.2⟩, ⟨rfl, (am_cV h1.2.2 fun s2 h2 => ⟨rfl, ⟨⟨h2.2.1.1, h2.2.1.2⟩, h2.2.2⟩⟩)⟩⟩⟩⟩⟩⟩⟩⟩⟩⟩⟩⟩⟩⟩⟩⟩)⟩⟩⟩⟩)

theorem c_Tree_add (d : Nat) {own : Nat → Nat} {sz : Nat} {v st dp : Int} {σ : am_S} {K : Int → am_S → Prop} (hC : CF σ) (hT : TV σ own sz) (hs : sI σ 18 1 = sz) (hsz : sz < 6000)
    (h : ∀ s own', OFr σ s own own' pT → CF s → TV s own' (sz + 1) → sI s 18 1 = sz + 1 → (∀ j, j ≠ 0 → sR s 18 j = sR σ 18 j) → (∀ j, j < 12 * sz → tcl s j = tcl σ j) → tcl s (12 * sz) = 0 → tcl s (12 * sz + 1) = 0 → tcl s (12 * sz + 2) = v → tcl s (12 * sz + 3) = st → tcl s (12 * sz + 4) = dp → (∀ j, 5 ≤ j → j < 12 → tcl s (12 * sz + j) = -1000) → K (sz : Int) s) : am_Calls PP MLL (d + 4) m_Tree_add [qr (18, 8, 2), qi v, qi st, qi dp] σ (kI K) := by
  obtain ⟨⟨a, n, r18, oa, la, cap, nle⟩, o18, o20, o23, h87⟩ := hT
  refine v_Tree_add_0 d v st dp σ K hC ?_
  rw [hs, r18, show (sz : Int) * 12 + 12 = ((12 * sz + 12 : Nat) : Int) by omega]
  refine ⟨by omega, ?_⟩
  refine c_rmI d la (by omega) (by omega) ?_
  intro s1 a' n' m1
  obtain ⟨p1, lt1, le1, N1, U1, M1⟩ := RM_a la m1
  have F1 := m1.1.1
  have mx1 := m1.2.2.1
  have tn := m1.2.1
  have c1 : CF s1 := CF_fr hC (fun x j hx _ _ _ _ _ _ _ _ => (F1 x (by omega)).2 j)
  obtain ⟨own', hw⟩ : ∃ own' : Nat → Nat, own' = fun x => if x = a' then 19 else own x := ⟨_, rfl⟩
  have old : ∀ x, x < sN σ → own' x = own x := by
    rw [hw]
    exact own_upd oa p1
  have oa' : own' a' = 19 := by rw [hw]; exact if_pos rfl
  have n18 : a' ≠ 18 := by
    rcases p1 with e | e
    · rw [e]; exact own_ne oa o18 (by decide)
    · omega
  have e12 : Int.toNat ((sz : Int) * 12 + 2) = 12 * sz + 2 := by omega
  have e13 : Int.toNat ((sz : Int) * 12 + 3) = 12 * sz + 3 := by omega
  have e14 : Int.toNat ((sz : Int) * 12 + 4) = 12 * sz + 4 := by omega
  rw [e12, e13, e14]
  show (CF s1) ∧ _
  refine ⟨c1, ?_⟩
  obtain ⟨B, hB⟩ : ∃ B, B = putI (putI (putI (putR s1 18 0 (some (a', 20, n'))) a' (12 * sz + 2) v) a' (12 * sz + 3) st) a' (12 * sz + 4) dp := ⟨_, rfl⟩
  have b18 : sI B 18 1 = sz := by
    rw [hB, put_ne n18.symm, put_ne n18.symm, put_ne n18.symm]
    show sI s1 18 1 = _
    rw [(F1 18 (by omega)).1]
    exact hs
  simp only [rg_some]
  rw [← hB, b18, show (sz : Int) + 1 - 1 = (sz : Int) by omega]
  refine ⟨⟨by omega, by omega, trivial, by omega, by omega, by omega, by omega, by omega, by omega, by omega, by omega, by omega, by omega, by omega, by omega, by omega, by omega⟩, ?_⟩
  -- the store ahead of layOn
  obtain ⟨D, hD⟩ : ∃ D, D = putI B 18 1 ((sz : Int) + 1) := ⟨_, rfl⟩
  rw [← hD]
  have RD : ∀ x j, ¬ (x = 18 ∧ j = 0) → sR D x j = sR s1 x j := by
    intro x j q
    rw [hD, hB]
    show sR (putR s1 18 0 _) x j = _
    rw [sR_putR, if_neg q]
  have RD0 : sR D 18 0 = some (a', 20, n') := by
    rw [hD, hB]
    show sR (putR s1 18 0 _) 18 0 = _
    rw [sR_putR, if_pos ⟨rfl, rfl⟩]
  have ND : sN D = sN s1 := by rw [hD, hB]; rfl
  have UD : sU D = sU s1 := by rw [hD, hB]; rfl
  have ID : ∀ x, x ≠ 18 → x ≠ a' → sI D x = sI s1 x := by
    intro x x1 x2
    rw [hD, put_ne x1, hB, put_ne x2, put_ne x2, put_ne x2]
    rfl
  have IDa : ∀ j, sI D a' j = if j = 12 * sz + 4 then dp else if j = 12 * sz + 3 then st else if j = 12 * sz + 2 then v else sI s1 a' j := by
    intro j
    rw [hD, put_ne n18, hB, put_at, put_at, put_at]
    rfl
  have CD : CF D := CF_fr c1 (fun x j _ _ _ _ _ _ q18 _ _ => RD x j (fun w => q18 w.1))
  have o18' : own' 18 = 18 := (old 18 (by omega)).trans o18
  have o20' : own' 20 = 20 := (old 20 (by omega)).trans o20
  have o23' : own' 23 = 23 := (old 23 (by omega)).trans o23
  have TD : TV D own' (sz + 1) := ⟨⟨a', n', RD0, oa', by omega, by omega, by omega⟩, o18', o20', o23', by omega⟩
  have fr : ∀ x, x < sN σ → ¬ pT (own x) → x ≠ 18 ∧ x ≠ a' := by
    intro x hx hp
    refine ⟨fun e => hp (Or.inl (by rw [e]; exact o18)), fun e => hp (Or.inr ?_)⟩
    rw [← old x hx, e, oa']
  have t0 : ∀ j, tcl σ j = sI σ a j := by
    intro j
    unfold tcl
    rw [r18]
    rfl
  have tD : ∀ j, tcl D j = sI D a' j := by
    intro j
    unfold tcl
    rw [RD0]
    rfl
  refine c_layOn (d + 2) (i := sz) CD TD hsz ?_
  intro s s2 s3 s4 s5 s6 s7 s8
  have Rs := R2' s2
  have Ns : sN s = sN D := by unfold sN; rw [s2]
  have Us : sU s = sU D := by unfold sU; rw [s2]
  have CFs : CF s := by
    have e : sR s = sR D := by
      funext a j
      exact Rs a j
    unfold CF
    rw [e]
    exact CD
  have zs : zl s + n = zl σ + n' := by
    have e20 : ∀ j, sR s 20 j = sR σ 20 j := fun j => by rw [Rs, RD 20 j (by omega), (F1 20 (by omega)).2]
    have e23 : ∀ j, sR s 23 j = sR σ 23 j := fun j => by rw [Rs, RD 23 j (by omega), (F1 23 (by omega)).2]
    unfold zl
    rw [Rs 18 0, RD0, r18, e20, e20, e23, e23]
    simp only [rg_some]
    omega
  rw [s4, show (sz : Int) + 1 - 1 = (sz : Int) by omega]
  refine ⟨CFs, by omega, h s own' ⟨fun x hx hp => ?_, old, by omega, by omega, by omega⟩ CFs ⟨⟨a', n', by rw [Rs, RD0], oa', by omega, by omega, by omega⟩, o18', o20', o23', by omega⟩ s4 (fun j hj => ?_) (fun j hj => ?_) s6 s7 ?_ ?_ ?_ s8⟩
  · obtain ⟨w1, w2⟩ := fr x hx hp
    have np : ¬ pT (own' x) := by rw [old x hx]; exact hp
    refine ⟨by rw [s3 x np, ID x w1 w2, (F1 x hx).1], fun j => by rw [Rs, RD x j (fun e => w1 e.1), (F1 x hx).2]⟩
  · rw [Rs, RD 18 j (by omega), (F1 18 (by omega)).2]
  · rw [s5 j (by omega), tD, IDa, if_neg (by omega), if_neg (by omega), if_neg (by omega), t0]
    exact m1.2.2.2.1 j (by omega)
  · rw [s5 _ (by omega), tD, IDa, if_neg (by omega), if_neg (by omega), if_pos rfl]
  · rw [s5 _ (by omega), tD, IDa, if_neg (by omega), if_pos rfl]
  · rw [s5 _ (by omega), tD, IDa, if_pos rfl]
theorem v_Tree_link_0 (d : Nat) (aC nC : Nat) (p1 p2 p3 : Int) (σ : am_S) (K : am_S → Prop) (hC : CF σ) (hc : sR σ 18 0 = some (aC, 20, nC)) (h :
  (-2147483648 ≤ p1 * 12 ∧ p1 * 12 < 2147483648 ∧ -2147483648 ≤ (p1 * 12) + 5 ∧ (p1 * 12) + 5 < 2147483648 ∧ -2147483648 ≤ ((p1 * 12) + 5) + 3 ∧ ((p1 * 12) + 5) + 3 < 2147483648 ∧ -2147483648 ≤ (((p1 * 12) + 5) + 3) + p2 ∧ (((p1 * 12) + 5) + 3) + p2 < 2147483648 ∧ 0 ≤ ((((p1 * 12) + 5) + 3) + p2) ∧ ((((p1 * 12) + 5) + 3) + p2) < ((nC : Nat) : Int)) ∧
  K (putI σ aC (Int.toNat ((((p1 * 12) + 5) + 3) + p2)) p3)) : am_Runs PP MLL d m_Tree_link 0 [some (qr (18, 8, 2)), some (qi p1), some (qi p2), some (qi p3)] [] σ (kV K) := am_wEF_ok (orc [(1, aC, 20, nC)]) 200 (⟨⟨rfl, hc⟩, ⟨⟨h.1.1, h.1.2.1⟩, ⟨⟨h.1.2.2.1, h.1.2.2.2.1⟩, ⟨⟨h.1.2.2.2.2.1, h.1.2.2.2.2.2.1⟩, ⟨⟨h.1.2.2.2.2.2.2.1, h.1.2.2.2.2.2.2.2.1⟩, ⟨⟨rfl, h.1.2.2.2.2.2.2.2.2.1, h.1.2.2.2.2.2.2.2.2.2⟩, h.2⟩⟩⟩⟩⟩⟩)

theorem c_link (d : Nat) {own : Nat → Nat} {i : Nat} {o nx : Int} {σ : am_S} {K : am_S → Prop} (hC : CF σ) (hT : TV σ own (i + 1)) (hi : i < 6000) (ho : -3 ≤ o ∧ o ≤ 3)
    (h : ∀ s, s.2 = σ.2 → (∀ x, own x ≠ 19 → sI s x = sI σ x) → (∀ j, j ≠ (12 * (i : Int) + 8 + o).toNat → tcl s j = tcl σ j) → tcl s (12 * (i : Int) + 8 + o).toNat = nx → K s) : am_Calls PP MLL (d + 1) m_Tree_link [qr (18, 8, 2), qi (i : Int), qi o, qi nx] σ (kV K) := by
  obtain ⟨⟨a, n, r18, oa, la, cap, nle⟩, o18, o20, o23, h87⟩ := hT
  have tc : ∀ s, s.2 = σ.2 → ∀ j, tcl s j = sI s a j := by
    intro s hs j
    unfold tcl
    rw [R2' hs 18 0, r18]
    rfl
  refine v_Tree_link_0 d a n i o nx σ K hC r18 ?_
  rw [show (i : Int) * 12 + 5 + 3 + o = 12 * (i : Int) + 8 + o by omega]
  refine ⟨by omega, h _ rfl (fun x hx => ?_) (fun j hj => ?_) ?_⟩
  · rw [put_ne (fun e => hx (by rw [e]; exact oa))]
  · rw [tc (putI σ a (12 * (i : Int) + 8 + o).toNat nx) rfl, tc σ rfl, put_at, if_neg hj]
  · rw [tc (putI σ a (12 * (i : Int) + 8 + o).toNat nx) rfl, put_at, if_pos rfl]
