/-! the class: a STEP that asks -/
/-- the question has its node -/
def PA (σ : am_S) (own : Nat → Nat) (aQ k0 : Nat) (tr : Nat → Nat) (X : sX) (c0 : Nat → Int) (n0 l : Nat) (js : Nat → Nat) (os : Nat → Int) (st g w : Nat) : Prop := CB σ own aQ k0 tr X c0 n0 st ∧ GL X c0 k0 n0 js os l ∧ sI σ 12 11 = l ∧ sI σ 12 12 = 1 ∧ (∀ i, i < l → LQ σ aQ X c0 k0 n0 js os i ∧ LT σ aQ X c0 k0 n0 js os i ∧ js i < st) ∧ QB σ (qA aQ l) X (csq X c0 k0 js os l) ∧ sI σ (qA aQ l) 7 = ndq X c0 k0 n0 js os l ∧ sI σ (qA aQ l) 8 = (grq X c0 k0 n0 js os l).length ∧ RW σ own g w (grq X c0 k0 n0 js os l) (wh X c0 k0 n0) ∧ ((grq X c0 k0 n0 js os l).length < st ∧ (wh X c0 k0 n0).length ≤ st) ∧ TL X tr (tcl σ) c0 k0 n0 js os l ∧ (mn X (csq X c0 k0 js os l) < 2 → LF X tr (tcl σ) (csq X c0 k0 js os l) l (ndq X c0 k0 n0 js os l)) ∧ (¬ mn X (csq X c0 k0 js os l) < 2 → NH X (tcl σ) (csq X c0 k0 js os l) l (ndq X c0 k0 n0 js os l)) ∧ TV σ own (ndq X c0 k0 n0 js os l + 1) ∧ sI σ 18 1 = (ndq X c0 k0 n0 js os l + 1 : Nat)
/-- asking, the row's number written down -/
def PB (σ : am_S) (own : Nat → Nat) (aQ k0 : Nat) (tr : Nat → Nat) (X : sX) (c0 : Nat → Int) (n0 l : Nat) (js : Nat → Nat) (os : Nat → Int) (st g w : Nat) : Prop := CB σ own aQ k0 tr X c0 n0 st ∧ GL X c0 k0 n0 js os l ∧ sI σ 12 11 = l ∧ sI σ 12 12 = 1 ∧ (∀ i, i < l → LQ σ aQ X c0 k0 n0 js os i ∧ LT σ aQ X c0 k0 n0 js os i ∧ js i < st) ∧ QB σ (qA aQ l) X (csq X c0 k0 js os l) ∧ sI σ (qA aQ l) 8 = (grq X c0 k0 n0 js os l).length ∧ RW σ own g w (grq X c0 k0 n0 js os l) (wh X c0 k0 n0) ∧ ((grq X c0 k0 n0 js os l).length < st ∧ (wh X c0 k0 n0).length ≤ st) ∧ T0' X tr (tcl σ) c0 k0 n0 js os l ∧ TV σ own (ndq X c0 k0 n0 js os l) ∧ sI σ 18 1 = ndq X c0 k0 n0 js os l
theorem RW_fr {σ s : am_S} {own own' : Nat → Nat} {p : Nat → Prop} {g w : Nat} {G W : List (Int × Int)} (h : OFr σ s own own' p) (hp : ∀ r, 20 ≤ r → r ≤ 25 → ¬ p r) (h12 : ∀ j, sR s 12 j = sR σ 12 j) (hR : RW σ own g w G W) : RW s own' g w G W := by
  obtain ⟨y1, y2, y3, y4, y5, y6, y7⟩ := hR
  exact ⟨y1, by rw [h12]; exact y2, by rw [h12]; exact y3, RV_fr h (by omega) (hp g (by omega) (by omega)) y4, RL_fr h (by omega) ⟨hp g (by omega) (by omega), hp _ (by omega) (by omega), hp _ (by omega) (by omega)⟩ y4 y5, RV_fr h (by omega) (hp w (by omega) (by omega)) y6, RL_fr h (by omega) ⟨hp w (by omega) (by omega), hp _ (by omega) (by omega), hp _ (by omega) (by omega)⟩ y6 y7⟩
theorem e_askNode (d : Nat) {own : Nat → Nat} {aQ k0 n0 l st g w : Nat} {tr : Nat → Nat} {X : sX} {c0 : Nat → Int} {js : Nat → Nat} {os : Nat → Int} {σ : am_S} {K : am_S → Prop} (hl : l < 7) (hP : PB σ own aQ k0 tr X c0 n0 l js os st g w) (hm : ¬ mn X (csq X c0 k0 js os l) ≤ 0)
    (h : ∀ t own', OFr σ t own own' p0 → PA t own' aQ k0 tr X c0 n0 l js os st g w → K t) : am_Calls PP MLL (d + 5) m_Search_addNode [qr (12, 5, 18), qr (qA aQ l, 3, 10)] σ (kV K) := by
  obtain ⟨⟨hE, hn, hst, hf, hcn⟩, hG, h11, h12, hLv, hQ, q8, hR, hlen, hT0, hTV, h18⟩ := hP
  have h87 := SE_87 hE
  have ho := hE.1.2.2.2.2
  have sNq := hE.1.2.2.1
  have sN87 := hE.1.2.2.2.1
  have hX := hE.2.1.1
  have cv := hE.2.1.2.1.1
  have n6 := ndq_6 hX cv hn hG
  obtain ⟨nd, end'⟩ : ∃ nd, nd = ndq X c0 k0 n0 js os (l - 1) := ⟨_, rfl⟩
  obtain ⟨o, eo⟩ : ∃ o, o = os (l - 1) := ⟨_, rfl⟩
  refine e_addNode d (nd := nd) (o := o) hE hl hTV h18 h11 (by omega) hQ (csq_CV hX cv l) hm (fun l' e => ?_) ?_
  · have e2 : l - 1 = l' := by omega
    rw [end', eo, e2]
    obtain ⟨y1, y2, _⟩ := hLv l' (by omega)
    have g5 := (hG l' (by omega)).2.2.2.2.1
    have lt := ndq_lt (X := X) (c0 := c0) (k0 := k0) (n0 := n0) (js := js) (os := os) (i := l')
    rw [← e] at lt
    have hmo := oc_37 X (k0 + l')
    exact ⟨y1.2.2.2.2.1, y2.2.1, by omega, by omega⟩
  · intro t own' f1 f2 f3 f4 f5 f6 f7 f8 f9 f10
    have g1 := f1.1
    have e12 := g1 12 (by omega) (by rw [h87 12 (by decide)]; unfold pN; omega)
    have lk : ∀ l', l = l' + 1 → (12 * (nd : Int) + 8 + o).toNat = cl X (k0 + l') (ndq X c0 k0 n0 js os l') (oi X (k0 + l') (os l')) := by
      intro l' e
      have e2 : l - 1 = l' := by omega
      rw [end', eo, e2]
      exact cl_is (hG l' (by omega)).2.2.2.2.1
    have q1 := (g1 (qA aQ l + 1) (by unfold qA; omega) (by rw [ho l hl 1 (by decide)]; unfold pN; omega)).1
    refine h t own' ⟨fun x hx hp => g1 x hx (fun z => hp (by unfold p0; unfold pN at z; omega)), f1.2⟩ ⟨⟨f2, hn, hst, by rw [e12.1]; exact hf, hcn⟩, hG, by rw [e12.1]; exact h11, by rw [e12.1]; exact h12, fun i hi => ?_, ⟨by rw [f5 3 (by decide)]; exact hQ.1, by rw [f5 4 (by decide)]; exact hQ.2.1, fun p hp => by rw [q1]; exact hQ.2.2 p hp⟩, f6, by rw [f5 8 (by decide)]; exact q8, RW_fr f1 (fun r a b => by unfold pN; omega) e12.2 hR, hlen, T0_1 hG hm hT0 (fun j a b => f7 j a (fun l' e => by rw [lk l' e]; exact b l' e)) (fun l' e => by rw [← lk l' e]; exact f8 l' e), f9, f10, f3, by rw [f4]; rfl⟩
    obtain ⟨y1, y2, y3⟩ := hLv i hi
    obtain ⟨z1, z2⟩ := LQ_fr (σ := σ) (s := t) (aQ := aQ) (X := X) (c0 := c0) (k0 := k0) (n0 := n0) (js := js) (os := os) (i := i) (fun k hk => (g1 _ (by unfold qA; omega) (by rw [ho i (by omega) k hk]; unfold pN; omega)).1)
    exact ⟨z1 y1, z2 y2, y3⟩
theorem c_ansN (d : Nat) {own : Nat → Nat} {aQ k0 n0 l st : Nat} {tr : Nat → Nat} {X : sX} {c0 : Nat → Int} {js : Nat → Nat} {os : Nat → Int} {σ : am_S} {K : am_S → Prop} (hl : l < 7) (hK : KN σ own aQ k0 tr X c0 n0 l js os st) (h : ∀ s own', OFr σ s own own' p0 → CS s own' aQ k0 tr X c0 (upN X c0 k0 n0 js os l) st → K s) : am_Calls PP MLL (d + 5) m_Search_answer [qr (12, 5, 18), qi 0] σ (kV K) := by
  have hE := hK.1.1
  obtain ⟨g, w, hgw, r4, _⟩ := hK.2.2.2.2.2.1
  refine v_Search_answer_0 d aQ g _ σ K (SE_CF hE) hE.1.1 r4 ?_
  rw [hK.2.2.2.1]
  exact e_no d l _ hl hK h
theorem c_ansY (d : Nat) {own : Nat → Nat} {aQ k0 n0 l st : Nat} {tr : Nat → Nat} {X : sX} {c0 : Nat → Int} {js : Nat → Nat} {os : Nat → Int} {σ : am_S} {K : am_S → Prop} (hl : l < 7) (hK : KY σ own aQ k0 tr X c0 n0 l js os st) (h : ∀ s own', OFr σ s own own' p0 → CS s own' aQ k0 tr X c0 (upY X k0 n0 js os l) st → K s) : am_Calls PP MLL (d + 5) m_Search_answer [qr (12, 5, 18), qi 1] σ (kV K) := by
  have hE := hK.1.1
  obtain ⟨g, w, M, hgw, r4, _⟩ := hK.2.2.2.2.2.2.2.1
  refine v_Search_answer_0 d aQ g _ σ K (SE_CF hE) hE.1.1 r4 ?_
  rw [hK.2.2.2.1]
  exact e_yes d l _ hl hK h
theorem PA_Y {σ : am_S} {own : Nat → Nat} {aQ k0 n0 l st g w : Nat} {tr : Nat → Nat} {X : sX} {c0 : Nat → Int} {js : Nat → Nat} {os : Nat → Int} (h : PA σ own aQ k0 tr X c0 n0 l js os st g w) (hm : ¬ mn X (csq X c0 k0 js os l) ≤ 0) (h2 : mn X (csq X c0 k0 js os l) < 2) : KY σ own aQ k0 tr X c0 n0 l js os st := by
  obtain ⟨hC, hG, h11, h12, hLv, hQ, q7, q8, hR, hlen, hTL, hLF, hNH, hTV, h18⟩ := h
  have ts := tsz_1 (n := n0 - l) (k := k0 + l) hm h2
  refine ⟨hC, hG, can_2 h2, h11, h12, fun i hi => ⟨(hLv i hi).1, (hLv i hi).2.1, by have := (hLv i hi).2.2; omega⟩, q8, ⟨g, w, [], by rw [List.append_nil]; exact hR⟩, ⟨by omega, hlen.2⟩, hTL, Or.inr ?_, by rw [ts]; exact hTV, by rw [ts]; exact h18⟩
  cases hh : n0 - l with
  | zero => exact hLF h2
  | succ n => exact Or.inl ⟨h2, hLF h2⟩
theorem PA_N {σ : am_S} {own : Nat → Nat} {aQ k0 n0 l st g w : Nat} {tr : Nat → Nat} {X : sX} {c0 : Nat → Int} {js : Nat → Nat} {os : Nat → Int} {R : List (Int × Int)} {s : am_S} {own' : Nat → Nat} (h : PA σ own aQ k0 tr X c0 n0 l js os st g w) (hs : SE s own' aQ k0 tr X c0) (hO : OFr σ s own own' (fun r => (20 ≤ r ∧ r ≤ 25) ∨ 2000 + 9 * l ≤ r)) (h12 : ∀ j, sR s 12 j = sR σ 12 j) (hR : RW s own' g w (grq X c0 k0 n0 js os l ++ R) (wh X c0 k0 n0)) (hr : rws X (n0 - l) (csq X c0 k0 js os l) (k0 + l) = R) (hl : (grq X c0 k0 n0 js os l ++ R).length ≤ st) (hc : ¬ can X (n0 - l) (csq X c0 k0 js os l) (k0 + l)) (hl7 : l < 7) : KN s own' aQ k0 tr X c0 n0 l js os st := by
  obtain ⟨⟨hE, hn, hst, hf, hcn⟩, hG, h11, _, hLv, hQ, q7, q8, _, hlen, hTL, hLF, hNH, hTV, h18⟩ := h
  have h87 := SE_87 hE
  have ho := hE.1.2.2.2.2
  have sNq := hE.1.2.2.1
  have sN87 := hE.1.2.2.2.1
  have e12 := (hO.1 12 (by omega) (by rw [h87 12 (by decide)]; omega)).1
  have et := tcl_fr hO (by omega) hTV
  have tv := TV_fr hO (by omega) hTV
  refine ⟨⟨hs, hn, hst, by rw [e12]; exact hf, hcn⟩, hG, hc, by rw [e12]; exact h11, fun i hi => ?_, ⟨g, w, by rw [hr]; exact hR⟩, ⟨by rw [hr]; exact hl, hlen.2⟩, fun i hi => by rw [et]; exact hTL i (by omega), fun l' e => ⟨by rw [et]; exact (hTL l' (by omega)).1, ?_⟩, TV_le tv (Nat.zero_le _)⟩
  · obtain ⟨y1, y2, y3⟩ := hLv i hi
    obtain ⟨z1, z2⟩ := LQ_fr (σ := σ) (s := s) (aQ := aQ) (X := X) (c0 := c0) (k0 := k0) (n0 := n0) (js := js) (os := os) (i := i) (fun k hk => (hO.1 _ (by unfold qA; omega) (by rw [ho i (by omega) k hk]; omega)).1)
    exact ⟨z1 y1, z2 y2, y3⟩
  · have lt := ndq_lt (X := X) (c0 := c0) (k0 := k0) (n0 := n0) (js := js) (os := os) (i := l')
    rw [← e] at lt
    exact TV_le tv (by omega)
