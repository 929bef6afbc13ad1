/-! the class: rows hold; questions are made -/
theorem v_Search_rowsHold_0 (d : Nat) (aQ w : Nat) (σ : am_S) (K : Int → am_S → Prop) (hC : CF σ) (hQ : QA σ aQ) (hw : sR σ 12 5 = some (w, 4, 3)) (h :
  am_Calls PP MLL (d + 6) m_Question_takeAll [qr (qA aQ 0, 3, 10), qr (13, 6, 5)] (putI σ 12 14 0) (kV fun s1 =>
    (-2147483648 ≤ (sI s1 12 16) - 1 ∧ (sI s1 12 16) - 1 < 2147483648) ∧
    am_Calls PP MLL (d + 6) m_Search_caseHolds [qr (12, 5, 18), qi 0, qi ((sI s1 12 16) - 1)] s1 (kI fun x2 s2 =>
      (CF s2 ∧ QA s2 aQ ∧ sR s2 12 5 = some (w, 4, 3)) ∧
      ((if x2 = 0 then (0 : Int) else (if (sI s2 12 14) = (sI s2 w 2) then (1 : Int) else 0)) = 0 ∨ (if x2 = 0 then (0 : Int) else (if (sI s2 12 14) = (sI s2 w 2) then (1 : Int) else 0)) = 1) ∧
      K (if x2 = 0 then (0 : Int) else (if (sI s2 12 14) = (sI s2 w 2) then (1 : Int) else 0)) s2))) : am_Runs PP MLL (d + 6) m_Search_rowsHold 0 [some (qr (12, 5, 18))] [] σ (kI K) := am_wEC_ok (orc [(4, aQ, 23, 7), (6, qA aQ 0, 3, 10), (8, 13, 6, 5), (21, w, 4, 3)]) [27] 200 (⟨rfl, ⟨⟨rfl, hQ.1⟩, ⟨⟨rfl, (by decide : (0 : Int) ≤ 0), (by decide : (0 : Int) < 7), (hQ.2 0 (by decide)).1⟩, ⟨⟨rfl, (hC 12 1 _ rfl)⟩, ⟨rfl, (am_cV h fun s1 h1 => ⟨rfl, ⟨⟨h1.1.1, h1.1.2⟩, ⟨rfl, (am_cI h1.2 fun x2 s2 h2 => am_use (fun H5 => ⟨fun c3 => (Eq.mp (congrArg (fun z => am_Runs _ _ _ _ _ _ (qi z :: _) _ _) (if_pos c3 : (if x2 = 0 then (0 : Int) else if (sI s2 12 14) = (sI s2 w 2) then (1 : Int) else 0) = 0)) H5), fun c3 => ⟨rfl, ⟨⟨rfl, h2.1.2.2⟩, ⟨rfl, ⟨fun c4 => (Eq.mp (congrArg (fun z => am_Runs _ _ _ _ _ _ (qi z :: _) _ _) (Eq.trans (if_neg c3 : (if x2 = 0 then (0 : Int) else if (sI s2 12 14) = (sI s2 w 2) then (1 : Int) else 0) = if (sI s2 12 14) = (sI s2 w 2) then (1 : Int) else 0) (if_pos c4 : (if (sI s2 12 14) = (sI s2 w 2) then (1 : Int) else 0) = 1))) H5), fun c4 => (Eq.mp (congrArg (fun z => am_Runs _ _ _ _ _ _ (qi z :: _) _ _) (Eq.trans (if_neg c3 : (if x2 = 0 then (0 : Int) else if (sI s2 12 14) = (sI s2 w 2) then (1 : Int) else 0) = if (sI s2 12 14) = (sI s2 w 2) then (1 : Int) else 0) (if_neg c4 : (if (sI s2 12 14) = (sI s2 w 2) then (1 : Int) else 0) = 0))) H5)⟩⟩⟩⟩⟩) (am_wEC_ok (orc []) [27] 200 (⟨h2.2.1, h2.2.2⟩)))⟩⟩⟩)⟩⟩⟩⟩⟩)

theorem e_rowsHold (d : Nat) {own : Nat → Nat} {aQ k0 w w0 m0 w1 m1 m n0 : Nat} {tr : Nat → Nat} {X : sX} {c0 r1 r2 : Nat → Int} {σ : am_S} {K : Int → am_S → Prop} (hE : SE σ own aQ k0 tr X c0) (hS : chS own w w0 w1) (hR : chR σ w w0 m0 w1 m1 m r1 r2) (h16 : sI σ 12 16 = n0) (hn : 1 ≤ n0 ∧ n0 ≤ 6) (h : ∀ s, CHf σ s aQ 0 → K (if ck X r1 r2 m (n0 - 1) c0 k0 0 = some m then 1 else 0) s) : am_Calls PP MLL (d + 12) m_Search_rowsHold [qr (12, 5, 18)] σ (kI K) := by
  have hX := hE.2.1.1
  refine v_Search_rowsHold_0 (d + 5) aQ w σ K (SE_CF hE) hE.1.1 hR.1 ?_
  obtain ⟨Z, eZ⟩ : ∃ Z, Z = putI σ 12 14 0 := ⟨_, rfl⟩
  rw [← eZ]
  have fZ : CHf σ Z aQ 0 := ⟨by rw [eZ]; rfl, fun x x1 _ => by rw [eZ, put_ne x1], fun j hj => by rw [eZ, put_at, if_neg hj]⟩
  have EZ := CHf_SE hE fZ
  have n15 : 15 ≠ qA aQ 0 := qA_w hE (i := 0) (by decide) (k := 0) (by decide) (by rw [SE_87 hE 15 (by decide)]; decide)
  refine c_takeAll (d + 10) (SE_CF EZ) (EZ.1.1.2 0 (by decide)).2.1 EZ.2.2.1.2.2.2.2.1 hX.2.1 n15 (fun s s1 s2 s3 s4 s5 s6 => ?_)
  have q0 : qA aQ 0 ≠ 12 := qA_12 hE (i := 0) (by decide) (k := 0) (by decide)
  have q1 := qA_12 hE (i := 0) (by decide) (k := 1) (by decide)
  have s12 : sI s 12 = sI Z 12 := s2 12 q0.symm q1.symm
  have fs : CHf σ s aQ 0 := CHf_tr fZ ⟨s1, fun x x1 x2 => s2 x (x2 0 0 (Nat.le_refl _) (by decide) (by decide)) (x2 0 1 (Nat.le_refl _) (by decide) (by decide)), fun j _ => by rw [s12]⟩
  have Es := CHf_SE hE fs
  have Rs := chR_fr hE hS fs hR
  have e16 : sI s 12 16 = n0 := by rw [s12, eZ, put_at, if_neg (by decide)]; exact h16
  have e14 : sI s 12 14 = ((0 : Nat) : Int) := by rw [s12, eZ, put_at, if_pos rfl]; rfl
  have hQ : QB s (qA aQ 0) X c0 := ⟨s4, by rw [s5]; exact hE.2.1.2.1.2.symm, fun p hp => by rw [s6 p hp]; exact EZ.2.2.1.2.2.2.2.2 p hp⟩
  rw [e16, show (n0 : Int) - 1 = ((n0 - 1 : Nat) : Int) by omega]
  refine ⟨by omega, ?_⟩
  have go := h_case (d + 5 - (n0 - 1)) hS (n0 - 1) c0 0 0 (K := fun x2 s2 => (CF s2 ∧ QA s2 aQ ∧ sR s2 12 5 = some (w, 4, 3)) ∧ ((if x2 = 0 then (0 : Int) else (if (sI s2 12 14) = (sI s2 w 2) then (1 : Int) else 0)) = 0 ∨ (if x2 = 0 then (0 : Int) else (if (sI s2 12 14) = (sI s2 w 2) then (1 : Int) else 0)) = 1) ∧ K (if x2 = 0 then (0 : Int) else (if (sI s2 12 14) = (sI s2 w 2) then (1 : Int) else 0)) s2) Es Rs (by omega) hE.2.1.2.1.1 hQ e14 (Nat.zero_le _) (fun t a' ea _ ha ft t14 => ?_) (fun ea t ft => ?_)
  · rw [show d + 5 - (n0 - 1) + (n0 - 1) + 6 = d + 5 + 6 by omega] at go
    exact go
  · have fst := CHf_tr fs ft
    have Rt := chR_fr hE hS fst hR
    rw [Nat.add_zero] at ea
    have hh := h t fst
    rw [ea] at hh
    refine ⟨⟨SE_CF (CHf_SE hE fst), (CHf_SE hE fst).1.1, Rt.1⟩, by (repeat' split) <;> omega, ?_⟩
    rw [if_neg (by decide), t14, Rt.2.2.2.2.2.2.1]
    by_cases e : a' = m
    · rw [if_pos (by rw [e])] at hh
      rw [if_pos (by rw [e])]
      exact hh
    · rw [if_neg (fun q => e (Option.some.inj q))] at hh
      rw [if_neg (by omega)]
      exact hh
  · have fst := CHf_tr fs ft
    have Rt := chR_fr hE hS fst hR
    rw [Nat.add_zero] at ea
    have hh := h t fst
    rw [ea, if_neg (fun q => by cases q)] at hh
    refine ⟨⟨SE_CF (CHf_SE hE fst), (CHf_SE hE fst).1.1, Rt.1⟩, by (repeat' split) <;> omega, ?_⟩
    rw [if_pos rfl]
    exact hh
/-- a new row, laid into a field -/
def st1 (σ : am_S) (a i l : Nat) : am_S := putR (newC σ 20 l) a i (some (sN σ, 20, l))
theorem st1_R {σ : am_S} {a i l x j : Nat} : sR (st1 σ a i l) x j = if x = a ∧ j = i then some (sN σ, 20, l) else if x = sN σ then none else sR σ x j := rfl
theorem st1_I {σ : am_S} {a i l x j : Nat} : sI (st1 σ a i l) x j = if x = sN σ then 0 else sI σ x j := rfl
theorem st1_N {σ : am_S} {a i l : Nat} : sN (st1 σ a i l) = sN σ + 1 := rfl
theorem st1_U {σ : am_S} {a i l : Nat} : sU (st1 σ a i l) = sU σ + l := rfl
/-- a store that has grown, an object's fields set -/
def Ext (σ s : am_S) (p : Nat) : Prop := (∀ x, x < sN σ → sI s x = sI σ x) ∧ (∀ x, x < sN σ → x ≠ p → ∀ j, sR s x j = sR σ x j) ∧ sN σ ≤ sN s
theorem Ext_tr {σ s t : am_S} {p q : Nat} (h : Ext σ s p) (h2 : Ext s t q) (hq : q = p ∨ sN σ ≤ q) : Ext σ t p := ⟨fun x hx => (h2.1 x (by have := h.2.2; omega)).trans (h.1 x hx), fun x hx hp j => (h2.2.1 x (by have := h.2.2; omega) (by rcases hq with e | e; rw [e]; exact hp; omega) j).trans (h.2.1 x hx hp j), by have := h.2.2; have := h2.2.2; omega⟩
theorem Ext_1 {σ : am_S} {p i l : Nat} : Ext σ (st1 σ p i l) p := ⟨fun x hx => by funext j; rw [st1_I, if_neg (by omega)], fun x hx hp j => by rw [st1_R, if_neg (fun q => hp q.1), if_neg (by omega)], by rw [st1_N]; omega⟩
theorem Ext_new {σ : am_S} {t l p : Nat} : Ext σ (newC σ t l) p := ⟨fun x hx => by funext j; rw [nwI, if_neg (by omega)], fun x hx _ j => by rw [nwR, if_neg (by omega)], by rw [nwN]; omega⟩
theorem Ext_R {σ : am_S} {p i : Nat} {v : Option am_R} : Ext σ (putR σ p i v) p := ⟨fun x _ => rfl, fun x _ hp j => by show (if x = p ∧ j = i then v else sR σ x j) = _; rw [if_neg (fun q => hp q.1)], Nat.le_refl _⟩
theorem v_Weighings_init_0 (d : Nat) (p0 : Nat) (σ : am_S) (K : am_S → Prop) (h :
  K (putR (newC (putR (newC (putR (newC (putR (newC (putR (newC σ 20 12) p0 0 (some (sN σ, 20, 12))) 20 12) p0 1 (some (sN (putR (newC σ 20 12) p0 0 (some (sN σ, 20, 12))), 20, 12))) 20 12) p0 2 (some (sN (putR (newC (putR (newC σ 20 12) p0 0 (some (sN σ, 20, 12))) 20 12) p0 1 (some (sN (putR (newC σ 20 12) p0 0 (some (sN σ, 20, 12))), 20, 12))), 20, 12))) 20 12) p0 3 (some (sN (putR (newC (putR (newC (putR (newC σ 20 12) p0 0 (some (sN σ, 20, 12))) 20 12) p0 1 (some (sN (putR (newC σ 20 12) p0 0 (some (sN σ, 20, 12))), 20, 12))) 20 12) p0 2 (some (sN (putR (newC (putR (newC σ 20 12) p0 0 (some (sN σ, 20, 12))) 20 12) p0 1 (some (sN (putR (newC σ 20 12) p0 0 (some (sN σ, 20, 12))), 20, 12))), 20, 12))), 20, 12))) 20 12) p0 4 (some (sN (putR (newC (putR (newC (putR (newC (putR (newC σ 20 12) p0 0 (some (sN σ, 20, 12))) 20 12) p0 1 (some (sN (putR (newC σ 20 12) p0 0 (some (sN σ, 20, 12))), 20, 12))) 20 12) p0 2 (some (sN (putR (newC (putR (newC σ 20 12) p0 0 (some (sN σ, 20, 12))) 20 12) p0 1 (some (sN (putR (newC σ 20 12) p0 0 (some (sN σ, 20, 12))), 20, 12))), 20, 12))) 20 12) p0 3 (some (sN (putR (newC (putR (newC (putR (newC σ 20 12) p0 0 (some (sN σ, 20, 12))) 20 12) p0 1 (some (sN (putR (newC σ 20 12) p0 0 (some (sN σ, 20, 12))), 20, 12))) 20 12) p0 2 (some (sN (putR (newC (putR (newC σ 20 12) p0 0 (some (sN σ, 20, 12))) 20 12) p0 1 (some (sN (putR (newC σ 20 12) p0 0 (some (sN σ, 20, 12))), 20, 12))), 20, 12))), 20, 12))), 20, 12)))) : am_Runs PP MLL d m_Weighings_init 0 [some (qr (p0, 10, 11))] [] σ (kV K) := am_wEF_ok (orc []) 200 (⟨⟨(by decide : (0 : Int) ≤ 12), (by decide : (12 : Int) ≤ 1000000)⟩, ⟨rfl, ⟨⟨(by decide : (0 : Int) ≤ 12), (by decide : (12 : Int) ≤ 1000000)⟩, ⟨rfl, ⟨⟨(by decide : (0 : Int) ≤ 12), (by decide : (12 : Int) ≤ 1000000)⟩, ⟨rfl, ⟨⟨(by decide : (0 : Int) ≤ 12), (by decide : (12 : Int) ≤ 1000000)⟩, ⟨rfl, ⟨⟨(by decide : (0 : Int) ≤ 12), (by decide : (12 : Int) ≤ 1000000)⟩, ⟨rfl, h⟩⟩⟩⟩⟩⟩⟩⟩⟩⟩)

theorem v_Question_init_0 (d : Nat) (p0 : Nat) (σ : am_S) (K : am_S → Prop) (h :
  am_Calls PP MLL (d + 1) m_Weighings_init [qr (sN (putR (newC (putR (newC σ 20 60) p0 0 (some (sN σ, 20, 60))) 20 60) p0 1 (some (sN (putR (newC σ 20 60) p0 0 (some (sN σ, 20, 60))), 20, 60))), 10, 11)] (newC (putR (newC (putR (newC σ 20 60) p0 0 (some (sN σ, 20, 60))) 20 60) p0 1 (some (sN (putR (newC σ 20 60) p0 0 (some (sN σ, 20, 60))), 20, 60))) 10 11) (kV fun s1 =>
    K (putR s1 p0 2 (some (sN (putR (newC (putR (newC σ 20 60) p0 0 (some (sN σ, 20, 60))) 20 60) p0 1 (some (sN (putR (newC σ 20 60) p0 0 (some (sN σ, 20, 60))), 20, 60))), 10, 11))))) : am_Runs PP MLL (d + 1) m_Question_init 0 [some (qr (p0, 3, 10))] [] σ (kV K) := am_wEF_ok (orc []) 200 (⟨⟨(by decide : (0 : Int) ≤ 60), (by decide : (60 : Int) ≤ 1000000)⟩, ⟨rfl, ⟨⟨(by decide : (0 : Int) ≤ 60), (by decide : (60 : Int) ≤ 1000000)⟩, ⟨rfl, ⟨rfl, (am_cV h fun s1 h1 => ⟨rfl, h1⟩)⟩⟩⟩⟩⟩)

theorem v_Search_makeQuestions_0 (d : Nat) (σ : am_S) (K : am_S → Prop) (hC : CF σ) (h :
  (20 ≤ (rg (sR σ 12 2)).2.1 ∧ (rg (sR σ 12 2)).2.1 < 25) ∧
  (((((rg (sR σ 12 2)).2.2 : Nat) : Int) ≤ 0 →
    am_Runs PP MLL (d + 2) m_Search_makeQuestions 11 [some (qr (12, 5, 18)), some (qi 0)] [] (putR (newC σ 23 7) 12 2 (some (sN σ, 23, 7))) (kV K)) ∧
  (¬ ((((rg (sR σ 12 2)).2.2 : Nat) : Int) ≤ 0) →
    K σ))) : am_Runs PP MLL (d + 2) m_Search_makeQuestions 0 [some (qr (12, 5, 18)), none] [] σ (kV K) := am_wEF_ok (orc []) 200 (⟨rfl, ⟨⟨h.1.1, h.1.2⟩, ⟨fun c1 => ⟨⟨(by decide : (0 : Int) ≤ 7), (by decide : (7 : Int) ≤ 1000000)⟩, ⟨rfl, (h.2.1 c1)⟩⟩, fun c1 => (h.2.2 c1)⟩⟩⟩)

theorem v_Search_makeQuestions_11 (d : Nat) (v1 : Int) (σ : am_S) (K : am_S → Prop) (hC : CF σ) (h :
  (20 ≤ (rg (sR σ 12 2)).2.1 ∧ (rg (sR σ 12 2)).2.1 < 25) ∧
  (((((rg (sR σ 12 2)).2.2 : Nat) : Int) ≤ v1 →
    K σ) ∧
  (¬ ((((rg (sR σ 12 2)).2.2 : Nat) : Int) ≤ v1) →
    am_Calls PP MLL (d + 2) m_Question_init [qr (sN σ, 3, 10)] (newC σ 3 10) (kV fun s3 =>
      (CF s3) ∧
      ((rg (sR σ 12 2)).2.1 = 23 ∧ 0 ≤ v1 ∧ v1 < (((rg (sR σ 12 2)).2.2 : Nat) : Int) ∧ -2147483648 ≤ v1 + 1 ∧ v1 + 1 < 2147483648) ∧
      am_Runs PP MLL (d + 2) m_Search_makeQuestions 11 [some (qr (12, 5, 18)), some (qi (v1 + 1))] [] (putR s3 ((rg (sR σ 12 2)).1) (Int.toNat v1) (some (sN σ, 3, 10))) (kV K))))) : am_Runs PP MLL (d + 2) m_Search_makeQuestions 11 [some (qr (12, 5, 18)), some (qi v1)] [] σ (kV K) := am_wEF_ok (orc []) 200 (⟨rfl, ⟨⟨h.1.1, h.1.2⟩, ⟨fun c2 => (h.2.1 c2), fun c2 => ⟨rfl, ⟨rfl, (am_cV (h.2.2 c2) fun s3 h3 => ⟨⟨h3.2.1.1, h3.2.1.2.1, h3.2.1.2.2.1, rfl⟩, ⟨⟨h3.2.1.2.2.2.1, h3.2.1.2.2.2.2⟩, h3.2.2⟩⟩)⟩⟩⟩⟩⟩)

theorem c_winit (d : Nat) {p : Nat} {σ : am_S} {K : am_S → Prop} (hp : p < sN σ) (h : ∀ s, Ext σ s p → sN s = sN σ + 5 → sU s = sU σ + 60 → (∀ i, i < 5 → sR s p i = some (sN σ + i, 20, 12)) → K s) : am_Calls PP MLL (d + 1) m_Weighings_init [qr (p, 10, 11)] σ (kV K) := by
  refine v_Weighings_init_0 d p σ K ?_
  obtain ⟨A, eA⟩ : ∃ A, A = st1 σ p 0 12 := ⟨_, rfl⟩
  obtain ⟨B, eB⟩ : ∃ B, B = st1 A p 1 12 := ⟨_, rfl⟩
  obtain ⟨C, eC⟩ : ∃ C, C = st1 B p 2 12 := ⟨_, rfl⟩
  obtain ⟨D, eD⟩ : ∃ D, D = st1 C p 3 12 := ⟨_, rfl⟩
  obtain ⟨E, eE⟩ : ∃ E, E = st1 D p 4 12 := ⟨_, rfl⟩
  have nA : sN A = sN σ + 1 := by rw [eA, st1_N]
  have nB : sN B = sN σ + 2 := by rw [eB, st1_N, nA]
  have nC : sN C = sN σ + 3 := by rw [eC, st1_N, nB]
  have nD : sN D = sN σ + 4 := by rw [eD, st1_N, nC]
  have nE : sN E = sN σ + 5 := by rw [eE, st1_N, nD]
  have x1 : Ext σ A p := by rw [eA]; exact Ext_1
  have x2 : Ext σ B p := Ext_tr x1 (by rw [eB]; exact Ext_1) (Or.inl rfl)
  have x3 : Ext σ C p := Ext_tr x2 (by rw [eC]; exact Ext_1) (Or.inl rfl)
  have x4 : Ext σ D p := Ext_tr x3 (by rw [eD]; exact Ext_1) (Or.inl rfl)
  have x5 : Ext σ E p := Ext_tr x4 (by rw [eE]; exact Ext_1) (Or.inl rfl)
  have r : ∀ (Y : am_S) (i j : Nat), p < sN Y → j ≠ i → sR (st1 Y p i 12) p j = sR Y p j := fun Y i j hY hj => by rw [st1_R, if_neg (fun q => hj q.2), if_neg (by omega)]
  have r0 : ∀ (Y : am_S) (i : Nat), sR (st1 Y p i 12) p i = some (sN Y, 20, 12) := fun Y i => by rw [st1_R, if_pos ⟨rfl, rfl⟩]
  have fin := h E x5 nE (by rw [eE, st1_U, eD, st1_U, eC, st1_U, eB, st1_U, eA, st1_U]) (fun i hi => ?_)
  · rw [eE, eD, eC, eB, eA] at fin
    exact fin
  · have : i = 0 ∨ i = 1 ∨ i = 2 ∨ i = 3 ∨ i = 4 := by omega
    rcases this with e | e | e | e | e
    · rw [e, eE, r D 4 0 (by omega) (by decide), eD, r C 3 0 (by omega) (by decide), eC, r B 2 0 (by omega) (by decide), eB, r A 1 0 (by omega) (by decide), eA, r0]
      rfl
    · rw [e, eE, r D 4 1 (by omega) (by decide), eD, r C 3 1 (by omega) (by decide), eC, r B 2 1 (by omega) (by decide), eB, r0, nA]
    · rw [e, eE, r D 4 2 (by omega) (by decide), eD, r C 3 2 (by omega) (by decide), eC, r0, nB]
    · rw [e, eE, r D 4 3 (by omega) (by decide), eD, r0, nC]
    · rw [e, eE, r0, nD]
theorem c_qinit (d : Nat) {p : Nat} {σ : am_S} {K : am_S → Prop} (hp : p + 1 = sN σ) (h : ∀ s, Ext σ s p → sN s = sN σ + 8 → sU s = sU σ + 191 → QF s p → WF s (p + 3) → K s) : am_Calls PP MLL (d + 2) m_Question_init [qr (p, 3, 10)] σ (kV K) := by
  refine v_Question_init_0 d p σ K ?_
  obtain ⟨A, eA⟩ : ∃ A, A = st1 σ p 0 60 := ⟨_, rfl⟩
  obtain ⟨B, eB⟩ : ∃ B, B = st1 A p 1 60 := ⟨_, rfl⟩
  have nA : sN A = sN σ + 1 := by rw [eA, st1_N]
  have nB : sN B = sN σ + 2 := by rw [eB, st1_N, nA]
  have x1 : Ext σ A p := by rw [eA]; exact Ext_1
  have x2 : Ext σ B p := Ext_tr x1 (by rw [eB]; exact Ext_1) (Or.inl rfl)
  obtain ⟨C, eC⟩ : ∃ C, C = newC B 10 11 := ⟨_, rfl⟩
  have nC : sN C = sN σ + 3 := by rw [eC, nwN, nB]
  have x3 : Ext σ C p := Ext_tr x2 (by rw [eC]; exact Ext_new (p := p)) (Or.inl rfl)
  have core : am_Calls PP MLL (d + 1) m_Weighings_init [qr (sN B, 10, 11)] C (kV fun s1 => K (putR s1 p 2 (some (sN B, 10, 11)))) := by
    refine c_winit d (by omega) (fun s y1 y2 y3 y4 => ?_)
    obtain ⟨D, eD⟩ : ∃ D, D = putR s p 2 (some (sN B, 10, 11)) := ⟨_, rfl⟩
    rw [← eD]
    have x5 : Ext σ D p := Ext_tr (Ext_tr x3 y1 (Or.inr (by omega))) (by rw [eD]; exact Ext_R) (Or.inl rfl)
    have dR : ∀ x j, sR D x j = if x = p ∧ j = 2 then some (sN B, 10, 11) else sR s x j := fun x j => by rw [eD]; rfl
    refine h D x5 (by rw [eD, prN, y2, nC]) (by rw [eD, prU, y3, eC, nwU, eB, st1_U, eA, st1_U]) ⟨?_, ?_, ?_⟩ ⟨?_, ?_, ?_, ?_, ?_⟩
    · rw [dR, if_neg (by omega), y1.2.1 p (by omega) (by omega), eC, nwR, if_neg (by omega), eB, st1_R, if_neg (by omega), if_neg (by omega), eA, st1_R, if_pos ⟨rfl, rfl⟩, hp]
    · rw [dR, if_neg (by omega), y1.2.1 p (by omega) (by omega), eC, nwR, if_neg (by omega), eB, st1_R, if_pos ⟨rfl, rfl⟩, nA, ← hp]
    · rw [dR, if_pos ⟨rfl, rfl⟩, nB, ← hp]
    · rw [dR, if_neg (by omega), show p + 3 = sN B by omega, y4 0 (by decide), show sN C + 0 = sN B + 1 by omega]
    · rw [dR, if_neg (by omega), show p + 3 = sN B by omega, y4 1 (by decide), show sN C + 1 = sN B + 2 by omega]
    · rw [dR, if_neg (by omega), show p + 3 = sN B by omega, y4 2 (by decide), show sN C + 2 = sN B + 3 by omega]
    · rw [dR, if_neg (by omega), show p + 3 = sN B by omega, y4 3 (by decide), show sN C + 3 = sN B + 4 by omega]
    · rw [dR, if_neg (by omega), show p + 3 = sN B by omega, y4 4 (by decide), show sN C + 4 = sN B + 5 by omega]
  rw [eC, eB, eA] at core
  exact core
/-- the questions -/
theorem c_makeQ (d : Nat) {aQ nQ : Nat} {σ : am_S} {K : am_S → Prop} (hC : CF σ) (h87 : 87 ≤ sN σ) (hq : sR σ 12 2 = some (aQ, 23, nQ)) (hn : nQ = 0 ∨ nQ = 7) (h7 : nQ = 7 → K σ) (h0 : nQ = 0 → ∀ s, (∀ x, x < sN σ → sI s x = sI σ x) → (∀ x, x < sN σ → ∀ j, (x = 12 ∧ j = 2) ∨ sR s x j = sR σ x j) → sN s = sN σ + 64 → sU s = sU σ + 1414 → QA s (sN σ) → K s) : am_Calls PP MLL (d + 3) m_Search_makeQuestions [qr (12, 5, 18)] σ (kV K) := by
  refine v_Search_makeQuestions_0 d σ K hC ?_
  rw [hq]
  refine ⟨⟨by show 20 ≤ 23; decide, by show 23 < 25; decide⟩, fun q => ?_, fun q => ?_⟩
  · have hn0 : nQ = 0 := by
      rcases hn with e | e
      · exact e
      · exact absurd q (by show ¬ (((nQ : Nat) : Int) ≤ 0); omega)
    have hK := h0 hn0
    obtain ⟨x0, ex⟩ : ∃ x0, x0 = sN σ := ⟨_, rfl⟩
    have loop : ∀ q i s, i + q = 7 → (∀ x, x < sN σ → sI s x = sI σ x) → (∀ x, x < sN σ → ∀ j, (x = 12 ∧ j = 2) ∨ sR s x j = sR σ x j) → sN s = sN σ + 1 + 9 * i → sU s = sU σ + 7 + 201 * i → sR s 12 2 = some (x0, 23, 7) → (∀ k, k < i → sR s x0 k = some (qA x0 k, 3, 10) ∧ QF s (qA x0 k) ∧ WF s (qA x0 k + 3)) → am_Runs PP MLL (d + 2) m_Search_makeQuestions 11 [some (qr (12, 5, 18)), some (qi (i : Int))] [] s (kV K) := by
      intro q
      induction q with
      | zero =>
        intro i s hi s1 s2 s3 s4 s5 s6
        have e7 : i = 7 := by omega
        subst e7
        have Cs : CF s := fun a j r hr => by
          obtain ⟨q1, q2, q3, q4, q5, q6, q7, q8, q9⟩ := cref_dec _ (crefF_mem _ a j r hr)
          rcases s2 a (by omega) j with ⟨e1, e2⟩ | e
          · have : j = 0 ∨ j = 1 ∨ j = 3 := q3 e1
            omega
          · rw [e]; exact hC a j r hr
        refine v_Search_makeQuestions_11 d _ s K Cs ?_
        rw [s5]
        refine ⟨⟨by show 20 ≤ 23; decide, by show 23 < 25; decide⟩, fun _ => ?_, fun q => absurd (by show ((7 : Nat) : Int) ≤ ((7 : Nat) : Int); exact Int.le_refl _) q⟩
        exact hK s s1 s2 (by omega) (by omega) ⟨by rw [s5, ex], fun k hk => by rw [← ex]; exact s6 k hk⟩
      | succ q ih =>
        intro i s hi s1 s2 s3 s4 s5 s6
        have Cs : CF s := fun a j r hr => by
          obtain ⟨q1, q2, q3, q4, q5, q6, q7, q8, q9⟩ := cref_dec _ (crefF_mem _ a j r hr)
          rcases s2 a (by omega) j with ⟨e1, e2⟩ | e
          · have : j = 0 ∨ j = 1 ∨ j = 3 := q3 e1
            omega
          · rw [e]; exact hC a j r hr
        refine v_Search_makeQuestions_11 d _ s K Cs ?_
        rw [s5]
        refine ⟨⟨by show 20 ≤ 23; decide, by show 23 < 25; decide⟩, fun q => absurd q (by show ¬ (((7 : Nat) : Int) ≤ (i : Int)); omega), fun _ => ?_⟩
        have ep : sN s = qA x0 i := by unfold qA; omega
        obtain ⟨A, eA⟩ : ∃ A, A = newC s 3 10 := ⟨_, rfl⟩
        rw [← eA]
        have nA : sN A = sN s + 1 := by rw [eA, nwN]
        refine c_qinit d (by omega) (fun t t1 t2 t3 t4 t5 => ?_)
        have xt : Ext s t (sN s) := Ext_tr (p := sN s) (by rw [eA]; exact Ext_new) t1 (Or.inl rfl)
        obtain ⟨B, eB⟩ : ∃ B, B = putR t x0 i (some (sN s, 3, 10)) := ⟨_, rfl⟩
        have Ct : CF t := fun a j r hr => by
          obtain ⟨q1, q2, q3, q4, q5, q6, q7, q8, q9⟩ := cref_dec _ (crefF_mem _ a j r hr)
          rw [xt.2.1 a (by omega) (by omega)]
          exact Cs a j r hr
        have eB' : putR t ((rg (some (x0, 23, 7))).1) (Int.toNat (i : Int)) (some (sN s, 3, 10)) = B := by rw [eB, Int.toNat_natCast]; rfl
        rw [eB']
        refine ⟨Ct, ⟨rfl, by omega, by show (i : Int) < ((7 : Nat) : Int); omega, by omega, by omega⟩, ?_⟩
        rw [show (i : Int) + 1 = ((i + 1 : Nat) : Int) by omega]
        have bR : ∀ x j, sR B x j = if x = x0 ∧ j = i then some (sN s, 3, 10) else sR t x j := fun x j => by rw [eB]; rfl
        have bI : ∀ x, sI B x = sI t x := fun x => by rw [eB]; rfl
        refine ih (i + 1) B (by omega) (fun x hx => by rw [bI, xt.1 x (by omega), s1 x hx]) (fun x hx j => ?_) (by rw [eB, prN, t2, nA]; omega) (by rw [eB, prU, t3, eA, nwU]; omega) ?_ (fun k hk => ?_)
        · rcases s2 x hx j with e | e
          · exact Or.inl e
          · refine Or.inr ?_
            rw [bR, if_neg (by omega), xt.2.1 x (by omega) (by omega), e]
        · rw [bR, if_neg (by omega), xt.2.1 12 (by omega) (by omega), s5]
        · by_cases e : k = i
          · subst e
            refine ⟨by rw [bR, if_pos ⟨rfl, rfl⟩, ep], ?_, ?_⟩
            · rw [← ep]
              unfold QF at t4 ⊢
              rw [bR, bR, bR, if_neg (by omega), if_neg (by omega), if_neg (by omega)]
              exact t4
            · rw [← ep]
              unfold WF at t5 ⊢
              rw [bR, bR, bR, bR, bR, if_neg (by omega), if_neg (by omega), if_neg (by omega), if_neg (by omega), if_neg (by omega)]
              exact t5
          · obtain ⟨g1, g2, g3⟩ := s6 k (by omega)
            have kk : qA x0 k + 3 < sN s := by unfold qA; omega
            have k0' : x0 < qA x0 k := by unfold qA; omega
            refine ⟨by rw [bR, if_neg (fun z => e z.2), xt.2.1 x0 (by omega) (by omega)]; exact g1, ?_, ?_⟩
            · unfold QF at g2 ⊢
              rw [bR, bR, bR, if_neg (by omega), if_neg (by omega), if_neg (by omega), xt.2.1 _ (by omega) (by omega), xt.2.1 _ (by omega) (by omega), xt.2.1 _ (by omega) (by omega)]
              exact g2
            · unfold WF at g3 ⊢
              rw [bR, bR, bR, bR, bR, if_neg (by omega), if_neg (by omega), if_neg (by omega), if_neg (by omega), if_neg (by omega), xt.2.1 _ (by omega) (by omega), xt.2.1 _ (by omega) (by omega), xt.2.1 _ (by omega) (by omega), xt.2.1 _ (by omega) (by omega), xt.2.1 _ (by omega) (by omega)]
              exact g3
    obtain ⟨Z, eZ⟩ : ∃ Z, Z = putR (newC σ 23 7) 12 2 (some (sN σ, 23, 7)) := ⟨_, rfl⟩
    rw [← eZ]
    have zR : ∀ x j, sR Z x j = if x = 12 ∧ j = 2 then some (sN σ, 23, 7) else if x = sN σ then none else sR σ x j := fun x j => by rw [eZ]; rfl
    refine loop 7 0 Z (by omega) (fun x hx => by rw [eZ]; show sI (newC σ 23 7) x = _; funext j; rw [nwI, if_neg (by omega)]) (fun x hx j => ?_) (by rw [eZ, prN, nwN]) (by rw [eZ, prU, nwU]) (by rw [zR, if_pos ⟨rfl, rfl⟩, ex]) (fun k hk => absurd hk (Nat.not_lt_zero k))
    by_cases e : x = 12 ∧ j = 2
    · exact Or.inl e
    · exact Or.inr (by rw [zR, if_neg e, if_neg (by omega)])
  · refine h7 ?_
    rcases hn with e | e
    · exact absurd (by show ((nQ : Nat) : Int) ≤ 0; omega) q
    · exact e
