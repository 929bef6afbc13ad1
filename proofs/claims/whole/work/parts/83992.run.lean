/-! the class: a search runs on -/
noncomputable def stn (X : sX) (c0 : Nat → Int) (k0 : Nat) : Nat → sA → sA
  | 0, A => A
  | n + 1, A => if 2 ≤ A.1 then A else stn X c0 k0 n (stp X c0 k0 A)
noncomputable def stc (X : sX) (c0 : Nat → Int) (k0 : Nat) : Nat → sA → Nat
  | 0, _ => 0
  | n + 1, A => if 2 ≤ A.1 then 0 else 1 + stc X c0 k0 n (stp X c0 k0 A)
theorem CB_up {σ : am_S} {own : Nat → Nat} {aQ k0 n0 st : Nat} {tr : Nat → Nat} {X : sX} {c0 : Nat → Int} (h : CB σ own aQ k0 tr X c0 n0 st) (hs : st + 1 ≤ 100000) : CB (putI σ 12 15 ((st + 1 : Nat) : Int)) own aQ k0 tr X c0 n0 (st + 1) := by
  obtain ⟨hE, hn, hst, ⟨f10, f13, f15, f16, f17⟩, hcn⟩ := h
  have h87 := SE_87 hE
  refine ⟨SE_I hE rfl (fun x _ hp => put_ne (fun e => hp (by rw [e, h87 12 (by decide)]; unfold p0; omega))) (by rw [put_at, put_at, put_at]; exact ⟨rfl, rfl, rfl⟩), hn, hs, ?_, hcn⟩
  rw [put_at, put_at, put_at, put_at, put_at]
  exact ⟨f10, f13, rfl, f16, f17⟩
theorem up_o {σ : am_S} {own : Nat → Nat} {aQ k0 : Nat} {tr : Nat → Nat} {X : sX} {c0 : Nat → Int} {v : Int} (hE : SE σ own aQ k0 tr X c0) : (∀ i, i < 7 → ∀ k, k < 9 → sI (putI σ 12 15 v) (qA aQ i + k) = sI σ (qA aQ i + k)) ∧ OFr σ (putI σ 12 15 v) own own (fun r => r = 12) := by
  have h87 := SE_87 hE
  have ho := hE.1.2.2.2.2
  refine ⟨fun i hi k hk => put_ne (own_ne (ho i hi k hk) (h87 12 (by decide)) (by omega)), OFr_I rfl (fun x _ hp => put_ne (fun e => hp (by rw [e]; exact h87 12 (by decide))))⟩
theorem P0_up {σ : am_S} {own : Nat → Nat} {aQ k0 n0 l st : Nat} {tr : Nat → Nat} {X : sX} {c0 : Nat → Int} {js : Nat → Nat} {os : Nat → Int} (h : P0 σ own aQ k0 tr X c0 n0 l js os st) (hl : l < 7) (hs : st + 1 ≤ 100000) : P0 (putI σ 12 15 ((st + 1 : Nat) : Int)) own aQ k0 tr X c0 n0 l js os (st + 1) ∧ (grq X c0 k0 n0 js os l).length < st + 1 ∧ ∀ i, i < l → js i < st + 1 := by
  obtain ⟨hC, hG, h11, h12, hLv, hQ, ⟨g, w, hR⟩, hlen, hT0, hTV, h18⟩ := h
  obtain ⟨uq, uo⟩ := up_o (v := ((st + 1 : Nat) : Int)) hC.1
  have h87 := SE_87 hC.1
  have t0 : tcl (putI σ 12 15 ((st + 1 : Nat) : Int)) = tcl σ := tcl_ne hTV (by rw [h87 12 (by decide)]; decide)
  have u0 : sI (putI σ 12 15 ((st + 1 : Nat) : Int)) (qA aQ l) = sI σ (qA aQ l) := uq l hl 0 (by decide)
  refine ⟨⟨CB_up hC hs, hG, by rw [put_at]; exact h11, by rw [put_at]; exact h12, fun i hi => ?_, ?_, ⟨g, w, RW_fr uo (fun r _ _ => by omega) (fun j => rfl) hR⟩, ⟨by omega, by omega⟩, by rw [t0]; exact hT0, TV_I hTV rfl, by rw [put_ne (by decide)]; exact h18⟩, by omega, fun i hi => by have := (hLv i hi).2.2; omega⟩
  · obtain ⟨y1, y2, y3⟩ := hLv i hi
    obtain ⟨z1, z2⟩ := LQ_fr (X := X) (c0 := c0) (k0 := k0) (n0 := n0) (js := js) (os := os) (uq i (by omega))
    exact ⟨z1 y1, z2 y2, by omega⟩
  · unfold QB
    rw [u0, uq l hl 1 (by decide)]
    exact hQ
theorem P1_up {σ : am_S} {own : Nat → Nat} {aQ k0 n0 l st : Nat} {tr : Nat → Nat} {X : sX} {c0 : Nat → Int} {js : Nat → Nat} {os : Nat → Int} (h : P1 σ own aQ k0 tr X c0 n0 l js os st) (hs : st + 1 ≤ 100000) : P1 (putI σ 12 15 ((st + 1 : Nat) : Int)) own aQ k0 tr X c0 n0 l js os (st + 1) ∧ (grq X c0 k0 n0 js os l ++ gR X c0 k0 n0 js os l).length < st + 1 := by
  obtain ⟨hC, hG, ⟨a1, a2, a3, a4, a5, a6⟩, h11, h12, hLv, hQ, ⟨g, w, hR⟩, hlen, hTL, hNH, hTV⟩ := h
  obtain ⟨uq, uo⟩ := up_o (v := ((st + 1 : Nat) : Int)) hC.1
  have h87 := SE_87 hC.1
  have hn := hC.2.1
  have t0 : tcl (putI σ 12 15 ((st + 1 : Nat) : Int)) = tcl σ := tcl_ne hTV (by rw [h87 12 (by decide)]; decide)
  refine ⟨⟨CB_up hC hs, hG, ⟨a1, a2, a3, a4, by omega, a6⟩, by rw [put_at]; exact h11, by rw [put_at]; exact h12, fun i hi => ?_, ?_, ⟨g, w, RW_fr uo (fun r _ _ => by omega) (fun j => rfl) hR⟩, ⟨by omega, by omega⟩, by rw [t0]; exact hTL, by rw [t0]; exact hNH, TV_I hTV rfl⟩, by omega⟩
  · obtain ⟨y1, y2, y3⟩ := hLv i hi
    obtain ⟨z1, z2⟩ := LQ_fr (X := X) (c0 := c0) (k0 := k0) (n0 := n0) (js := js) (os := os) (uq i (by omega))
    exact ⟨z1 y1, z2 y2, by omega⟩
  · exact (LQ_fr (uq l (by omega))).1 hQ
theorem v_Search_runOn_0 (d : Nat) (aQ : Nat) (p1 : Int) (σ : am_S) (K : am_S → Prop) (hC : CF σ) (hQ : QA σ aQ) (h :
  am_Runs PP MLL (d + 6) m_Search_runOn 2 [some (qr (12, 5, 18)), some (qi p1), some (qi 0)] [] σ (kV K)) : am_Runs PP MLL (d + 6) m_Search_runOn 0 [some (qr (12, 5, 18)), some (qi p1), none] [] σ (kV K) := am_wEF_ok (orc []) 200 (h)

theorem v_Search_runOn_2 (d : Nat) (aQ : Nat) (p1 v2 : Int) (σ : am_S) (K : am_S → Prop) (hC : CF σ) (hQ : QA σ aQ) (h :
  ((p1 ≤ v2 →
    K σ) ∧
  (¬ (p1 ≤ v2) →
    (((sR σ 12 6) = none →
      K σ) ∧
    (¬ ((sR σ 12 6) = none) →
      (((sI σ 12 13) = 0 →
        (-2147483648 ≤ (sI σ 12 15) + 1 ∧ (sI σ 12 15) + 1 < 2147483648) ∧
        (((sI σ 12 12) = 0 →
          (0 ≤ (sI σ 12 11) ∧ (sI σ 12 11) < 7 ∧ (Int.toNat (sI σ 12 11)) < 7) ∧
          am_Calls PP MLL (d + 6) m_Search_look [qr (12, 5, 18), qr (qA aQ (Int.toNat (sI σ 12 11)), 3, 10)] (putI σ 12 15 ((sI σ 12 15) + 1)) (kV fun s8 =>
            (CF s8 ∧ QA s8 aQ) ∧
            (-2147483648 ≤ v2 + 1 ∧ v2 + 1 < 2147483648) ∧
            am_Runs PP MLL (d + 6) m_Search_runOn 2 [some (qr (12, 5, 18)), some (qi p1), some (qi (v2 + 1))] [] s8 (kV K))) ∧
        (¬ ((sI σ 12 12) = 0) →
          (0 ≤ (sI σ 12 11) ∧ (sI σ 12 11) < 7 ∧ (Int.toNat (sI σ 12 11)) < 7) ∧
          am_Calls PP MLL (d + 6) m_Search_ask [qr (12, 5, 18), qr (qA aQ (Int.toNat (sI σ 12 11)), 3, 10)] (putI σ 12 15 ((sI σ 12 15) + 1)) (kV fun s9 =>
            (CF s9 ∧ QA s9 aQ) ∧
            (-2147483648 ≤ v2 + 1 ∧ v2 + 1 < 2147483648) ∧
            am_Runs PP MLL (d + 6) m_Search_runOn 2 [some (qr (12, 5, 18)), some (qi p1), some (qi (v2 + 1))] [] s9 (kV K))))) ∧
      (¬ ((sI σ 12 13) = 0) →
        K σ))))))) : am_Runs PP MLL (d + 6) m_Search_runOn 2 [some (qr (12, 5, 18)), some (qi p1), some (qi v2)] [] σ (kV K) := am_wEF_ok (orc [(22, aQ, 23, 7), (25, qA aQ (Int.toNat (sI σ 12 11)), 3, 10), (30, aQ, 23, 7), (33, qA aQ (Int.toNat (sI σ 12 11)), 3, 10)]) 200 (⟨fun c2 => (h.1 c2), fun c2 => ⟨rfl, ⟨fun c3 => ((h.2 c2).1 c3), fun c3 => ⟨rfl, ⟨fun c5 => ⟨rfl, ⟨⟨(((h.2 c2).2 c3).1 c5).1.1, (((h.2 c2).2 c3).1 c5).1.2⟩, ⟨rfl, ⟨rfl, ⟨fun c7 => ⟨⟨rfl, hQ.1⟩, ⟨rfl, ⟨⟨rfl, ((((h.2 c2).2 c3).1 c5).2.1 c7).1.1, ((((h.2 c2).2 c3).1 c5).2.1 c7).1.2.1, (hQ.2 (Int.toNat (sI σ 12 11)) ((((h.2 c2).2 c3).1 c5).2.1 c7).1.2.2).1⟩, ⟨rfl, (am_cV ((((h.2 c2).2 c3).1 c5).2.1 c7).2 fun s8 h8 => ⟨⟨h8.2.1.1, h8.2.1.2⟩, h8.2.2⟩)⟩⟩⟩⟩, fun c7 => ⟨⟨rfl, hQ.1⟩, ⟨rfl, ⟨⟨rfl, ((((h.2 c2).2 c3).1 c5).2.2 c7).1.1, ((((h.2 c2).2 c3).1 c5).2.2 c7).1.2.1, (hQ.2 (Int.toNat (sI σ 12 11)) ((((h.2 c2).2 c3).1 c5).2.2 c7).1.2.2).1⟩, ⟨rfl, (am_cV ((((h.2 c2).2 c3).1 c5).2.2 c7).2 fun s9 h9 => ⟨⟨h9.2.1.1, h9.2.1.2⟩, h9.2.2⟩)⟩⟩⟩⟩⟩⟩⟩⟩⟩, fun c5 => (((h.2 c2).2 c3).2 c5)⟩⟩⟩⟩⟩)

theorem CS_SE {σ : am_S} {own : Nat → Nat} {aQ k0 st : Nat} {tr : Nat → Nat} {X : sX} {c0 : Nat → Int} {A : sA} (h : CS σ own aQ k0 tr X c0 A st) : SE σ own aQ k0 tr X c0 := by
  rcases h with h | h | h | h
  · exact h.2.1.1
  · exact h.2.1.1
  · exact h.2.1
  · exact h.2.1
theorem e_runs (d : Nat) {aQ k0 T : Nat} {tr : Nat → Nat} {X : sX} {c0 : Nat → Int} {K : am_S → Prop} (hT : T ≤ 100000) : ∀ (r i : Nat) {σ : am_S} {own : Nat → Nat} {A : sA} {st : Nat}, i + r = T → CS σ own aQ k0 tr X c0 A st → st + r ≤ 100000 → (∀ s own', OFr σ s own own' p0 → CS s own' aQ k0 tr X c0 (stn X c0 k0 r A) (st + stc X c0 k0 r A) → K s) → am_Runs PP MLL (d + 6) m_Search_runOn 2 [some (qr (12, 5, 18)), some (qi (T : Int)), some (qi (i : Int))] [] σ (kV K)
  | 0, i, σ, own, A, st, hi, hS, _, h => by
    have hE := CS_SE hS
    refine v_Search_runOn_2 d aQ _ _ σ K (SE_CF hE) hE.1.1 ⟨fun _ => ?_, fun c => absurd (by omega) c⟩
    exact h σ own (OFr_rf σ own p0) hS
  | r + 1, i, σ, own, A, st, hi, hS, hst, h => by
    have hE := CS_SE hS
    have h6 : ¬ sR σ 12 6 = none := by
      obtain ⟨_, _, _, _, ⟨β, μ, κ, ρ, me, n, b, aH, nH, aL, nL, aY, nY, aS, nS, N, lo, hi', T, kd, b1, b2, b3, b4, b5, b6, b7, b8, b9, b10, b11, b12, b13, b14, b15, b16, b17⟩⟩ := hE
      rw [b15]
      simp
    have u1 : stn X c0 k0 (r + 1) A = if 2 ≤ A.1 then A else stn X c0 k0 r (stp X c0 k0 A) := rfl
    have u2 : stc X c0 k0 (r + 1) A = if 2 ≤ A.1 then 0 else 1 + stc X c0 k0 r (stp X c0 k0 A) := rfl
    rw [u1, u2] at h
    refine v_Search_runOn_2 d aQ _ _ σ K (SE_CF hE) hE.1.1 ⟨fun c => absurd c (by omega), fun _ => ⟨fun c => absurd c h6, fun _ => ?_⟩⟩
    have stepE : ∀ s own', OFr (putI σ 12 15 ((st + 1 : Nat) : Int)) s own own' p0 → OFr σ s own own' p0 := fun s own' q => OFr_tr (up_o (v := ((st + 1 : Nat) : Int)) hE).2 q (fun r z => Or.inl z) (fun _ z => z)
    obtain ⟨ph, n0, l, js, os⟩ := A
    rcases hS with ⟨e, hP⟩ | ⟨e, hP⟩ | ⟨e, hP⟩ | ⟨e, hP⟩
    · have e' : ph = 0 := e
      subst e'
      have hP' : P0 σ own aQ k0 tr X c0 n0 l js os st := hP
      have ln := GL_n hP'.2.1
      have hn := hP'.1.2.1
      obtain ⟨g10, g13, g15, _⟩ := hP'.1.2.2.2.1
      obtain ⟨p1, p2, p3⟩ := P0_up hP' (by omega) (by omega)
      rw [if_neg (show ¬ 2 ≤ (0 : Nat) by decide), if_neg (show ¬ 2 ≤ (0 : Nat) by decide)] at h
      rw [g13, g15, hP'.2.2.1, hP'.2.2.2.1, show (st : Int) + 1 = ((st + 1 : Nat) : Int) by omega, Int.toNat_natCast]
      refine ⟨fun _ => ⟨by omega, fun c => absurd c (by decide), fun _ => ⟨by omega, ?_⟩⟩, fun c => absurd rfl c⟩
      refine e_ask d (by omega) p1 ⟨p2, p3⟩ ?_
      intro s own' q1 q2
      have Es := CS_SE q2
      refine ⟨⟨SE_CF Es, Es.1.1⟩, by omega, ?_⟩
      rw [show (i : Int) + 1 = ((i + 1 : Nat) : Int) by omega]
      exact e_runs d hT r (i + 1) (by omega) q2 (by omega) (fun s' own2 w1 w2 => h s' own2 (OFr_tr (stepE s own' q1) w1 (fun _ z => z) (fun _ z => z)) (by rw [← Nat.add_assoc]; exact w2))
    · have e' : ph = 1 := e
      subst e'
      have hP' : P1 σ own aQ k0 tr X c0 n0 l js os st := hP
      have ln := hP'.2.2.1.1
      have hn := hP'.1.2.1
      obtain ⟨g10, g13, g15, _⟩ := hP'.1.2.2.2.1
      obtain ⟨p1, p2⟩ := P1_up hP' (by omega)
      rw [if_neg (show ¬ 2 ≤ (1 : Nat) by decide), if_neg (show ¬ 2 ≤ (1 : Nat) by decide)] at h
      rw [g13, g15, hP'.2.2.2.1, hP'.2.2.2.2.1, show (st : Int) + 1 = ((st + 1 : Nat) : Int) by omega, Int.toNat_natCast]
      refine ⟨fun _ => ⟨by omega, fun _ => ⟨by omega, ?_⟩, fun c => absurd rfl c⟩, fun c => absurd rfl c⟩
      refine e_look d p1 p2 ?_
      intro s own' q1 q2
      have Es := CS_SE q2
      refine ⟨⟨SE_CF Es, Es.1.1⟩, by omega, ?_⟩
      rw [show (i : Int) + 1 = ((i + 1 : Nat) : Int) by omega]
      exact e_runs d hT r (i + 1) (by omega) q2 (by omega) (fun s' own2 w1 w2 => h s' own2 (OFr_tr (stepE s own' q1) w1 (fun _ z => z) (fun _ z => z)) (by rw [← Nat.add_assoc]; exact w2))
    · have e' : ph = 2 := e
      subst e'
      have g13 := hP.2.2.2.1.1
      rw [if_pos (show 2 ≤ (2 : Nat) by decide), if_pos (show 2 ≤ (2 : Nat) by decide)] at h
      rw [g13]
      exact ⟨fun c => absurd c (by decide), fun _ => h σ own (OFr_rf σ own p0) (Or.inr (Or.inr (Or.inl ⟨rfl, hP⟩)))⟩
    · have e' : ph = 3 := e
      subst e'
      have g13 := hP.2.2.1.1
      rw [if_pos (show 2 ≤ (3 : Nat) by decide), if_pos (show 2 ≤ (3 : Nat) by decide)] at h
      rw [g13]
      exact ⟨fun c => absurd c (by decide), fun _ => h σ own (OFr_rf σ own p0) (Or.inr (Or.inr (Or.inr ⟨rfl, hP⟩)))⟩
theorem c_runOn (d : Nat) {aQ k0 T st : Nat} {tr : Nat → Nat} {X : sX} {c0 : Nat → Int} {A : sA} {own : Nat → Nat} {σ : am_S} {K : am_S → Prop} (hS : CS σ own aQ k0 tr X c0 A st) (hst : st + T ≤ 100000) (h : ∀ s own', OFr σ s own own' p0 → CS s own' aQ k0 tr X c0 (stn X c0 k0 T A) (st + stc X c0 k0 T A) → K s) : am_Calls PP MLL (d + 7) m_Search_runOn [qr (12, 5, 18), qi (T : Int)] σ (kV K) := by
  have hE := CS_SE hS
  refine v_Search_runOn_0 d aQ _ σ K (SE_CF hE) hE.1.1 ?_
  exact e_runs d (by omega) T 0 (by omega) hS hst h
