/-! the class: an answer goes up -/
theorem ND_cg {X : sX} {tr : Nat → Nat} {f : Nat → Int} {c0 : Nat → Int} {k0 n0 : Nat} {js js' : Nat → Nat} {os os' : Nat → Int} {i u : Nat} {lk : Int} (h : ∀ q, q < i → js q = js' q ∧ os q = os' q) (hj : js i = js' i) (q : ND X tr f c0 k0 n0 js os i u lk) : ND X tr f c0 k0 n0 js' os' i u lk := by
  have e1 := csq_congr (X := X) (c0 := c0) (k0 := k0) i h
  have e2 := (ndq_congr (X := X) (c0 := c0) (k0 := k0) (n0 := n0) i h).1
  unfold ND at q ⊢
  rw [← e1, ← e2, ← hj]
  exact q
theorem LK_cg {X : sX} {c0 : Nat → Int} {k0 n0 : Nat} {js js' : Nat → Nat} {os os' : Nat → Int} {i : Nat} (h : ∀ q, q < i + 1 → js q = js' q ∧ os q = os' q) : LK X c0 k0 n0 js os i = LK X c0 k0 n0 js' os' i := by
  unfold LK
  rw [csq_congr (X := X) (c0 := c0) (k0 := k0) (i + 1) h, (ndq_congr (X := X) (c0 := c0) (k0 := k0) (n0 := n0) (i + 1) h).1]
theorem GL_cg {X : sX} {c0 : Nat → Int} {k0 n0 : Nat} {js js' : Nat → Nat} {os os' : Nat → Int} {l : Nat} (h : ∀ q, q < l → js q = js' q ∧ os q = os' q) (g : GL X c0 k0 n0 js os l) : GL X c0 k0 n0 js' os' l := by
  intro i hi
  have e1 := csq_congr (X := X) (c0 := c0) (k0 := k0) i (fun q hq => h q (by omega))
  obtain ⟨e2, e3⟩ := h i hi
  have q := g i hi
  rw [← e1, ← e2, ← e3]
  exact q
theorem TL_cg {X : sX} {tr : Nat → Nat} {f : Nat → Int} {c0 : Nat → Int} {k0 n0 : Nat} {js js' : Nat → Nat} {os os' : Nat → Int} {l : Nat} (h : ∀ q, q < l → js q = js' q ∧ os q = os' q) (g : TL X tr f c0 k0 n0 js os l) : TL X tr f c0 k0 n0 js' os' l := by
  intro i hi
  have q := g i hi
  rw [← (h i hi).2, ← LK_cg (js := js) (os := os) (fun q hq => h q (by omega))]
  exact ND_cg (fun q hq => h q (by omega)) (h i hi).1 q
theorem ndq_lt {X : sX} {c0 : Nat → Int} {k0 n0 : Nat} {js : Nat → Nat} {os : Nat → Int} {i : Nat} : ndq X c0 k0 n0 js os i + 1 ≤ ndq X c0 k0 n0 js os (i + 1) := by
  show _ ≤ ndq X c0 k0 n0 js os i + 1 + tof _ _ _ _ _ _
  omega
theorem rws_w {X : sX} {n : Nat} {c : Nat → Int} {k j : Nat} (hb : ¬ big X (n + 1) c) (hw : wct X c = j) : rws X (n + 1) c k = rwl X (rw1 X n c k) j := by
  rw [rws_s hb, hw]
theorem v_Search_answer_0 (d : Nat) (aQ g : Nat) (p1 : Int) (σ : am_S) (K : am_S → Prop) (hC : CF σ) (hQ : QA σ aQ) (hg : sR σ 12 4 = some (g, 4, 3)) (h :
  am_Runs PP MLL (d + 4) m_Search_answer 3 [some (qr (12, 5, 18)), some (qi p1), some (qi (sI σ 12 11)), none] [] σ (kV K)) : am_Runs PP MLL (d + 4) m_Search_answer 0 [some (qr (12, 5, 18)), some (qi p1), none, none] [] σ (kV K) := am_wEF_ok (orc []) 200 (⟨rfl, h⟩)

theorem v_Search_answer_3 (d : Nat) (aQ g : Nat) (p1 v2 : Int) (z3 : Option am_V) (σ : am_S) (K : am_S → Prop) (hC : CF σ) (hQ : QA σ aQ) (hg : sR σ 12 4 = some (g, 4, 3)) (h :
  ((v2 ≤ 0 →
    ((p1 = 0 →
      am_Calls PP MLL (d + 4) m_Search_askForMore [qr (12, 5, 18)] σ (kV fun s4 =>
        K s4)) ∧
    (¬ (p1 = 0) →
      K (putI (putI σ 12 16 (sI σ 12 10)) 12 13 1)))) ∧
  (¬ (v2 ≤ 0) →
    (-2147483648 ≤ v2 - 1 ∧ v2 - 1 < 2147483648 ∧ 0 ≤ (v2 - 1) ∧ (v2 - 1) < 7 ∧ (Int.toNat (v2 - 1)) < 7) ∧
    ((p1 = 0 →
      am_Calls PP MLL (d + 4) m_Rows_setTold [qr (g, 4, 3), qi (sI (putI σ 12 11 (v2 - 1)) (qA aQ (Int.toNat (v2 - 1))) 9), qi (sI (putI σ 12 11 (v2 - 1)) (qA aQ (Int.toNat (v2 - 1))) 6)] (putI σ 12 11 (v2 - 1)) (kV fun s6 =>
        (CF s6 ∧ QA s6 aQ ∧ sR s6 12 4 = some (g, 4, 3)) ∧
        am_Calls PP MLL (d + 4) m_Weighings_advance [qr (qA aQ (Int.toNat (v2 - 1)) + 3, 10, 11)] s6 (kI fun x7 s7 =>
          (CF s7 ∧ QA s7 aQ ∧ sR s7 12 4 = some (g, 4, 3)) ∧
          ((x7 = 0 →
            (-2147483648 ≤ v2 + (-1) ∧ v2 + (-1) < 2147483648) ∧
            am_Runs PP MLL (d + 4) m_Search_answer 3 [some (qr (12, 5, 18)), some (qi p1), some (qi (v2 + (-1))), some (qr (qA aQ (Int.toNat (v2 - 1)), 3, 10))] [] s7 (kV K)) ∧
          (¬ (x7 = 0) →
            K (putI s7 12 12 0)))))) ∧
    (¬ (p1 = 0) →
      (0 ≤ v2 ∧ v2 < 7 ∧ (Int.toNat v2) < 7) ∧
      (((sI (putI (putI σ 12 11 (v2 - 1)) g 2 (sI (putI σ 12 11 (v2 - 1)) (qA aQ (Int.toNat v2)) 8)) (qA aQ (Int.toNat (v2 - 1))) 5) ≤ (sI (putI (putI σ 12 11 (v2 - 1)) g 2 (sI (putI σ 12 11 (v2 - 1)) (qA aQ (Int.toNat v2)) 8)) (qA aQ (Int.toNat (v2 - 1))) 6) →
        (-2147483648 ≤ v2 + (-1) ∧ v2 + (-1) < 2147483648) ∧
        am_Runs PP MLL (d + 4) m_Search_answer 3 [some (qr (12, 5, 18)), some (qi p1), some (qi (v2 + (-1))), some (qr (qA aQ (Int.toNat (v2 - 1)), 3, 10))] [] (putI (putI σ 12 11 (v2 - 1)) g 2 (sI (putI σ 12 11 (v2 - 1)) (qA aQ (Int.toNat v2)) 8)) (kV K)) ∧
      (¬ ((sI (putI (putI σ 12 11 (v2 - 1)) g 2 (sI (putI σ 12 11 (v2 - 1)) (qA aQ (Int.toNat v2)) 8)) (qA aQ (Int.toNat (v2 - 1))) 5) ≤ (sI (putI (putI σ 12 11 (v2 - 1)) g 2 (sI (putI σ 12 11 (v2 - 1)) (qA aQ (Int.toNat v2)) 8)) (qA aQ (Int.toNat (v2 - 1))) 6)) →
        (-2147483648 ≤ (sI (putI (putI σ 12 11 (v2 - 1)) g 2 (sI (putI σ 12 11 (v2 - 1)) (qA aQ (Int.toNat v2)) 8)) (qA aQ (Int.toNat (v2 - 1))) 6) + 1 ∧ (sI (putI (putI σ 12 11 (v2 - 1)) g 2 (sI (putI σ 12 11 (v2 - 1)) (qA aQ (Int.toNat v2)) 8)) (qA aQ (Int.toNat (v2 - 1))) 6) + 1 < 2147483648) ∧
        am_Calls PP MLL (d + 4) m_Search_askBehind [qr (12, 5, 18), qr (qA aQ (Int.toNat (v2 - 1)), 3, 10)] (putI (putI (putI σ 12 11 (v2 - 1)) g 2 (sI (putI σ 12 11 (v2 - 1)) (qA aQ (Int.toNat v2)) 8)) (qA aQ (Int.toNat (v2 - 1))) 6 ((sI (putI (putI σ 12 11 (v2 - 1)) g 2 (sI (putI σ 12 11 (v2 - 1)) (qA aQ (Int.toNat v2)) 8)) (qA aQ (Int.toNat (v2 - 1))) 6) + 1)) (kV fun s10 =>
          K s10)))))))) : am_Runs PP MLL (d + 4) m_Search_answer 3 [some (qr (12, 5, 18)), some (qi p1), some (qi v2), z3] [] σ (kV K) := am_wEF_ok (orc [(6, aQ, 23, 7), (10, qA aQ (Int.toNat (v2 - 1)), 3, 10), (20, g, 4, 3), (22, aQ, 23, 7), (24, qA aQ (Int.toNat v2), 3, 10), (43, g, 4, 3), (50, qA aQ (Int.toNat (v2 - 1)) + 3, 10, 11)]) 200 (⟨fun c1 => ⟨fun c3 => ⟨rfl, (am_cV ((h.1 c1).1 c3) fun s4 h4 => h4)⟩, fun c3 => ⟨rfl, ⟨rfl, am_wEF_ok (orc []) 200 (⟨rfl, ⟨⟨rfl, (Or.inr rfl)⟩, ((h.1 c1).2 c3)⟩⟩)⟩⟩⟩, fun c1 => ⟨⟨rfl, hQ.1⟩, ⟨⟨(h.2 c1).1.1, (h.2 c1).1.2.1⟩, ⟨⟨rfl, (h.2 c1).1.2.2.1, (h.2 c1).1.2.2.2.1, (hQ.2 (Int.toNat (v2 - 1)) (h.2 c1).1.2.2.2.2).1⟩, ⟨⟨(h.2 c1).1.1, (h.2 c1).1.2.1⟩, ⟨rfl, ⟨fun c5 => ⟨⟨rfl, hg⟩, ⟨rfl, ⟨rfl, ⟨rfl, (am_cV ((h.2 c1).2.1 c5) fun s6 h6 => ⟨⟨rfl, (h6.1.2.1.2 (Int.toNat (v2 - 1)) (h.2 c1).1.2.2.2.2).2.1.2.2⟩, ⟨rfl, (am_cI h6.2 fun x7 s7 h7 => ⟨fun c8 => ⟨⟨(h7.2.1 c8).1.1, (h7.2.1 c8).1.2⟩, (h7.2.1 c8).2⟩, fun c8 => ⟨⟨rfl, (Or.inl rfl)⟩, (h7.2.2 c8)⟩⟩)⟩⟩)⟩⟩⟩⟩, fun c5 => ⟨⟨rfl, hg⟩, ⟨⟨rfl, hQ.1⟩, ⟨⟨rfl, ((h.2 c1).2.2 c5).1.1, ((h.2 c1).2.2 c5).1.2.1, (hQ.2 (Int.toNat v2) ((h.2 c1).2.2 c5).1.2.2).1⟩, ⟨rfl, ⟨rfl, ⟨rfl, ⟨rfl, ⟨fun c9 => ⟨⟨(((h.2 c1).2.2 c5).2.1 c9).1.1, (((h.2 c1).2.2 c5).2.1 c9).1.2⟩, (((h.2 c1).2.2 c5).2.1 c9).2⟩, fun c9 => ⟨rfl, ⟨⟨(((h.2 c1).2.2 c5).2.2 c9).1.1, (((h.2 c1).2.2 c5).2.2 c9).1.2⟩, ⟨rfl, ⟨rfl, (am_cV (((h.2 c1).2.2 c5).2.2 c9).2 fun s10 h10 => h10)⟩⟩⟩⟩⟩⟩⟩⟩⟩⟩⟩⟩⟩⟩⟩⟩⟩⟩⟩)

theorem e_no (d : Nat) {own : Nat → Nat} {aQ k0 n0 st : Nat} {tr : Nat → Nat} {X : sX} {c0 : Nat → Int} {js : Nat → Nat} {os : Nat → Int} : ∀ (l : Nat) {σ : am_S} {K : am_S → Prop} (z3 : Option am_V), l < 7 → KN σ own aQ k0 tr X c0 n0 l js os st → (∀ s own', OFr σ s own own' p0 → CS s own' aQ k0 tr X c0 (upN X c0 k0 n0 js os l) st → K s) → am_Runs PP MLL (d + 4) m_Search_answer 3 [some (qr (12, 5, 18)), some (qi 0), some (qi (l : Int)), z3] [] σ (kV K)
  | 0, σ, K, z3, _, hK, h => by
    have hE := hK.1.1
    obtain ⟨g, w, hgw, r4, _⟩ := hK.2.2.2.2.2.1
    refine v_Search_answer_3 d aQ g _ _ z3 σ K (SE_CF hE) hE.1.1 r4 ⟨fun _ => ⟨fun _ => ?_, fun c => absurd rfl c⟩, fun c => absurd (by omega) c⟩
    exact e_more (d + 1) hK h
  | l + 1, σ, K, z3, hl, hK, h => by
    obtain ⟨⟨hE, hn, hst, ⟨f10, f13, f15, f16, f17⟩, hcn⟩, hG, hc, h11, hLv, ⟨g, w, hgw, r4, r5, V1, L1, V2, L2⟩, ⟨le1, le2⟩, hND, hNH, hT⟩ := hK
    have h87 := SE_87 hE
    have hC := SE_CF hE
    have hqa := hE.1.1
    have hX := hE.2.1.1
    have ho := hE.1.2.2.2.2
    obtain ⟨g1, g2, g3, g4, g5, g6, g7⟩ := hG l (by omega)
    obtain ⟨hq, ht, hjs⟩ := hLv l (by omega)
    obtain ⟨q1, q2, q3, q5, q7, q8⟩ := hq
    obtain ⟨t1, t6, t9⟩ := ht
    obtain ⟨hr, hny⟩ := N_row hG hc
    obtain ⟨nh, tv⟩ := hNH l rfl
    have en : n0 - l = n0 - (l + 1) + 1 := by omega
    have og : own g = g := h87 g (by omega)
    refine v_Search_answer_3 d aQ g _ _ z3 σ K hC hqa r4 ⟨fun c => absurd c (by omega), fun _ => ?_⟩
    rw [show ((l + 1 : Nat) : Int) - 1 = (l : Int) by omega, show ((l + 1 : Nat) : Int) + -1 = (l : Int) by omega, Int.toNat_natCast]
    refine ⟨by omega, fun _ => ?_, fun c => absurd rfl c⟩
    have nq : ∀ i, i < 7 → ∀ k, k < 9 → qA aQ i + k ≠ 12 := by
      intro i hi k hk e
      have := ho i hi k hk
      rw [e, h87 12 (by decide)] at this
      omega
    have nq0 := nq l (by omega) 0 (by decide)
    rw [Nat.add_zero] at nq0
    obtain ⟨B, hB⟩ : ∃ B, B = putI σ 12 11 (l : Int) := ⟨_, rfl⟩
    rw [← hB]
    have B2 : B.2 = σ.2 := by rw [hB]; rfl
    have Bo : ∀ x, x ≠ 12 → sI B x = sI σ x := fun x hx => by rw [hB, put_ne hx]
    have B12 : ∀ j, sI B 12 j = if j = 11 then (l : Int) else sI σ 12 j := fun j => by rw [hB, put_at]
    rw [Bo _ nq0, t9, t6]
    obtain ⟨R, eR⟩ : ∃ R, R = rws X (n0 - (l + 1)) (csq X c0 k0 js os (l + 1)) (k0 + l + 1) := ⟨_, rfl⟩
    have eL : grq X c0 k0 n0 js os (l + 1) ++ rws X (n0 - (l + 1)) (csq X c0 k0 js os (l + 1)) (k0 + (l + 1)) = (grq X c0 k0 n0 js os l ++ gR X c0 k0 n0 js os l) ++ ((js l : Int), 0) :: R := by
      rw [grq_s, eR, List.append_assoc _ [((js l : Int), 0)] _]
      rfl
    rw [eL] at V1 L1 le1
    have V1B : RV B own g ((grq X c0 k0 n0 js os l ++ gR X c0 k0 n0 js os l) ++ ((js l : Int), 0) :: R).length := RV_I V1 B2
    have L1B : RL B g ((grq X c0 k0 n0 js os l ++ gR X c0 k0 n0 js os l) ++ ((js l : Int), 0) :: R) := RL_I V1 B2 (by rw [Bo g (by omega)]) (fun x hx => Bo x (fun e => by rw [e, h87 12 (by decide)] at hx; omega)) L1
    refine c_setTold (d + 3) (own := own) (by omega) (CF_I hC B2) V1B L1B (by rw [List.length_append]) ?_
    intro s6 a1 a2 a3
    have s62 : s6.2 = σ.2 := a1.trans B2
    have e6 : ∀ x, x ≠ 12 → own x ≠ g + 2 → sI s6 x = sI σ x := fun x x1 x2 => by rw [a2 x x2, Bo x x1]
    have eq6 : ∀ i, i < 7 → ∀ k, k < 9 → sI s6 (qA aQ i + k) = sI σ (qA aQ i + k) := fun i hi k hk => e6 _ (nq i hi k hk) (by rw [ho i hi k hk]; omega)
    refine ⟨⟨CF_I hC s62, QA_I hqa s62, by rw [R2' s62]; exact r4⟩, ?_⟩
    have w0 := eq6 l (by omega) 3 (by decide)
    have w1 : ∀ k, k ≤ 5 → sI s6 (qA aQ l + 3 + k) = sI σ (qA aQ l + 3 + k) := fun k hk => by
      have := eq6 l (by omega) (3 + k) (by omega)
      rw [← Nat.add_assoc] at this
      exact this
    have hW6 : WF s6 (qA aQ l + 3) := ((QA_I hqa s62).2 l (by omega)).2.2
    have lenE : ((grq X c0 k0 n0 js os l ++ gR X c0 k0 n0 js os l) ++ ((js l : Int), os l) :: R) = grq X c0 k0 n0 js os l ++ (gR X c0 k0 n0 js os l ++ rw1 X (n0 - (l + 1)) (csq X c0 k0 js os l) (k0 + l) (js l)) := by
      rw [hr, List.append_assoc, eR]
    have lenL : (grq X c0 k0 n0 js os l ++ (gR X c0 k0 n0 js os l ++ rw1 X (n0 - (l + 1)) (csq X c0 k0 js os l) (k0 + l) (js l))).length = ((grq X c0 k0 n0 js os l ++ gR X c0 k0 n0 js os l) ++ ((js l : Int), 0) :: R).length := by
      rw [← lenE, List.length_append, List.length_append (bs := ((js l : Int), 0) :: R)]
      rfl
    rw [lenE] at a3
    have V6 : RV s6 own g (grq X c0 k0 n0 js os l ++ (gR X c0 k0 n0 js os l ++ rw1 X (n0 - (l + 1)) (csq X c0 k0 js os l) (k0 + l) (js l))).length := by
      rw [lenL]
      exact RV_I V1 s62
    have hrw : gR X c0 k0 n0 js os l ++ rw1 X (n0 - (l + 1)) (csq X c0 k0 js os l) (k0 + l) (js l) = rwl X (rw1 X (n0 - (l + 1)) (csq X c0 k0 js os l) (k0 + l)) (js l + 1) := rfl
    have V2' : ∀ s, s.2 = σ.2 → RV s own w (wh X c0 k0 n0).length := fun s hs => RV_I V2 hs
    have upe : upN X c0 k0 n0 js os (l + 1) = match wsq X (csq X c0 k0 js os l) (js l + 1) with | some _ => (1, n0, l, uN js l (js l + 1), os) | none => upN X c0 k0 n0 js os l := rfl
    -- stores behind advance
    have fin : ∀ s7, s7.2 = s6.2 → (∀ x, x ≠ qA aQ l + 3 → x ≠ qA aQ l + 3 + 4 → x ≠ qA aQ l + 3 + 5 → sI s7 x = sI s6 x) → s7.2 = σ.2 ∧ OFr σ s7 own own p0 ∧ SE s7 own aQ k0 tr X c0 ∧ (∀ i, i < l → ∀ k, k < 9 → sI s7 (qA aQ i + k) = sI σ (qA aQ i + k)) ∧ (∀ k, k < 3 → sI s7 (qA aQ l + k) = sI σ (qA aQ l + k)) ∧ tcl s7 = tcl σ ∧ RW s7 own g w (grq X c0 k0 n0 js os l ++ (gR X c0 k0 n0 js os l ++ rw1 X (n0 - (l + 1)) (csq X c0 k0 js os l) (k0 + l) (js l))) (wh X c0 k0 n0) ∧ sI s7 12 = sI B 12 := by
      intro s7 b1 b2
      have s72 : s7.2 = σ.2 := b1.trans s62
      have nw : ∀ x, own x < 2000 → sI s7 x = sI s6 x := by
        intro x hx
        refine b2 x (fun e => ?_) (fun e => ?_) (fun e => ?_)
        · have := ho l (by omega) 3 (by decide); rw [← e] at this; omega
        · have := ho l (by omega) 7 (by decide); rw [show qA aQ l + 7 = qA aQ l + 3 + 4 by omega, ← e] at this; omega
        · have := ho l (by omega) 8 (by decide); rw [show qA aQ l + 8 = qA aQ l + 3 + 5 by omega, ← e] at this; omega
      have e12 : sI s7 12 = sI B 12 := by rw [nw 12 (by rw [h87 12 (by decide)]; decide), a2 12 (by rw [h87 12 (by decide)]; omega)]
      have eo : ∀ x, ¬ p0 (own x) → sI s7 x = sI σ x := by
        intro x hp
        unfold p0 at hp
        rw [nw x (by omega), e6 x (fun e => hp (by rw [e, h87 12 (by decide)]; omega)) (by omega)]
      refine ⟨s72, OFr_I s72 (fun x _ hp => eo x hp), SE_I hE s72 (fun x _ hp => eo x hp) (by rw [e12, B12, B12, B12]; exact ⟨rfl, rfl, rfl⟩), fun i hi k hk => ?_, fun k hk => ?_, tcl_I tv s72 (fun x hx => ?_), ⟨hgw, by rw [R2' s72]; exact r4, by rw [R2' s72]; exact r5, RV_I V6 b1, RL_I V6 b1 (by rw [nw g (by omega)]) (fun x hx => nw x (by omega)) a3, V2' s7 s72, RL_I V2 s72 ?_ (fun x hx => ?_) L2⟩, e12⟩
      · rw [b2 _ (by unfold qA; omega) (by unfold qA; omega) (by unfold qA; omega)]
        exact eq6 i (by omega) k hk
      · rw [b2 _ (by omega) (by omega) (by omega)]
        exact eq6 l (by omega) k (by omega)
      · rw [nw x (by omega), e6 x (fun e => by rw [e, h87 12 (by decide)] at hx; omega) (by omega)]
      · have ow : own w = w := h87 w (by omega)
        rw [nw w (by omega), e6 w (by omega) (by omega)]
      · rw [nw x (by omega), e6 x (fun e => by rw [e, h87 12 (by decide)] at hx; omega) (by omega)]
    refine e_adv d (c := csq X c0 k0 js os l) (j := js l) hW6 hX (QWg_fr q2 (fun j _ _ => by rw [w0]) (fun k k1 k2 => w1 k (by omega))) (QWj_fr q3 w0 (w1 4 (by omega)) (w1 5 (by omega))) g4 (by omega) ?_ ?_
    · intro cw0 cw1 s7 b1 b2 b3
      obtain ⟨s72, c2, c3, c4, c5, c6, c7, c8⟩ := fin s7 b1 (fun x x1 _ _ => b2 x x1)
      rw [upe, cw1] at h
      refine ⟨⟨CF_I hC s72, QA_I hqa s72, by rw [R2' s72]; exact r4⟩, fun _ => ⟨by omega, ?_⟩, fun c => absurd rfl c⟩
      have hend : ¬ can X (n0 - l) (csq X c0 k0 js os l) (k0 + l) := by
        rw [en] at g3 ⊢
        refine N_end hX (by omega) g3 (fun j hj => ?_)
        rw [cw0] at hj
        by_cases e : j = js l
        · rw [e]; exact hny
        · exact g6 j (by omega)
      have erw : rws X (n0 - l) (csq X c0 k0 js os l) (k0 + l) = gR X c0 k0 n0 js os l ++ rw1 X (n0 - (l + 1)) (csq X c0 k0 js os l) (k0 + l) (js l) := by
        rw [en] at g3
        rw [hrw, en]
        exact rws_w g3 cw0
      refine e_no d l _ (by omega) ⟨⟨c3, hn, hst, ?_, hcn⟩, GL_le hG (by omega), hend, ?_, fun i hi => ?_, ⟨g, w, ?_⟩, ⟨?_, le2⟩, fun i hi => ?_, fun l' e => ⟨?_, ?_⟩, TV_I hT s72⟩ (fun s own' p q => h s own' (OFr_tr c2 p (fun _ q => q) (fun _ q => q)) q)
      · rw [c8, B12, B12, B12, B12, B12]
        exact ⟨f10, f13, f15, f16, f17⟩
      · rw [c8, B12]; rfl
      · obtain ⟨y1, y2, y3⟩ := hLv i (by omega)
        obtain ⟨z1, z2⟩ := LQ_fr (X := X) (c0 := c0) (k0 := k0) (n0 := n0) (js := js) (os := os) (c4 i hi)
        exact ⟨z1 y1, z2 y2, y3⟩
      · rw [erw]; exact c7
      · rw [erw, lenL]; exact le1
      · rw [c6]; exact hND i (by omega)
      · rw [c6]; exact (hND l' (by omega)).1
      · have := ndq_lt (X := X) (c0 := c0) (k0 := k0) (n0 := n0) (js := js) (os := os) (i := l')
        rw [← e] at this
        exact TV_I (TV_le tv (by omega)) s72
    · intro s7 cw0 cw1 b1 b2 b3 b4
      obtain ⟨s72, c2, c3, c4, c5, c6, c7, c8⟩ := fin s7 b1 b2
      rw [upe, cw1] at h
      refine ⟨⟨CF_I hC s72, QA_I hqa s72, by rw [R2' s72]; exact r4⟩, fun c => absurd c (by decide), fun _ => ?_⟩
      obtain ⟨Z, eZ⟩ : ∃ Z, Z = putI s7 12 12 0 := ⟨_, rfl⟩
      rw [← eZ]
      have Z2 : Z.2 = s7.2 := by rw [eZ]; rfl
      have Zo : ∀ x, x ≠ 12 → sI Z x = sI s7 x := fun x hx => by rw [eZ, put_ne hx]
      have Z12 : ∀ j, sI Z 12 j = if j = 12 then 0 else sI s7 12 j := fun j => by rw [eZ, put_at]
      have Zp : ∀ x, ¬ p0 (own x) → sI Z x = sI s7 x := fun x hp => Zo x (fun e => by rw [e, h87 12 (by decide)] at hp; exact hp (Or.inl rfl))
      have nr : ∀ x r, own x = r → r ≠ 12 → x ≠ 12 := fun x r e1 e2 e => by rw [e, h87 12 (by decide)] at e1; omega
      have cgl : ∀ q, q < l → js q = uN js l (js l + 1) q ∧ os q = os q := fun q hq => ⟨by unfold uN; rw [if_neg (by omega)], rfl⟩
      have ujl : uN js l (js l + 1) l = js l + 1 := by unfold uN; rw [if_pos rfl]
      have ec := csq_congr (X := X) (c0 := c0) (k0 := k0) l cgl
      have ed := (ndq_congr (X := X) (c0 := c0) (k0 := k0) (n0 := n0) l cgl).1
      have eg := grq_congr (X := X) (c0 := c0) (k0 := k0) (n0 := n0) l (fun q hq => ⟨(cgl q hq).1, fun _ => (cgl q hq).2⟩)
      have er : gR X c0 k0 n0 (uN js l (js l + 1)) os l = gR X c0 k0 n0 js os l ++ rw1 X (n0 - (l + 1)) (csq X c0 k0 js os l) (k0 + l) (js l) := by
        rw [hrw]
        unfold gR
        rw [← ec, ujl]
      have tz : tcl Z = tcl σ := by
        rw [← c6]
        exact tcl_I (TV_I tv s72) Z2 (fun x hx => Zo x (nr x 19 hx (by decide)))
      refine h Z own (OFr_tr c2 (OFr_I Z2 (fun x _ hp => Zp x hp)) (fun _ q => q) (fun _ q => q)) (Or.inr (Or.inl ⟨rfl, ⟨SE_I c3 Z2 (fun x _ hp => Zp x hp) (by rw [Z12, Z12, Z12]; exact ⟨rfl, rfl, rfl⟩), hn, hst, ?_, hcn⟩, GL_cg cgl (GL_le hG (Nat.le_succ l)), ⟨g1, ?_, ?_, ?_, ?_, fun j hj => ?_⟩, ?_, ?_, fun i hi => ?_, ⟨?_, ?_, ?_, ?_, ?_, ?_⟩, ⟨g, w, ?_⟩, ⟨?_, le2⟩, ?_, ?_, ?_⟩))
      · rw [Z12, Z12, Z12, Z12, Z12, c8, B12, B12, B12, B12, B12]
        exact ⟨f10, f13, f15, f16, f17⟩
      · show ¬ mn X (csq X c0 k0 (uN js l (js l + 1)) os l) < 2
        rw [← ec]; omega
      · show ¬ big X (n0 - l) (csq X c0 k0 (uN js l (js l + 1)) os l)
        rw [← ec]; exact g3
      · show uN js l (js l + 1) l < wct X (csq X c0 k0 (uN js l (js l + 1)) os l)
        rw [← ec, ujl]; exact cw0
      · show uN js l (js l + 1) l ≤ st
        rw [ujl]; omega
      · show ¬ yw X (n0 - (l + 1)) (csq X c0 k0 (uN js l (js l + 1)) os l) (k0 + l) (wAt X (csq X c0 k0 (uN js l (js l + 1)) os l) j)
        have hj' : j < uN js l (js l + 1) l := hj
        rw [ujl] at hj'
        rw [← ec]
        by_cases e : j = js l
        · rw [e]; exact hny
        · exact g6 j (by omega)
      · rw [Z12, c8, B12]; rfl
      · rw [Z12]; rfl
      · obtain ⟨y1, y2, y3⟩ := hLv i (by have : i < l := hi; omega)
        have hi' : i < l := hi
        obtain ⟨z1, z2⟩ := LQ_fr (X := X) (c0 := c0) (k0 := k0) (n0 := n0) (js := js) (os := os) (fun k hk => (Zo _ (nq i (by omega) k hk)).trans (c4 i hi' k hk))
        obtain ⟨x1, x2⟩ := LQ_cg (σ := Z) (aQ := aQ) (X := X) (c0 := c0) (k0 := k0) (n0 := n0) (i := i) (fun q hq => cgl q (by omega)) (cgl i hi').1
        exact ⟨x1 (z1 y1), x2 rfl (z2 y2), by show uN js l (js l + 1) i ≤ st; rw [← (cgl i hi').1]; omega⟩
      · show QB Z (qA aQ l) X (csq X c0 k0 (uN js l (js l + 1)) os l)
        have k0' := c5 0 (by decide)
        have k1' := c5 1 (by decide)
        rw [Nat.add_zero] at k0'
        unfold QB
        rw [← ec, Zo _ nq0, Zo _ (nq l (by omega) 1 (by decide)), k0', k1']
        exact q1
      · show QWg Z (qA aQ l + 3) X (csq X c0 k0 (uN js l (js l + 1)) os l)
        rw [← ec]
        exact QWg_fr b3 (fun j _ _ => by rw [Zo _ (nq l (by omega) 3 (by decide))]) (fun k k1 k2 => by rw [Nat.add_assoc]; exact Zo _ (nq l (by omega) (3 + k) (by omega)))
      · show QWj Z (qA aQ l + 3) X (csq X c0 k0 (uN js l (js l + 1)) os l) (uN js l (js l + 1) l)
        rw [← ec, ujl]
        exact QWj_fr b4 (Zo _ (nq l (by omega) 3 (by decide))) (Zo _ (nq l (by omega) 7 (by decide))) (Zo _ (nq l (by omega) 8 (by decide)))
      · have k0' := c5 0 (by decide)
        rw [Nat.add_zero] at k0'
        show sI Z (qA aQ l) 5 = _
        rw [Zo _ nq0, k0']; exact q5
      · have k0' := c5 0 (by decide)
        rw [Nat.add_zero] at k0'
        show sI Z (qA aQ l) 7 = ndq X c0 k0 n0 (uN js l (js l + 1)) os l
        rw [Zo _ nq0, k0', ← ed]; exact q7
      · have k0' := c5 0 (by decide)
        rw [Nat.add_zero] at k0'
        show sI Z (qA aQ l) 8 = (grq X c0 k0 n0 (uN js l (js l + 1)) os l).length
        rw [Zo _ nq0, k0', ← eg]; exact q8
      · show RW Z own g w (grq X c0 k0 n0 (uN js l (js l + 1)) os l ++ gR X c0 k0 n0 (uN js l (js l + 1)) os l) (wh X c0 k0 n0)
        rw [← eg, er]
        obtain ⟨y1, y2, y3, y4, y5, y6, y7⟩ := c7
        exact ⟨y1, by rw [R2' Z2]; exact y2, by rw [R2' Z2]; exact y3, RV_I y4 Z2, RL_I y4 Z2 (by rw [Zo g (by omega)]) (fun x hx => Zo x (by rcases hx with e | e <;> exact nr x _ e (by omega))) y5, RV_I y6 Z2, RL_I y6 Z2 (by rw [Zo w (by omega)]) (fun x hx => Zo x (by rcases hx with e | e <;> exact nr x _ e (by omega))) y7⟩
      · show (grq X c0 k0 n0 (uN js l (js l + 1)) os l ++ gR X c0 k0 n0 (uN js l (js l + 1)) os l).length ≤ st
        rw [← eg, er, lenL]; exact le1
      · show TL X tr (tcl Z) c0 k0 n0 (uN js l (js l + 1)) os l
        rw [tz]
        exact TL_cg cgl (fun i hi => hND i (by omega))
      · show NH X (tcl Z) (csq X c0 k0 (uN js l (js l + 1)) os l) l (ndq X c0 k0 n0 (uN js l (js l + 1)) os l)
        rw [tz, ← ec, ← ed]; exact nh
      · show TV Z own (ndq X c0 k0 n0 (uN js l (js l + 1)) os l + 1)
        rw [← ed]; exact TV_I tv (Z2.trans s72)
