/-! the class: one STEP of a search -/
theorem e_ask (d : Nat) {own : Nat → Nat} {aQ k0 n0 l st : Nat} {tr : Nat → Nat} {X : sX} {c0 : Nat → Int} {js : Nat → Nat} {os : Nat → Int} {σ : am_S} {K : am_S → Prop} (hl : l < 7) (hP : P0 σ own aQ k0 tr X c0 n0 l js os st) (hlt : (grq X c0 k0 n0 js os l).length < st ∧ ∀ i, i < l → js i < st)
    (h : ∀ s own', OFr σ s own own' p0 → CS s own' aQ k0 tr X c0 (stp X c0 k0 (0, n0, l, js, os)) st → K s) : am_Calls PP MLL (d + 6) m_Search_ask [qr (12, 5, 18), qr (qA aQ l, 3, 10)] σ (kV K) := by
  obtain ⟨⟨hE, hn, hst, hf, hcn⟩, hG, h11, h12, hLv, hQ, ⟨g, w, hR⟩, hlen, hT0, hTV, h18⟩ := hP
  have h87 := SE_87 hE
  have hC := SE_CF hE
  have hqa := hE.1.1
  have ho := hE.1.2.2.2.2
  have ol := qA_ow hE hl
  have r4 := hR.2.1
  have n12 : (12 : Nat) ≠ qA aQ l := own_ne (h87 12 (by decide)) ol (by omega)
  have mb := mn_bd X (csq X c0 k0 js os l)
  refine v_Search_ask_0 d aQ l g σ K hC hqa r4 ?_
  rw [hR.2.2.2.2.1.1]
  obtain ⟨B, eB⟩ : ∃ B, B = putI σ (qA aQ l) 8 ((grq X c0 k0 n0 js os l).length : Int) := ⟨_, rfl⟩
  rw [← eB]
  have B2 : B.2 = σ.2 := by rw [eB]; rfl
  have Bo : ∀ x, x ≠ qA aQ l → sI B x = sI σ x := fun x hx => by rw [eB, put_ne hx]
  have Bq : ∀ j, sI B (qA aQ l) j = if j = 8 then ((grq X c0 k0 n0 js os l).length : Int) else sI σ (qA aQ l) j := fun j => by rw [eB, put_at]
  have Bp : ∀ x, ¬ p0 (own x) → sI B x = sI σ x := fun x hp => Bo x (fun e => hp (by rw [e, ol]; unfold p0; omega))
  have O1 : OFr σ B own own (fun r => 2000 ≤ r) := OFr_I B2 (fun x _ hp => Bo x (fun e => hp (by rw [e, ol]; omega)))
  have O0 : OFr σ B own own p0 := OFr_I B2 (fun x _ hp => Bp x hp)
  have tB : tcl B = tcl σ := by rw [eB]; exact tcl_ne hTV (by omega)
  have EB : SE B own aQ k0 tr X c0 := SE_I hE B2 (fun x _ hp => Bp x hp) (by rw [Bo 12 n12]; exact ⟨rfl, rfl, rfl⟩)
  have RB : RW B own g w (grq X c0 k0 n0 js os l) (wh X c0 k0 n0) := RW_fr O1 (fun r _ _ => by omega) (fun j => R2' B2 12 j) hR
  have QBB : QB B (qA aQ l) X (csq X c0 k0 js os l) := ⟨by rw [Bq, if_neg (by decide)]; exact hQ.1, by rw [Bq, if_neg (by decide)]; exact hQ.2.1, fun p hp => by rw [Bo _ (by omega)]; exact hQ.2.2 p hp⟩
  have LvB : ∀ i, i < l → LQ B aQ X c0 k0 n0 js os i ∧ LT B aQ X c0 k0 n0 js os i ∧ js i < st := by
    intro i hi
    obtain ⟨y1, y2, y3⟩ := hLv i hi
    obtain ⟨z1, z2⟩ := LQ_fr (σ := σ) (s := B) (aQ := aQ) (X := X) (c0 := c0) (k0 := k0) (n0 := n0) (js := js) (os := os) (i := i) (fun k hk => Bo _ (by unfold qA; omega))
    exact ⟨z1 y1, z2 y2, hlt.2 i hi⟩
  have hPB : PB B own aQ k0 tr X c0 n0 l js os st g w := ⟨⟨EB, hn, hst, by rw [Bo 12 n12]; exact hf, hcn⟩, hG, by rw [Bo 12 n12]; exact h11, by rw [Bo 12 n12]; exact h12, LvB, QBB, by rw [Bq, if_pos rfl], RB, ⟨hlt.1, hlen.2⟩, by rw [tB]; exact hT0, TV_I hTV B2, by rw [Bo 18 (own_ne (h87 18 (by decide)) ol (by omega))]; exact h18⟩
  rw [QBB.2.1]
  refine ⟨fun c => ⟨fun c2 => by omega, fun _ => ?_⟩, fun c => ?_⟩
  · have hm2 : mn X (csq X c0 k0 js os l) < 2 := by omega
    refine c_ansY d hl (own := own) (js := js) (os := os) ⟨hPB.1, hG, can_2 hm2, hPB.2.2.1, hPB.2.2.2.1, fun i hi => ⟨(LvB i hi).1, (LvB i hi).2.1, by have := (LvB i hi).2.2; omega⟩, by rw [Bq, if_pos rfl], ⟨g, w, [], by rw [List.append_nil]; exact RB⟩, ⟨by omega, hlen.2⟩, by rw [tB]; exact T0_0 c hT0, Or.inl c, by rw [tsz_0 c]; exact TV_I hTV B2, by rw [tsz_0 c]; exact hPB.2.2.2.2.2.2.2.2.2.2.2⟩ (fun s own' p q => h s own' (OFr_tr O0 p (fun _ z => z) (fun _ z => z)) ?_)
    rw [stp_Y hm2]
    exact q
  · refine e_askNode d hl hPB c ?_
    intro t own' o1 pa
    have Et := pa.1.1
    refine ⟨⟨SE_CF Et, Et.1.1, pa.2.2.2.2.2.2.2.2.1.2.1⟩, ?_⟩
    have f10 := pa.1.2.2.2.1.1
    have f11 := pa.2.2.1
    have f4 := pa.2.2.2.2.2.1.2.1
    refine ⟨fun c2 => ?_, fun c2 => ?_⟩
    · have ln := GL_n hG
      refine ⟨by rw [f10, f11]; omega, ?_⟩
      rw [f4] at c2
      exact e_askW d hl pa (by omega) (fun s own2 p q => h s own2 (OFr_tr O0 (OFr_tr o1 p (fun _ z => z) (fun _ z => z)) (fun _ z => z) (fun _ z => z)) q)
    · rw [f4] at c2
      have hm2 : mn X (csq X c0 k0 js os l) < 2 := by omega
      refine c_ansY d hl (PA_Y pa c hm2) (fun s own2 p q => h s own2 (OFr_tr O0 (OFr_tr o1 p (fun _ z => z) (fun _ z => z)) (fun _ z => z) (fun _ z => z)) ?_)
      rw [stp_Y hm2]
      exact q
theorem v_Search_look_0 (d : Nat) (aQ l g : Nat) (σ : am_S) (K : am_S → Prop) (hC : CF σ) (hQ : QA σ aQ) (hg : sR σ 12 4 = some (g, 4, 3)) (h :
  l < 7 ∧
  am_Calls PP MLL (d + 5) m_Tree_layOn [qr (18, 8, 2), qi (sI σ (qA aQ l) 7), qi (sI σ (qA aQ l + 3) 9), qi (sI σ (qA aQ l + 3) 10)] σ (kV fun s1 =>
    (CF s1 ∧ QA s1 aQ ∧ sR s1 12 4 = some (g, 4, 3)) ∧
    am_Calls PP MLL (d + 5) m_Rows_add [qr (g, 4, 3), qi (sI (putI s1 (qA aQ l) 9 (sI s1 g 2)) (qA aQ l + 3) 8), qi 0] (putI s1 (qA aQ l) 9 (sI s1 g 2)) (kV fun s2 =>
      (CF s2 ∧ QA s2 aQ ∧ sR s2 12 4 = some (g, 4, 3)) ∧
      am_Calls PP MLL (d + 5) m_Search_hearAll [qr (12, 5, 18), qr (qA aQ l, 3, 10), qi (sI s2 12 11)] s2 (kV fun s3 =>
        (CF s3 ∧ QA s3 aQ ∧ sR s3 12 4 = some (g, 4, 3)) ∧
        (-2147483648 ≤ -(sI s3 (qA aQ l) 5) ∧ -(sI s3 (qA aQ l) 5) < 2147483648) ∧
        am_Calls PP MLL (d + 5) m_Search_askBehind [qr (12, 5, 18), qr (qA aQ l, 3, 10)] (putI s3 (qA aQ l) 6 (-(sI s3 (qA aQ l) 5))) (kV fun s4 =>
          K s4))))) : am_Runs PP MLL (d + 5) m_Search_look 0 [some (qr (12, 5, 18)), some (qr (qA aQ l, 3, 10))] [] σ (kV K) := am_wEF_ok (orc [(1, 18, 8, 2), (5, qA aQ l + 3, 10, 11), (8, qA aQ l + 3, 10, 11), (13, g, 4, 3), (17, g, 4, 3), (19, qA aQ l + 3, 10, 11)]) 200 (⟨⟨rfl, (hC 12 3 _ rfl)⟩, ⟨rfl, ⟨⟨rfl, (hQ.2 l h.1).2.1.2.2⟩, ⟨rfl, ⟨⟨rfl, (hQ.2 l h.1).2.1.2.2⟩, ⟨rfl, ⟨rfl, (am_cV h.2 fun s1 h1 => ⟨⟨rfl, h1.1.2.2⟩, ⟨rfl, ⟨rfl, ⟨⟨rfl, h1.1.2.2⟩, ⟨⟨rfl, (h1.1.2.1.2 l h.1).2.1.2.2⟩, ⟨rfl, ⟨rfl, (am_cV h1.2 fun s2 h2 => ⟨rfl, ⟨rfl, (am_cV h2.2 fun s3 h3 => ⟨rfl, ⟨⟨h3.2.1.1, h3.2.1.2⟩, ⟨rfl, ⟨rfl, (am_cV h3.2.2 fun s4 h4 => h4)⟩⟩⟩⟩)⟩⟩)⟩⟩⟩⟩⟩⟩⟩)⟩⟩⟩⟩⟩⟩⟩)

theorem stp_L {X : sX} {c0 : Nat → Int} {k0 n0 l : Nat} {js : Nat → Nat} {os : Nat → Int} : stp X c0 k0 (1, n0, l, js, os) = (0, n0, l + 1, js, ud os l (-mo (xK X (k0 + l)))) := by
  unfold stp
  rw [if_neg (show ¬ (1 : Nat) = 0 by decide), if_pos rfl]
theorem e_look (d : Nat) {own : Nat → Nat} {aQ k0 n0 l st : Nat} {tr : Nat → Nat} {X : sX} {c0 : Nat → Int} {js : Nat → Nat} {os : Nat → Int} {σ : am_S} {K : am_S → Prop} (hP : P1 σ own aQ k0 tr X c0 n0 l js os st) (hlt : (grq X c0 k0 n0 js os l ++ gR X c0 k0 n0 js os l).length < st)
    (h : ∀ s own', OFr σ s own own' p0 → CS s own' aQ k0 tr X c0 (stp X c0 k0 (1, n0, l, js, os)) st → K s) : am_Calls PP MLL (d + 6) m_Search_look [qr (12, 5, 18), qr (qA aQ l, 3, 10)] σ (kV K) := by
  obtain ⟨⟨hE, hn, hst, ⟨f10, f13, f15, f16, f17⟩, hcn⟩, hG, ⟨hln, hm, hb, hjw, hjs, hny⟩, h11, h12, hLv, hQl, ⟨g, w, hR⟩, hlen, hTL, hNH, hTV⟩ := hP
  have h87 := SE_87 hE
  have hC := SE_CF hE
  have hqa := hE.1.1
  have hX := hE.2.1.1
  have cv := hE.2.1.2.1.1
  have ho := hE.1.2.2.2.2
  have sNq := hE.1.2.2.1
  have sN87 := hE.1.2.2.2.1
  have hl : l < 7 := by omega
  have ol := qA_ow hE hl
  have r4 := hR.2.1
  have n6 := ndq_6 hX cv hn hG
  have hgw := hR.1
  have og : own g = g := h87 g (by omega)
  obtain ⟨q1, q2, q3, q5, q7, q8⟩ := hQl
  obtain ⟨lf, rt, l9, l10, hS⟩ := q3.2.2
  have hmo := oc_37 X (k0 + l)
  obtain ⟨G, eG⟩ : ∃ G, G = grq X c0 k0 n0 js os l ++ gR X c0 k0 n0 js os l := ⟨_, rfl⟩
  rw [← eG] at hR hlt hlen
  refine v_Search_look_0 d aQ l g σ K hC hqa r4 ⟨hl, ?_⟩
  rw [q7, l9, l10]
  refine c_layOn (d + 4) (own := own) hC hTV (by omega) ?_
  intro s1 a1 a2 a3 a4 a5 a6 a7
  refine ⟨⟨CF_I hC a1, QA_I hqa a1, by rw [R2' a1]; exact r4⟩, ?_⟩
  have e1 : ∀ x, ¬ pT (own x) → sI s1 x = sI σ x := a2
  have gl1 : sI s1 g 2 = (G.length : Int) := by rw [e1 g (by rw [og]; unfold pT; omega)]; exact hR.2.2.2.2.1.1
  have nq3 : qA aQ l + 3 ≠ qA aQ l := by omega
  have qk1 : ∀ i, i < 7 → ∀ k, k < 9 → sI s1 (qA aQ i + k) = sI σ (qA aQ i + k) := fun i hi k hk => e1 _ (by rw [ho i hi k hk]; unfold pT; omega)
  rw [gl1, put_ne nq3, qk1 l hl 3 (by decide), q3.1]
  obtain ⟨C, eC⟩ : ∃ C, C = putI s1 (qA aQ l) 9 (G.length : Int) := ⟨_, rfl⟩
  rw [← eC]
  have C2 : C.2 = σ.2 := by rw [eC]; exact a1
  have Co : ∀ x, x ≠ qA aQ l → sI C x = sI s1 x := fun x hx => by rw [eC, put_ne hx]
  have e10 := qk1 l hl 0 (by decide)
  rw [Nat.add_zero] at e10
  have Cq : ∀ j, sI C (qA aQ l) j = if j = 9 then (G.length : Int) else sI σ (qA aQ l) j := fun j => by rw [eC, put_at, e10]
  have OC : OFr σ C own own (fun r => r = 18 ∨ r = 19 ∨ 2000 ≤ r) := OFr_I C2 (fun x _ hp => by rw [Co x (fun e => hp (by rw [e, ol]; omega)), e1 x (by unfold pT; omega)])
  have EC : SE C own aQ k0 tr X c0 := SE_I hE C2 (fun x hx hp => (OC.1 x hx (by unfold p0 at hp; omega)).1) (by rw [(OC.1 12 (by omega) (by rw [h87 12 (by decide)]; omega)).1]; exact ⟨rfl, rfl, rfl⟩)
  have RC : RW C own g w G (wh X c0 k0 n0) := RW_fr OC (fun r _ _ => by omega) (fun j => R2' C2 12 j) hR
  obtain ⟨_, r4C, r5C, V1, L1, V2, L2⟩ := RC
  have tC : tcl C = tcl s1 := by rw [eC]; exact tcl_ne (TV_I hTV a1) (by omega)
  refine c_Rows_add (d + 1) (by omega) (SE_CF EC) V1 L1 (by omega) ?_
  intro s2 own2 b1 b2 b3 b4
  have O2 : ∀ x, x < sN σ → ¬ pR g (own x) → sI s2 x = sI C x ∧ ∀ j, sR s2 x j = sR C x j := fun x hx hp => b1.1 x (by rw [show sN C = sN σ by unfold sN; rw [C2]]; exact hx) hp
  have ow2 : ∀ x, x < sN σ → own2 x = own x := fun x hx => b1.2.1 x (by rw [show sN C = sN σ by unfold sN; rw [C2]]; exact hx)
  have e12 := O2 12 (by omega) (by rw [h87 12 (by decide)]; unfold pR; omega)
  have E2 : SE s2 own2 aQ k0 tr X c0 := SE_fr EC ⟨fun x hx hp => b1.1 x hx (fun z => hp (by unfold p0; unfold pR at z; omega)), b1.2⟩ (by rw [e12.1]; exact ⟨rfl, rfl, rfl⟩) (fun j _ _ => e12.2 j) (fun x hx hq j => (b1.1 x hx (by unfold pR; omega)).2 j)
  have R2a : RW s2 own2 g w (G ++ [((js l : Int), 0)]) (wh X c0 k0 n0) := by
    have npw : ¬ pR g w ∧ ¬ pR g (w + 1) ∧ ¬ pR g (w + 2) := by unfold pR; omega
    exact ⟨hgw, by rw [e12.2]; exact r4C, by rw [e12.2]; exact r5C, by rw [List.length_append]; exact b3, b4, RV_fr b1 (by omega) npw.1 V2, RL_fr b1 (by omega) npw V2 L2⟩
  have q12 : sI C 12 = sI σ 12 := (OC.1 12 (by omega) (by rw [h87 12 (by decide)]; omega)).1
  have f11 : sI s2 12 11 = l := by rw [e12.1, q12]; exact h11
  refine ⟨⟨b2, E2.1.1, by rw [e12.2]; exact r4C⟩, ?_⟩
  rw [f11]
  have lq : ∀ i, i < 7 → ∀ k, k < 9 → qA aQ i + k < sN σ := fun i hi k hk => by unfold qA; omega
  have qk2 : ∀ i, i < 7 → ∀ k, k < 9 → sI s2 (qA aQ i + k) = sI C (qA aQ i + k) := fun i hi k hk => (O2 _ (lq i hi k hk) (by rw [ho i hi k hk]; unfold pR; omega)).1
  have qkC : ∀ i, i < 7 → ∀ k, k < 9 → (i = l → 1 ≤ k) → sI s2 (qA aQ i + k) = sI σ (qA aQ i + k) := fun i hi k hk hc => by
    rw [qk2 i hi k hk, Co _ (by unfold qA; omega)]
    exact qk1 i hi k hk
  have q02 : ∀ j, sI s2 (qA aQ l) j = if j = 9 then (G.length : Int) else sI σ (qA aQ l) j := fun j => by
    have := qk2 l hl 0 (by decide)
    rw [Nat.add_zero] at this
    rw [this, Cq]
  have QB2 : QB s2 (qA aQ l) X (csq X c0 k0 js os l) := ⟨by rw [q02, if_neg (by decide)]; exact q1.1, by rw [q02, if_neg (by decide)]; exact q1.2.1, fun p hp => by rw [qkC l hl 1 (by decide) (fun _ => by decide)]; exact q1.2.2 p hp⟩
  refine e_hear d (c := csq X c0 k0 js os l) (v := wAt X (csq X c0 k0 js os l) (js l)) E2 hl QB2 ⟨lf, rt, by rw [qkC l hl 3 (by decide) (fun _ => by decide)]; exact l9, by rw [qkC l hl 3 (by decide) (fun _ => by decide)]; exact l10, hS⟩ ?_
  intro s3 c1 c2 c3
  have ho2 := E2.1.2.2.2.2
  have h872 := SE_87 E2
  have e3l : sI s3 (qA aQ l) = sI s2 (qA aQ l) := c2 _ (by omega)
  have p3 : ∀ x, ¬ p0 (own2 x) → sI s3 x = sI s2 x := fun x hp => c2 x (fun e => hp (by rw [e, ho2 l hl 2 (by decide)]; unfold p0; omega))
  have e312 : sI s3 12 = sI s2 12 := c2 12 (own_ne (h872 12 (by decide)) (ho2 l hl 2 (by decide)) (by omega))
  have E3 : SE s3 own2 aQ k0 tr X c0 := SE_I E2 c1 (fun x _ hp => p3 x hp) (by rw [e312]; exact ⟨rfl, rfl, rfl⟩)
  refine ⟨⟨SE_CF E3, E3.1.1, by rw [R2' c1]; exact R2a.2.1⟩, ?_⟩
  rw [e3l, q02, if_neg (by decide), q5]
  refine ⟨by omega, ?_⟩
  obtain ⟨D, eD⟩ : ∃ D, D = putI s3 (qA aQ l) 6 (-mo (xK X (k0 + l))) := ⟨_, rfl⟩
  rw [← eD]
  have D2 : D.2 = s2.2 := by rw [eD]; exact c1
  have Do : ∀ x, x ≠ qA aQ l → sI D x = sI s3 x := fun x hx => by rw [eD, put_ne hx]
  have Dq : ∀ j, sI D (qA aQ l) j = if j = 6 then -mo (xK X (k0 + l)) else if j = 9 then (G.length : Int) else sI σ (qA aQ l) j := fun j => by rw [eD, put_at, e3l, q02]
  have ol2 := qA_ow E2 hl
  have n12 : (12 : Nat) ≠ qA aQ l := own_ne (h872 12 (by decide)) ol2 (by omega)
  have Dp : ∀ x, ¬ p0 (own2 x) → sI D x = sI s2 x := fun x hp => by rw [Do x (fun e => hp (by rw [e, ol2]; unfold p0; omega)), p3 x hp]
  have d12 : sI D 12 = sI s2 12 := by rw [Do 12 n12, e312]
  have ED : SE D own2 aQ k0 tr X c0 := SE_I E2 D2 (fun x _ hp => Dp x hp) (by rw [d12]; exact ⟨rfl, rfl, rfl⟩)
  have Dk : ∀ k, 1 ≤ k → k < 9 → k ≠ 2 → sI D (qA aQ l + k) = sI σ (qA aQ l + k) := fun k k1 k2 k3 => by rw [Do _ (by omega), c2 _ (by omega)]; exact qkC l hl k k2 (fun _ => k1)
  refine e_behind (d + 1) (c := csq X c0 k0 js os l) (v := wAt X (csq X c0 k0 js os l) (js l)) (o := -mo (xK X (k0 + l))) ED (by omega) (by rw [d12]; exact f11) ⟨by rw [Dq, if_neg (by decide), if_neg (by decide)]; exact q1.1, by rw [Dq, if_neg (by decide), if_neg (by decide)]; exact q1.2.1, fun p hp => by rw [Dk 1 (by decide) (by decide) (by decide)]; exact q1.2.2 p hp⟩ (csq_CV hX cv l) (fun p hp hc => by rw [Do _ (by omega)]; exact c3 p hp hc) (by rw [Dq, if_pos rfl]) ?_
  intro s y1 y2 y3 y4 y5 y6 y7
  have sD : s.2 = s2.2 := y1.trans D2
  have nb : ∀ x, own2 x < 2000 → x ≠ qA aQ (l + 1) ∧ x ≠ qA aQ (l + 1) + 1 ∧ x ≠ qA aQ l ∧ x ≠ qA aQ l + 2 := by
    intro x hx
    have z1 := qA_ow E2 (i := l + 1) (by omega)
    have z2 := ho2 (l + 1) (by omega) 1 (by decide)
    have z3 := ho2 l hl 2 (by decide)
    exact ⟨fun e => by rw [e] at hx; omega, fun e => by rw [e] at hx; omega, fun e => by rw [e] at hx; omega, fun e => by rw [e] at hx; omega⟩
  have es : ∀ x, own2 x < 2000 → x ≠ 12 → sI s x = sI s2 x := fun x hx hx2 => by rw [y2 x hx2 (nb x hx).1 (nb x hx).2.1, Do x (nb x hx).2.2.1, c2 x (nb x hx).2.2.2]
  have sp : ∀ x, ¬ p0 (own2 x) → sI s x = sI s2 x := fun x hp => es x (by unfold p0 at hp; omega) (fun e => hp (by rw [e, h872 12 (by decide)]; unfold p0; omega))
  have s12 : ∀ j, j ≠ 11 → j ≠ 12 → sI s 12 j = sI σ 12 j := fun j j1 j2 => by rw [y5 j j1 j2, d12, e12.1, q12]
  have nr : ∀ x r, own2 x = r → r ≠ 12 → x ≠ 12 := fun x r e1 e2 e => by rw [e, h872 12 (by decide)] at e1; omega
  have nq : ∀ i, i < 7 → ∀ k, k < 9 → qA aQ i + k ≠ 12 := fun i hi k hk => nr _ _ (ho2 i hi k hk) (by omega)
  have tv2 : TV s2 own2 (ndq X c0 k0 n0 js os l + 1) := TV_fr b1 (by unfold pR; omega) (TV_I hTV C2)
  have t2 : tcl s2 = tcl C := tcl_fr b1 (by unfold pR; omega) (TV_I hTV C2)
  have ts : tcl s = tcl s1 := by
    rw [← tC, ← t2]
    exact tcl_I tv2 sD (fun x hx => es x (by omega) (nr x 19 hx (by decide)))
  have OO : OFr σ s own own2 p0 := OFr_tr OC (OFr_tr b1 (OFr_I sD (fun x _ hp => sp x hp)) (r := p0) (fun r z => by unfold pR at z; unfold p0; omega) (fun _ z => z)) (fun r z => by unfold p0; omega) (fun _ z => z)
  have cgl : ∀ q, q < l → js q = js q ∧ os q = ud os l (-mo (xK X (k0 + l))) q := fun q hq => ⟨rfl, by unfold ud; rw [if_neg (by omega)]⟩
  have uol : ud os l (-mo (xK X (k0 + l))) l = -mo (xK X (k0 + l)) := by unfold ud; rw [if_pos rfl]
  have ec := csq_congr (X := X) (c0 := c0) (k0 := k0) l cgl
  have ed := (ndq_congr (X := X) (c0 := c0) (k0 := k0) (n0 := n0) l cgl).1
  have eg0 := grq_congr (X := X) (c0 := c0) (k0 := k0) (n0 := n0) (js := js) (js' := js) (os := os) (os' := ud os l (-mo (xK X (k0 + l)))) l (fun q hq => ⟨rfl, fun _ => (cgl q hq).2⟩)
  have eg1 := gR_cg (X := X) (c0 := c0) (k0 := k0) (n0 := n0) (js := js) (js' := js) cgl rfl
  have eg : grq X c0 k0 n0 js (ud os l (-mo (xK X (k0 + l)))) (l + 1) = G ++ [((js l : Int), 0)] := by rw [grq_s, ← eg0, ← eg1, eG]
  have eoi : oi X (k0 + l) (-mo (xK X (k0 + l))) = 0 := by unfold oi; omega
  have ecs : csq X c0 k0 js (ud os l (-mo (xK X (k0 + l)))) (l + 1) = mkc X (csq X c0 k0 js os l) (k0 + l) (sdw X (csq X c0 k0 js os l) (wAt X (csq X c0 k0 js os l) (js l))) (-mo (xK X (k0 + l))) := by
    show mkc X (csq X c0 k0 js (ud os l (-mo (xK X (k0 + l)))) l) (k0 + l) (sdw X (csq X c0 k0 js (ud os l (-mo (xK X (k0 + l)))) l) (wAt X (csq X c0 k0 js (ud os l (-mo (xK X (k0 + l)))) l) (js l))) (ud os l (-mo (xK X (k0 + l))) l) = _
    rw [← ec, uol]
  have end' : ndq X c0 k0 n0 js (ud os l (-mo (xK X (k0 + l)))) (l + 1) = ndq X c0 k0 n0 js os l + 1 := by
    show ndq X c0 k0 n0 js (ud os l (-mo (xK X (k0 + l)))) l + 1 + tof X (n0 - (l + 1)) (csq X c0 k0 js (ud os l (-mo (xK X (k0 + l)))) l) (k0 + l) (wAt X (csq X c0 k0 js (ud os l (-mo (xK X (k0 + l)))) l) (js l)) (oi X (k0 + l) (ud os l (-mo (xK X (k0 + l))) l)) = _
    rw [← ec, ← ed, uol, eoi]
    rfl
  rw [stp_L] at h
  refine h s own2 OO (Or.inl ⟨rfl, ⟨SE_I E2 sD (fun x _ hp => sp x hp) ?_, hn, hst, ?_, hcn⟩, fun i hi => ?_, y3, y4, fun i hi => ?_, ?_, ⟨g, w, ?_⟩, ⟨?_, hlen.2⟩, fun i hi => ?_, ?_, ?_⟩)
  · rw [s12 7 (by decide) (by decide), s12 8 (by decide) (by decide), s12 9 (by decide) (by decide), e12.1, q12]
    exact ⟨rfl, rfl, rfl⟩
  · rw [s12 10 (by decide) (by decide), s12 13 (by decide) (by decide), s12 15 (by decide) (by decide), s12 16 (by decide) (by decide), s12 17 (by decide) (by decide)]
    exact ⟨f10, f13, f15, f16, f17⟩
  · have hi' : i < l + 1 := hi
    show i < n0 ∧ 2 ≤ mn X (csq X c0 k0 js (ud os l (-mo (xK X (k0 + l)))) i) ∧ ¬ big X (n0 - i) (csq X c0 k0 js (ud os l (-mo (xK X (k0 + l)))) i) ∧ js i < wct X (csq X c0 k0 js (ud os l (-mo (xK X (k0 + l)))) i) ∧ (-mo (xK X (k0 + i)) ≤ ud os l (-mo (xK X (k0 + l))) i ∧ ud os l (-mo (xK X (k0 + l))) i ≤ mo (xK X (k0 + i))) ∧ (∀ j, j < js i → ¬ yw X (n0 - (i + 1)) (csq X c0 k0 js (ud os l (-mo (xK X (k0 + l)))) i) (k0 + i) (wAt X (csq X c0 k0 js (ud os l (-mo (xK X (k0 + l)))) i) j)) ∧ ∀ u, u < oi X (k0 + i) (ud os l (-mo (xK X (k0 + l))) i) → can X (n0 - (i + 1)) (chd X (csq X c0 k0 js (ud os l (-mo (xK X (k0 + l)))) i) (k0 + i) (wAt X (csq X c0 k0 js (ud os l (-mo (xK X (k0 + l)))) i) (js i)) u) (k0 + i + 1)
    by_cases e : i < l
    · exact GL_cg cgl hG i e
    · have : i = l := by omega
      rw [this, ← ec, uol]
      refine ⟨hln, by omega, hb, hjw, by omega, hny, fun u hu => ?_⟩
      rw [eoi] at hu
      exact absurd hu (Nat.not_lt_zero u)
  · have hi' : i < l + 1 := hi
    show LQ s aQ X c0 k0 n0 js (ud os l (-mo (xK X (k0 + l)))) i ∧ LT s aQ X c0 k0 n0 js (ud os l (-mo (xK X (k0 + l)))) i ∧ js i ≤ st
    by_cases e : i < l
    · obtain ⟨w1, w2, w3⟩ := hLv i e
      obtain ⟨z1, z2⟩ := LQ_fr (s := s) (σ := σ) (aQ := aQ) (i := i) (X := X) (c0 := c0) (k0 := k0) (n0 := n0) (js := js) (os := os) (fun k hk => by
        rw [y2 _ (nq i (by omega) k hk) (by unfold qA; omega) (by unfold qA; omega), Do _ (by unfold qA; omega), c2 _ (by unfold qA; omega)]
        exact qkC i (by omega) k hk (fun e2 => by omega))
      obtain ⟨x1, x2⟩ := LQ_cg (σ := s) (aQ := aQ) (X := X) (c0 := c0) (k0 := k0) (n0 := n0) (js := js) (js' := js) (os := os) (os' := ud os l (-mo (xK X (k0 + l)))) (i := i) (fun q hq => cgl q (by omega)) rfl
      exact ⟨x1 (z1 w1), x2 (cgl i e).2 (z2 w2), w3⟩
    · have : i = l := by omega
      rw [this]
      have el : sI s (qA aQ l) = sI D (qA aQ l) := y2 _ (fun e => n12 e.symm) (by unfold qA; omega) (by unfold qA; omega)
      have ek : ∀ k, 1 ≤ k → k < 9 → sI s (qA aQ l + k) = sI D (qA aQ l + k) := fun k k1 k2 => y2 _ (nq l hl k k2) (by unfold qA; omega) (by unfold qA; omega)
      have ek2 : ∀ k, 1 ≤ k → k < 9 → k ≠ 2 → sI s (qA aQ l + k) = sI σ (qA aQ l + k) := fun k k1 k2 k3 => (ek k k1 k2).trans (Dk k k1 k2 k3)
      obtain ⟨x1, _⟩ := LQ_cg (σ := s) (aQ := aQ) (X := X) (c0 := c0) (k0 := k0) (n0 := n0) (js := js) (js' := js) (os := os) (os' := ud os l (-mo (xK X (k0 + l)))) (i := l) cgl rfl
      refine ⟨x1 ⟨⟨by rw [el, Dq, if_neg (by decide), if_neg (by decide)]; exact q1.1, by rw [el, Dq, if_neg (by decide), if_neg (by decide)]; exact q1.2.1, fun p hp => by rw [ek2 1 (by decide) (by decide) (by decide)]; exact q1.2.2 p hp⟩, QWg_fr q2 (fun j _ _ => by rw [ek2 3 (by decide) (by decide) (by decide)]) (fun k k1 k2 => by rw [Nat.add_assoc]; exact ek2 (3 + k) (by omega) (by omega) (by omega)), QWj_fr q3 (ek2 3 (by decide) (by decide) (by decide)) (ek2 7 (by decide) (by decide) (by decide)) (ek2 8 (by decide) (by decide) (by decide)), by rw [el, Dq, if_neg (by decide), if_neg (by decide)]; exact q5, by rw [el, Dq, if_neg (by decide), if_neg (by decide)]; exact q7, by rw [el, Dq, if_neg (by decide), if_neg (by decide)]; exact q8⟩, ⟨fun p hp hcp => ?_, by rw [el, Dq, if_pos rfl, uol], ?_⟩, hjs⟩
      · rw [ek 2 (by decide) (by decide), Do _ (by omega), ← ec]
        rw [← ec] at hcp
        exact c3 p hp hcp
      · rw [el, Dq, if_neg (by decide), if_pos rfl, ← eg1, ← eg0, eG, List.length_append]
  · show QB s (qA aQ (l + 1)) X (csq X c0 k0 js (ud os l (-mo (xK X (k0 + l)))) (l + 1))
    rw [ecs]; exact y7
  · show RW s own2 g w (grq X c0 k0 n0 js (ud os l (-mo (xK X (k0 + l)))) (l + 1)) (wh X c0 k0 n0)
    rw [eg]
    obtain ⟨k1, k2, k3, k4, k5, k6, k7⟩ := R2a
    have og2 := h872 g (by omega)
    have owb := h872 w (by omega)
    exact ⟨k1, by rw [R2' sD]; exact k2, by rw [R2' sD]; exact k3, RV_I k4 sD, RL_I k4 sD (by rw [es g (by omega) (by omega)]) (fun x hx => es x (by omega) (by rcases hx with e | e <;> exact nr x _ e (by omega))) k5, RV_I k6 sD, RL_I k6 sD (by rw [es w (by omega) (by omega)]) (fun x hx => es x (by omega) (by rcases hx with e | e <;> exact nr x _ e (by omega))) k7⟩
  · show (grq X c0 k0 n0 js (ud os l (-mo (xK X (k0 + l)))) (l + 1)).length ≤ st
    rw [eg, List.length_append]
    show G.length + 1 ≤ st
    omega
  · have hi' : i < l + 1 := hi
    show ND X tr (tcl s) c0 k0 n0 js (ud os l (-mo (xK X (k0 + l)))) i (oi X (k0 + i) (ud os l (-mo (xK X (k0 + l))) i)) (if i + 1 = l + 1 then -1000 else LK X c0 k0 n0 js (ud os l (-mo (xK X (k0 + l)))) i)
    rw [ts]
    by_cases e : i < l
    · rw [if_neg (by omega), ← (cgl i e).2, ← LK_cg (X := X) (c0 := c0) (k0 := k0) (n0 := n0) (js := js) (os := os) (fun q hq => cgl q (by omega))]
      refine ND_cg (fun q hq => cgl q (by omega)) rfl (ND_congr (by have := oi_lt (hG i e).2.2.2.2.1; omega) (fun j hj => a4 j (Or.inl ?_)) (hTL i e))
      have m := ndq_mono (X := X) (c0 := c0) (k0 := k0) (n0 := n0) (js := js) (os := os) l (by omega : i + 1 ≤ l)
      have m2 : ndq X c0 k0 n0 js os (i + 1) = ndq X c0 k0 n0 js os i + 1 + tof X (n0 - (i + 1)) (csq X c0 k0 js os i) (k0 + i) (wAt X (csq X c0 k0 js os i) (js i)) (oi X (k0 + i) (os i)) := rfl
      omega
    · have : i = l := by omega
      rw [this, if_pos rfl, uol, eoi]
      refine ND_cg cgl rfl ⟨NH_congr (fun j j1 j2 => a4 j (by omega)) hNH, ⟨lf, rt, a5, a6, hS⟩, fun v hv => absurd hv (Nat.not_lt_zero v), fun v _ v2 => ?_, fun a => ?_, fun v v1 _ => ?_⟩
      · obtain ⟨z1, z2, _⟩ := cl_bd (X := X) (k := k0 + l) (i := ndq X c0 k0 n0 js os l) v2
        have := a7 (cl X (k0 + l) (ndq X c0 k0 n0 js os l) v - 12 * ndq X c0 k0 n0 js os l) (by omega) (by omega)
        rw [show 12 * ndq X c0 k0 n0 js os l + (cl X (k0 + l) (ndq X c0 k0 n0 js os l) v - 12 * ndq X c0 k0 n0 js os l) = cl X (k0 + l) (ndq X c0 k0 n0 js os l) v by omega] at this
        exact this
      · obtain ⟨z1, z2, _⟩ := cl_bd (X := X) (k := k0 + l) (i := ndq X c0 k0 n0 js os l) a
        have := a7 (cl X (k0 + l) (ndq X c0 k0 n0 js os l) 0 - 12 * ndq X c0 k0 n0 js os l) (by omega) (by omega)
        rw [show 12 * ndq X c0 k0 n0 js os l + (cl X (k0 + l) (ndq X c0 k0 n0 js os l) 0 - 12 * ndq X c0 k0 n0 js os l) = cl X (k0 + l) (ndq X c0 k0 n0 js os l) 0 by omega] at this
        exact this
      · rw [Nat.add_assoc]
        exact a7 (5 + v) (by omega) (by omega)
  · show TV s own2 (ndq X c0 k0 n0 js (ud os l (-mo (xK X (k0 + l)))) (l + 1))
    rw [end']; exact TV_I tv2 sD
  · show sI s 18 1 = ndq X c0 k0 n0 js (ud os l (-mo (xK X (k0 + l)))) (l + 1)
    have z18 := h872 18 (by decide)
    have y18 := h87 18 (by decide)
    rw [end', es 18 (by omega) (by decide), (O2 18 (by omega) (by rw [y18]; unfold pR; omega)).1, Co 18 (own_ne y18 ol (by omega)), a3]
    rfl
