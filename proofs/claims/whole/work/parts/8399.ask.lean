/-! the class: a STEP that asks, whole -/
theorem v_Search_ask_0 (d : Nat) (aQ l g : Nat) (σ : am_S) (K : am_S → Prop) (hC : CF σ) (hQ : QA σ aQ) (hg : sR σ 12 4 = some (g, 4, 3)) (h :
  (((sI (putI σ (qA aQ l) 8 (sI σ g 2)) (qA aQ l) 4) ≤ 0 →
    ((1 < (sI (putI σ (qA aQ l) 8 (sI σ g 2)) (qA aQ l) 4) →
      (-2147483648 ≤ (sI (putI σ (qA aQ l) 8 (sI σ g 2)) 12 10) - (sI (putI σ (qA aQ l) 8 (sI σ g 2)) 12 11) ∧ (sI (putI σ (qA aQ l) 8 (sI σ g 2)) 12 10) - (sI (putI σ (qA aQ l) 8 (sI σ g 2)) 12 11) < 2147483648) ∧
      am_Calls PP MLL (d + 5) m_Search_isHopeless [qr (12, 5, 18), qi (sI (putI σ (qA aQ l) 8 (sI σ g 2)) (qA aQ l) 4), qi ((sI (putI σ (qA aQ l) 8 (sI σ g 2)) 12 10) - (sI (putI σ (qA aQ l) 8 (sI σ g 2)) 12 11))] (putI σ (qA aQ l) 8 (sI σ g 2)) (kI fun x5 s5 =>
        (CF s5 ∧ QA s5 aQ ∧ sR s5 12 4 = some (g, 4, 3)) ∧
        ((x5 = 0 →
          am_Calls PP MLL (d + 5) m_Search_weigherAt [qr (12, 5, 18), qi (sI s5 12 11)] s5 (kO fun x8 s8 =>
            (CF s8 ∧ QA s8 aQ ∧ sR s8 12 4 = some (g, 4, 3)) ∧
            ((rg x8).2.1 = 0 ∧ l < 7) ∧
            am_Calls PP MLL (d + 5) m_Weighings_begin [qr (qA aQ l + 3, 10, 11), qr (13, 6, 5), qr (qA aQ l + 1, 20, 60)] (putI s8 (qA aQ l) 5 (sI s8 ((rg x8).1) 5)) (kV fun s9 =>
              (CF s9 ∧ QA s9 aQ ∧ sR s9 12 4 = some (g, 4, 3)) ∧
              am_Calls PP MLL (d + 5) m_Weighings_advance [qr (qA aQ l + 3, 10, 11)] s9 (kI fun x10 s10 =>
                (CF s10 ∧ QA s10 aQ ∧ sR s10 12 4 = some (g, 4, 3)) ∧
                ((x10 = 0 →
                  am_Calls PP MLL (d + 5) m_Search_answer [qr (12, 5, 18), qi 0] s10 (kV fun s13 =>
                    K s13)) ∧
                (¬ (x10 = 0) →
                  K (putI s10 12 12 0))))))) ∧
        (¬ (x5 = 0) →
          am_Calls PP MLL (d + 5) m_Rows_add [qr (g, 4, 3), qi (-1), qi (sI s5 (qA aQ l) 4)] s5 (kV fun s14 =>
            (CF s14 ∧ QA s14 aQ ∧ sR s14 12 4 = some (g, 4, 3)) ∧
            am_Calls PP MLL (d + 5) m_Search_answer [qr (12, 5, 18), qi 0] s14 (kV fun s15 =>
              K s15)))))) ∧
    (¬ (1 < (sI (putI σ (qA aQ l) 8 (sI σ g 2)) (qA aQ l) 4)) →
      am_Calls PP MLL (d + 5) m_Search_answer [qr (12, 5, 18), qi 1] (putI σ (qA aQ l) 8 (sI σ g 2)) (kV fun s16 =>
        K s16)))) ∧
  (¬ ((sI (putI σ (qA aQ l) 8 (sI σ g 2)) (qA aQ l) 4) ≤ 0) →
    am_Calls PP MLL (d + 5) m_Search_addNode [qr (12, 5, 18), qr (qA aQ l, 3, 10)] (putI σ (qA aQ l) 8 (sI σ g 2)) (kV fun s17 =>
      (CF s17 ∧ QA s17 aQ ∧ sR s17 12 4 = some (g, 4, 3)) ∧
      ((1 < (sI s17 (qA aQ l) 4) →
        (-2147483648 ≤ (sI s17 12 10) - (sI s17 12 11) ∧ (sI s17 12 10) - (sI s17 12 11) < 2147483648) ∧
        am_Calls PP MLL (d + 5) m_Search_isHopeless [qr (12, 5, 18), qi (sI s17 (qA aQ l) 4), qi ((sI s17 12 10) - (sI s17 12 11))] s17 (kI fun x20 s20 =>
          (CF s20 ∧ QA s20 aQ ∧ sR s20 12 4 = some (g, 4, 3)) ∧
          ((x20 = 0 →
            am_Calls PP MLL (d + 5) m_Search_weigherAt [qr (12, 5, 18), qi (sI s20 12 11)] s20 (kO fun x23 s23 =>
              (CF s23 ∧ QA s23 aQ ∧ sR s23 12 4 = some (g, 4, 3)) ∧
              ((rg x23).2.1 = 0 ∧ l < 7) ∧
              am_Calls PP MLL (d + 5) m_Weighings_begin [qr (qA aQ l + 3, 10, 11), qr (13, 6, 5), qr (qA aQ l + 1, 20, 60)] (putI s23 (qA aQ l) 5 (sI s23 ((rg x23).1) 5)) (kV fun s24 =>
                (CF s24 ∧ QA s24 aQ ∧ sR s24 12 4 = some (g, 4, 3)) ∧
                am_Calls PP MLL (d + 5) m_Weighings_advance [qr (qA aQ l + 3, 10, 11)] s24 (kI fun x25 s25 =>
                  (CF s25 ∧ QA s25 aQ ∧ sR s25 12 4 = some (g, 4, 3)) ∧
                  ((x25 = 0 →
                    am_Calls PP MLL (d + 5) m_Search_answer [qr (12, 5, 18), qi 0] s25 (kV fun s28 =>
                      K s28)) ∧
                  (¬ (x25 = 0) →
                    K (putI s25 12 12 0))))))) ∧
          (¬ (x20 = 0) →
            am_Calls PP MLL (d + 5) m_Rows_add [qr (g, 4, 3), qi (-1), qi (sI s20 (qA aQ l) 4)] s20 (kV fun s29 =>
              (CF s29 ∧ QA s29 aQ ∧ sR s29 12 4 = some (g, 4, 3)) ∧
              am_Calls PP MLL (d + 5) m_Search_answer [qr (12, 5, 18), qi 0] s29 (kV fun s30 =>
                K s30)))))) ∧
      (¬ (1 < (sI s17 (qA aQ l) 4)) →
        am_Calls PP MLL (d + 5) m_Search_answer [qr (12, 5, 18), qi 1] s17 (kV fun s31 =>
          K s31))))))) : am_Runs PP MLL (d + 5) m_Search_ask 0 [some (qr (12, 5, 18)), some (qr (qA aQ l, 3, 10))] [] σ (kV K) := am_wEF_ok (orc [(2, g, 4, 3), (30, g, 4, 3), (47, qA aQ l + 3, 10, 11), (49, 13, 6, 5), (51, qA aQ l + 1, 20, 60), (54, qA aQ l + 3, 10, 11)]) 200 (⟨⟨rfl, hg⟩, ⟨rfl, ⟨rfl, ⟨rfl, ⟨fun c2 => ⟨rfl, ⟨fun c4 => ⟨rfl, ⟨rfl, ⟨rfl, ⟨⟨((h.1 c2).1 c4).1.1, ((h.1 c2).1 c4).1.2⟩, ⟨rfl, (am_cI ((h.1 c2).1 c4).2 fun x5 s5 h5 => ⟨fun c7 => ⟨rfl, ⟨rfl, (am_cO (h5.2.1 c7) fun x8 s8 h8 => ⟨h8.2.1.1, ⟨rfl, ⟨⟨rfl, (h8.1.2.1.2 l h8.2.1.2).2.1.2.2⟩, ⟨⟨rfl, (h8.1.1 12 1 _ rfl)⟩, ⟨⟨rfl, (h8.1.2.1.2 l h8.2.1.2).2.1.1⟩, ⟨rfl, (am_cV h8.2.2 fun s9 h9 => ⟨⟨rfl, (h9.1.2.1.2 l h8.2.1.2).2.1.2.2⟩, ⟨rfl, (am_cI h9.2 fun x10 s10 h10 => ⟨fun c12 => ⟨rfl, (am_cV (h10.2.1 c12) fun s13 h13 => h13)⟩, fun c12 => ⟨⟨rfl, (Or.inl rfl)⟩, (h10.2.2 c12)⟩⟩)⟩⟩)⟩⟩⟩⟩⟩⟩)⟩⟩, fun c7 => ⟨⟨rfl, h5.1.2.2⟩, ⟨rfl, ⟨rfl, (am_cV (h5.2.2 c7) fun s14 h14 => ⟨rfl, (am_cV h14.2 fun s15 h15 => h15)⟩)⟩⟩⟩⟩)⟩⟩⟩⟩⟩, fun c4 => ⟨rfl, (am_cV ((h.1 c2).2 c4) fun s16 h16 => h16)⟩⟩⟩, fun c2 => ⟨rfl, (am_cV (h.2 c2) fun s17 h17 => ⟨rfl, ⟨fun c19 => ⟨rfl, ⟨rfl, ⟨rfl, ⟨⟨(h17.2.1 c19).1.1, (h17.2.1 c19).1.2⟩, ⟨rfl, (am_cI (h17.2.1 c19).2 fun x20 s20 h20 => ⟨fun c22 => ⟨rfl, ⟨rfl, (am_cO (h20.2.1 c22) fun x23 s23 h23 => ⟨h23.2.1.1, ⟨rfl, ⟨⟨rfl, (h23.1.2.1.2 l h23.2.1.2).2.1.2.2⟩, ⟨⟨rfl, (h23.1.1 12 1 _ rfl)⟩, ⟨⟨rfl, (h23.1.2.1.2 l h23.2.1.2).2.1.1⟩, ⟨rfl, (am_cV h23.2.2 fun s24 h24 => ⟨⟨rfl, (h24.1.2.1.2 l h23.2.1.2).2.1.2.2⟩, ⟨rfl, (am_cI h24.2 fun x25 s25 h25 => ⟨fun c27 => ⟨rfl, (am_cV (h25.2.1 c27) fun s28 h28 => h28)⟩, fun c27 => ⟨⟨rfl, (Or.inl rfl)⟩, (h25.2.2 c27)⟩⟩)⟩⟩)⟩⟩⟩⟩⟩⟩)⟩⟩, fun c22 => ⟨⟨rfl, h20.1.2.2⟩, ⟨rfl, ⟨rfl, (am_cV (h20.2.2 c22) fun s29 h29 => ⟨rfl, (am_cV h29.2 fun s30 h30 => h30)⟩)⟩⟩⟩⟩)⟩⟩⟩⟩⟩, fun c19 => ⟨rfl, (am_cV (h17.2.2 c19) fun s31 h31 => h31)⟩⟩⟩)⟩⟩⟩⟩⟩⟩)

theorem stp_Y {X : sX} {c0 : Nat → Int} {k0 n0 l : Nat} {js : Nat → Nat} {os : Nat → Int} (h : mn X (csq X c0 k0 js os l) < 2) : stp X c0 k0 (0, n0, l, js, os) = upY X k0 n0 js os l := by
  unfold stp
  rw [if_pos rfl, if_pos h]
theorem stp_B {X : sX} {c0 : Nat → Int} {k0 n0 l : Nat} {js : Nat → Nat} {os : Nat → Int} (h : ¬ mn X (csq X c0 k0 js os l) < 2) (hb : big X (n0 - l) (csq X c0 k0 js os l)) : stp X c0 k0 (0, n0, l, js, os) = upN X c0 k0 n0 js os l := by
  unfold stp
  rw [if_pos rfl, if_neg h, if_pos hb]
theorem stp_W {X : sX} {c0 : Nat → Int} {k0 n0 l : Nat} {js : Nat → Nat} {os : Nat → Int} (h : ¬ mn X (csq X c0 k0 js os l) < 2) (hb : ¬ big X (n0 - l) (csq X c0 k0 js os l)) : stp X c0 k0 (0, n0, l, js, os) = match wsq X (csq X c0 k0 js os l) 0 with | some _ => (1, n0, l, uN js l 0, os) | none => upN X c0 k0 n0 js os l := by
  unfold stp
  rw [if_pos rfl, if_neg h, if_neg hb]
  cases wsq X (csq X c0 k0 js os l) 0 with
  | none => rfl
  | some _ => rfl
theorem GL_n {X : sX} {c0 : Nat → Int} {k0 n0 l : Nat} {js : Nat → Nat} {os : Nat → Int} (h : GL X c0 k0 n0 js os l) : l ≤ n0 := by
  cases l with
  | zero => exact Nat.zero_le _
  | succ l => exact (h l (by omega)).1
/-- from a node to a weighing -/
theorem e_askW (d : Nat) {own : Nat → Nat} {aQ k0 n0 l st g w : Nat} {tr : Nat → Nat} {X : sX} {c0 : Nat → Int} {js : Nat → Nat} {os : Nat → Int} {t : am_S} {K : am_S → Prop} (hl : l < 7) (hP : PA t own aQ k0 tr X c0 n0 l js os st g w) (hm : ¬ mn X (csq X c0 k0 js os l) < 2)
    (h : ∀ s own', OFr t s own own' p0 → CS s own' aQ k0 tr X c0 (stp X c0 k0 (0, n0, l, js, os)) st → K s) : am_Calls PP MLL (d + 5) m_Search_isHopeless [qr (12, 5, 18), qi (sI t (qA aQ l) 4), qi ((sI t 12 10) - (sI t 12 11))] t (kI fun x20 s20 =>
          (CF s20 ∧ QA s20 aQ ∧ sR s20 12 4 = some (g, 4, 3)) ∧
          ((x20 = 0 →
            am_Calls PP MLL (d + 5) m_Search_weigherAt [qr (12, 5, 18), qi (sI s20 12 11)] s20 (kO fun x23 s23 =>
              (CF s23 ∧ QA s23 aQ ∧ sR s23 12 4 = some (g, 4, 3)) ∧
              ((rg x23).2.1 = 0 ∧ l < 7) ∧
              am_Calls PP MLL (d + 5) m_Weighings_begin [qr (qA aQ l + 3, 10, 11), qr (13, 6, 5), qr (qA aQ l + 1, 20, 60)] (putI s23 (qA aQ l) 5 (sI s23 ((rg x23).1) 5)) (kV fun s24 =>
                (CF s24 ∧ QA s24 aQ ∧ sR s24 12 4 = some (g, 4, 3)) ∧
                am_Calls PP MLL (d + 5) m_Weighings_advance [qr (qA aQ l + 3, 10, 11)] s24 (kI fun x25 s25 =>
                  (CF s25 ∧ QA s25 aQ ∧ sR s25 12 4 = some (g, 4, 3)) ∧
                  ((x25 = 0 →
                    am_Calls PP MLL (d + 5) m_Search_answer [qr (12, 5, 18), qi 0] s25 (kV fun s28 =>
                      K s28)) ∧
                  (¬ (x25 = 0) →
                    K (putI s25 12 12 0))))))) ∧
          (¬ (x20 = 0) →
            am_Calls PP MLL (d + 5) m_Rows_add [qr (g, 4, 3), qi (-1), qi (sI s20 (qA aQ l) 4)] s20 (kV fun s29 =>
              (CF s29 ∧ QA s29 aQ ∧ sR s29 12 4 = some (g, 4, 3)) ∧
              am_Calls PP MLL (d + 5) m_Search_answer [qr (12, 5, 18), qi 0] s29 (kV fun s30 =>
                K s30))))) := by
  have hP' := hP
  obtain ⟨⟨hE, hn, hst, ⟨f10, f13, f15, f16, f17⟩, hcn⟩, hG, h11, h12, hLv, hQ, q7, q8, hR, hlen, hTL, hLF, hNH, hTV, h18⟩ := hP
  have h87 := SE_87 hE
  have hC := SE_CF hE
  have hqa := hE.1.1
  have hX := hE.2.1.1
  have cv := hE.2.1.2.1.1
  have ho := hE.1.2.2.2.2
  have sNq := hE.1.2.2.1
  have sN87 := hE.1.2.2.2.1
  have ln := GL_n hG
  obtain ⟨hgw, r4, r5, V1, L1, V2, L2⟩ := hR
  have ol := qA_ow hE hl
  have n12 : (12 : Nat) ≠ qA aQ l := own_ne (h87 12 (by decide)) ol (by omega)
  rw [hQ.2.1, f10, h11, show (n0 : Int) - (l : Int) = ((n0 - l : Nat) : Int) by omega]
  refine c_isHopeless (d + 4) hC hX hE.2.2.1.2.2.1 (by omega) (fun hb => ?_) (fun hb => ?_)
  · refine ⟨⟨hC, hqa, r4⟩, fun c => absurd c (by decide), fun _ => ?_⟩
    rw [hQ.2.1]
    refine c_Rows_add (d + 1) (by omega) hC V1 L1 (by omega) ?_
    intro s own2 a1 a2 a3 a4
    have e12 := a1.1 12 (by omega) (by rw [h87 12 (by decide)]; unfold pR; omega)
    have Es : SE s own2 aQ k0 tr X c0 := SE_fr hE ⟨fun x hx hp => a1.1 x hx (fun z => hp (by unfold p0; unfold pR at z; omega)), a1.2⟩ (by rw [e12.1]; exact ⟨rfl, rfl, rfl⟩) (fun j _ _ => e12.2 j) (fun x hx hq j => (a1.1 x hx (by unfold pR; omega)).2 j)
    refine ⟨⟨a2, Es.1.1, by rw [e12.2]; exact r4⟩, ?_⟩
    have npw : ¬ pR g w ∧ ¬ pR g (w + 1) ∧ ¬ pR g (w + 2) := by unfold pR; omega
    have len : (grq X c0 k0 n0 js os l ++ [((-1 : Int), mn X (csq X c0 k0 js os l))]).length = (grq X c0 k0 n0 js os l).length + 1 := by rw [List.length_append]; rfl
    have hN : KN s own2 aQ k0 tr X c0 n0 l js os st := PA_N hP' Es ⟨fun x hx hp => a1.1 x hx (fun z => hp (by unfold pR at z; omega)), a1.2⟩ e12.2 ⟨hgw, by rw [e12.2]; exact r4, by rw [e12.2]; exact r5, by rw [len]; exact a3, a4, RV_fr a1 (by omega) npw.1 V2, RL_fr a1 (by omega) npw V2 L2⟩ (rws_b hb) (by rw [len]; omega) (can_b hm hb) hl
    refine c_ansN d hl hN (fun s' own' p q => h s' own' (OFr_tr a1 p (fun r z => by unfold pR at z; unfold p0; omega) (fun _ z => z)) ?_)
    rw [stp_B hm hb]
    exact q
  · refine ⟨⟨hC, hqa, r4⟩, fun _ => ?_, fun c => absurd rfl c⟩
    rw [h11]
    refine e_weigher (d + 2) hE (by omega) (fun b hb5 => ?_)
    simp only [rg_some]
    rw [hb5]
    refine ⟨⟨hC, hqa, r4⟩, ⟨trivial, hl⟩, ?_⟩
    obtain ⟨C, eC⟩ : ∃ C, C = putI t (qA aQ l) 5 (mo (xK X (k0 + l))) := ⟨_, rfl⟩
    rw [← eC]
    have C2 : C.2 = t.2 := by rw [eC]; rfl
    have Co : ∀ x, x ≠ qA aQ l → sI C x = sI t x := fun x hx => by rw [eC, put_ne hx]
    have Cq : ∀ j, sI C (qA aQ l) j = if j = 5 then mo (xK X (k0 + l)) else sI t (qA aQ l) j := fun j => by rw [eC, put_at]
    have hbn : ¬ n0 - l = 0 := fun e => hb (Or.inl e)
    have EC : SE C own aQ k0 tr X c0 := SE_I hE C2 (fun x _ hp => Co x (fun e => hp (by rw [e, ol]; unfold p0; omega))) (by rw [Co 12 n12]; exact ⟨rfl, rfl, rfl⟩)
    refine e_begin (d + 2) (c := csq X c0 k0 js os l) EC hl (csq_CV hX cv l) ⟨by rw [Cq, if_neg (by decide)]; exact hQ.1, by rw [Cq, if_neg (by decide)]; exact hQ.2.1, fun p hp => by rw [Co _ (by omega)]; exact hQ.2.2 p hp⟩ ?_
    intro s9 a1 a2 a3 a4 a5
    have s92 : s9.2 = t.2 := a1.trans C2
    refine ⟨⟨CF_I hC s92, QA_I hqa s92, by rw [R2' s92]; exact r4⟩, ?_⟩
    have erw : rwl X (rw1 X (n0 - (l + 1)) (csq X c0 k0 js os l) (k0 + l)) 0 = [] := rfl
    have en : n0 - l = n0 - (l + 1) + 1 := by omega
    -- behind advance
    have fin : ∀ s, s.2 = s9.2 → (∀ x, x ≠ qA aQ l + 3 → x ≠ qA aQ l + 3 + 4 → x ≠ qA aQ l + 3 + 5 → sI s x = sI s9 x) → s.2 = t.2 ∧ OFr t s own own (fun r => (20 ≤ r ∧ r ≤ 25) ∨ 2000 + 9 * l ≤ r) ∧ OFr t s own own p0 ∧ SE s own aQ k0 tr X c0 ∧ RW s own g w (grq X c0 k0 n0 js os l) (wh X c0 k0 n0) ∧ (∀ j, sI s (qA aQ l) j = if j = 5 then mo (xK X (k0 + l)) else sI t (qA aQ l) j) ∧ sI s (qA aQ l + 1) = sI t (qA aQ l + 1) ∧ sI s 12 = sI t 12 ∧ (∀ x, own x < 2000 + 9 * l → sI s x = sI t x) := by
      intro s b1 b2
      have s2 : s.2 = t.2 := b1.trans s92
      have lo : ∀ x, own x < 2000 + 9 * l → sI s x = sI t x := by
        intro x hx
        have nk : ∀ k, k < 9 → x ≠ qA aQ l + k := fun k hk e => by have := ho l hl k hk; rw [← e] at this; omega
        have n0' := nk 0 (by decide)
        rw [Nat.add_zero] at n0'
        rw [b2 x (nk 3 (by decide)) (nk 7 (by decide)) (nk 8 (by decide)), a2 x (nk 3 (by decide)) (nk 4 (by decide)) (nk 5 (by decide)) (nk 6 (by decide)), Co x n0']
      have e12 : sI s 12 = sI t 12 := lo 12 (by rw [h87 12 (by decide)]; omega)
      have o1 : OFr t s own own (fun r => (20 ≤ r ∧ r ≤ 25) ∨ 2000 + 9 * l ≤ r) := OFr_I s2 (fun x _ hp => lo x (by omega))
      have o2 : OFr t s own own (fun r => 2000 + 9 * l ≤ r) := OFr_I s2 (fun x _ hp => lo x (by omega))
      have o3 : OFr t s own own p0 := OFr_I s2 (fun x _ hp => lo x (by unfold p0 at hp; omega))
      refine ⟨s2, o1, o3, SE_I hE s2 (fun x _ hp => lo x (by unfold p0 at hp; omega)) (by rw [e12]; exact ⟨rfl, rfl, rfl⟩), RW_fr o2 (fun r _ _ => by omega) (fun j => R2' s2 12 j) ⟨hgw, r4, r5, V1, L1, V2, L2⟩, fun j => ?_, ?_, e12, lo⟩
      · rw [b2 _ (by omega) (by omega) (by omega), a2 _ (by omega) (by omega) (by omega) (by omega), Cq]
      · rw [b2 _ (by omega) (by omega) (by omega), a2 _ (by omega) (by omega) (by omega) (by omega), Co _ (by omega)]
    refine e_first (d + 1) (c := csq X c0 k0 js os l) ((QA_I hqa s92).2 l hl).2.2 hX a3 a4 a5 ?_ ?_
    · intro w0 w1 s b1 b2 b3
      obtain ⟨c1, c2, c3, c4, c5, c6, c7, c8, c9⟩ := fin s b1 (fun x x1 _ _ => b2 x x1)
      refine ⟨⟨CF_I hC c1, QA_I hqa c1, by rw [R2' c1]; exact r4⟩, fun _ => ?_, fun c => absurd rfl c⟩
      have hb' : ¬ big X (n0 - (l + 1) + 1) (csq X c0 k0 js os l) := by rw [← en]; exact hb
      have hN : KN s own aQ k0 tr X c0 n0 l js os st := by
        refine PA_N hP' c4 c2 (fun j => R2' c1 12 j) (R := []) (by rw [List.append_nil]; exact c5) ?_ (by rw [List.append_nil]; omega) ?_ hl
        · rw [en]; exact rws_w hb' w0
        · rw [en]
          exact N_end hX hm hb' (fun j hj => by omega)
      refine c_ansN d hl hN (fun s' own' p q => h s' own' (OFr_tr c3 p (fun _ z => z) (fun _ z => z)) ?_)
      rw [stp_W hm hb, w1]
      exact q
    · intro s w0 w1 b1 b2 b3 b4
      obtain ⟨c1, c2, c3, c4, c5, c6, c7, c8, c9⟩ := fin s b1 b2
      refine ⟨⟨CF_I hC c1, QA_I hqa c1, by rw [R2' c1]; exact r4⟩, fun c => absurd c (by decide), fun _ => ?_⟩
      rw [stp_W hm hb, w1] at h
      obtain ⟨Z, eZ⟩ : ∃ Z, Z = putI s 12 12 0 := ⟨_, rfl⟩
      rw [← eZ]
      have Z2 : Z.2 = s.2 := by rw [eZ]; rfl
      have Zo : ∀ x, x ≠ 12 → sI Z x = sI s x := fun x hx => by rw [eZ, put_ne hx]
      have Z12 : ∀ j, sI Z 12 j = if j = 12 then 0 else sI t 12 j := fun j => by rw [eZ, put_at, c8]
      have Zp : ∀ x, ¬ p0 (own x) → sI Z x = sI s x := fun x hp => Zo x (fun e => by rw [e, h87 12 (by decide)] at hp; exact hp (Or.inl rfl))
      have nr : ∀ x r, own x = r → r ≠ 12 → x ≠ 12 := fun x r e1 e2 e => by rw [e, h87 12 (by decide)] at e1; omega
      have nq : ∀ i, i < 7 → ∀ k, k < 9 → qA aQ i + k ≠ 12 := fun i hi k hk => nr _ _ (ho i hi k hk) (by omega)
      have cgl : ∀ q, q < l → js q = uN js l 0 q ∧ os q = os q := fun q hq => ⟨by unfold uN; rw [if_neg (by omega)], rfl⟩
      have ujl : uN js l 0 l = 0 := by unfold uN; rw [if_pos rfl]
      have ec := csq_congr (X := X) (c0 := c0) (k0 := k0) l cgl
      have ed := (ndq_congr (X := X) (c0 := c0) (k0 := k0) (n0 := n0) l cgl).1
      have eg := grq_congr (X := X) (c0 := c0) (k0 := k0) (n0 := n0) l (fun q hq => ⟨(cgl q hq).1, fun _ => (cgl q hq).2⟩)
      have er : gR X c0 k0 n0 (uN js l 0) os l = [] := by
        unfold gR
        rw [ujl]
        rfl
      have tz : tcl Z = tcl t := tcl_I hTV (Z2.trans c1) (fun x hx => by rw [Zo x (nr x 19 hx (by decide)), c9 x (by omega)])
      have zq0 : sI Z (qA aQ l) = sI s (qA aQ l) := Zo _ (fun e => n12 e.symm)
      refine h Z own (OFr_tr c3 (OFr_I Z2 (fun x _ hp => Zp x hp)) (fun _ z => z) (fun _ z => z)) (Or.inr (Or.inl ⟨rfl, ⟨SE_I c4 Z2 (fun x _ hp => Zp x hp) (by rw [Z12, Z12, Z12, c8]; exact ⟨rfl, rfl, rfl⟩), hn, hst, ?_, hcn⟩, GL_cg cgl hG, ⟨?_, ?_, ?_, ?_, ?_, fun j hj => ?_⟩, ?_, ?_, fun i hi => ?_, ⟨?_, ?_, ?_, ?_, ?_, ?_⟩, ⟨g, w, ?_⟩, ⟨?_, hlen.2⟩, ?_, ?_, ?_⟩))
      · rw [Z12, Z12, Z12, Z12, Z12]
        exact ⟨f10, f13, f15, f16, f17⟩
      · show l < n0
        omega
      · show ¬ mn X (csq X c0 k0 (uN js l 0) os l) < 2
        rw [← ec]; exact hm
      · show ¬ big X (n0 - l) (csq X c0 k0 (uN js l 0) os l)
        rw [← ec]; exact hb
      · show uN js l 0 l < wct X (csq X c0 k0 (uN js l 0) os l)
        rw [← ec, ujl]; exact w0
      · show uN js l 0 l ≤ st
        rw [ujl]; omega
      · have hj' : j < uN js l 0 l := hj
        rw [ujl] at hj'
        omega
      · rw [Z12]; exact h11
      · rw [Z12]; rfl
      · have hi' : i < l := hi
        obtain ⟨y1, y2, y3⟩ := hLv i hi'
        obtain ⟨z1, z2⟩ := LQ_fr (s := Z) (σ := t) (aQ := aQ) (i := i) (X := X) (c0 := c0) (k0 := k0) (n0 := n0) (js := js) (os := os) (fun k hk => (Zo _ (nq i (by omega) k hk)).trans (c9 _ (by rw [ho i (by omega) k hk]; omega)))
        obtain ⟨x1, x2⟩ := LQ_cg (σ := Z) (aQ := aQ) (X := X) (c0 := c0) (k0 := k0) (n0 := n0) (i := i) (fun q hq => cgl q (by omega)) (cgl i hi').1
        exact ⟨x1 (z1 y1), x2 rfl (z2 y2), by show uN js l 0 i ≤ st; rw [← (cgl i hi').1]; omega⟩
      · show QB Z (qA aQ l) X (csq X c0 k0 (uN js l 0) os l)
        rw [← ec]
        exact ⟨by rw [zq0, c6, if_neg (by decide)]; exact hQ.1, by rw [zq0, c6, if_neg (by decide)]; exact hQ.2.1, fun p hp => by rw [Zo _ (nq l hl 1 (by decide)), c7]; exact hQ.2.2 p hp⟩
      · show QWg Z (qA aQ l + 3) X (csq X c0 k0 (uN js l 0) os l)
        rw [← ec]
        exact QWg_fr b3 (fun j _ _ => by rw [Zo _ (nq l hl 3 (by decide))]) (fun k k1 k2 => by rw [Nat.add_assoc]; exact Zo _ (nq l hl (3 + k) (by omega)))
      · show QWj Z (qA aQ l + 3) X (csq X c0 k0 (uN js l 0) os l) (uN js l 0 l)
        rw [← ec, ujl]
        exact QWj_fr b4 (Zo _ (nq l hl 3 (by decide))) (Zo _ (nq l hl 7 (by decide))) (Zo _ (nq l hl 8 (by decide)))
      · show sI Z (qA aQ l) 5 = _
        rw [zq0, c6, if_pos rfl]
      · show sI Z (qA aQ l) 7 = ndq X c0 k0 n0 (uN js l 0) os l
        rw [zq0, c6, if_neg (by decide), ← ed]; exact q7
      · show sI Z (qA aQ l) 8 = (grq X c0 k0 n0 (uN js l 0) os l).length
        rw [zq0, c6, if_neg (by decide), ← eg]; exact q8
      · show RW Z own g w (grq X c0 k0 n0 (uN js l 0) os l ++ gR X c0 k0 n0 (uN js l 0) os l) (wh X c0 k0 n0)
        rw [← eg, er, List.append_nil]
        obtain ⟨y1, y2, y3, y4, y5, y6, y7⟩ := c5
        exact ⟨y1, by rw [R2' Z2]; exact y2, by rw [R2' Z2]; exact y3, RV_I y4 Z2, RL_I y4 Z2 (by rw [Zo g (by omega)]) (fun x hx => Zo x (by rcases hx with e | e <;> exact nr x _ e (by omega))) y5, RV_I y6 Z2, RL_I y6 Z2 (by rw [Zo w (by omega)]) (fun x hx => Zo x (by rcases hx with e | e <;> exact nr x _ e (by omega))) y7⟩
      · show (grq X c0 k0 n0 (uN js l 0) os l ++ gR X c0 k0 n0 (uN js l 0) os l).length ≤ st
        rw [← eg, er, List.append_nil]; omega
      · show TL X tr (tcl Z) c0 k0 n0 (uN js l 0) os l
        rw [tz]
        exact TL_cg cgl hTL
      · show NH X (tcl Z) (csq X c0 k0 (uN js l 0) os l) l (ndq X c0 k0 n0 (uN js l 0) os l)
        rw [tz, ← ec, ← ed]; exact hNH hm
      · show TV Z own (ndq X c0 k0 n0 (uN js l 0) os l + 1)
        rw [← ed]; exact TV_I hTV (Z2.trans c1)
