/-! the class: countRows, sentence -/
theorem v_Jury_countRows_0 (d : Nat) (aH nH aL nL aY nY aS nS aR nR aV nV : Nat) (σ : am_S) (K : am_S → Prop) (hR : TR σ aH nH aL nL aY nY aS nS) (hr : sR σ 26 6 = some (aR, 20, nR)) (hv : sR σ 26 7 = some (aV, 20, nV)) (h :
  am_Runs PP MLL (d + 1) m_Jury_countRows 8 [some (qr (26, 1, 8)), some (qr (3, 9, 11)), some (qi 0), none] [] (putI (putI σ 26 4 0) 26 5 0) (kV K)) : am_Runs PP MLL (d + 1) m_Jury_countRows 0 [some (qr (26, 1, 8)), some (qr (3, 9, 11)), none, none] [] σ (kV K) := am_wEF_ok (orc []) 200 (⟨rfl, ⟨rfl, h⟩⟩)

theorem v_Jury_countRows_8 (d : Nat) (aH nH aL nL aY nY aS nS aR nR aV nV : Nat) (v2 : Int) (z3 : Option am_V) (σ : am_S) (K : am_S → Prop) (hR : TR σ aH nH aL nL aY nY aS nS) (hr : sR σ 26 6 = some (aR, 20, nR)) (hv : sR σ 26 7 = some (aV, 20, nV)) (h :
  (((sI σ 3 1) ≤ v2 →
    K σ) ∧
  (¬ ((sI σ 3 1) ≤ v2) →
    (0 ≤ v2 ∧ v2 < ((nS : Nat) : Int)) ∧
    (((sI σ aS (Int.toNat v2)) = 0 →
      (v2 < ((nR : Nat) : Int) ∧ 0 ≤ (sI σ aR (Int.toNat v2)) ∧ (sI σ aR (Int.toNat v2)) < ((nV : Nat) : Int)) ∧
      (((sI σ aV (Int.toNat (sI σ aR (Int.toNat v2)))) = 0 →
        (-2147483648 ≤ (sI σ 26 4) + 1 ∧ (sI σ 26 4) + 1 < 2147483648 ∧ -2147483648 ≤ (sI (putI σ 26 4 ((sI σ 26 4) + 1)) aV (Int.toNat (sI σ aR (Int.toNat v2)))) + 1 ∧ (sI (putI σ 26 4 ((sI σ 26 4) + 1)) aV (Int.toNat (sI σ aR (Int.toNat v2)))) + 1 < 2147483648) ∧
        (-2147483648 ≤ v2 + 1 ∧ v2 + 1 < 2147483648) ∧
        am_Runs PP MLL (d + 1) m_Jury_countRows 8 [some (qr (26, 1, 8)), some (qr (3, 9, 11)), some (qi (v2 + 1)), some (qi (sI σ aR (Int.toNat v2)))] [] (putI (putI (putI σ 26 4 ((sI σ 26 4) + 1)) aV (Int.toNat (sI σ aR (Int.toNat v2))) ((sI (putI σ 26 4 ((sI σ 26 4) + 1)) aV (Int.toNat (sI σ aR (Int.toNat v2)))) + 1)) 26 5 (if (sI (putI (putI σ 26 4 ((sI σ 26 4) + 1)) aV (Int.toNat (sI σ aR (Int.toNat v2))) ((sI (putI σ 26 4 ((sI σ 26 4) + 1)) aV (Int.toNat (sI σ aR (Int.toNat v2)))) + 1)) 26 5) < (sI (putI (putI σ 26 4 ((sI σ 26 4) + 1)) aV (Int.toNat (sI σ aR (Int.toNat v2))) ((sI (putI σ 26 4 ((sI σ 26 4) + 1)) aV (Int.toNat (sI σ aR (Int.toNat v2)))) + 1)) aV (Int.toNat (sI σ aR (Int.toNat v2)))) then ((sI (putI (putI σ 26 4 ((sI σ 26 4) + 1)) aV (Int.toNat (sI σ aR (Int.toNat v2))) ((sI (putI σ 26 4 ((sI σ 26 4) + 1)) aV (Int.toNat (sI σ aR (Int.toNat v2)))) + 1)) aV (Int.toNat (sI σ aR (Int.toNat v2)))) : Int) else (sI (putI (putI σ 26 4 ((sI σ 26 4) + 1)) aV (Int.toNat (sI σ aR (Int.toNat v2))) ((sI (putI σ 26 4 ((sI σ 26 4) + 1)) aV (Int.toNat (sI σ aR (Int.toNat v2)))) + 1)) 26 5))) (kV K)) ∧
      (¬ ((sI σ aV (Int.toNat (sI σ aR (Int.toNat v2)))) = 0) →
        (-2147483648 ≤ (sI σ aV (Int.toNat (sI σ aR (Int.toNat v2)))) + 1 ∧ (sI σ aV (Int.toNat (sI σ aR (Int.toNat v2)))) + 1 < 2147483648) ∧
        (-2147483648 ≤ v2 + 1 ∧ v2 + 1 < 2147483648) ∧
        am_Runs PP MLL (d + 1) m_Jury_countRows 8 [some (qr (26, 1, 8)), some (qr (3, 9, 11)), some (qi (v2 + 1)), some (qi (sI σ aR (Int.toNat v2)))] [] (putI (putI σ aV (Int.toNat (sI σ aR (Int.toNat v2))) ((sI σ aV (Int.toNat (sI σ aR (Int.toNat v2)))) + 1)) 26 5 (if (sI (putI σ aV (Int.toNat (sI σ aR (Int.toNat v2))) ((sI σ aV (Int.toNat (sI σ aR (Int.toNat v2)))) + 1)) 26 5) < (sI (putI σ aV (Int.toNat (sI σ aR (Int.toNat v2))) ((sI σ aV (Int.toNat (sI σ aR (Int.toNat v2)))) + 1)) aV (Int.toNat (sI σ aR (Int.toNat v2)))) then ((sI (putI σ aV (Int.toNat (sI σ aR (Int.toNat v2))) ((sI σ aV (Int.toNat (sI σ aR (Int.toNat v2)))) + 1)) aV (Int.toNat (sI σ aR (Int.toNat v2)))) : Int) else (sI (putI σ aV (Int.toNat (sI σ aR (Int.toNat v2))) ((sI σ aV (Int.toNat (sI σ aR (Int.toNat v2)))) + 1)) 26 5))) (kV K)))) ∧
    (¬ ((sI σ aS (Int.toNat v2)) = 0) →
      (-2147483648 ≤ v2 + 1 ∧ v2 + 1 < 2147483648) ∧
      am_Runs PP MLL (d + 1) m_Jury_countRows 8 [some (qr (26, 1, 8)), some (qr (3, 9, 11)), some (qi (v2 + 1)), z3] [] σ (kV K)))))) : am_Runs PP MLL (d + 1) m_Jury_countRows 8 [some (qr (26, 1, 8)), some (qr (3, 9, 11)), some (qi v2), z3] [] σ (kV K) := am_wEF_ok (orc [(18, aR, 20, nR), (23, aV, 20, nV), (34, aV, 20, nV), (45, aV, 20, nV)]) 200 (⟨rfl, ⟨fun c2 => (h.1 c2), fun c2 => ⟨rfl, am_wEF_ok (orc [(1, aS, 20, nS)]) 200 (⟨⟨rfl, hR.2.2.2.2⟩, ⟨⟨rfl, (h.2 c2).1.1, (h.2 c2).1.2⟩, ⟨fun c3 => ⟨(Or.inr rfl), ⟨fun c => absurd c (by decide : ¬ ((1 : Int) = 0)), fun _ => ⟨⟨rfl, hr⟩, ⟨⟨rfl, (h.2 c2).1.1, ((h.2 c2).2.1 c3).1.1⟩, ⟨⟨rfl, hv⟩, ⟨⟨rfl, ((h.2 c2).2.1 c3).1.2.1, ((h.2 c2).2.1 c3).1.2.2⟩, ⟨fun c5 => ⟨rfl, ⟨⟨(((h.2 c2).2.1 c3).2.1 c5).1.1, (((h.2 c2).2.1 c3).2.1 c5).1.2.1⟩, ⟨rfl, ⟨⟨rfl, hv⟩, ⟨⟨rfl, ((h.2 c2).2.1 c3).1.2.1, ((h.2 c2).2.1 c3).1.2.2⟩, ⟨⟨(((h.2 c2).2.1 c3).2.1 c5).1.2.2.1, (((h.2 c2).2.1 c3).2.1 c5).1.2.2.2⟩, ⟨⟨rfl, ((h.2 c2).2.1 c3).1.2.1, ((h.2 c2).2.1 c3).1.2.2⟩, ⟨rfl, ⟨⟨rfl, hv⟩, ⟨⟨rfl, ((h.2 c2).2.1 c3).1.2.1, ((h.2 c2).2.1 c3).1.2.2⟩, c_max _  (⟨rfl, ⟨⟨(((h.2 c2).2.1 c3).2.1 c5).2.1.1, (((h.2 c2).2.1 c3).2.1 c5).2.1.2⟩, (((h.2 c2).2.1 c3).2.1 c5).2.2⟩⟩)⟩⟩⟩⟩⟩⟩⟩⟩⟩⟩, fun c5 => ⟨⟨rfl, hv⟩, ⟨⟨rfl, ((h.2 c2).2.1 c3).1.2.1, ((h.2 c2).2.1 c3).1.2.2⟩, ⟨⟨(((h.2 c2).2.1 c3).2.2 c5).1.1, (((h.2 c2).2.1 c3).2.2 c5).1.2⟩, ⟨⟨rfl, ((h.2 c2).2.1 c3).1.2.1, ((h.2 c2).2.1 c3).1.2.2⟩, ⟨rfl, ⟨⟨rfl, hv⟩, ⟨⟨rfl, ((h.2 c2).2.1 c3).1.2.1, ((h.2 c2).2.1 c3).1.2.2⟩, c_max _  (⟨rfl, ⟨⟨(((h.2 c2).2.1 c3).2.2 c5).2.1.1, (((h.2 c2).2.1 c3).2.2 c5).2.1.2⟩, (((h.2 c2).2.1 c3).2.2 c5).2.2⟩⟩)⟩⟩⟩⟩⟩⟩⟩⟩⟩⟩⟩⟩⟩⟩, fun c3 => ⟨(Or.inl rfl), ⟨fun _ => ⟨⟨((h.2 c2).2.2 c3).1.1, ((h.2 c2).2.2 c3).1.2⟩, ((h.2 c2).2.2 c3).2⟩, fun c => absurd (by decide : (0 : Int) = 0) c⟩⟩⟩⟩⟩)⟩⟩⟩)

theorem lg_bd (s r : Nat → Int) : ∀ i : Nat, 0 ≤ lg s r i ∧ lg s r i ≤ i
  | 0 => by simp [lg]
  | i + 1 => by
    have h := lg_bd s r i
    have h2 := cn_bd s r i (r i)
    unfold lg
    (repeat' split) <;> omega
/-- countRows so far -/
def CJ (σ s : am_S) (aV : Nat) (S r : Nat → Int) (i : Nat) : Prop := s.2 = σ.2 ∧ (∀ x, x ≠ 26 → x ≠ aV → sI s x = sI σ x) ∧ (∀ j, j ≠ 4 → j ≠ 5 → sI s 26 j = sI σ 26 j) ∧ sI s 26 4 = un S r i ∧ sI s 26 5 = lg S r i ∧ ∀ v : Nat, sI s aV v = cn S r i v
theorem c_countRows (d : Nat) {own : Nat → Nat} {aH nH aL nL aY nY aS nS : Nat} {aR nR aV nV T W : Nat} {σ : am_S} {r : Nat → Int} {K : am_S → Prop} (hR : TR σ aH nH aL nL aY nY aS nS) (hO : OW own aH aL aY aS) (r6 : sR σ 26 6 = some (aR, 20, nR)) (r7 : sR σ 26 7 = some (aV, 20, nV)) (oR : own aR = 29) (oV : own aV = 30) (hT : T ≤ 10000) (hS : KS σ aY aS T W) (h31 : sI σ 3 1 = T) (hSn : T ≤ nS) (hRn : T ≤ nR) (hz : ∀ v, sI σ aV v = 0) (hr : ∀ t, t < T → sI σ 37 t < 0 → sI σ aR t = r t ∧ 0 ≤ r t ∧ r t < nV)
    (h : ∀ s, CJ σ s aV (sI σ 37) r T → K s) : am_Calls PP MLL (d + 2) m_Jury_countRows [qr (26, 1, 8), qr (3, 9, 11)] σ (kV K) := by
  obtain ⟨o1, o2, o3, o4, o5⟩ := hO
  have n26 : 26 ≠ aV := own_ne (o1 26 (by decide)) oV (by decide)
  have n3 : 3 ≠ aV := own_ne (o1 3 (by decide)) oV (by decide)
  have nSV : aS ≠ aV := own_ne o5 oV (by decide)
  have nS26 : aS ≠ 26 := own_ne o5 (o1 26 (by decide)) (by decide)
  have nRV : aR ≠ aV := own_ne oR oV (by decide)
  have nR26 : aR ≠ 26 := own_ne oR (o1 26 (by decide)) (by decide)
  have fx : ∀ s, s.2 = σ.2 → TR s aH nH aL nL aY nY aS nS ∧ sR s 26 6 = some (aR, 20, nR) ∧ sR s 26 7 = some (aV, 20, nV) := by
    intro s hs
    have e : sR s = sR σ := by
      funext a j
      unfold sR
      rw [hs]
    unfold TR CF
    rw [e]
    exact ⟨hR, r6, r7⟩
  have lp0 : ∀ i : Nat, i ≤ T → ∀ s z3, CJ σ s aV (sI σ 37) r i → am_Runs PP MLL (d + 1) m_Jury_countRows 8 [some (qr (26, 1, 8)), some (qr (3, 9, 11)), some (qi (i : Int)), z3] [] s (kV K) := by
    refine lp ?_ ?_
    · intro s z3 hs
      obtain ⟨t1, t2, t3⟩ := fx s hs.1
      refine v_Jury_countRows_8 d aH nH aL nL aY nY aS nS aR nR aV nV _ z3 s K t1 t2 t3 ⟨fun _ => h s hs, fun c => absurd ?_ c⟩
      rw [hs.2.1 3 (by decide) n3]
      omega
    · intro i hi ih s z3 hs
      obtain ⟨t1, t2, t3⟩ := fx s hs.1
      obtain ⟨s1, s2, s3, s4, s5, s6, s7⟩ := hS i hi
      obtain ⟨q1, q2, q3, q4, q5, q6⟩ := hs
      have eS : sI s aS i = sI σ aS i := by rw [q2 aS nS26 nSV]
      have eR : sI s aR i = sI σ aR i := by rw [q2 aR nR26 nRV]
      have hcn := cn_bd (sI σ 37) r i (r i)
      have hun := un_bd (sI σ 37) r i
      have hlg := lg_bd (sI σ 37) r i
      refine v_Jury_countRows_8 d aH nH aL nL aY nY aS nS aR nR aV nV _ z3 s K t1 t2 t3 ⟨fun c => absurd c ?_, fun _ => ?_⟩
      · rw [q2 3 (by decide) n3]
        omega
      · rw [Int.toNat_natCast, eS, eR]
        refine ⟨by omega, fun c => ?_, fun c => ⟨by omega, ?_⟩⟩
        · have hl : sI σ 37 i < 0 := by omega
          obtain ⟨w1, w2, w3⟩ := hr i hi hl
          rw [w1]
          have ev : sI s aV (r i).toNat = cn (sI σ 37) r i (r i) := by rw [q6, Int.toNat_of_nonneg w2]
          have un1 : un (sI σ 37) r (i + 1) = un (sI σ 37) r i + (if sI σ 37 i < 0 ∧ cn (sI σ 37) r i (r i) = 0 then 1 else 0) := rfl
          have lg1 : lg (sI σ 37) r (i + 1) = if cn (sI σ 37) r i (r i) + 1 ≤ lg (sI σ 37) r i then lg (sI σ 37) r i else cn (sI σ 37) r i (r i) + 1 := by
            show (if sI σ 37 i < 0 then _ else _) = _
            rw [if_pos hl]
          refine ⟨by omega, fun c1 => ?_, fun c1 => ?_⟩
          · rw [ev] at c1
            have ev2 : sI (putI s 26 4 (sI s 26 4 + 1)) aV (r i).toNat = cn (sI σ 37) r i (r i) := by rw [put_ne n26.symm, ev]
            rw [ev2, q4]
            have ev3 : ∀ (X : am_S) (v : Int), sI (putI X aV (r i).toNat v) aV (r i).toNat = v := fun X v => by rw [put_at, if_pos rfl]
            have ev4 : ∀ (X : am_S) (v w : Int), sI (putI (putI X 26 4 w) aV (r i).toNat v) 26 5 = sI X 26 5 := fun X v w => by rw [put_ne n26, put_at, if_neg (by decide)]
            rw [ev3, ev4, q5]
            refine ⟨by omega, by omega, ?_⟩
            refine ih _ _ ⟨q1, fun x x1 x2 => ?_, fun j j4 j5 => ?_, ?_, ?_, fun v => ?_⟩
            · rw [put_ne x1, put_ne x2, put_ne x1, q2 x x1 x2]
            · rw [put_at, if_neg j5, put_ne n26, put_at, if_neg j4, q3 j j4 j5]
            · rw [put_at, if_neg (by decide), put_ne n26, put_at, if_pos rfl, un1, if_pos ⟨hl, c1⟩]
            · rw [put_at, if_pos rfl, lg1]
              (repeat' split) <;> omega
            · rw [put_ne n26.symm, put_at, put_ne n26.symm, q6, cn_succ]
              by_cases e : v = (r i).toNat
              · rw [if_pos e, if_pos ⟨hl, by omega⟩, e, Int.toNat_of_nonneg w2]
              · rw [if_neg e, if_neg (fun q => e (by omega)), Int.add_zero]
          · rw [ev] at c1
            rw [ev]
            have ev3 : ∀ (X : am_S) (v : Int), sI (putI X aV (r i).toNat v) aV (r i).toNat = v := fun X v => by rw [put_at, if_pos rfl]
            have ev4 : ∀ (X : am_S) (v : Int), sI (putI X aV (r i).toNat v) 26 5 = sI X 26 5 := fun X v => by rw [put_ne n26]
            rw [ev3, ev4, q5]
            refine ⟨by omega, by omega, ?_⟩
            refine ih _ _ ⟨q1, fun x x1 x2 => ?_, fun j j4 j5 => ?_, ?_, ?_, fun v => ?_⟩
            · rw [put_ne x1, put_ne x2, q2 x x1 x2]
            · rw [put_at, if_neg j5, put_ne n26, q3 j j4 j5]
            · rw [put_at, if_neg (by decide), put_ne n26, un1, if_neg (fun q => c1 q.2), Int.add_zero, q4]
            · rw [put_at, if_pos rfl, lg1]
              (repeat' split) <;> omega
            · rw [put_ne n26.symm, put_at, q6, cn_succ]
              by_cases e : v = (r i).toNat
              · rw [if_pos e, if_pos ⟨hl, by omega⟩, e, Int.toNat_of_nonneg w2]
              · rw [if_neg e, if_neg (fun q => e (by omega)), Int.add_zero]
        · have hl : ¬ sI σ 37 i < 0 := by omega
          refine ih s _ ⟨q1, q2, q3, ?_, ?_, fun v => ?_⟩
          · show _ = un (sI σ 37) r i + (if sI σ 37 i < 0 ∧ cn (sI σ 37) r i (r i) = 0 then 1 else 0)
            rw [if_neg (fun q => hl q.1), Int.add_zero, q4]
          · show _ = (if sI σ 37 i < 0 then _ else _)
            rw [if_neg hl, q5]
          · rw [q6, cn_succ, if_neg (fun q => hl q.1), Int.add_zero]
  refine v_Jury_countRows_0 d aH nH aL nL aY nY aS nS aR nR aV nV σ K hR r6 r7 (lp0 0 (Nat.zero_le _) _ _ ⟨rfl, fun x x1 x2 => ?_, fun j j4 j5 => ?_, ?_, ?_, fun v => ?_⟩)
  · rw [put_ne x1, put_ne x1]
  · rw [put_at, if_neg j5, put_at, if_neg j4]
  · rw [put_at, if_neg (by decide), put_at, if_pos rfl]
    rfl
  · rw [put_at, if_pos rfl]
    rfl
  · rw [put_ne n26.symm, put_ne n26.symm, hz]
    rfl
theorem v_Jury_sentence_0 (d : Nat) (β μ κ ρ : Nat → Nat) (me : Nat → Nat → Nat) (b aH nH aL nL aY nY aS nS n : Nat) (p3 : Int) (σ : am_S) (K : Int → am_S → Prop) (hR : TR σ aH nH aL nL aY nY aS nS) (hB : BS σ β μ κ ρ me n) (h :
  am_Calls PP MLL (d + 5) m_Jury_tellRows [qr (26, 1, 8), qr (3, 9, 11), qr (β b, 0, 9), qi p3] σ (kV fun s1 =>
    (TR s1 aH nH aL nL aY nY aS nS ∧ BS s1 β μ κ ρ me n) ∧
    am_Calls PP MLL (d + 5) m_Jury_countRows [qr (26, 1, 8), qr (3, 9, 11)] s1 (kV fun s2 =>
      (TR s2 aH nH aL nL aY nY aS nS ∧ BS s2 β μ κ ρ me n) ∧
      (-2147483648 ≤ (sI s2 3 1) - 1 ∧ (sI s2 3 1) - 1 < 2147483648) ∧
      am_Runs PP MLL (d + 5) m_Jury_sentence 18 [some (qr (26, 1, 8)), some (qr (3, 9, 11)), some (qr (β b, 0, 9)), some (qi p3), some (qi 0), some (qi ((sI s2 3 1) - 1))] [] (putI s2 26 3 (-1000)) (kI K)))) : am_Runs PP MLL (d + 5) m_Jury_sentence 0 [some (qr (26, 1, 8)), some (qr (3, 9, 11)), some (qr (β b, 0, 9)), some (qi p3), none, none] [] σ (kI K) := am_wEF_ok (orc []) 200 (⟨rfl, (am_cV h fun s1 h1 => ⟨rfl, (am_cV h1.2 fun s2 h2 => ⟨rfl, ⟨rfl, ⟨⟨h2.2.1.1, h2.2.1.2⟩, h2.2.2⟩⟩⟩)⟩)⟩)

theorem v_Jury_sentence_18 (d : Nat) (aH nH aL nL aY nY aS nS aR nR aV nV : Nat) (v4 v5 : Int) (z2 z3 : Option am_V) (σ : am_S) (K : Int → am_S → Prop) (hR : TR σ aH nH aL nL aY nY aS nS) (hr : sR σ 26 6 = some (aR, 20, nR)) (hv : sR σ 26 7 = some (aV, 20, nV)) (h :
  ((v5 < 0 →
    am_Runs PP MLL (d + 5) m_Jury_sentence 43 [some (qr (26, 1, 8)), some (qr (3, 9, 11)), z2, z3, some (qi v4), some (qi 0)] [] σ (kI K)) ∧
  (¬ (v5 < 0) →
    (0 ≤ v5 ∧ v5 < ((nS : Nat) : Int)) ∧
    (((sI σ aS (Int.toNat v5)) = 0 →
      (v5 < ((nR : Nat) : Int) ∧ 0 ≤ (sI σ aR (Int.toNat v5)) ∧ (sI σ aR (Int.toNat v5)) < ((nV : Nat) : Int)) ∧
      (((sI σ aV (Int.toNat (sI σ aR (Int.toNat v5)))) = 1 →
        (-2147483648 ≤ v4 + 1 ∧ v4 + 1 < 2147483648 ∧ -2147483648 ≤ v5 + (-1) ∧ v5 + (-1) < 2147483648) ∧
        am_Runs PP MLL (d + 5) m_Jury_sentence 18 [some (qr (26, 1, 8)), some (qr (3, 9, 11)), z2, (am_cl z3), some (qi (v4 + 1)), some (qi (v5 + (-1)))] [] σ (kI K)) ∧
      (¬ ((sI σ aV (Int.toNat (sI σ aR (Int.toNat v5)))) = 1) →
        (-2147483648 ≤ v5 + (-1) ∧ v5 + (-1) < 2147483648) ∧
        am_Runs PP MLL (d + 5) m_Jury_sentence 18 [some (qr (26, 1, 8)), some (qr (3, 9, 11)), z2, z3, some (qi v4), some (qi (v5 + (-1)))] [] (putI σ 26 3 v5) (kI K)))) ∧
    (¬ ((sI σ aS (Int.toNat v5)) = 0) →
      (-2147483648 ≤ v5 + (-1) ∧ v5 + (-1) < 2147483648) ∧
      am_Runs PP MLL (d + 5) m_Jury_sentence 18 [some (qr (26, 1, 8)), some (qr (3, 9, 11)), z2, z3, some (qi v4), some (qi (v5 + (-1)))] [] σ (kI K)))))) : am_Runs PP MLL (d + 5) m_Jury_sentence 18 [some (qr (26, 1, 8)), some (qr (3, 9, 11)), z2, z3, some (qi v4), some (qi v5)] [] σ (kI K) := am_wEF_ok (orc [(26, aV, 20, nV), (28, aR, 20, nR)]) 200 (⟨fun c2 => (h.1 c2), fun c2 => ⟨rfl, am_wEF_ok (orc [(1, aS, 20, nS)]) 200 (⟨⟨rfl, hR.2.2.2.2⟩, ⟨⟨rfl, (h.2 c2).1.1, (h.2 c2).1.2⟩, ⟨fun c3 => ⟨(Or.inr rfl), ⟨fun c => absurd c (by decide : ¬ ((1 : Int) = 0)), fun _ => ⟨⟨rfl, hv⟩, ⟨⟨rfl, hr⟩, ⟨⟨rfl, (h.2 c2).1.1, ((h.2 c2).2.1 c3).1.1⟩, ⟨⟨rfl, ((h.2 c2).2.1 c3).1.2.1, ((h.2 c2).2.1 c3).1.2.2⟩, ⟨fun c5 => ⟨⟨(((h.2 c2).2.1 c3).2.1 c5).1.1, (((h.2 c2).2.1 c3).2.1 c5).1.2.1⟩, ⟨⟨(((h.2 c2).2.1 c3).2.1 c5).1.2.2.1, (((h.2 c2).2.1 c3).2.1 c5).1.2.2.2⟩, (((h.2 c2).2.1 c3).2.1 c5).2⟩⟩, fun c5 => ⟨rfl, ⟨⟨(((h.2 c2).2.1 c3).2.2 c5).1.1, (((h.2 c2).2.1 c3).2.2 c5).1.2⟩, (((h.2 c2).2.1 c3).2.2 c5).2⟩⟩⟩⟩⟩⟩⟩⟩⟩, fun c3 => ⟨(Or.inl rfl), ⟨fun _ => ⟨⟨((h.2 c2).2.2 c3).1.1, ((h.2 c2).2.2 c3).1.2⟩, ((h.2 c2).2.2 c3).2⟩, fun c => absurd (by decide : (0 : Int) = 0) c⟩⟩⟩⟩⟩)⟩⟩)

theorem v_Jury_sentence_43 (d : Nat) (aH nH aL nL aY nY aS nS aR nR aV nV : Nat) (v4 v5 : Int) (z2 z3 : Option am_V) (σ : am_S) (K : Int → am_S → Prop) (hR : TR σ aH nH aL nL aY nY aS nS) (hr : sR σ 26 6 = some (aR, 20, nR)) (hv : sR σ 26 7 = some (aV, 20, nV)) (h :
  (((sI σ 3 1) ≤ v5 →
    K v4 (putI σ 26 2 1)) ∧
  (¬ ((sI σ 3 1) ≤ v5) →
    (0 ≤ v5 ∧ v5 < ((nS : Nat) : Int)) ∧
    (((sI σ aS (Int.toNat v5)) = 0 →
      (v5 < ((nR : Nat) : Int) ∧ 0 ≤ (sI σ aR (Int.toNat v5)) ∧ (sI σ aR (Int.toNat v5)) < ((nV : Nat) : Int) ∧ -2147483648 ≤ v5 + 1 ∧ v5 + 1 < 2147483648) ∧
      am_Runs PP MLL (d + 5) m_Jury_sentence 43 [some (qr (26, 1, 8)), some (qr (3, 9, 11)), z2, z3, some (qi v4), some (qi (v5 + 1))] [] (putI σ aV (Int.toNat (sI σ aR (Int.toNat v5))) 0) (kI K)) ∧
    (¬ ((sI σ aS (Int.toNat v5)) = 0) →
      (-2147483648 ≤ v5 + 1 ∧ v5 + 1 < 2147483648) ∧
      am_Runs PP MLL (d + 5) m_Jury_sentence 43 [some (qr (26, 1, 8)), some (qr (3, 9, 11)), z2, z3, some (qi v4), some (qi (v5 + 1))] [] σ (kI K)))))) : am_Runs PP MLL (d + 5) m_Jury_sentence 43 [some (qr (26, 1, 8)), some (qr (3, 9, 11)), z2, z3, some (qi v4), some (qi v5)] [] σ (kI K) := am_wEF_ok (orc [(52, aV, 20, nV), (54, aR, 20, nR)]) 200 (⟨rfl, ⟨fun c2 => ⟨⟨rfl, (Or.inr rfl)⟩, (h.1 c2)⟩, fun c2 => ⟨rfl, am_wEF_ok (orc [(1, aS, 20, nS)]) 200 (⟨⟨rfl, hR.2.2.2.2⟩, ⟨⟨rfl, (h.2 c2).1.1, (h.2 c2).1.2⟩, ⟨fun c3 => ⟨(Or.inr rfl), ⟨fun c => absurd c (by decide : ¬ ((1 : Int) = 0)), fun _ => ⟨⟨rfl, hv⟩, ⟨⟨rfl, hr⟩, ⟨⟨rfl, (h.2 c2).1.1, ((h.2 c2).2.1 c3).1.1⟩, ⟨⟨rfl, ((h.2 c2).2.1 c3).1.2.1, ((h.2 c2).2.1 c3).1.2.2.1⟩, ⟨⟨((h.2 c2).2.1 c3).1.2.2.2.1, ((h.2 c2).2.1 c3).1.2.2.2.2⟩, ((h.2 c2).2.1 c3).2⟩⟩⟩⟩⟩⟩⟩, fun c3 => ⟨(Or.inl rfl), ⟨fun _ => ⟨⟨((h.2 c2).2.2 c3).1.1, ((h.2 c2).2.2 c3).1.2⟩, ((h.2 c2).2.2 c3).2⟩, fun c => absurd (by decide : (0 : Int) = 0) c⟩⟩⟩⟩⟩)⟩⟩⟩)

/-- what sentence leaves -/
def JSP (σ s : am_S) (own own' : Nat → Nat) (S r : Nat → Int) (nR nV aR' nR' aV' nV' T : Nat) : Prop :=
  sR s 26 6 = some (aR', 20, nR') ∧ sR s 26 7 = some (aV', 20, nV') ∧ own' aR' = 29 ∧ own' aV' = 30 ∧ (∀ x, x < sN σ → own' x = own x) ∧ (aR' < sN s ∧ aV' < sN s) ∧ (∀ v, sI s aV' v = 0)
  ∧ (sI s 26 2 = 1 ∧ sI s 26 3 = sh S r T T ∧ sI s 26 4 = un S r T ∧ sI s 26 5 = lg S r T)
  ∧ (∀ x, x < sN σ → own x ≠ 29 → own x ≠ 30 → x ≠ 26 → sI s x = sI σ x) ∧ (∀ x, x < sN σ → x ≠ 26 → ∀ j, sR s x j = sR σ x j) ∧ (∀ j, j ≠ 6 → j ≠ 7 → sR s 26 j = sR σ 26 j)
  ∧ sN σ ≤ sN s ∧ sN s + (nR + nV) ≤ sN σ + (nR' + nV') ∧ sU s + 2 * (nR + nV) ≤ sU σ + 2 * (nR' + nV') ∧ nR' ≤ 20000 ∧ nV' ≤ 235298

theorem c_sentence (d : Nat) {own β μ κ ρ : Nat → Nat} {me : Nat → Nat → Nat} {aH nH aL nL aY nY aS nS : Nat} {aR nR aV nV b n N l m T W k : Nat} {kd : Int} {σ : am_S} {K : Int → am_S → Prop} (hR : TR σ aH nH aL nL aY nY aS nS) (hB : BS σ β μ κ ρ me n) (hO : OW own aH aL aY aS) (hOB : OB own β μ ρ n) (h87 : 87 ≤ sN σ) (hbl : ∀ b, b < n → β b < sN σ ∧ μ b < sN σ ∧ ρ b + 3 < sN σ) (hl4 : aH < sN σ ∧ aL < sN σ ∧ aY < sN σ ∧ aS < sN σ) (hb : b < n) (hkb : κ b ≤ 3) (hT : TI σ N l m kd T) (hK : KTt σ aH aL N l m kd T) (hS : KS σ aY aS T W) (h31 : sI σ 3 1 = T) (hH : T ≤ nH) (hL : T ≤ nL) (hSn : T ≤ nS) (ho : sI σ 10 2 = 0)
    (r6 : sR σ 26 6 = some (aR, 20, nR)) (r7 : sR σ 26 7 = some (aV, 20, nV)) (oR : own aR = 29) (oV : own aV = 30) (lR : aR < sN σ) (lV : aV < sN σ) (leR : nR ≤ 20000) (leV : nV ≤ 235298) (hz : ∀ v, sI σ aV v = 0) (hk : k ≤ 6) (hJ : JH σ β κ me b n k)
    (h : ∀ s own' aR' nR' aV' nV', JSP σ s own own' (sI σ 37) (fun t => cr σ β κ me b t k) nR nV aR' nR' aV' nV' T → K (al (sI σ 37) (fun t => cr σ β κ me b t k) T T) s) :
    am_Calls PP MLL (d + 6) m_Jury_sentence [qr (26, 1, 8), qr (3, 9, 11), qr (β b, 0, 9), qi (k : Int)] σ (kI K) := by
  have hO0 := hO
  obtain ⟨o1, o2, o3, o4, o5⟩ := hO
  have hT10 := hT.2.2.2.2.2.2.2.2.1
  obtain ⟨S, eS⟩ : ∃ S, S = sI σ 37 := ⟨_, rfl⟩
  obtain ⟨r, er⟩ : ∃ r, r = fun t => cr σ β κ me b t k := ⟨_, rfl⟩
  rw [← eS, ← er] at h
  refine v_Jury_sentence_0 d β μ κ ρ me b aH nH aL nL aY nY aS nS n k σ K hR hB ?_
  refine c_tellRows d hR hB hO0 hOB h87 hbl hl4 hb hkb hT hK hS h31 hH hL hSn ho r6 r7 oR oV lR lV leR leV hz hk hJ ?_
  intro s1 own1 aR' nR' aV' nV' hj1 hrow
  obtain ⟨j1, j2, j3, j4, j5, ⟨j6, j6'⟩, ⟨j7, j7'⟩, j8, j9, j10, j11, j12, j13, j14, j15, j16⟩ := hj1
  have hB1 : BS s1 β μ κ ρ me n := BS_fr hB (fun b _ => j10 9 (by omega) (by decide) b) (fun b hb j => by
    have q := hbl b hb
    have w := hOB b hb
    have o26 := o1 26 (by decide)
    exact ⟨j10 _ q.1 (own_ne w.1 o26 (by omega)) j, j10 _ (by omega) (own_ne (w.2.2 0 (by decide)) o26 (by omega)) j, j10 _ (by omega) (own_ne (w.2.2 2 (by decide)) o26 (by omega)) j, j10 _ q.2.1 (own_ne w.2.1 o26 (by omega)) j⟩)
  have hR1 : TR s1 aH nH aL nL aY nY aS nS := TR_fr hR (fun a j q q26 _ _ _ _ _ _ => by
    by_cases e : a = 26
    · rw [e]
      exact j11 j (by have := q26 e; omega) (by have := q26 e; omega)
    · exact j10 a (by omega) e j)
  refine ⟨⟨hR1, hB1⟩, ?_⟩
  have I1 : ∀ x, x < 87 → x ≠ 29 → sI s1 x = sI σ x := fun x hx q => j9 x (by omega) (by rw [o1 x hx]; exact q)
  have eaS : sI s1 aS = sI σ aS := j9 aS hl4.2.2.2 (by rw [o5]; decide)
  have eaY : sI s1 aY = sI σ aY := j9 aY hl4.2.2.1 (by rw [o4]; decide)
  have hO1 : OW own1 aH aL aY aS := ⟨fun a ha => (j5 a (by omega)).trans (o1 a ha), (j5 _ hl4.1).trans o2, (j5 _ hl4.2.1).trans o3, (j5 _ hl4.2.2.1).trans o4, (j5 _ hl4.2.2.2).trans o5⟩
  have hS1 : KS s1 aY aS T W := by
    unfold KS
    rw [eaS, eaY, I1 37 (by decide) (by decide), I1 38 (by decide) (by decide), I1 36 (by decide) (by decide)]
    exact hS
  have hr1 : ∀ t, t < T → sI s1 37 t < 0 → sI s1 aR' t = r t ∧ 0 ≤ r t ∧ r t < nV' := by
    intro t ht hl
    rw [I1 37 (by decide) (by decide)] at hl
    have bb := cr_bd (β := β) (κ := κ) (me := me) (b := b) (n := n) (TI_40 hT ht) k hJ
    rw [er]
    refine ⟨hrow t ht hl, bb.1, ?_⟩
    show cr σ β κ me b t k < nV'
    omega
  refine c_countRows (d + 3) (r := r) hR1 hO1 j1 j2 j3 j4 hT10 hS1 (by rw [I1 3 (by decide) (by decide)]; exact h31) hSn j7 j8 hr1 ?_
  intro s2 hc2
  rw [I1 37 (by decide) (by decide), ← eS] at hc2
  obtain ⟨q1, q2, q3, q4, q5, q6⟩ := hc2
  have o26 := hO1.1 26 (by decide)
  have n26 : 26 ≠ aV' := own_ne o26 j4 (by decide)
  have n3 : 3 ≠ aV' := own_ne (hO1.1 3 (by decide)) j4 (by decide)
  have nSV : aS ≠ aV' := own_ne hO1.2.2.2.2 j4 (by decide)
  have nS26 : aS ≠ 26 := own_ne hO1.2.2.2.2 o26 (by decide)
  have nRV : aR' ≠ aV' := own_ne j3 j4 (by decide)
  have nR26 : aR' ≠ 26 := own_ne j3 o26 (by decide)
  have sRe : ∀ s, s.2 = s1.2 → ∀ x j, sR s x j = sR s1 x j := by
    intro s hs x j
    unfold sR
    rw [hs]
  have fx : ∀ s, s.2 = s1.2 → TR s aH nH aL nL aY nY aS nS ∧ BS s β μ κ ρ me n ∧ sR s 26 6 = some (aR', 20, nR') ∧ sR s 26 7 = some (aV', 20, nV') := by
    intro s hs
    have e : sR s = sR s1 := by
      funext a j
      exact sRe s hs a j
    unfold TR CF BS
    rw [e]
    exact ⟨hR1, hB1, j1, j2⟩
  obtain ⟨g1, g2, g3, g4⟩ := fx s2 q1
  have e31 : sI s2 3 1 = T := by rw [q2 3 (by decide) n3, I1 3 (by decide) (by decide)]; exact h31
  rw [e31]
  refine ⟨⟨g1, g2⟩, by omega, ?_⟩
  have hleft : ∀ s, sI s aS = sI σ aS → ∀ t, t < T → (sI s aS t = 0 ↔ S t < 0) := by
    intro s hs t ht
    obtain ⟨a1, a2, a3, _⟩ := hS t ht
    rw [hs, eS]
    omega
  have row : ∀ t, t < T → S t < 0 → 0 ≤ r t ∧ r t < nV' := fun t ht hl => (hr1 t ht (by rw [I1 37 (by decide) (by decide), ← eS]; exact hl)).2
  have rowR : ∀ s, sI s aR' = sI s1 aR' → ∀ t, t < T → S t < 0 → sI s aR' t = r t := fun s hs t ht hl => by
    rw [hs]
    exact (hr1 t ht (by rw [I1 37 (by decide) (by decide), ← eS]; exact hl)).1
  -- the last loop
  have l3 : ∀ s3 : am_S, s3.2 = s1.2 → (∀ x, x ≠ 26 → x ≠ aV' → sI s3 x = sI s1 x) → sI s3 26 3 = sh S r T T → sI s3 26 4 = un S r T → sI s3 26 5 = lg S r T → ∀ i : Nat, i ≤ T → ∀ s z2 z3, s.2 = s1.2 → (∀ x, x ≠ aV' → sI s x = sI s3 x) → (∀ v : Nat, sI s aV' v = if cn S r i v = 0 then cn S r T v else 0) → am_Runs PP MLL (d + 5) m_Jury_sentence 43 [some (qr (26, 1, 8)), some (qr (3, 9, 11)), z2, z3, some (qi (al S r T T)), some (qi (i : Int))] [] s (kI K) := by
    intro s3 b1 b2 b3 b4 b5
    refine lp ?_ ?_
    · intro s z2 z3 c1 c2 c3
      obtain ⟨g1, g2, g3, g4⟩ := fx s c1
      refine v_Jury_sentence_43 d aH nH aL nL aY nY aS nS aR' nR' aV' nV' _ _ z2 z3 s K g1 g3 g4 ⟨fun _ => ?_, fun c => absurd ?_ c⟩
      · have eo : ∀ x, x ≠ 26 → x ≠ aV' → sI (putI s 26 2 1) x = sI s1 x := fun x x1 x2 => by rw [put_ne x1, c2 x x2, b2 x x1 x2]
        have nN : sN (putI s 26 2 1) = sN s1 := by
          show sN s = _
          unfold sN
          rw [c1]
        have nU : sU (putI s 26 2 1) = sU s1 := by
          show sU s = _
          unfold sU
          rw [c1]
        have sR' : ∀ x j, sR (putI s 26 2 1) x j = sR s1 x j := fun x j => sRe s c1 x j
        refine h _ own1 aR' nR' aV' nV' ⟨by rw [sR']; exact j1, by rw [sR']; exact j2, j3, j4, j5, ⟨by rw [nN]; exact j6, by rw [nN]; exact j6'⟩, fun v => ?_, ⟨?_, ?_, ?_, ?_⟩, fun x hx x29 x30 x26 => ?_, fun x hx q j => by rw [sR']; exact j10 x hx q j, fun j a b => by rw [sR']; exact j11 j a b, by rw [nN]; exact j12, by rw [nN]; exact j13, by rw [nU]; exact j14, j15, j16⟩
        · rw [put_ne n26.symm, c3]
          split
          · rename_i e; exact e
          · rfl
        · rw [put_at, if_pos rfl]
        · rw [put_at, if_neg (by decide), c2 26 n26, b3]
        · rw [put_at, if_neg (by decide), c2 26 n26, b4]
        · rw [put_at, if_neg (by decide), c2 26 n26, b5]
        · rw [eo x x26 (fun e => x30 (by rw [← j5 x hx, e, j4])), j9 x hx x29]
      · rw [c2 3 n3, b2 3 (by decide) n3, I1 3 (by decide) (by decide)]
        omega
    · intro i hi ih s z2 z3 c1 c2 c3
      obtain ⟨g1, g2, g3, g4⟩ := fx s c1
      have eaS2 : sI s aS = sI σ aS := by rw [c2 aS nSV, b2 aS nS26 nSV, eaS]
      have hli := hleft s eaS2 i hi
      refine v_Jury_sentence_43 d aH nH aL nL aY nY aS nS aR' nR' aV' nV' _ _ z2 z3 s K g1 g3 g4 ⟨fun c => absurd c ?_, fun _ => ?_⟩
      · rw [c2 3 n3, b2 3 (by decide) n3, I1 3 (by decide) (by decide)]
        omega
      · rw [Int.toNat_natCast]
        refine ⟨by omega, fun c => ?_, fun c => ⟨by omega, ?_⟩⟩
        · have hl := hli.mp c
          obtain ⟨w1, w2⟩ := row i hi hl
          rw [rowR s (by rw [c2 aR' nRV, b2 aR' nR26 nRV]) i hi hl]
          refine ⟨by omega, ?_⟩
          refine ih _ _ _ c1 (fun x hx => by rw [put_ne hx]; exact c2 x hx) (fun v => ?_)
          rw [put_at, c3, cn_succ]
          have hc := cn_bd S r i v
          by_cases e : v = (r i).toNat
          · have e0 : (if S i < 0 ∧ r i = (v : Int) then (1 : Int) else 0) = 1 := if_pos ⟨hl, by omega⟩
            rw [if_pos e, e0, if_neg (by omega)]
          · have e0 : (if S i < 0 ∧ r i = (v : Int) then (1 : Int) else 0) = 0 := if_neg (fun q => e (by omega))
            rw [if_neg e, e0, Int.add_zero]
        · have hl : ¬ S i < 0 := fun q => c (hli.mpr q)
          refine ih s _ _ c1 c2 (fun v => ?_)
          have e0 : (if S i < 0 ∧ r i = (v : Int) then (1 : Int) else 0) = 0 := if_neg (fun q => hl q.1)
          rw [c3, cn_succ, e0, Int.add_zero]
  -- the middle loop
  have l2 : ∀ q : Nat, q ≤ T → ∀ s z2 z3, s.2 = s1.2 → (∀ x, x ≠ 26 → sI s x = sI s2 x) → (∀ j, j ≠ 3 → sI s 26 j = sI s2 26 j) → sI s 26 3 = sh S r T q → am_Runs PP MLL (d + 5) m_Jury_sentence 18 [some (qr (26, 1, 8)), some (qr (3, 9, 11)), z2, z3, some (qi (al S r T q)), some (qi ((T : Int) - 1 - q))] [] s (kI K) := by
    refine lp ?_ ?_
    · intro s z2 z3 c1 c2 c3 c4
      obtain ⟨g1, g2, g3, g4⟩ := fx s c1
      refine v_Jury_sentence_18 d aH nH aL nL aY nY aS nS aR' nR' aV' nV' _ _ z2 z3 s K g1 g3 g4 ⟨fun _ => ?_, fun c => absurd (by omega) c⟩
      refine l3 s c1 (fun x x1 x2 => by rw [c2 x x1, q2 x x1 x2]) c4 (by rw [c3 4 (by decide), q4]) (by rw [c3 5 (by decide), q5]) 0 (Nat.zero_le _) s z2 z3 c1 (fun _ _ => rfl) (fun v => ?_)
      rw [c2 aV' n26.symm, q6]
      exact (if_pos rfl).symm
    · intro q hq ih s z2 z3 c1 c2 c3 c4
      obtain ⟨g1, g2, g3, g4⟩ := fx s c1
      have et : Int.toNat ((T : Int) - 1 - q) = T - 1 - q := by omega
      have ec : (((T - 1 - q : Nat) : Int)) = (T : Int) - 1 - q := by omega
      have en : (T : Int) - 1 - q + -1 = (T : Int) - 1 - ((q + 1 : Nat) : Int) := by omega
      have hal := al_bd S r T q
      have eaS2 : sI s aS = sI σ aS := by rw [c2 aS nS26, q2 aS nS26 nSV, eaS]
      have hli := hleft s eaS2 (T - 1 - q) (by omega)
      have al1 : al S r T (q + 1) = al S r T q + (if S (T - 1 - q) < 0 ∧ cn S r T (r (T - 1 - q)) = 1 then 1 else 0) := rfl
      have sh1 : sh S r T (q + 1) = if S (T - 1 - q) < 0 ∧ ¬ cn S r T (r (T - 1 - q)) = 1 then ((T - 1 - q : Nat) : Int) else sh S r T q := rfl
      refine v_Jury_sentence_18 d aH nH aL nL aY nY aS nS aR' nR' aV' nV' _ _ z2 z3 s K g1 g3 g4 ⟨fun c => absurd c (by omega), fun _ => ?_⟩
      rw [et]
      refine ⟨by omega, fun c => ?_, fun c => ⟨by omega, ?_⟩⟩
      · have hl := hli.mp c
        obtain ⟨w1, w2⟩ := row (T - 1 - q) (by omega) hl
        have ev : sI s aV' (r (T - 1 - q)).toNat = cn S r T (r (T - 1 - q)) := by rw [c2 aV' n26.symm, q6, Int.toNat_of_nonneg w1]
        rw [rowR s (by rw [c2 aR' nR26, q2 aR' nR26 nRV]) (T - 1 - q) (by omega) hl, ev, en]
        refine ⟨by omega, fun c5 => ⟨by omega, ?_⟩, fun c5 => ⟨by omega, ?_⟩⟩
        · have ih := ih s z2 (am_cl z3) c1 c2 c3 (by rw [c4, sh1, if_neg (fun w => w.2 c5)])
          rw [al1, if_pos ⟨hl, c5⟩] at ih
          exact ih
        · have ih := ih (putI s 26 3 ((T : Int) - 1 - q)) z2 z3 c1 (fun x hx => by rw [put_ne hx]; exact c2 x hx) (fun j hj => by rw [put_at, if_neg hj]; exact c3 j hj) (by rw [put_at, if_pos rfl, sh1, if_pos ⟨hl, c5⟩, ec])
          rw [al1, if_neg (fun w => c5 w.2), Int.add_zero] at ih
          exact ih
      · have hl : ¬ S (T - 1 - q) < 0 := fun w => c (hli.mpr w)
        have ih := ih s z2 z3 c1 c2 c3 (by rw [c4, sh1, if_neg (fun w => hl w.1)])
        rw [al1, if_neg (fun w => hl w.1), Int.add_zero] at ih
        rw [en]
        exact ih
  have fin := l2 0 (Nat.zero_le _) (putI s2 26 3 (-1000)) (some (qr (β b, 0, 9))) (some (qi (k : Int))) q1 (fun x hx => by rw [put_ne hx]) (fun j hj => by rw [put_at, if_neg hj]) (by rw [put_at, if_pos rfl]; rfl)
  rw [show (T : Int) - 1 - ((0 : Nat) : Int) = (T : Int) - 1 by omega] at fin
  exact fin
