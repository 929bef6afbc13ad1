/-! the class: tellRows -/
theorem cpr_bd {σ : am_S} {β κ : Nat → Nat} {me : Nat → Nat → Nat} {b n : Nat} : ∀ k, JH σ β κ me b n k → 1 ≤ cpr σ β κ me b k ∧ cpr σ β κ me b k ≤ 7 ^ k
  | 0, _ => by
    show (1 : Int) ≤ 1 ∧ (1 : Int) ≤ 7 ^ 0
    decide
  | k + 1, h => by
    obtain ⟨i3, i4⟩ := cpr_bd (β := β) (κ := κ) (me := me) (b := b) (n := n) k (fun i hi => h i (by omega))
    obtain ⟨j1, j2, j3⟩ := h k (by omega)
    have hm := mo_13 (sI σ (β (cw κ me b k)) 0)
    rw [← j2] at hm
    show 1 ≤ cpr σ β κ me b k * cdg σ β κ me b k ∧ cpr σ β κ me b k * cdg σ β κ me b k ≤ 7 ^ (k + 1)
    rw [Int.pow_succ]
    have ed : cdg σ β κ me b k = 2 * sI σ (β (cw κ me b k)) 5 + 1 := rfl
    rcases hm with e | e
    · rw [e] at ed
      rw [ed]
      omega
    · rw [e] at ed
      rw [ed]
      omega
theorem c_tellRows (d : Nat) {own β μ κ ρ : Nat → Nat} {me : Nat → Nat → Nat} {aH nH aL nL aY nY aS nS : Nat} {aR nR aV nV b n N l m T W k : Nat} {kd : Int} {σ : am_S} {K : am_S → Prop} (hR : TR σ aH nH aL nL aY nY aS nS) (hB : BS σ β μ κ ρ me n) (hO : OW own aH aL aY aS) (hOB : OB own β μ ρ n) (h87 : 87 ≤ sN σ) (hbl : ∀ b, b < n → β b < sN σ ∧ μ b < sN σ ∧ ρ b + 3 < sN σ) (hl4 : aH < sN σ ∧ aL < sN σ ∧ aY < sN σ ∧ aS < sN σ) (hb : b < n) (hkb : κ b ≤ 3) (hT : TI σ N l m kd T) (hK : KTt σ aH aL N l m kd T) (hS : KS σ aY aS T W) (h31 : sI σ 3 1 = T) (hH : T ≤ nH) (hL : T ≤ nL) (hSn : T ≤ nS) (ho : sI σ 10 2 = 0)
    (r6 : sR σ 26 6 = some (aR, 20, nR)) (r7 : sR σ 26 7 = some (aV, 20, nV)) (oR : own aR = 29) (oV : own aV = 30) (lR : aR < sN σ) (lV : aV < sN σ) (leR : nR ≤ 20000) (leV : nV ≤ 235298) (hz : ∀ v, sI σ aV v = 0) (hk : k ≤ 6) (hJ : JH σ β κ me b n k)
    (h : ∀ s own' aR' nR' aV' nV', JR σ s own own' nR nV aR' nR' aV' nV' T (cpr σ β κ me b k) → (∀ t, t < T → sI σ 37 t < 0 → sI s aR' t = cr σ β κ me b t k) → K s) :
    am_Calls PP MLL (d + 5) m_Jury_tellRows [qr (26, 1, 8), qr (3, 9, 11), qr (β b, 0, 9), qi (k : Int)] σ (kV K) := by
  obtain ⟨o1, o2, o3, o4, o5⟩ := hO
  have hT10 := hT.2.2.2.2.2.2.2.2.1
  refine v_Jury_tellRows_0 d β μ κ ρ me b aH nH aL nL aY nY aS nS n k σ K hR hB ?_
  rw [r6, h31]
  refine c_rmI (d + 1) lR (by omega) (by omega) ?_
  intro s1 aR' nR'0 m1
  obtain ⟨p1, lt1, le1, N1, U1, M1⟩ := RM_a lR m1
  have F1 := m1.1.1
  have mx1 := m1.2.2.1
  have tR := m1.2.1
  have hB1 : BS s1 β μ κ ρ me n := BS_fr hB (fun b _ => (F1 9 (by omega)).2 b) (fun b hb j => by
    have q := hbl b hb
    exact ⟨(F1 _ q.1).2 j, (F1 _ (by omega)).2 j, (F1 _ (by omega)).2 j, (F1 _ q.2.1).2 j⟩)
  have hR1 : TR s1 aH nH aL nL aY nY aS nS := TR_fr hR (fun a j q _ _ _ _ _ _ _ => (F1 a (by omega)).2 j)
  refine ⟨⟨hR1, hB1⟩, ?_⟩
  refine c_fillI (d + 3) (by omega) ?_
  obtain ⟨E, hE⟩ : ∃ E, E = rowI (putR s1 26 6 (some (aR', 20, nR'0))) aR' (fun j => if j < nR'0 then 0 else sI (putR s1 26 6 (some (aR', 20, nR'0))) aR' j) := ⟨_, rfl⟩
  rw [← hE]
  have nE : sN E = sN s1 := by rw [hE]; rfl
  have uE : sU E = sU s1 := by rw [hE]; rfl
  have RE : ∀ x j, ¬ (x = 26 ∧ j = 6) → sR E x j = sR s1 x j := by rw [hE]; intro x j q; show sR (putR s1 26 6 _) x j = _; rw [sR_putR, if_neg q]
  have RE6 : sR E 26 6 = some (aR', 20, nR'0) := by rw [hE]; show sR (putR s1 26 6 _) 26 6 = _; rw [sR_putR, if_pos ⟨rfl, rfl⟩]
  have IE : ∀ x, x ≠ aR' → sI E x = sI s1 x := by rw [hE]; intro x q; rw [row_ne q]; rfl
  have IER : ∀ j, j < nR'0 → sI E aR' j = 0 := by
    intro j hj
    rw [hE, row_at]
    exact if_pos hj
  -- roles
  have nR' : ∀ x, x < sN σ → own x ≠ 29 → x ≠ aR' := by
    intro x hx q e
    rcases p1 with e1 | e1
    · exact q (by rw [e, e1, oR])
    · omega
  have IES : ∀ x, x < sN σ → own x ≠ 29 → sI E x = sI σ x := fun x hx q => by rw [IE x (nR' x hx q), (F1 x hx).1]
  have hBE : BS E β μ κ ρ me n := BS_fr hB1 (fun b _ => RE 9 b (by omega)) (fun b hb j => by
    have q := hOB b hb
    have w : ∀ x, x ≠ 26 → sR E x j = sR s1 x j := fun x hx => RE x j (fun e => hx e.1)
    have o26 := o1 26 (by decide)
    exact ⟨w _ (own_ne q.1 o26 (by omega)), w _ (own_ne (q.2.2 0 (by decide)) o26 (by omega)), w _ (own_ne (q.2.2 2 (by decide)) o26 (by omega)), w _ (own_ne q.2.1 o26 (by omega))⟩)
  have hRE : TR E aH nH aL nL aY nY aS nS := TR_fr hR1 (fun a j q q26 _ _ _ _ _ _ => RE a j (fun w => by have := q26 w.1; omega))
  refine ⟨⟨hRE, hBE⟩, ?_⟩
  -- the store of the loops
  have fx : ∀ s, s.2 = E.2 → TR s aH nH aL nL aY nY aS nS ∧ BS s β μ κ ρ me n ∧ sR s 26 6 = some (aR', 20, nR'0) := by
    intro s hs
    have e : sR s = sR E := by
      funext a j
      unfold sR
      rw [hs]
    unfold TR CF BS
    rw [e]
    exact ⟨hRE, hBE, RE6⟩
  have cell : ∀ s, (∀ x, x ≠ aR' → sI s x = sI E x) → ∀ x, x < sN σ → own x ≠ 29 → sI s x = sI σ x := fun s hs x hx q => by rw [hs x (nR' x hx q), IES x hx q]
  have inner : ∀ kk : Nat, kk < k → (∀ s z6 z7 z8 z9, s.2 = E.2 → (∀ x, x ≠ aR' → sI s x = sI E x) → (∀ t, t < T → sI σ 37 t < 0 → sI s aR' t = cr σ β κ me b t (kk + 1)) → am_Runs PP MLL (d + 4) m_Jury_tellRows 15 [some (qr (26, 1, 8)), some (qr (3, 9, 11)), some (qr (β b, 0, 9)), some (qi (k : Int)), some (qi (cpr σ β κ me b (kk + 1))), some (qi ((kk + 1 : Nat) : Int)), z6, z7, z8, z9] [] s (kV K)) →
      ∀ i : Nat, i ≤ T → ∀ s z9, s.2 = E.2 → (∀ x, x ≠ aR' → sI s x = sI E x) → (∀ t, t < T → sI σ 37 t < 0 → sI s aR' t = if t < i then cr σ β κ me b t (kk + 1) else cr σ β κ me b t kk) → am_Runs PP MLL (d + 4) m_Jury_tellRows 35 [some (qr (26, 1, 8)), some (qr (3, 9, 11)), some (qr (β b, 0, 9)), some (qi (k : Int)), some (qi (cpr σ β κ me b (kk + 1))), some (qi (kk : Int)), some (qr (β (cw κ me b kk), 0, 9)), some (qi (cdg σ β κ me b kk)), some (qi (i : Int)), z9] [] s (kV K) := by
    intro kk hkk next
    obtain ⟨g1, g2, g3, g4, g5, g6, g7⟩ := hJ kk hkk
    have q := hbl _ g1
    have qo := hOB _ g1
    refine lp ?_ ?_
    · intro s z9 hs1 hs2 hs3
      obtain ⟨t1, t2, t3⟩ := fx s hs1
      refine v_Jury_tellRows_35 d β μ κ ρ me b (cw κ me b kk) aH nH aL nL aY nY aS nS n aR' nR'0 k _ kk _ _ z9 s K t1 t2 t3 ⟨fun _ => ⟨by omega, ?_⟩, fun c => absurd ?_ c⟩
      · refine next s _ _ _ _ hs1 hs2 (fun t ht hl => ?_)
        rw [hs3 t ht hl, if_pos ht]
      · rw [cell s hs2 3 (by omega) (by rw [o1 3 (by decide)]; decide)]
        omega
    · intro i hi ih s z9 hs1 hs2 hs3
      obtain ⟨t1, t2, t3⟩ := fx s hs1
      obtain ⟨s1, s2, s3, s4, s5, s6, s7⟩ := hS i hi
      have cs : ∀ x, x < 87 → x ≠ 29 → sI s x = sI σ x := fun x hx hx2 => cell s hs2 x (by omega) (by rw [o1 x hx]; exact hx2)
      have cS : sI s aS = sI σ aS := cell s hs2 aS hl4.2.2.2 (by rw [o5]; decide)
      have cB : sI s (β (cw κ me b kk)) = sI σ (β (cw κ me b kk)) := cell s hs2 _ q.1 (by rw [qo.1]; omega)
      refine v_Jury_tellRows_35 d β μ κ ρ me b (cw κ me b kk) aH nH aL nL aY nY aS nS n aR' nR'0 k _ kk _ _ z9 s K t1 t2 t3 ⟨fun c => absurd c ?_, fun _ => ?_⟩
      · rw [cs 3 (by decide) (by decide)]
        omega
      · rw [Int.toNat_natCast, cS]
        refine ⟨by omega, fun c => ⟨by omega, ?_⟩, fun c => ⟨by omega, ?_⟩⟩
        · rw [Int.toNat_natCast, cs 27 (by decide) (by decide), cs 28 (by decide) (by decide)]
          obtain ⟨H, L, kH, kL, bH, bL, kd1⟩ := k_diff (s := s) hT hK hi g7 (by rw [cell s hs2 aH hl4.1 (by rw [o2]; decide)]) (by rw [cell s hs2 aL hl4.2.1 (by rw [o3]; decide)])
          have dfb := df_bd (TI_40 hT hi) (fun c => bt_pm (sI σ 27 kk).toNat (sI σ 28 kk).toNat c)
          have e27 : sI σ 27 kk = (((sI σ 27 kk).toNat : Nat) : Int) := (Int.toNat_of_nonneg g3).symm
          have e28 : sI σ 28 kk = (((sI σ 28 kk).toNat : Nat) : Int) := (Int.toNat_of_nonneg g5).symm
          rw [e27, e28]
          refine c_difference (d + 2) t1 (by omega) (by omega) kH kL bH bL (by omega) (by omega) ⟨⟨t1, t2, t3⟩, ?_⟩
          rw [kd1]
          refine c_tells d t2 g1 (by rw [cs 10 (by decide) (by decide)]; exact ho) (by omega) ⟨⟨t1, t2, t3⟩, ?_⟩
          have ec : tl (sI s (β (cw κ me b kk)) 0) (df (fun c => bt (sI σ 27 kk).toNat c - bt (sI σ 28 kk).toNat c) (sI σ 33) (sI σ 34) (sI σ 35) i) = ctl σ β κ me b i kk := by
            rw [cB]
            rfl
          rw [ec, hs3 i hi (by omega), if_neg (Nat.lt_irrefl i), cB]
          have bb := cr_bd (β := β) (κ := κ) (me := me) (b := b) (n := n) (TI_40 hT hi) kk (fun i hi => hJ i (by omega))
          have bb1 := cr_bd (β := β) (κ := κ) (me := me) (b := b) (n := n) (TI_40 hT hi) (kk + 1) (fun i hi => hJ i (by omega))
          have es : cr σ β κ me b i (kk + 1) = cdg σ β κ me b kk * cr σ β κ me b i kk + sI σ (β (cw κ me b kk)) 5 + ctl σ β κ me b i kk := rfl
          rw [← es]
          have p7a : (7 : Int) ^ (kk + 1) ≤ 117649 := p7 (by omega)
          have ht : -mo (sI σ (β (cw κ me b kk)) 0) ≤ ctl σ β κ me b i kk ∧ ctl σ β κ me b i kk ≤ mo (sI σ (β (cw κ me b kk)) 0) := tl_mo dfb
          have hm := mo_13 (sI σ (β (cw κ me b kk)) 0)
          refine ⟨⟨by omega, by omega, by omega, by omega, by omega, by omega, by omega, by omega, by omega⟩, ?_⟩
          refine ih _ _ hs1 (fun x hx => by rw [put_ne hx]; exact hs2 x hx) (fun t ht2 hl2 => ?_)
          rw [put_at]
          by_cases e : t = i
          · rw [if_pos e, if_pos (by omega), e]
          · rw [if_neg e, hs3 t ht2 hl2]
            by_cases e2 : t < i
            · rw [if_pos e2, if_pos (by omega)]
            · rw [if_neg e2, if_neg (by omega)]
        · refine ih s _ hs1 hs2 (fun t ht2 hl2 => ?_)
          rw [hs3 t ht2 hl2]
          by_cases e2 : t < i
          · rw [if_pos e2, if_pos (by omega)]
          · have : t ≠ i := fun e => by rw [e] at hl2; omega
            rw [if_neg e2, if_neg (by omega)]
  have outer : ∀ kk : Nat, kk ≤ k → ∀ s z6 z7 z8 z9, s.2 = E.2 → (∀ x, x ≠ aR' → sI s x = sI E x) → (∀ t, t < T → sI σ 37 t < 0 → sI s aR' t = cr σ β κ me b t kk) → am_Runs PP MLL (d + 4) m_Jury_tellRows 15 [some (qr (26, 1, 8)), some (qr (3, 9, 11)), some (qr (β b, 0, 9)), some (qi (k : Int)), some (qi (cpr σ β κ me b kk)), some (qi (kk : Int)), z6, z7, z8, z9] [] s (kV K) := by
    refine lp ?_ ?_
    · intro s z6 z7 z8 z9 hs1 hs2 hs3
      obtain ⟨t1, t2, t3⟩ := fx s hs1
      refine v_Jury_tellRows_15 d β μ κ ρ me b aH nH aL nL aY nY aS nS n k _ k z6 z7 z8 z9 s K t1 t2 ⟨fun _ => ?_, fun c => absurd (Int.le_refl _) c⟩
      have sRs : ∀ x j, sR s x j = sR E x j := by
        intro x j
        unfold sR
        rw [hs1]
      have sNs : sN s = sN s1 := by
        rw [← nE]
        unfold sN
        rw [hs1]
      have sUs : sU s = sU s1 := by
        rw [← uE]
        unfold sU
        rw [hs1]
      obtain ⟨c1, c2⟩ := cpr_bd (β := β) (κ := κ) (me := me) (b := b) (n := n) k hJ
      have p7a : (7 : Int) ^ k ≤ 117649 := p7 hk
      obtain ⟨Q, hQ⟩ : ∃ Q : Nat, cpr σ β κ me b k = Q := ⟨_, (Int.toNat_of_nonneg (by omega)).symm⟩
      rw [show sR s 26 7 = some (aV, 20, nV) from by rw [sRs, RE 26 7 (by omega), (F1 26 (by omega)).2, r7], hQ]
      refine c_rmI (d + 1) (by omega) (by omega) (by omega) ?_
      intro s3 aV' nV' m3
      obtain ⟨p3, lt3, le3, N3, U3, M3⟩ := RM_a (by omega) m3
      have F3 := m3.1.1
      have mx3 := m3.2.2.1
      have hB3 : BS s3 β μ κ ρ me n := BS_fr t2 (fun b _ => (F3 9 (by omega)).2 b) (fun b hb j => by
        have q := hbl b hb
        exact ⟨(F3 _ (by omega)).2 j, (F3 _ (by omega)).2 j, (F3 _ (by omega)).2 j, (F3 _ (by omega)).2 j⟩)
      have hR3 : TR s3 aH nH aL nL aY nY aS nS := TR_fr t1 (fun a j q _ _ _ _ _ _ _ => (F3 a (by omega)).2 j)
      refine ⟨⟨hR3, hB3⟩, ?_⟩
      have dRV : aR' ≠ aV' := by
        rcases p1 with e | e <;> rcases p3 with e' | e'
        · rw [e, e']; exact own_ne oR oV (by decide)
        · omega
        · omega
        · omega
      have R3 : ∀ x j, ¬ (x = 26 ∧ j = 7) → sR (putR s3 26 7 (some (aV', 20, nV'))) x j = sR s3 x j := fun x j q => by rw [sR_putR, if_neg q]
      have oldS : ∀ x, x < sN σ → own x ≠ 29 → sI s x = sI σ x := cell s hs2
      refine h (putR s3 26 7 (some (aV', 20, nV'))) (fun x => if x = aR' then 29 else if x = aV' then 30 else own x) aR' nR'0 aV' nV' ⟨?_, ?_, ?_, ?_, ?_, ⟨?_, ?_⟩, ⟨?_, ?_⟩, ?_, ?_, ?_, ?_, ?_, ?_, ?_, ?_, ?_⟩ ?_
      · rw [R3 26 6 (by omega), (F3 26 (by omega)).2, t3]
      · rw [sR_putR, if_pos ⟨rfl, rfl⟩]
      · exact if_pos rfl
      · show (if aV' = aR' then 29 else if aV' = aV' then 30 else _) = _
        rw [if_neg dRV.symm, if_pos rfl]
      · intro x hx
        show (if x = aR' then 29 else if x = aV' then 30 else own x) = own x
        by_cases e : x = aR'
        · rw [if_pos e]
          rcases p1 with w | w
          · rw [e, w, oR]
          · omega
        · rw [if_neg e]
          by_cases e2 : x = aV'
          · rw [if_pos e2]
            rcases p3 with w | w
            · rw [e2, w, oV]
            · omega
          · rw [if_neg e2]
      · show aR' < sN s3
        omega
      · exact lt3
      · exact tR
      · have := m3.2.1
        omega
      · intro v
        show sI s3 aV' v = 0
        have zs : ∀ v, sI s aV v = 0 := fun v => by rw [oldS aV lV (by rw [oV]; decide)]; exact hz v
        by_cases e : v < nV
        · rw [m3.2.2.2.1 v e, zs]
        · rcases m3.2.2.2.2 with ⟨w1, w2, w3⟩ | ⟨_, _, _, _, _, w⟩
          · rw [w3, w1, zs]
          · exact w v (by omega)
      · intro x hx q
        show sI s3 x = sI σ x
        rw [(F3 x (by omega)).1, oldS x hx q]
      · intro x hx q j
        rw [R3 x j (fun w => q w.1), (F3 x (by omega)).2, sRs, RE x j (fun w => q w.1), (F1 x hx).2]
      · intro j q1 q2
        rw [R3 26 j (by omega), (F3 26 (by omega)).2, sRs, RE 26 j (by omega), (F1 26 (by omega)).2]
      · show sN σ ≤ sN s3
        omega
      · show sN s3 + (nR + nV) ≤ _
        omega
      · show sU s3 + 2 * (nR + nV) ≤ _
        omega
      · omega
      · omega
      · intro t ht hl
        show sI s3 aR' t = _
        rw [(F3 aR' (by omega)).1]
        exact hs3 t ht hl
    · intro kk hkk ih s z6 z7 z8 z9 hs1 hs2 hs3
      obtain ⟨t1, t2, t3⟩ := fx s hs1
      obtain ⟨g1, g2, g3, g4, g5, g6, g7⟩ := hJ kk hkk
      have q := hbl _ g1
      have qo := hOB _ g1
      refine v_Jury_tellRows_15 d β μ κ ρ me b aH nH aL nL aY nY aS nS n k _ kk z6 z7 z8 z9 s K t1 t2 ⟨fun c => absurd c (by omega), fun _ => ?_⟩
      refine c_weigherAt (d + 2) t2 hb hkb (by omega) ⟨⟨t1, t2⟩, ?_⟩
      have cB : sI s (β (cw κ me b kk)) = sI σ (β (cw κ me b kk)) := cell s hs2 _ q.1 (by rw [qo.1]; omega)
      show ((0 : Nat) = 0 ∧ -2147483648 ≤ 2 * (sI s (β (cw κ me b kk)) 5) ∧ 2 * (sI s (β (cw κ me b kk)) 5) < 2147483648 ∧ -2147483648 ≤ (2 * (sI s (β (cw κ me b kk)) 5)) + 1 ∧ (2 * (sI s (β (cw κ me b kk)) 5)) + 1 < 2147483648 ∧ -2147483648 ≤ cpr σ β κ me b kk * ((2 * (sI s (β (cw κ me b kk)) 5)) + 1) ∧ cpr σ β κ me b kk * ((2 * (sI s (β (cw κ me b kk)) 5)) + 1) < 2147483648) ∧ am_Runs PP MLL (d + 4) m_Jury_tellRows 35 [some (qr (26, 1, 8)), some (qr (3, 9, 11)), some (qr (β b, 0, 9)), some (qi (k : Int)), some (qi (cpr σ β κ me b kk * ((2 * (sI s (β (cw κ me b kk)) 5)) + 1))), some (qi (kk : Int)), some (qr (β (cw κ me b kk), 0, 9)), some (qi ((2 * (sI s (β (cw κ me b kk)) 5)) + 1)), some (qi 0), z9] [] s (kV K)
      rw [cB]
      have hm := mo_13 (sI σ (β (cw κ me b kk)) 0)
      obtain ⟨c1, c2⟩ := cpr_bd (β := β) (κ := κ) (me := me) (b := b) (n := n) (kk + 1) (fun i hi => hJ i (by omega))
      have p7a : (7 : Int) ^ (kk + 1) ≤ 117649 := p7 (by omega)
      have ep : cpr σ β κ me b kk * ((2 * (sI σ (β (cw κ me b kk)) 5)) + 1) = cpr σ β κ me b (kk + 1) := rfl
      rw [ep]
      refine ⟨⟨rfl, by omega, by omega, by omega, by omega, by omega, by omega⟩, ?_⟩
      refine inner kk hkk ih 0 (Nat.zero_le _) s _ hs1 hs2 (fun t ht hl => ?_)
      rw [hs3 t ht hl, if_neg (Nat.not_lt_zero t)]
  refine outer 0 (Nat.zero_le _) E _ _ _ _ rfl (fun _ _ => rfl) (fun t ht _ => ?_)
  exact IER t (by omega)
