/-! the class: suspects are gathered -/
theorem v_Suspects_gather_0 (d : Nat) (aH nH aL nL aY nY aS nS aI nI : Nat) (σ : am_S) (K : am_S → Prop) (hR : TR σ aH nH aL nL aY nY aS nS) (hi : sR σ 13 4 = some (aI, 20, nI)) (h :
  am_Runs PP MLL (d + 5) m_Suspects_gather 9 [some (qr (13, 6, 5)), some (qr (3, 9, 11)), some (qi 0), none] [] (putI (putI σ 13 2 (sI σ 3 0)) 13 3 0) (kV K)) : am_Runs PP MLL (d + 5) m_Suspects_gather 0 [some (qr (13, 6, 5)), some (qr (3, 9, 11)), none, none] [] σ (kV K) := am_wEF_ok (orc []) 200 (⟨rfl, ⟨rfl, ⟨rfl, h⟩⟩⟩)

theorem v_Suspects_gather_9 (d : Nat) (aH nH aL nL aY nY aS nS aI nI : Nat) (v2 : Int) (z3 : Option am_V) (σ : am_S) (K : am_S → Prop) (hR : TR σ aH nH aL nL aY nY aS nS) (hi : sR σ 13 4 = some (aI, 20, nI)) (h :
  (((sI σ 3 1) ≤ v2 →
    am_Calls PP MLL (d + 5) m_C_roomFor_AIIAI [qr (aI, 20, nI), qi 3960] σ (kO fun x4 s4 =>
      (TR s4 aH nH aL nL aY nY aS nS ∧ sR s4 13 4 = some (aI, 20, nI)) ∧
      am_Runs PP MLL (d + 5) m_Suspects_gather 52 [some (qr (13, 6, 5)), some (qr (3, 9, 11)), some (qi 1), z3] [] (putR s4 13 4 x4) (kV K))) ∧
  (¬ ((sI σ 3 1) ≤ v2) →
    ((60 ≤ (sI σ 13 3) →
      am_Calls PP MLL (d + 5) m_C_roomFor_AIIAI [qr (aI, 20, nI), qi 3960] σ (kO fun x7 s7 =>
        (TR s7 aH nH aL nL aY nY aS nS ∧ sR s7 13 4 = some (aI, 20, nI)) ∧
        am_Runs PP MLL (d + 5) m_Suspects_gather 52 [some (qr (13, 6, 5)), some (qr (3, 9, 11)), some (qi 1), z3] [] (putR s7 13 4 x7) (kV K))) ∧
    (¬ (60 ≤ (sI σ 13 3)) →
      (0 ≤ v2 ∧ v2 < ((nS : Nat) : Int)) ∧
      (((sI σ aS (Int.toNat v2)) = 0 →
        (0 ≤ (sI σ 13 3) ∧ (sI σ 13 3) < 60) ∧
        v2 < ((nY : Nat) : Int) ∧
        (0 ≤ (sI (putI σ 14 (Int.toNat (sI σ 13 3)) v2) aY (Int.toNat v2)) ∧ (sI (putI σ 14 (Int.toNat (sI σ 13 3)) v2) aY (Int.toNat v2)) < 1073741824) ∧
        (-2147483648 ≤ (sI σ 13 3) + 1 ∧ (sI σ 13 3) + 1 < 2147483648 ∧ -2147483648 ≤ v2 + 1 ∧ v2 + 1 < 2147483648) ∧
        am_Runs PP MLL (d + 5) m_Suspects_gather 9 [some (qr (13, 6, 5)), some (qr (3, 9, 11)), some (qi (v2 + 1)), z3] [] (putI (putI (putI σ 14 (Int.toNat (sI σ 13 3)) v2) 15 (Int.toNat (sI σ 13 3)) (pc (Int.toNat (sI (putI σ 14 (Int.toNat (sI σ 13 3)) v2) aY (Int.toNat v2))))) 13 3 ((sI σ 13 3) + 1)) (kV K)) ∧
      (¬ ((sI σ aS (Int.toNat v2)) = 0) →
        (-2147483648 ≤ v2 + 1 ∧ v2 + 1 < 2147483648) ∧
        am_Runs PP MLL (d + 5) m_Suspects_gather 9 [some (qr (13, 6, 5)), some (qr (3, 9, 11)), some (qi (v2 + 1)), z3] [] σ (kV K)))))))) : am_Runs PP MLL (d + 5) m_Suspects_gather 9 [some (qr (13, 6, 5)), some (qr (3, 9, 11)), some (qi v2), z3] [] σ (kV K) := am_wEF_ok (orc [(23, 14, 20, 60), (29, 15, 20, 60), (46, aI, 20, nI)]) 200 (⟨rfl, ⟨fun c3 => ⟨⟨rfl, hi⟩, (am_cO (h.1 c3) fun x4 s4 h4 => ⟨rfl, h4.2⟩)⟩, fun c3 => ⟨rfl, ⟨fun c6 => ⟨⟨rfl, hi⟩, (am_cO ((h.2 c3).1 c6) fun x7 s7 h7 => ⟨rfl, h7.2⟩)⟩, fun c6 => ⟨rfl, am_wEF_ok (orc [(1, aS, 20, nS)]) 200 (⟨⟨rfl, hR.2.2.2.2⟩, ⟨⟨rfl, ((h.2 c3).2 c6).1.1, ((h.2 c3).2 c6).1.2⟩, ⟨fun c8 => ⟨(Or.inr rfl), ⟨fun c => absurd c (by decide : ¬ ((1 : Int) = 0)), fun _ => ⟨⟨rfl, (hR.1 13 0 _ rfl)⟩, ⟨rfl, ⟨⟨rfl, (((h.2 c3).2 c6).2.1 c8).1.1, (((h.2 c3).2 c6).2.1 c8).1.2⟩, ⟨⟨rfl, (hR.1 13 1 _ rfl)⟩, ⟨rfl, ⟨rfl, am_wEF_ok (orc [(1, aY, 20, nY)]) 200 (⟨⟨rfl, hR.2.2.2.1⟩, ⟨⟨rfl, ((h.2 c3).2 c6).1.1, (((h.2 c3).2 c6).2.1 c8).2.1⟩, c_ibcI _ (((h.2 c3).2 c6).2.1 c8).2.2.1.1 (((h.2 c3).2 c6).2.1 c8).2.2.1.2 (⟨⟨rfl, (((h.2 c3).2 c6).2.1 c8).1.1, (((h.2 c3).2 c6).2.1 c8).1.2⟩, ⟨rfl, ⟨⟨(((h.2 c3).2 c6).2.1 c8).2.2.2.1.1, (((h.2 c3).2 c6).2.1 c8).2.2.2.1.2.1⟩, ⟨rfl, ⟨⟨(((h.2 c3).2 c6).2.1 c8).2.2.2.1.2.2.1, (((h.2 c3).2 c6).2.1 c8).2.2.2.1.2.2.2⟩, (((h.2 c3).2 c6).2.1 c8).2.2.2.2⟩⟩⟩⟩⟩)⟩⟩)⟩⟩⟩⟩⟩⟩⟩⟩, fun c8 => ⟨(Or.inl rfl), ⟨fun _ => ⟨⟨(((h.2 c3).2 c6).2.2 c8).1.1, (((h.2 c3).2 c6).2.2 c8).1.2⟩, (((h.2 c3).2 c6).2.2 c8).2⟩, fun c => absurd (by decide : (0 : Int) = 0) c⟩⟩⟩⟩⟩)⟩⟩⟩⟩⟩)

theorem v_Suspects_gather_52 (d : Nat) (aH nH aL nL aY nY aS nS aI nI : Nat) (v2 : Int) (z3 : Option am_V) (σ : am_S) (K : am_S → Prop) (hR : TR σ aH nH aL nL aY nY aS nS) (hi : sR σ 13 4 = some (aI, 20, nI)) (h :
  (((sI σ 13 2) ≤ v2 →
    K σ) ∧
  (¬ ((sI σ 13 2) ≤ v2) →
    am_Runs PP MLL (d + 5) m_Suspects_gather 58 [some (qr (13, 6, 5)), some (qr (3, 9, 11)), some (qi v2), some (qi 0)] [] σ (kV K)))) : am_Runs PP MLL (d + 5) m_Suspects_gather 52 [some (qr (13, 6, 5)), some (qr (3, 9, 11)), some (qi v2), z3] [] σ (kV K) := am_wEF_ok (orc []) 200 (⟨rfl, ⟨fun c2 => (h.1 c2), fun c2 => (h.2 c2)⟩⟩)

theorem v_Suspects_gather_58 (d : Nat) (aH nH aL nL aY nY aS nS aI nI : Nat) (v2 v3 : Int) (σ : am_S) (K : am_S → Prop) (hR : TR σ aH nH aL nL aY nY aS nS) (hi : sR σ 13 4 = some (aI, 20, nI)) (h :
  ((v2 ≤ v3 →
    (-2147483648 ≤ v2 + 1 ∧ v2 + 1 < 2147483648) ∧
    am_Runs PP MLL (d + 5) m_Suspects_gather 52 [some (qr (13, 6, 5)), some (qr (3, 9, 11)), some (qi (v2 + 1)), some (qi v3)] [] σ (kV K)) ∧
  (¬ (v2 ≤ v3) →
    am_Calls PP MLL (d + 5) m_Suspects_mapPair [qr (13, 6, 5), qr (3, 9, 11), qi v3, qi v2] σ (kV fun s3 =>
      (TR s3 aH nH aL nL aY nY aS nS ∧ sR s3 13 4 = some (aI, 20, nI)) ∧
      (-2147483648 ≤ v3 + 1 ∧ v3 + 1 < 2147483648) ∧
      am_Runs PP MLL (d + 5) m_Suspects_gather 58 [some (qr (13, 6, 5)), some (qr (3, 9, 11)), some (qi v2), some (qi (v3 + 1))] [] s3 (kV K))))) : am_Runs PP MLL (d + 5) m_Suspects_gather 58 [some (qr (13, 6, 5)), some (qr (3, 9, 11)), some (qi v2), some (qi v3)] [] σ (kV K) := am_wEF_ok (orc []) 200 (⟨fun c2 => ⟨⟨(h.1 c2).1.1, (h.1 c2).1.2⟩, (h.1 c2).2⟩, fun c2 => ⟨rfl, (am_cV (h.2 c2) fun s3 h3 => ⟨⟨h3.2.1.1, h3.2.1.2⟩, h3.2.2⟩)⟩⟩)

theorem v_Suspects_mapPair_0 (d : Nat) (aH nH aL nL aY nY aS nS aI nI : Nat) (p2 p3 : Int) (σ : am_S) (K : am_S → Prop) (hR : TR σ aH nH aL nL aY nY aS nS) (hi : sR σ 13 4 = some (aI, 20, nI)) (h :
  am_Calls PP MLL (d + 4) m_Suspects_firstOfPair [qi p2, qi p3] σ (kI fun x1 s1 =>
    (TR s1 aH nH aL nL aY nY aS nS ∧ sR s1 13 4 = some (aI, 20, nI)) ∧
    am_Runs PP MLL (d + 4) m_Suspects_mapPair 6 [some (qr (13, 6, 5)), some (qr (3, 9, 11)), some (qi p2), some (qi p3), some (qi x1), some (qi 0)] [] s1 (kV K))) : am_Runs PP MLL (d + 4) m_Suspects_mapPair 0 [some (qr (13, 6, 5)), some (qr (3, 9, 11)), some (qi p2), some (qi p3), none, none] [] σ (kV K) := am_wEF_ok (orc []) 200 ((am_cI h fun x1 s1 h1 => h1.2))

theorem v_Suspects_mapPair_6 (d : Nat) (aH nH aL nL aY nY aS nS aI nI : Nat) (p2 p3 v4 v5 : Int) (σ : am_S) (K : am_S → Prop) (hR : TR σ aH nH aL nL aY nY aS nS) (hi : sR σ 13 4 = some (aI, 20, nI)) (h :
  (((sI σ 13 3) ≤ v5 →
    K σ) ∧
  (¬ ((sI σ 13 3) ≤ v5) →
    (-2147483648 ≤ v4 + v5 ∧ v4 + v5 < 2147483648 ∧ 0 ≤ v5 ∧ v5 < 60) ∧
    am_Calls PP MLL (d + 4) m_Truths_exchanged [qr (3, 9, 11), qi (sI σ 14 (Int.toNat v5)), qi p2, qi p3] σ (kI fun x3 s3 =>
      (TR s3 aH nH aL nL aY nY aS nS ∧ sR s3 13 4 = some (aI, 20, nI)) ∧
      am_Calls PP MLL (d + 4) m_Suspects_placeOf [qr (13, 6, 5), qi x3] s3 (kI fun x4 s4 =>
        (TR s4 aH nH aL nL aY nY aS nS ∧ sR s4 13 4 = some (aI, 20, nI)) ∧
        (0 ≤ (v4 + v5) ∧ (v4 + v5) < ((nI : Nat) : Int) ∧ -2147483648 ≤ v5 + 1 ∧ v5 + 1 < 2147483648) ∧
        am_Runs PP MLL (d + 4) m_Suspects_mapPair 6 [some (qr (13, 6, 5)), some (qr (3, 9, 11)), some (qi p2), some (qi p3), some (qi v4), some (qi (v5 + 1))] [] (putI s4 aI (Int.toNat (v4 + v5)) x4) (kV K)))))) : am_Runs PP MLL (d + 4) m_Suspects_mapPair 6 [some (qr (13, 6, 5)), some (qr (3, 9, 11)), some (qi p2), some (qi p3), some (qi v4), some (qi v5)] [] σ (kV K) := am_wEF_ok (orc [(11, aI, 20, nI), (18, 14, 20, 60)]) 200 (⟨rfl, ⟨fun c2 => (h.1 c2), fun c2 => ⟨⟨rfl, hi⟩, ⟨⟨(h.2 c2).1.1, (h.2 c2).1.2.1⟩, ⟨⟨rfl, (hR.1 13 0 _ rfl)⟩, ⟨⟨rfl, (h.2 c2).1.2.2.1, (h.2 c2).1.2.2.2⟩, ⟨rfl, (am_cI (h.2 c2).2 fun x3 s3 h3 => ⟨rfl, (am_cI h3.2 fun x4 s4 h4 => ⟨⟨rfl, h4.2.1.1, h4.2.1.2.1⟩, ⟨⟨h4.2.1.2.2.1, h4.2.1.2.2.2⟩, h4.2.2⟩⟩)⟩)⟩⟩⟩⟩⟩⟩⟩)

theorem v_Suspects_placeOf_0 (d : Nat) (p1 : Int) (σ : am_S) (K : Int → am_S → Prop) (hC : CF σ) (h :
  am_Runs PP MLL d m_Suspects_placeOf 2 [some (qr (13, 6, 5)), some (qi p1), some (qi 0)] [] σ (kI K)) : am_Runs PP MLL d m_Suspects_placeOf 0 [some (qr (13, 6, 5)), some (qi p1), none] [] σ (kI K) := am_wEF_ok (orc []) 200 (h)

theorem v_Suspects_placeOf_2 (d : Nat) (p1 v2 : Int) (σ : am_S) (K : Int → am_S → Prop) (hC : CF σ) (h :
  (((sI σ 13 3) ≤ v2 →
    K (-1) σ) ∧
  (¬ ((sI σ 13 3) ≤ v2) →
    (0 ≤ v2 ∧ v2 < 60) ∧
    (((sI σ 14 (Int.toNat v2)) = p1 →
      K v2 σ) ∧
    (¬ ((sI σ 14 (Int.toNat v2)) = p1) →
      (-2147483648 ≤ v2 + 1 ∧ v2 + 1 < 2147483648) ∧
      am_Runs PP MLL d m_Suspects_placeOf 2 [some (qr (13, 6, 5)), some (qi p1), some (qi (v2 + 1))] [] σ (kI K)))))) : am_Runs PP MLL d m_Suspects_placeOf 2 [some (qr (13, 6, 5)), some (qi p1), some (qi v2)] [] σ (kI K) := am_wEF_ok (orc [(7, 14, 20, 60)]) 200 (⟨rfl, ⟨fun c1 => (h.1 c1), fun c1 => ⟨⟨rfl, (hC 13 0 _ rfl)⟩, ⟨⟨rfl, (h.2 c1).1.1, (h.2 c1).1.2⟩, ⟨fun c2 => ((h.2 c1).2.1 c2), fun c2 => ⟨⟨((h.2 c1).2.2 c2).1.1, ((h.2 c1).2.2 c2).1.2⟩, ((h.2 c1).2.2 c2).2⟩⟩⟩⟩⟩⟩)

/-- the truths -/
def IT (σ : am_S) (own : Nat → Nat) (aH nH aL nL aY nY aS nS N l m T W : Nat) (kd : Int) : Prop :=
  TR σ aH nH aL nL aY nY aS nS ∧ OW own aH aL aY aS ∧ TI σ N l m kd T ∧ KTt σ aH aL N l m kd T ∧ KS σ aY aS T W ∧ (W ≤ 30 ∧ sI σ 3 0 = N ∧ sI σ 3 1 = T ∧ sI σ 3 2 = lf (sI σ 37) T ∧ sI σ 3 3 = W ∧ sI σ 31 13 = W ∧ sI σ 3 4 = l ∧ sI σ 3 5 = kd) ∧ (T ≤ nH ∧ T ≤ nL ∧ T ≤ nY ∧ T ≤ nS) ∧ (nH ≤ 20000 ∧ nL ≤ 20000 ∧ nY ≤ 20000 ∧ nS ≤ 20000) ∧ (aH < sN σ ∧ aL < sN σ ∧ aY < sN σ ∧ aS < sN σ) ∧ 87 ≤ sN σ
/-- only the suspects have changed -/
def GSf (σ s : am_S) (aI : Nat) : Prop := (∀ x, x < sN σ → x ≠ 13 → x ≠ 14 → x ≠ 15 → x ≠ aI → sI s x = sI σ x) ∧ (∀ x, x < sN σ → ∀ j, (x = 13 ∧ j = 4) ∨ sR s x j = sR σ x j) ∧ sN σ ≤ sN s
theorem GSf_TR {σ s : am_S} {aI aH nH aL nL aY nY aS nS : Nat} (h : GSf σ s aI) (h87 : 87 ≤ sN σ) (hR : TR σ aH nH aL nL aY nY aS nS) : TR s aH nH aL nL aY nY aS nS := by
  obtain ⟨c, r1, r2, r3, r4⟩ := hR
  have e : ∀ x j, x < 87 → x ≠ 13 → sR s x j = sR σ x j := fun x j hx h13 => by
    rcases h.2.1 x (by omega) j with e | e
    · exact absurd e.1 h13
    · exact e
  refine ⟨fun a j r hr => ?_, by rw [e 3 6 (by decide) (by decide)]; exact r1, by rw [e 3 7 (by decide) (by decide)]; exact r2, by rw [e 3 8 (by decide) (by decide)]; exact r3, by rw [e 3 9 (by decide) (by decide)]; exact r4⟩
  obtain ⟨q1, q2, q3, q4, q5, q6, q7, q8, q9⟩ := cref_dec _ (crefF_mem _ a j r hr)
  rcases h.2.1 a (by omega) j with ⟨e1, e2⟩ | e
  · have : j < 2 := q4 e1
    omega
  · rw [e]; exact c a j r hr
theorem GSf_MF {σ s : am_S} {aI : Nat} (h : GSf σ s aI) (h87 : 87 ≤ sN σ) (hF : MF σ) : MF s := fun j => by
  rcases h.2.1 31 (by omega) j with e | e
  · omega
  · rw [e]; exact hF j
/-- a place among the suspects -/
theorem c_placeOf (d : Nat) {M u : Nat} {g : Nat → Int} {tr : Nat → Nat} {σ : am_S} {K : Int → am_S → Prop} (hC : CF σ) (hM : sI σ 13 3 = M) (hM2 : M ≤ 60) (h14 : ∀ p, p < M → sI σ 14 p = tr p) (hg : ∀ p, p < M → g (tr p) < 0 ∧ lfN g (tr p) = p) (hu : g u < 0 → lfN g u < M ∧ tr (lfN g u) = u) (h : K (if g u < 0 then ((lfN g u : Nat) : Int) else -1) σ) : am_Calls PP MLL (d + 1) m_Suspects_placeOf [qr (13, 6, 5), qi (u : Int)] σ (kI K) := by
  have loop : ∀ q i, i + q = M → (∀ p, p < i → tr p ≠ u) → am_Runs PP MLL d m_Suspects_placeOf 2 [some (qr (13, 6, 5)), some (qi (u : Int)), some (qi (i : Int))] [] σ (kI K) := by
    intro q
    induction q with
    | zero =>
      intro i hi hn
      refine v_Suspects_placeOf_2 d _ _ σ K hC ⟨fun _ => ?_, fun c => absurd (by rw [hM]; omega) c⟩
      by_cases e : g u < 0
      · obtain ⟨h1, h2⟩ := hu e
        exact absurd h2 (hn _ (by omega))
      · rw [if_neg e] at h
        exact h
    | succ q ih =>
      intro i hi hn
      refine v_Suspects_placeOf_2 d _ _ σ K hC ⟨fun c => absurd c (by rw [hM]; omega), fun _ => ⟨by omega, ?_⟩⟩
      rw [Int.toNat_natCast, h14 i (by omega), show (i : Int) + 1 = ((i + 1 : Nat) : Int) by omega]
      refine ⟨fun e => ?_, fun e => ⟨by omega, ih (i + 1) (by omega) (fun p hp => ?_)⟩⟩
      · have eu : tr i = u := by omega
        obtain ⟨g1, g2⟩ := hg i (by omega)
        rw [eu] at g1 g2
        rw [if_pos g1, g2] at h
        exact h
      · by_cases e2 : p = i
        · rw [e2]; intro z; exact e (by rw [z])
        · exact hn p (by omega)
  refine v_Suspects_placeOf_0 d _ σ K hC ?_
  exact loop M 0 (by omega) (fun p hp => absurd hp (Nat.not_lt_zero p))
theorem fop_lt : ∀ b : Fin 12, ∀ a : Fin 12, ∀ b' : Fin 12, ∀ a' : Fin 12, a.val < b.val → a'.val < b'.val → (b'.val < b.val ∨ (b'.val = b.val ∧ a'.val < a.val)) → fop a'.val b'.val + 60 ≤ fop a.val b.val := by decide +kernel
/-- the suspects' rows -/
def SUS (s : am_S) (n M : Nat) (tr : Nat → Nat) (c0 : Nat → Int) : Prop := sI s 13 2 = n ∧ sI s 13 3 = M ∧ ∀ p, p < M → sI s 14 p = tr p ∧ sI s 15 p = c0 p
/-- one pair of coins -/
theorem c_mapPair (d : Nat) {aH nH aL nL aY nY aS nS aI nI n l m T W a b : Nat} {own : Nat → Nat} {kd : Int} {σ0 σ : am_S} {K : am_S → Prop} (hI : IT σ0 own aH nH aL nL aY nY aS nS n l m T W kd) (hF : MF σ0) (hG : GSf σ0 σ aI) (hoI : own aI = 16) (hi : sR σ 13 4 = some (aI, 20, nI)) (hnI : 3960 ≤ nI) (hM : lfN (sI σ0 37) T ≤ 60) (hM1 : 1 ≤ lfN (sI σ0 37) T) (hS : SUS σ n (lfN (sI σ0 37) T) (trX σ0 T) (cX σ0 T)) (ha : a < b) (hb : b < n) (hn : n ≤ 12)
    (h : ∀ s, s.2 = σ.2 → (∀ x, x ≠ aI → sI s x = sI σ x) → (∀ j, j < fop a b → sI s aI j = sI σ aI j) → (∀ p, p < lfN (sI σ0 37) T → sI s aI (fop a b + p) = xpl σ0 n l m kd T p a b) → K s) : am_Calls PP MLL (d + 5) m_Suspects_mapPair [qr (13, 6, 5), qr (3, 9, 11), qi (a : Int), qi (b : Int)] σ (kV K) := by
  obtain ⟨hR, ow, ti, kt, ks, ⟨w1, w2, w3, w4, w5, w6, w7, w8⟩, ⟨l1, l2, l3, l4⟩, _, ⟨p1, p2, p3, p4⟩, h87⟩ := hI
  obtain ⟨o1, o2, o3, o4, o5⟩ := ow
  obtain ⟨f1, f2, f3⟩ := fop_tri b (by omega) a ha
  have nI87 : ∀ x, x < 87 → x ≠ 16 → x ≠ aI := fun x hx h16 e => by
    have := o1 x hx
    rw [e, hoI] at this
    omega
  have neH : aH ≠ aI ∧ aH ≠ 13 ∧ aH ≠ 14 ∧ aH ≠ 15 := by
    refine ⟨fun e => ?_, fun e => ?_, fun e => ?_, fun e => ?_⟩
    · rw [e, hoI] at o2; omega
    · rw [e, o1 13 (by decide)] at o2; omega
    · rw [e, o1 14 (by decide)] at o2; omega
    · rw [e, o1 15 (by decide)] at o2; omega
  have neL : aL ≠ aI ∧ aL ≠ 13 ∧ aL ≠ 14 ∧ aL ≠ 15 := by
    refine ⟨fun e => ?_, fun e => ?_, fun e => ?_, fun e => ?_⟩
    · rw [e, hoI] at o3; omega
    · rw [e, o1 13 (by decide)] at o3; omega
    · rw [e, o1 14 (by decide)] at o3; omega
    · rw [e, o1 15 (by decide)] at o3; omega
  have base : ∀ s, GSf σ0 s aI → TR s aH nH aL nL aY nY aS nS ∧ MF s ∧ TI s n l m kd T ∧ KTt s aH aL n l m kd T ∧ sI s 3 0 = n ∧ sI s 3 4 = l ∧ sI s 3 5 = kd := by
    intro s hs
    have e3 := hs.1 3 (by omega) (by decide) (by decide) (by decide) (nI87 3 (by decide) (by decide))
    refine ⟨GSf_TR hs h87 hR, GSf_MF hs h87 hF, TI_fr (fun x x1 x2 => hs.1 x (by omega) (by omega) (by omega) (by omega) (nI87 x (by omega) (by omega))) ti, ?_, by rw [e3]; exact w2, by rw [e3]; exact w7, by rw [e3]; exact w8⟩
    unfold KTt at kt ⊢
    rw [hs.1 aH p1 neH.2.1 neH.2.2.1 neH.2.2.2 neH.1, hs.1 aL p2 neL.2.1 neL.2.2.1 neL.2.2.2 neL.1]
    exact kt
  have hGs : ∀ s, s.2 = σ.2 → (∀ x, x ≠ aI → sI s x = sI σ x) → GSf σ0 s aI := fun s s2 so => ⟨fun x x1 x2 x3 x4 x5 => (so x x5).trans (hG.1 x x1 x2 x3 x4 x5), fun x hx j => by
    rcases hG.2.1 x hx j with e | e
    · exact Or.inl e
    · exact Or.inr (by rw [R2' s2]; exact e), by have := hG.2.2; unfold sN at *; rw [s2]; exact this⟩
  have loop : ∀ q p s, p + q = lfN (sI σ0 37) T → s.2 = σ.2 → (∀ x, x ≠ aI → sI s x = sI σ x) → (∀ j, j < fop a b → sI s aI j = sI σ aI j) → (∀ p', p' < p → sI s aI (fop a b + p') = xpl σ0 n l m kd T p' a b) → am_Runs PP MLL (d + 4) m_Suspects_mapPair 6 [some (qr (13, 6, 5)), some (qr (3, 9, 11)), some (qi (a : Int)), some (qi (b : Int)), some (qi (fop a b : Int)), some (qi (p : Int))] [] s (kV K) := by
    intro q
    induction q with
    | zero =>
      intro p s hp s2 so s3 s4
      obtain ⟨b1, _⟩ := base s (hGs s s2 so)
      have e13 := so 13 (nI87 13 (by decide) (by decide))
      refine v_Suspects_mapPair_6 d aH nH aL nL aY nY aS nS aI nI _ _ _ _ s K b1 (by rw [R2' s2]; exact hi) ⟨fun _ => ?_, fun c => absurd (by rw [e13, hS.2.1]; omega) c⟩
      exact h s s2 so s3 (fun p' hp' => s4 p' (by omega))
    | succ q ih =>
      intro p s hp s2 so s3 s4
      obtain ⟨b1, b2, b3, b4, b5, b6, b7⟩ := base s (hGs s s2 so)
      have e13 := so 13 (nI87 13 (by decide) (by decide))
      have e14 := so 14 (nI87 14 (by decide) (by decide))
      have hi' : sR s 13 4 = some (aI, 20, nI) := by rw [R2' s2]; exact hi
      have tl' := trX_T (σ := σ0) hM1 p
      have T4 := ti.2.2.2.2.2.2.2.2.1
      refine v_Suspects_mapPair_6 d aH nH aL nL aY nY aS nS aI nI _ _ _ _ s K b1 hi' ⟨fun c => absurd c (by rw [e13, hS.2.1]; omega), fun _ => ⟨by omega, ?_⟩⟩
      rw [Int.toNat_natCast, e14, (hS.2.2 p (by omega)).1]
      refine c_exchanged d b1 b2 b3 b4 b5 b6 b7 l1 l2 tl' (by omega) hb (fun u hx => ?_)
      have hx0 : XR σ0 n l m kd a b (trX σ0 T p) u := XR_cg ((hGs s s2 so).1 33 (by omega) (by decide) (by decide) (by decide) (nI87 33 (by decide) (by decide))) ((hGs s s2 so).1 34 (by omega) (by decide) (by decide) (by decide) (nI87 34 (by decide) (by decide))) ((hGs s s2 so).1 35 (by omega) (by decide) (by decide) (by decide) (nI87 35 (by decide) (by decide))) hx
      have ul := XR_lt ti hx0
      refine ⟨⟨b1, hi'⟩, ?_⟩
      refine c_placeOf (d + 3) (M := lfN (sI σ0 37) T) (g := sI σ0 37) (tr := trX σ0 T) b1.1 (by rw [e13]; exact hS.2.1) hM (fun p' hp' => by rw [e14]; exact (hS.2.2 p' hp').1) (fun p' hp' => (trX_sp hp').2) (fun hu => ⟨lfN_lt hu ul, ?_⟩) ⟨⟨b1, hi'⟩, by omega, ?_⟩
      · unfold trX
        rw [if_pos (lfN_lt hu ul), trp_lf ul hu]
      · rw [show (fop a b : Int) + (p : Int) = ((fop a b + p : Nat) : Int) by omega, Int.toNat_natCast, show (p : Int) + 1 = ((p + 1 : Nat) : Int) by omega, ← xpl_sp ti (by omega) hx0]
        refine ih (p + 1) _ (by omega) s2 (fun x hx' => by rw [put_ne hx', so x hx']) (fun j hj => by rw [put_at, if_neg (by omega), s3 j hj]) (fun p' hp' => ?_)
        rw [put_at]
        by_cases e : p' = p
        · rw [if_pos (by omega), e]
        · rw [if_neg (by omega)]
          exact s4 p' (by omega)
  obtain ⟨b1, _⟩ := base σ hG
  refine v_Suspects_mapPair_0 d aH nH aL nL aY nY aS nS aI nI _ _ σ K b1 hi ?_
  refine c_firstOfPair (d + 3) ha (by omega) ⟨⟨b1, hi⟩, ?_⟩
  exact loop _ 0 σ (Nat.zero_add _) rfl (fun _ _ => rfl) (fun _ _ => rfl) (fun p' hp' => absurd hp' (Nat.not_lt_zero p'))
