/-! the calls in pairs: coins -/
theorem v_C_coinsC_0 (d : Nat) (β μ κ ρ : Nat → Nat) (me : Nat → Nat → Nat) (n : Nat) (p1 p2 p3 p4 : Int) (σ : am_S) (K : Int → am_S → Prop) (hC : CF σ) (hB : BS σ β μ κ ρ me n) (h :
  ((p1 < 1 →
    K (-1001) σ) ∧
  (¬ (p1 < 1) →
    ((40 < p1 →
      K (-1001) σ) ∧
    (¬ (40 < p1) →
      ((p4 < 1 →
        K (-1001) σ) ∧
      (¬ (p4 < 1) →
        ((p4 ≤ 3 →
          ((p2 < 0 →
            K (-1001) σ) ∧
          (¬ (p2 < 0) →
            ((p3 < p2 →
              K (-1001) σ) ∧
            (¬ (p3 < p2) →
              ((3 < p3 →
                K (-1001) σ) ∧
              (¬ (3 < p3) →
                ((p3 ≤ p1 →
                  am_Calls PP MLL (d + 4) m_Truths_howMany [qi p1, qi p2, qi p3, qi p4] σ (kI fun x9 s9 =>
                    (CF s9 ∧ BS s9 β μ κ ρ me n) ∧
                    ((x9 ≤ 10000 →
                      am_Calls PP MLL (d + 4) m_Truths_charge [qr (3, 9, 11), qi p1, qi p2, qi p3, qi p4] s9 (kV fun s11 =>
                        (CF s11 ∧ BS s11 β μ κ ρ me n) ∧
                        am_Runs PP MLL (d + 4) m_C_coins 45 [some (qr (2, 11, 10)), some (qi p1), some (qi p2), some (qi p3), some (qi p4), some (qi 0)] [] s11 (kI K))) ∧
                    (¬ (x9 ≤ 10000) →
                      K (-1003) s9)))) ∧
                (¬ (p3 ≤ p1) →
                  K (-1001) σ))))))))) ∧
        (¬ (p4 ≤ 3) →
          K (-1001) σ))))))))) : am_Runs PP MLL (d + 4) m_C_coins 0 [some (qr (2, 11, 10)), some (qi p1), some (qi p2), some (qi p3), some (qi p4), none] [] σ (kI K) := am_wEF_ok (orc [(37, 3, 9, 11)]) 200 (⟨fun c1 => (h.1 c1), fun c1 => ⟨fun c2 => ((h.2 c1).1 c2), fun c2 => ⟨fun c3 => (((h.2 c1).2 c2).1 c3), fun c3 => ⟨fun c4 => ⟨fun c5 => (((((h.2 c1).2 c2).2 c3).1 c4).1 c5), fun c5 => ⟨fun c6 => ((((((h.2 c1).2 c2).2 c3).1 c4).2 c5).1 c6), fun c6 => ⟨fun c7 => (((((((h.2 c1).2 c2).2 c3).1 c4).2 c5).2 c6).1 c7), fun c7 => ⟨fun c8 => (am_cI ((((((((h.2 c1).2 c2).2 c3).1 c4).2 c5).2 c6).2 c7).1 c8) fun x9 s9 h9 => ⟨fun c10 => ⟨⟨rfl, (h9.1.1 2 0 _ rfl)⟩, ⟨rfl, (am_cV (h9.2.1 c10) fun s11 h11 => h11.2)⟩⟩, fun c10 => (h9.2.2 c10)⟩), fun c8 => ((((((((h.2 c1).2 c2).2 c3).1 c4).2 c5).2 c6).2 c7).2 c8)⟩⟩⟩⟩, fun c4 => ((((h.2 c1).2 c2).2 c3).2 c4)⟩⟩⟩⟩)

theorem v_M_coinsT_0 (d : Nat) (p1 p2 p3 p4 : Int) (σ : am_S) (K : Int → am_S → Prop) (hF : MF σ) (hT : sI σ 31 26 = 0) (h :
  ((p1 < 1 →
    K (-1001) σ) ∧
  (¬ (p1 < 1) →
    ((40 < p1 →
      K (-1001) σ) ∧
    (¬ (40 < p1) →
      ((p2 < 0 →
        K (-1001) σ) ∧
      (¬ (p2 < 0) →
        ((3 < p2 →
          K (-1001) σ) ∧
        (¬ (3 < p2) →
          ((p3 < 0 →
            K (-1001) σ) ∧
          (¬ (p3 < 0) →
            ((3 < p3 →
              K (-1001) σ) ∧
            (¬ (3 < p3) →
              ((p1 < p3 →
                K (-1001) σ) ∧
              (¬ (p1 < p3) →
                ((p3 < p2 →
                  K (-1001) σ) ∧
                (¬ (p3 < p2) →
                  ((p4 < 1 →
                    K (-1001) σ) ∧
                  (¬ (p4 < 1) →
                    ((3 < p4 →
                      K (-1001) σ) ∧
                    (¬ (3 < p4) →
                      am_Runs PP MLL (d + 3) m_M_coins 32 [some (qr (31, 12, 89)), some (qi p1), some (qi p2), some (qi p3), some (qi p4), some (qi 0), some (qi p2)] [] σ (kI K)))))))))))))))))))))) : am_Runs PP MLL (d + 3) m_M_coins 0 [some (qr (31, 12, 89)), some (qi p1), some (qi p2), some (qi p3), some (qi p4), none, none] [] σ (kI K) := am_wEF_ok (orc []) 200 (am_wEF_ok (orc []) 200 (⟨fun c1 => ⟨(Or.inl rfl), ⟨fun _ => (h.1 c1), fun c => absurd (by decide : (0 : Int) = 0) c⟩⟩, fun c1 => ⟨fun c2 => ⟨(Or.inl rfl), ⟨fun _ => ((h.2 c1).1 c2), fun c => absurd (by decide : (0 : Int) = 0) c⟩⟩, fun c2 => ⟨(Or.inr rfl), ⟨fun c => absurd c (by decide : ¬ ((1 : Int) = 0)), fun _ => am_wEF_ok (orc []) 200 (⟨fun c3 => ⟨(Or.inl rfl), ⟨fun _ => (((h.2 c1).2 c2).1 c3), fun c => absurd (by decide : (0 : Int) = 0) c⟩⟩, fun c3 => ⟨fun c4 => ⟨(Or.inl rfl), ⟨fun _ => ((((h.2 c1).2 c2).2 c3).1 c4), fun c => absurd (by decide : (0 : Int) = 0) c⟩⟩, fun c4 => ⟨(Or.inr rfl), ⟨fun c => absurd c (by decide : ¬ ((1 : Int) = 0)), fun _ => am_wEF_ok (orc []) 200 (⟨fun c5 => ⟨(Or.inl rfl), ⟨fun _ => (((((h.2 c1).2 c2).2 c3).2 c4).1 c5), fun c => absurd (by decide : (0 : Int) = 0) c⟩⟩, fun c5 => ⟨fun c6 => ⟨(Or.inl rfl), ⟨fun _ => ((((((h.2 c1).2 c2).2 c3).2 c4).2 c5).1 c6), fun c => absurd (by decide : (0 : Int) = 0) c⟩⟩, fun c6 => ⟨(Or.inr rfl), ⟨fun c => absurd c (by decide : ¬ ((1 : Int) = 0)), fun _ => ⟨fun c7 => (((((((h.2 c1).2 c2).2 c3).2 c4).2 c5).2 c6).1 c7), fun c7 => ⟨fun c8 => ((((((((h.2 c1).2 c2).2 c3).2 c4).2 c5).2 c6).2 c7).1 c8), fun c8 => am_wEF_ok (orc []) 200 (⟨fun c9 => ⟨(Or.inl rfl), ⟨fun _ => (((((((((h.2 c1).2 c2).2 c3).2 c4).2 c5).2 c6).2 c7).2 c8).1 c9), fun c => absurd (by decide : (0 : Int) = 0) c⟩⟩, fun c9 => ⟨fun c10 => ⟨(Or.inl rfl), ⟨fun _ => ((((((((((h.2 c1).2 c2).2 c3).2 c4).2 c5).2 c6).2 c7).2 c8).2 c9).1 c10), fun c => absurd (by decide : (0 : Int) = 0) c⟩⟩, fun c10 => ⟨(Or.inr rfl), ⟨fun c => absurd c (by decide : ¬ ((1 : Int) = 0)), fun _ => ((((((((((h.2 c1).2 c2).2 c3).2 c4).2 c5).2 c6).2 c7).2 c8).2 c9).2 c10)⟩⟩⟩⟩)⟩⟩⟩⟩⟩⟩)⟩⟩⟩⟩)⟩⟩⟩⟩))

theorem sm_1 : ∀ n : Nat, sm (fun _ => 1) n = (n : Int)
  | 0 => rfl
  | n + 1 => by
    show sm (fun _ => 1) n + 1 = _
    rw [sm_1 n]
    omega
theorem p_coins (d : Nat) {xs : Nat → Int} {c : Nat} {σ : am_S} {p1 p2 p3 p4 : Int} (hI : INV xs σ c) (hc : c + 1 ≤ 600) : PR d xs m_C_coins m_M_coins [qi p1, qi p2, qi p3, qi p4] σ c := by
  have hs := INV_s hI hc
  obtain ⟨own, β, μ, κ, ρ, me, n, aH, nH, aL, nL, aY, nY, aS, nS, N, l, m, T, W, kd, aR, nR, aV, nV, aI, nI, aQ, nQ, g, w, hx⟩ := hI
  have hx0 := hx
  obtain ⟨⟨hF, hab, hxs⟩, it, il, ib, im, ij, sc, rz, is, ir, hc6⟩ := hx
  have it0 := it
  obtain ⟨hR, ow, ti, kt, ks, ⟨w1, w2, w3, w4, w5, w6, w7, w8⟩, ⟨l1, l2, l3, l4⟩, lz, ⟨q1, q2, q3, q4⟩, h87⟩ := it
  have o1 := ow.1
  have ib0 := ib
  obtain ⟨a1, a2, a3, ⟨n12, a4, a5⟩, bd, a6, a7, a8, a9, a10⟩ := ib
  obtain ⟨m1, ⟨m2, T26⟩, m3, m4, m5, m6⟩ := im
  have tN := ti.2.2.2.2.1
  have tT := ti.2.2.2.2.2.2.1
  have T4 := ti.2.2.2.2.2.2.2.2.1
  have im0 := (⟨m1, ⟨m2, T26⟩, m3, m4, m5, m6⟩ : IM σ c)
  have bad : ¬ (1 ≤ p1 ∧ p1 ≤ 40 ∧ 0 ≤ p2 ∧ p2 ≤ p3 ∧ p3 ≤ 3 ∧ p3 ≤ p1 ∧ 1 ≤ p4 ∧ p4 ≤ 3) → am_Calls PP MLL (d + 30) m_M_coins [qr (31, 12, 89), qi p1, qi p2, qi p3, qi p4] σ (kI fun y t => -1001 = y ∧ INV xs t (c + 1)) := by
    intro hp
    exact v_M_coinsT_0 (d + 26) p1 p2 p3 p4 σ _ hF T26 ⟨fun _ => ⟨rfl, hs⟩, fun c1 => ⟨fun _ => ⟨rfl, hs⟩, fun c2 => ⟨fun _ => ⟨rfl, hs⟩, fun c3 => ⟨fun _ => ⟨rfl, hs⟩, fun c4 => ⟨fun _ => ⟨rfl, hs⟩, fun c5 => ⟨fun _ => ⟨rfl, hs⟩, fun c6 => ⟨fun _ => ⟨rfl, hs⟩, fun c7 => ⟨fun _ => ⟨rfl, hs⟩, fun c8 => ⟨fun _ => ⟨rfl, hs⟩, fun c9 => ⟨fun _ => ⟨rfl, hs⟩, fun c10 => absurd (by omega) hp⟩⟩⟩⟩⟩⟩⟩⟩⟩⟩
  refine v_C_coinsC_0 (d + 25) β μ κ ρ me n p1 p2 p3 p4 σ _ hR.1 a1 ⟨fun c1 => ⟨hxs, bad (by omega)⟩, fun c1 => ⟨fun c2 => ⟨hxs, bad (by omega)⟩, fun c2 => ⟨fun c3 => ⟨hxs, bad (by omega)⟩, fun c3 => ⟨fun c4 => ⟨fun c5 => ⟨hxs, bad (by omega)⟩, fun c5 => ⟨fun c6 => ⟨hxs, bad (by omega)⟩, fun c6 => ⟨fun c7 => ⟨hxs, bad (by omega)⟩, fun c7 => ⟨fun c8 => ?_, fun c8 => ⟨hxs, bad (by omega)⟩⟩⟩⟩⟩, fun c4 => ⟨hxs, bad (by omega)⟩⟩⟩⟩⟩
  obtain ⟨n', en⟩ : ∃ n' : Nat, p1 = n' := ⟨p1.toNat, by omega⟩
  obtain ⟨l', el⟩ : ∃ l' : Nat, p2 = l' := ⟨p2.toNat, by omega⟩
  obtain ⟨m', em⟩ : ∃ m' : Nat, p3 = m' := ⟨p3.toNat, by omega⟩
  subst en
  subst el
  subst em
  have ref : ∀ (st : am_S) (K : Int → am_S → Prop), MF st → sI st 31 26 = 0 → (10000 < bs n' l' p4 (m' + 1) → K (-1003) st) → (bs n' l' p4 (m' + 1) ≤ 10000 → ∀ s, MkP (putI (putI (putI st 31 2 n') 31 3 p4) 31 13 0) s n' l' m' p4 → K (bs n' l' p4 (m' + 1)) (mCoins s)) → am_Calls PP MLL (d + 30) m_M_coins [qr (31, 12, 89), qi (n' : Int), qi (l' : Int), qi (m' : Int), qi p4] st (kI K) := by
    intro st K f1 f2 k1 k2
    refine v_M_coinsT_0 (d + 26) (n' : Int) (l' : Int) (m' : Int) p4 st _ f1 f2 ⟨fun _ => by omega, fun c1 => ⟨fun _ => by omega, fun c2 => ⟨fun _ => by omega, fun c3 => ⟨fun _ => by omega, fun c4 => ⟨fun _ => by omega, fun c5 => ⟨fun _ => by omega, fun c6 => ⟨fun _ => by omega, fun c7 => ⟨fun _ => by omega, fun c8 => ⟨fun _ => by omega, fun c9 => ⟨fun _ => by omega, fun c10 => ?_⟩⟩⟩⟩⟩⟩⟩⟩⟩⟩
    exact l_M_coins (d + 26) f1 (by omega) (by omega) (by omega) k1 k2
  obtain ⟨B, eB⟩ : ∃ B, B = bs n' l' p4 (m' + 1) := ⟨_, rfl⟩
  rw [← eB] at ref
  refine c_howMany (d + 27) (e := (m' : Int)) (by omega) (by omega) ?_
  rw [show ((m' : Int) + 1).toNat = m' + 1 by omega, ← eB]
  refine ⟨⟨hR.1, a1⟩, fun hB => ?_, fun hB => ⟨hxs, ref σ _ hF T26 (fun _ => ⟨rfl, hs⟩) (fun q => by omega)⟩⟩
  have B4 : B ≤ 10000 := by omega
  refine c_charge (d + 25) (own := own) (T := B) hR ow h87 ⟨q1, q2, q3, q4⟩ lz (by omega) (by omega) (by omega) (by omega) (by omega) eB B4 (fun s own' aH' nH' aL' nL' aY' nY' aS' nS' ch => ?_)
  obtain ⟨hR', ow', os, al', ll', ⟨h30, h31, h32, h33, h34, h35⟩, kt', z0, hI', hR3, hR33, sN1, sN2, sU1, lz'⟩ := ch
  have nρ : ∀ x, x < 87 → ∀ b, b < n → x ≠ ρ b + 1 ∧ x ≠ ρ b + 3 := fun x hx' b hb => by
    have y1 := (a2 b hb).2.2 1 (by decide)
    have y3 := (a2 b hb).2.2 3 (by decide)
    have := o1 x hx'
    exact ⟨fun e => by rw [← e] at y1; omega, fun e => by rw [← e] at y3; omega⟩
  have sl : ∀ x, x < 87 → ¬ (3 ≤ x ∧ x ≤ 8) → sI s x = sI σ x := fun x hx' hn => hI' x (by omega) (by rw [o1 x hx']; omega) (by rw [o1 x hx']; omega) (by rw [o1 x hx']; omega) (by rw [o1 x hx']; omega) (by rw [o1 x hx']; omega) (by rw [o1 x hx']; omega)
  have BSs : BS s β μ κ ρ me n := by
    unfold BS at a1 ⊢
    intro b hb
    obtain ⟨u1, u2, u3, u4, u5, u6, u7, u8⟩ := a1 b hb
    obtain ⟨y1, y2, y3⟩ := a2 b hb
    obtain ⟨x1, x2, x3⟩ := a3 b hb
    have y30 := y3 0 (by decide)
    have y32 := y3 2 (by decide)
    rw [Nat.add_zero] at y30
    have o3' := o1 3 (by decide)
    exact ⟨by rw [hR3 9 (by omega) (by decide)]; exact u1, by rw [hR3 _ x1 (fun e => by rw [e, o3'] at y1; omega)]; exact u2, by rw [hR3 _ x1 (fun e => by rw [e, o3'] at y1; omega)]; exact u3, by rw [hR3 _ x1 (fun e => by rw [e, o3'] at y1; omega)]; exact u4, by rw [hR3 _ x1 (fun e => by rw [e, o3'] at y1; omega)]; exact u5, by rw [hR3 _ (by omega) (fun e => by rw [e, o3'] at y30; omega)]; exact u6, by rw [hR3 _ (by omega) (fun e => by rw [e, o3'] at y32; omega)]; exact u7, fun i hi => by rw [hR3 _ x2 (fun e => by rw [e, o3'] at y2; omega)]; exact u8 i hi⟩
  refine ⟨⟨hR'.1, BSs⟩, l_coins45 (d + 25) hR' BSs n12 (by rw [sl 2 (by decide) (by omega)]; exact a4) (fun b hb => nρ 2 (by decide) b hb) ?_ _ _ _ _⟩
  obtain ⟨F, eF⟩ : ∃ F, F = fgt (clrT s ρ n) := ⟨_, rfl⟩
  rw [← eF]
  have F2 : F.2 = s.2 := by rw [eF]; exact clrT_2 n
  have Fo : ∀ x, x ≠ 26 → x ≠ 27 → x ≠ 28 → (∀ b, b < n → x ≠ ρ b + 1 ∧ x ≠ ρ b + 3) → sI F x = sI s x := fun x h1 h2 h3 h4 => by
    rw [eF]
    unfold fgt
    rw [row_ne h3, row_ne h2, put_ne h1, clrT_o n h4]
  have Fl : ∀ x, x < 87 → x ≠ 26 → x ≠ 27 → x ≠ 28 → sI F x = sI s x := fun x hx' h1 h2 h3 => Fo x h1 h2 h3 (nρ x hx')
  obtain ⟨U, eU⟩ : ∃ U, U = putI (putR F 12 6 none) 12 13 0 := ⟨_, rfl⟩
  rw [← eU]
  have Us : ∀ x, x ≠ 12 → sI U x = sI F x := fun x h => by rw [eU, put_ne h]; rfl
  have Uh : ∀ x, 31 ≤ x → x < 87 → sI U x = sI σ x := fun x r1 r2 => by rw [Us x (by omega), Fl x r2 (by omega) (by omega) (by omega), sl x r2 (by omega)]
  refine ⟨by rw [Us 0 (by decide), Fl 0 (by decide) (by decide) (by decide) (by decide), sl 0 (by decide) (by omega)]; exact hxs, ?_⟩
  have FU : MF U := fun j => by rw [eU]; show sR F 31 j = _; rw [R2' F2, hR3 31 (by omega) (by decide)]; exact hF j
  refine ref U _ FU (by rw [Uh 31 (by decide) (by decide)]; exact T26) (fun q => by omega) (fun _ s' mk => ⟨by rw [Fl 3 (by decide) (by decide) (by decide) (by decide)]; exact h31, ?_⟩)
  obtain ⟨⟨f1, f2, f3⟩, g1, g2, g3⟩ := mk
  obtain ⟨C, eC⟩ : ∃ C, C = mCoins s' := ⟨_, rfl⟩
  rw [← eC]
  obtain ⟨Z, eZ⟩ : ∃ Z : am_S, Z = (C.1, s.2) := ⟨_, rfl⟩
  have C2 : C.2 = (putR s 12 6 none).2 := by
    have e1 : C.2 = s'.2 := by rw [eC]; rfl
    have e2 : U.2 = (putR F 12 6 none).2 := by rw [eU]; rfl
    have e3 : (putR F 12 6 none).2 = (putR s 12 6 none).2 := by
      show ((fun x y => if x = 12 ∧ y = 6 then none else F.2.1 x y), F.2.2) = ((fun x y => if x = 12 ∧ y = 6 then none else s.2.1 x y), s.2.2)
      rw [F2]
    rw [e1, f1]
    show U.2 = _
    rw [e2, e3]
  have CZ : C = putR Z 12 6 none := by
    rw [eZ]
    show C = (C.1, (putR s 12 6 none).2)
    rw [← C2]
  rw [CZ]
  have Z2 : Z.2 = s.2 := by rw [eZ]
  obtain ⟨zr, zN, zU⟩ := R2 Z2
  have ZC : ∀ x, sI Z x = sI C x := fun x => by rw [eZ]; rfl
  have Zs : ∀ x, x ≠ 31 → x ≠ 45 → x ≠ 83 → x ≠ 84 → sI Z x = sI s' x := fun x h1 h2 h3 h4 => by
    rw [ZC, eC]
    unfold mCoins mEnd
    rw [put_ne h1, put_ne h1, put_ne h1, put_ne h1, put_ne h1, put_ne h1, put_ne h1, put_ne h1, put_ne h1, row_ne h4, row_ne h3, row_ne h2]
  have s'U : ∀ x, (x < 32 ∨ 38 < x) → x ≠ 31 → sI s' x = sI U x := fun x h1 h2 => by rw [f2 x h1 h2, put_ne h2, put_ne h2, put_ne h2]
  have ZU : ∀ x, (x < 32 ∨ 38 < x) → x ≠ 31 → x ≠ 45 → x ≠ 83 → x ≠ 84 → sI Z x = sI U x := fun x h1 h2 h3 h4 h5 => by rw [Zs x h2 h3 h4 h5, s'U x h1 h2]
  have Zk : ∀ x, x < 87 → (x < 32 ∨ 38 < x) → x ≠ 31 → x ≠ 45 → x ≠ 83 → x ≠ 84 → x ≠ 12 → x ≠ 26 → x ≠ 27 → x ≠ 28 → ¬ (3 ≤ x ∧ x ≤ 8) → sI Z x = sI σ x := fun x h0 h1 h2 h3 h4 h5 h6 h7 h8 h9 h10 => by rw [ZU x h1 h2 h3 h4 h5, Us x h6, Fl x h0 h7 h8 h9, sl x h0 h10]
  have P9 : ∀ (q : am_S) x, x ≠ 31 → sI (mEnd q) x = sI q x := fun q x h1 => by
    unfold mEnd
    rw [put_ne h1, put_ne h1, put_ne h1, put_ne h1, put_ne h1, put_ne h1, put_ne h1, put_ne h1]
  have Z45 : ∀ k, sI Z 45 k = if k < 480 then -1 else sI σ 45 k := fun k => by
    rw [ZC, eC]
    unfold mCoins
    rw [P9 _ 45 (by decide), put_ne (by decide), row_ne (by decide), row_ne (by decide), row_at, s'U 45 (by omega) (by decide), Uh 45 (by decide) (by decide)]
  have Z83 : ∀ k, sI Z 83 k = if k < 6 then 0 else sI σ 83 k := fun k => by
    rw [ZC, eC]
    unfold mCoins
    rw [P9 _ 83 (by decide), put_ne (by decide), row_ne (by decide), row_at, s'U 83 (by omega) (by decide), Uh 83 (by decide) (by decide)]
  have Z84 : ∀ k, sI Z 84 k = if k < 6 then 0 else sI σ 84 k := fun k => by
    rw [ZC, eC]
    unfold mCoins
    rw [P9 _ 84 (by decide), put_ne (by decide), row_at, s'U 84 (by omega) (by decide), Uh 84 (by decide) (by decide)]
  have Z31 : ∀ j, sI Z 31 j = if j = 78 then 0 else if j = 77 then 0 else if j = 76 then 0 else if j = 73 then 0 else if j = 37 then 0 else if j = 35 then -1000 else if j = 34 then 0 else if j = 33 then 0 else if j = 83 then 0 else sI s' 31 j := fun j => by
    rw [ZC, eC]
    unfold mCoins mEnd
    rw [put_at, put_at, put_at, put_at, put_at, put_at, put_at, put_at, put_at, row_ne (by decide), row_ne (by decide), row_ne (by decide)]
  have z31 : ∀ j, j ≠ 2 → j ≠ 3 → j ≠ 5 → j ≠ 13 → (j < 33 ∨ (37 < j ∧ j < 73)) → sI Z 31 j = sI σ 31 j := fun j j2 j3 j5 j13 hj => by rw [Z31, if_neg (by omega), if_neg (by omega), if_neg (by omega), if_neg (by omega), if_neg (by omega), if_neg (by omega), if_neg (by omega), if_neg (by omega), if_neg (by omega), f3 j j5, put_at, if_neg j13, put_at, if_neg j3, put_at, if_neg j2, Uh 31 (by decide) (by decide)]
  have y31 : ∀ j, (j = 2 ∨ j = 3 ∨ j = 5 ∨ j = 13) → sI Z 31 j = sI s' 31 j := fun j hj => by rw [Z31, if_neg (by omega), if_neg (by omega), if_neg (by omega), if_neg (by omega), if_neg (by omega), if_neg (by omega), if_neg (by omega), if_neg (by omega), if_neg (by omega)]
  have o1' := ow'.1
  have big : ∀ x, 87 ≤ x → x < sN σ ∨ x < sN s → (∀ b, b < n → x ≠ ρ b + 1 ∧ x ≠ ρ b + 3) → sI Z x = sI s x := fun x h1 _ h2 => by rw [ZU x (by omega) (by omega) (by omega) (by omega) (by omega), Us x (by omega), Fo x (by omega) (by omega) (by omega) h2]
  have tru : ∀ x r, own' x = r → 4 ≤ r → r ≤ 7 → sI Z x = sI s x := fun x r e h4 h7 => by
    have hn : ∀ b, b < n → x ≠ ρ b + 1 ∧ x ≠ ρ b + 3 := fun b hb => by
      obtain ⟨x1, x2, x3⟩ := a3 b hb
      have y1 := (a2 b hb).2.2 1 (by decide)
      have y3 := (a2 b hb).2.2 3 (by decide)
      rw [← os _ (by omega)] at y1 y3
      exact ⟨fun q => by rw [← q, e] at y1; omega, fun q => by rw [← q, e] at y3; omega⟩
    have hx87 : ∀ y, y < 87 → ¬ (4 ≤ y ∧ y ≤ 7) → x ≠ y := fun y hy h q => by
      have := o1' y hy
      rw [← q, e] at this
      omega
    by_cases h87' : x < 87
    · have := o1' x h87'
      rw [ZU x (by omega) (by omega) (by omega) (by omega) (by omega), Us x (by omega), Fo x (by omega) (by omega) (by omega) hn]
    · rw [ZU x (by omega) (by omega) (by omega) (by omega) (by omega), Us x (by omega), Fo x (by omega) (by omega) (by omega) hn]
  have Z3 : sI Z 3 = sI s 3 := by rw [ZU 3 (by omega) (by decide) (by decide) (by decide) (by decide), Us 3 (by decide), Fl 3 (by decide) (by decide) (by decide) (by decide)]
  have zt : ∀ x, 32 ≤ x → x ≤ 38 → sI Z x = sI s' x := fun x h1 h2 => Zs x (by omega) (by omega) (by omega) (by omega)
  obtain ⟨sc', zz⟩ := SC_r h87 o1 sN1 os hR3 sc
  obtain ⟨sc'', zz2⟩ := SC_2 Z2 sc'
  have bal : ∀ x, x < sN σ → (1000 ≤ own x ∧ own x < 2000) → (∀ b, b < n → x ≠ ρ b + 1 ∧ x ≠ ρ b + 3) → sI Z x = sI σ x := fun x hx' hr hn => by
    have : ¬ (x < 87 ∧ own x ≠ x) := fun q => q.2 (o1 x q.1)
    rw [ZU x (by omega) (by omega) (by omega) (by omega) (by omega), Us x (by omega), Fo x (by omega) (by omega) (by omega) hn, hI' x hx' (by omega) (by omega) (by omega) (by omega) (by omega) (by omega)]
  have opan : ∀ x r, own x = r → (∀ b, b < n → r ≠ 1003 + 8 * b ∧ r ≠ 1005 + 8 * b) → ∀ b, b < n → x ≠ ρ b + 1 ∧ x ≠ ρ b + 3 := fun x r e h b hb => by
    have y1 := (a2 b hb).2.2 1 (by decide)
    have y3 := (a2 b hb).2.2 3 (by decide)
    have := h b hb
    exact ⟨fun q => by rw [← q, e] at y1; omega, fun q => by rw [← q, e] at y3; omega⟩
  have Zpan : ∀ b, b < n → ∀ k, (k = 1 ∨ k = 3) → ∀ j, sI Z (ρ b + k) j = if j < 20 then -1 else sI σ (ρ b + k) j := fun b hb k hk j => by
    have ok := (a2 b hb).2.2 k (by omega)
    have hlt : ρ b + k < sN σ := by have := a3 b hb; omega
    have : ¬ (ρ b + k < 87 ∧ own (ρ b + k) ≠ ρ b + k) := fun q => q.2 (o1 _ q.1)
    rw [ZU _ (by omega) (by omega) (by omega) (by omega) (by omega), Us _ (by omega), eF]
    unfold fgt
    rw [row_ne (by omega), row_ne (by omega), put_ne (by omega), clrT_at n b k hb hk j, hI' _ hlt (by omega) (by omega) (by omega) (by omega) (by omega) (by omega)]
  have itZ : IT Z own' aH' nH' aL' nL' aY' nY' aS' nS' n' l' m' B 0 p4 := by
    refine ⟨TR_2 Z2 hR', ow', ⟨by omega, by omega, by omega, by omega, ?_, ?_, ?_, eB, B4, fun k k1 k2 => ?_, fun t ht => ?_⟩, ?_, fun t ht => ?_, ⟨by omega, ?_, ?_, ?_, ?_, ?_, ?_, ?_⟩, ll', lz', by omega, by omega⟩
    · rw [y31 2 (by omega), f3 2 (by decide), put_at, if_neg (by decide), put_at, if_neg (by decide), put_at, if_pos rfl]
    · rw [y31 3 (by omega), f3 3 (by decide), put_at, if_neg (by decide), put_at, if_pos rfl]
    · rw [y31 5 (by omega), g1, eB]
    · rw [zt 32 (by decide) (by decide)]; exact g2 k k1 k2
    · rw [eB] at ht
      obtain ⟨f, x, y, z, w', v1, v2, v3, v4, _⟩ := g3 t ht
      refine ⟨f, x, y, z, w', v1, v2, ?_⟩
      unfold CT
      rw [zt 33 (by decide) (by decide), zt 34 (by decide) (by decide), zt 35 (by decide) (by decide)]
      exact ⟨v3, v4⟩
    · unfold KTt at kt' ⊢
      rw [tru aH' 4 ow'.2.1 (by decide) (by decide), tru aL' 5 ow'.2.2.1 (by decide) (by decide)]
      exact kt'
    · obtain ⟨u1, u2⟩ := z0 t ht
      rw [eB] at ht
      obtain ⟨f, x, y, z, w', v1, v2, v3, v4, v5, v6, v7⟩ := g3 t ht
      rw [tru aS' 7 ow'.2.2.2.2 (by decide) (by decide), tru aY' 6 ow'.2.2.2.1 (by decide) (by decide), zt 36 (by decide) (by decide), zt 37 (by decide) (by decide), zt 38 (by decide) (by decide), u1, u2, v5, v6, v7]
      exact ⟨rfl, by decide, by decide, rfl, by decide, by decide, pc_0⟩
    · rw [Z3]; exact h30
    · rw [Z3]; exact h31
    · rw [Z3, h32]
      have : lf (sI Z 37) B = sm (fun _ => 1) B := sm_congr B (fun t ht => by
        rw [eB] at ht
        obtain ⟨f, x, y, z, w', v1, v2, v3, v4, v5, v6, v7⟩ := g3 t ht
        show (if sI Z 37 t < 0 then (1 : Int) else 0) = 1
        rw [zt 37 (by decide) (by decide), v6]
        rfl)
      rw [this]
      exact (sm_1 B).symm
    · rw [Z3]; exact h33
    · rw [y31 13 (by omega), f3 13 (by decide), put_at, if_pos rfl]; rfl
    · rw [Z3]; exact h34
    · rw [Z3]; exact h35
  refine INV_off (own := own') (β := β) (μ := μ) (κ := κ) (ρ := ρ) (me := me) (n := n) (aR := aR) (nR := nR) (aV := aV) (nV := nV) ⟨⟨fun j => by rw [zr, hR3 31 (by omega) (by decide)]; exact hF j, ?_, by rw [Zk 0 (by decide) (by omega) (by decide) (by decide) (by decide) (by decide) (by decide) (by decide) (by decide) (by decide) (by omega)]; exact hxs⟩, itZ, fun t ht => ?_, ⟨BS_2 Z2 BSs, OB_f os a3 a2, fun b hb => by have := a3 b hb; omega, by rw [Zk 2 (by decide) (by omega) (by decide) (by decide) (by decide) (by decide) (by decide) (by decide) (by decide) (by decide) (by omega), z31 16 (by decide) (by decide) (by decide) (by decide) (by omega)]; exact ⟨n12, a4, a5⟩, fun b hb => ?_, by rw [Zk 41 (by decide) (by omega) (by decide) (by decide) (by decide) (by decide) (by decide) (by decide) (by decide) (by decide) (by omega)]; exact a6, by rw [Zk 44 (by decide) (by omega) (by decide) (by decide) (by decide) (by decide) (by decide) (by decide) (by decide) (by decide) (by omega)]; exact a7, fun i => ?_, fun j hj => by rw [zr, hR3 9 (by omega) (by decide)]; exact a9 j hj, by rw [Zk 42 (by decide) (by omega) (by decide) (by decide) (by decide) (by decide) (by decide) (by decide) (by decide) (by decide) (by omega)]; exact a10⟩, IM_K (Zk 10 (by decide) (by omega) (by decide) (by decide) (by decide) (by decide) (by decide) (by decide) (by decide) (by decide) (by omega)) (Zk 11 (by decide) (by omega) (by decide) (by decide) (by decide) (by decide) (by decide) (by decide) (by decide) (by decide) (by omega)) (Zk 48 (by decide) (by omega) (by decide) (by decide) (by decide) (by decide) (by decide) (by decide) (by decide) (by decide) (by omega)) (fun j _ => by rw [Zk 2 (by decide) (by omega) (by decide) (by decide) (by decide) (by decide) (by decide) (by decide) (by decide) (by decide) (by omega)]) (fun j hj => z31 j (by omega) (by omega) (by omega) (by omega) (by omega)) im0, ?_, sc'', fun j => by rw [Zk 64 (by decide) (by omega) (by decide) (by decide) (by decide) (by decide) (by decide) (by decide) (by decide) (by decide) (by omega), Zk 65 (by decide) (by omega) (by decide) (by decide) (by decide) (by decide) (by decide) (by decide) (by decide) (by decide) (by omega)]; exact rz j, ?_, hc⟩ ?_
  · unfold AB at hab ⊢
    rw [Zk 1 (by decide) (by omega) (by decide) (by decide) (by decide) (by decide) (by decide) (by decide) (by decide) (by decide) (by omega)]
    exact hab
  · rw [eB] at ht
    obtain ⟨f, x, y, z, w', v1, v2, v3, v4, v5, v6, v7⟩ := g3 t ht
    rw [zt 36 (by decide) (by decide), v5, z31 4 (by decide) (by decide) (by decide) (by decide) (by omega)]
    exact m3.2.1
  · obtain ⟨d1, d2, d3, d4, d5, d6, ⟨e1, e2, e3, e4⟩, d8, d9⟩ := bd b hb
    have hβ : ∀ h, h < n → sI Z (β h) = sI σ (β h) := fun h hh => bal _ (a3 h hh).1 (by have := (a2 h hh).1; omega) (opan _ _ (a2 h hh).1 (fun b _ => by omega))
    have y0 := (a2 b hb).2.2 0 (by decide)
    rw [Nat.add_zero] at y0
    have hp0 : sI Z (ρ b) = sI σ (ρ b) := bal _ (by have := a3 b hb; omega) (by omega) (opan _ _ y0 (fun b _ => by omega))
    have y2' := (a2 b hb).2.2 2 (by decide)
    have hp2 : sI Z (ρ b + 2) = sI σ (ρ b + 2) := bal _ (by have := a3 b hb; omega) (by omega) (opan _ _ y2' (fun b _ => by omega))
    have h20 := a7 (2 * b)
    have h21 := a7 (2 * b + 1)
    refine ⟨by rw [hβ b hb]; exact d1, by rw [hβ b hb]; exact d2, by rw [Zk 41 (by decide) (by omega) (by decide) (by decide) (by decide) (by decide) (by decide) (by decide) (by decide) (by decide) (by omega), hβ b hb]; exact d3, by rw [hβ b hb, Zk 42 (by decide) (by omega) (by decide) (by decide) (by decide) (by decide) (by decide) (by decide) (by decide) (by decide) (by omega)]; omega, by rw [hβ b hb, Zk 43 (by decide) (by omega) (by decide) (by decide) (by decide) (by decide) (by decide) (by decide) (by decide) (by decide) (by omega)]; exact d5, ⟨by rw [hp0, hp2]; exact d6.1, fun i => ?_, fun i => ?_⟩, ⟨by rw [hp0, Zk 44 (by decide) (by omega) (by decide) (by decide) (by decide) (by decide) (by decide) (by decide) (by decide) (by decide) (by omega)]; exact e1, by rw [hp2, Zk 44 (by decide) (by omega) (by decide) (by decide) (by decide) (by decide) (by decide) (by decide) (by decide) (by decide) (by omega)]; exact e2, fun i hi => ?_, fun i hi => ?_⟩, by rw [hβ b hb]; exact d8, fun h6 => ?_⟩
    · rw [Zpan b hb 1 (by omega)]
      split
      · omega
      · exact d6.2.1 i
    · rw [Zpan b hb 3 (by omega)]
      split
      · omega
      · exact d6.2.2 i
    · rw [Zk 44 (by decide) (by omega) (by decide) (by decide) (by decide) (by decide) (by decide) (by decide) (by decide) (by decide) (by omega)] at hi
      rw [Zpan b hb 1 (by omega), if_pos (by omega), Z45, if_pos (by omega)]
    · rw [Zk 44 (by decide) (by omega) (by decide) (by decide) (by decide) (by decide) (by decide) (by decide) (by decide) (by decide) (by omega)] at hi
      rw [Zpan b hb 3 (by omega), if_pos (by omega), Z45, if_pos (by omega)]
    · rw [hβ b hb] at h6
      obtain ⟨v1, v2, v3, v4, v5⟩ := d9 h6
      refine ⟨v1, v2, by rw [Zk 47 (by decide) (by omega) (by decide) (by decide) (by decide) (by decide) (by decide) (by decide) (by decide) (by decide) (by omega)]; exact v3, fun i hi => ?_, ?_⟩
      · obtain ⟨u1, u2, u3⟩ := v4 i hi
        exact ⟨u1, by rw [Zk 46 (by decide) (by omega) (by decide) (by decide) (by decide) (by decide) (by decide) (by decide) (by decide) (by decide) (by omega)]; exact u2, by rw [hβ _ u1]; exact u3⟩
      · rw [hβ b hb, v5]
        unfold mxQ
        exact oqA_cg _ (fun i hi => by rw [hβ _ (v4 i hi).1])
  · rw [Z45]
    split
    · omega
    · exact a8 i
  · obtain ⟨j1, j2, j3, j4, j5, j6, j7, j8, j9, j10, j11, j12, j13, j14, j15⟩ := ij
    have aVb : sI Z aV = sI σ aV := by
      have : ¬ (aV < 87 ∧ own aV ≠ aV) := fun q => q.2 (o1 aV q.1)
      rw [ZU aV (by omega) (by omega) (by omega) (by omega) (by omega), Us aV (by omega), Fo aV (by omega) (by omega) (by omega) (opan _ _ j4 (fun b _ => by omega)), hI' aV j6 (by omega) (by omega) (by omega) (by omega) (by omega) (by omega)]
    have f27 : ∀ j, sI Z 27 j = if j < 6 then 0 else sI (clrT s ρ n) 27 j := fun j => by
      rw [ZU 27 (by omega) (by decide) (by decide) (by decide) (by decide), Us 27 (by decide), eF]
      unfold fgt
      rw [row_ne (by decide), row_at]
    have f28 : ∀ j, sI Z 28 j = if j < 6 then 0 else sI (clrT s ρ n) 28 j := fun j => by
      rw [ZU 28 (by omega) (by decide) (by decide) (by decide) (by decide), Us 28 (by decide), eF]
      unfold fgt
      rw [row_at]
    have f26 : sI Z 26 2 = 0 := by
      rw [ZU 26 (by omega) (by decide) (by decide) (by decide) (by decide), Us 26 (by decide), eF]
      unfold fgt
      rw [row_ne (by decide), row_ne (by decide), put_at, if_pos rfl]
    have f83 : sI Z 31 83 = 0 := by rw [Z31]; rfl
    refine ⟨by rw [zr, hR3 26 (by omega) (by decide)]; exact j1, by rw [zr, hR3 26 (by omega) (by decide)]; exact j2, by rw [os aR j5]; exact j3, by rw [os aV j6]; exact j4, by omega, by omega, j7, j8, by rw [aVb]; exact j9, by rw [Zk 85 (by decide) (by omega) (by decide) (by decide) (by decide) (by decide) (by decide) (by decide) (by decide) (by decide) (by omega)]; exact j10, fun k hk => by rw [f27, f28, Z83, Z84, if_pos hk, if_pos hk, if_pos hk, if_pos hk]; exact ⟨rfl, rfl⟩, fun k => ?_, fun k q => ?_, by rw [f26, f83]; exact ⟨rfl, Or.inl rfl⟩, fun h => by rw [f83] at h; omega⟩
    · rw [Z83, Z84]
      have := j12 k
      split <;> omega
    · rw [Z83, Z84]
      split
      · rw [show (0 : Int).toNat = 0 from rfl, bt_0, Int.zero_mul]
      · exact j13 k q
  · unfold IR at ir ⊢
    rw [zz2, zz, zN, zU]
    omega
  · refine ⟨?_, ?_, ?_, ?_, ?_, ?_, ?_, ?_, ?_⟩
    · rw [ZU 12 (by omega) (by decide) (by decide) (by decide) (by decide), eU, put_at, if_pos rfl]
    all_goals (rw [Z31]; rfl)
