/-! the calls in pairs: spoil, check -/
theorem v_C_check_0 (d : Nat) (β μ κ ρ : Nat → Nat) (me : Nat → Nat → Nat) (aH nH aL nL aY nY aS nS n : Nat) (σ : am_S) (K : Int → am_S → Prop) (hR : TR σ aH nH aL nL aY nY aS nS) (hB : BS σ β μ κ ρ me n) (h :
  am_Calls PP MLL (d + 7) m_Search_rowsShown [qr (12, 5, 18)] σ (kI fun x1 s1 =>
    (TR s1 aH nH aL nL aY nY aS nS ∧ BS s1 β μ κ ρ me n) ∧
    ((x1 = 0 →
      K (-1002) s1) ∧
    (¬ (x1 = 0) →
      am_Calls PP MLL (d + 7) m_Search_rowsHold [qr (12, 5, 18)] s1 (kI fun x3 s3 =>
        (TR s3 aH nH aL nL aY nY aS nS ∧ BS s3 β μ κ ρ me n) ∧
        K (if x3 = 0 then (0 : Int) else 1) s3))))) : am_Runs PP MLL (d + 7) m_C_check 0 [some (qr (2, 11, 10))] [] σ (kI K) := am_wEC_ok (orc [(1, 12, 5, 18), (7, 12, 5, 18)]) [13] 200 (⟨⟨rfl, (hR.1 2 3 _ rfl)⟩, ⟨rfl, (am_cI h fun x1 s1 h1 => ⟨fun c2 => (h1.2.1 c2), fun c2 => ⟨⟨rfl, (h1.1.1.1 2 3 _ rfl)⟩, ⟨rfl, (am_cI (h1.2.2 c2) fun x3 s3 h3 => am_use (fun H5 => ⟨fun c4 => (Eq.mp (congrArg (fun z => am_Runs _ _ _ _ _ _ (qi z :: _) _ _) (if_pos c4 : (if x3 = 0 then (0 : Int) else 1) = 0)) H5), fun c4 => (Eq.mp (congrArg (fun z => am_Runs _ _ _ _ _ _ (qi z :: _) _ _) (if_neg c4 : (if x3 = 0 then (0 : Int) else 1) = 1)) H5)⟩) (am_wEC_ok (orc []) [13] 200 (h3.2)))⟩⟩⟩)⟩⟩)

theorem v_M_checkT_0 (d : Nat) (σ : am_S) (K : Int → am_S → Prop) (hF : MF σ) (hT : sI σ 31 26 = 0) (h :
  (((sI σ 31 77) = 0 →
    K (-1002) σ) ∧
  (¬ ((sI σ 31 77) = 0) →
    am_Calls PP MLL (d + 4) m_M_startCase [qr (31, 12, 89)] σ (kV fun s2 =>
      (MF s2 ∧ sI s2 31 26 = 0) ∧
      (-2147483648 ≤ (sI s2 31 35) - 1 ∧ (sI s2 31 35) - 1 < 2147483648) ∧
      am_Runs PP MLL (d + 4) m_M_check 23 [some (qr (31, 12, 89)), some (qi 0), some (qi 0), some (qi 1), some (qi 1), none, none] [] (putI s2 54 0 ((sI s2 31 35) - 1)) (kI K))))) : am_Runs PP MLL (d + 4) m_M_check 0 [some (qr (31, 12, 89)), none, none, none, none, none, none] [] σ (kI K) := am_wEF_ok (orc [(8, 54, 20, 14)]) 200 (⟨rfl, ⟨fun c1 => (h.1 c1), fun c1 => ⟨rfl, (am_cV (h.2 c1) fun s2 h2 => ⟨⟨rfl, (h2.1.1 44)⟩, ⟨rfl, ⟨⟨h2.2.1.1, h2.2.1.2⟩, ⟨⟨rfl, (by decide : (0 : Int) ≤ 0), (by decide : (0 : Int) < 14)⟩, h2.2.2⟩⟩⟩⟩)⟩⟩⟩)

theorem getD_set {L : List (Int × Int)} {i j : Nat} {v : Int × Int} (h : i < L.length) : (L.set i v).getD j (0, 0) = if j = i then v else L.getD j (0, 0) := by
  rw [List.getD_eq_getElem?_getD, List.getD_eq_getElem?_getD, List.getElem?_set]
  by_cases e : i = j
  · rw [if_pos e, if_pos h, if_pos e.symm]
    rfl
  · rw [if_neg e, if_neg (fun q => e q.symm)]
/-- rows under changes elsewhere -/
theorem RW_2 {σ t : am_S} {own : Nat → Nat} {g w : Nat} {G W W' : List (Int × Int)} (h2 : t.2 = σ.2) (hR : RW σ own g w G W) (hl : W'.length = W.length) (hg : ∀ x, x < sN σ → (x = g ∨ own x = g + 1 ∨ own x = g + 2) → sI t x = sI σ x) (hw : sI t w 2 = sI σ w 2) (hn : ∀ i, i < W'.length → i < 600 → rNu t w i = (W'.getD i (0, 0)).1 ∧ rTo t w i = (W'.getD i (0, 0)).2) : RW t own g w G W' := by
  obtain ⟨r1, r2, r3⟩ := R2 h2
  obtain ⟨y1, y2, y3, y4, y5, y6, y7⟩ := hR
  have rv : ∀ o k k', k' = k → RV σ own o k → RV t own o k' := fun o k k' e h => by
    subst e
    unfold RV at h ⊢
    rw [r1, r1, r2]
    exact h
  have h87 : 87 ≤ sN σ := y4.2.2.2.2
  refine ⟨y1, by rw [r1]; exact y2, by rw [r1]; exact y3, rv g _ _ rfl y4, ⟨?_, fun i i1 i2 => ?_⟩, rv w _ _ hl y6, ⟨?_, hn⟩⟩
  · rw [hg g (by omega) (Or.inl rfl)]
    exact y5.1
  · have z := y5.2 i i1 i2
    obtain ⟨⟨a, n', b, m', h1, h2', h3, h4, h5, h6, _⟩, _⟩ := y4
    unfold rNu rTo at z ⊢
    rw [r1, r1, h1, h2']
    rw [h1, h2'] at z
    simp only [rg_some] at z ⊢
    rw [hg a h5 (Or.inr (Or.inl h3)), hg b h6 (Or.inr (Or.inr h4))]
    exact z
  · rw [hw, y7.1, hl]
theorem p_spoil (d : Nat) {xs : Nat → Int} {c : Nat} {σ : am_S} {p1 p2 p3 : Int} (hI : INV xs σ c) (hc : c + 1 ≤ 600) : PR d xs m_C_spoil m_M_spoil [qi p1, qi p2, qi p3] σ c := by
  have hs := INV_s hI hc
  obtain ⟨own, β, μ, κ, ρ, me, n, aH, nH, aL, nL, aY, nY, aS, nS, N, l, m, T, W, kd, aR, nR, aV, nV, aI, nI, aQ, nQ, g, w, hx⟩ := hI
  have hx0 := hx
  obtain ⟨⟨hF, hab, hxs⟩, it, il, ib, im, ij, sc, rz, is, ir, hc6⟩ := hx
  have it0 := it
  obtain ⟨hR, ow, ti, kt, ks, ⟨w1, w2, w3, w4, w5, w6, w7, w8⟩, ⟨l1, l2, l3, l4⟩, lz, ⟨q1, q2, q3, q4⟩, h87⟩ := it
  have o1 := ow.1
  have ib0 := ib
  obtain ⟨a1, a2, a3, ⟨n12, a4, a5⟩, bd, a6, a7, a8, a9, a10⟩ := ib
  obtain ⟨m1, ⟨m2, T26⟩, m3, m4, m5, m6⟩ := im
  have tN := ti.2.2.2.2.1
  have tT := ti.2.2.2.2.2.2.1
  have T4 := ti.2.2.2.2.2.2.2.2.1
  have h76 := IS_76 is
  have bad : ((p1 < 0 ∨ sI σ 31 76 ≤ p1) ∨ (p2 < 0 ∨ 1 < p2) ∨ p3 < -200 ∨ 20000 < p3) → am_Calls PP MLL (d + 30) m_M_spoil [qr (31, 12, 89), qi p1, qi p2, qi p3] σ (kI fun y t => -1001 = y ∧ INV xs t (c + 1)) := by
    intro hp
    exact v_M_spoil_0 (d + 27) p1 p2 p3 σ _ hF T26 ⟨by omega, fun c1 => ⟨rfl, hs⟩, fun c1 => ⟨fun c2 => ⟨rfl, hs⟩, fun c2 => ⟨fun c3 => ⟨rfl, hs⟩, fun c3 => ⟨fun c4 => ⟨rfl, hs⟩, fun c4 => ⟨fun c5 => ⟨rfl, hs⟩, fun c5 => ⟨fun c6 => ⟨rfl, hs⟩, fun c6 => by omega⟩⟩⟩⟩⟩⟩
  refine v_C_spoil_0 (d + 26) β μ κ ρ me aH nH aL nL aY nY aS nS n p1 p2 p3 σ _ hR a1 (c_isRow (d + 26) hR a1 is (fun q => ⟨⟨hR, a1⟩, fun _ => ⟨hxs, bad (by omega)⟩, fun q => absurd rfl q⟩) (fun g1 g2 => ⟨⟨hR, a1⟩, fun q => absurd q (by decide), fun _ => ⟨fun c3 => ⟨hxs, bad (by omega)⟩, fun c3 => ⟨fun c4 => ⟨hxs, bad (by omega)⟩, fun c4 => ⟨fun c5 => ⟨hxs, bad (by omega)⟩, fun c5 => ⟨fun c6 => ?_, fun c6 => ⟨hxs, bad (by omega)⟩⟩⟩⟩⟩⟩))
  obtain ⟨X, ob, nb, tr, c0, k0, aQ', st, n0, g', w', G, W', hb, hr, ho⟩ := IS_RO is (Or.inl (by omega))
  obtain ⟨e5, e2, e76, w0, m0, w1', m1', y1, y2, y3, y4, y5, y6, y7, y8, y9⟩ := RO_in ho
  have gw := ho.2.1.1
  have yy := y9 p1.toNat (by omega)
  rw [e5, rg_some]
  show (p2 = 0 → ((4 = 4 ∧ (rg (sR σ w' 0)).2.1 = 20 ∧ 0 ≤ p1 ∧ p1 < (((rg (sR σ w' 0)).2.2 : Nat) : Int)) ∧ (sI (putI σ ((rg (sR σ w' 0)).1) (Int.toNat p1) p3) 0 = xs ∧ am_Calls PP MLL (d + 30) m_M_spoil [qr (31, 12, 89), qi p1, qi p2, qi p3] (putI σ ((rg (sR σ w' 0)).1) (Int.toNat p1) p3) (kI fun y t => sI σ ((rg (sR σ w' 0)).1) (Int.toNat p1) = y ∧ INV xs t (c + 1))))) ∧ (¬ (p2 = 0) → ((4 = 4 ∧ (rg (sR σ w' 1)).2.1 = 20 ∧ 0 ≤ p1 ∧ p1 < (((rg (sR σ w' 1)).2.2 : Nat) : Int)) ∧ (sI (putI σ ((rg (sR σ w' 1)).1) (Int.toNat p1) p3) 0 = xs ∧ am_Calls PP MLL (d + 30) m_M_spoil [qr (31, 12, 89), qi p1, qi p2, qi p3] (putI σ ((rg (sR σ w' 1)).1) (Int.toNat p1) p3) (kI fun y t => sI σ ((rg (sR σ w' 1)).1) (Int.toNat p1) = y ∧ INV xs t (c + 1)))))
  rw [y1, y2, rg_some, rg_some]
  have nA2 : ∀ x, x < 87 → ¬ (20 ≤ x ∧ x ≤ 25) → w0 ≠ x ∧ w1' ≠ x := fun x hx' hn => by
    have := o1 x hx'
    exact ⟨fun e => by rw [← e] at this; omega, fun e => by rw [← e] at this; omega⟩
  refine ⟨fun c7 => ?_, fun c7 => ?_⟩
  · have hlt : p1.toNat < W'.length := by omega
    obtain ⟨W2, eW⟩ : ∃ W2, W2 = W'.set p1.toNat (p3, (W'.getD p1.toNat (0, 0)).2) := ⟨_, rfl⟩
    have lW : W2.length = W'.length := by rw [eW, List.length_set]
    have gW : ∀ i, W2.getD i (0, 0) = if i = p1.toNat then (p3, (W'.getD p1.toNat (0, 0)).2) else W'.getD i (0, 0) := fun i => by rw [eW, getD_set hlt]
    obtain ⟨Z, eZ⟩ : ∃ Z, Z = putI (putI σ w0 p1.toNat p3) 81 p1.toNat p3 := ⟨_, rfl⟩
    have Z2 : Z.2 = σ.2 := by rw [eZ]; rfl
    obtain ⟨zr, zN, zU⟩ := R2 Z2
    have nA : ∀ x, x < 87 → ¬ (20 ≤ x ∧ x ≤ 25) → x ≠ w0 := fun x hx' hn e => by
      have := o1 x hx'
      rw [e] at this
      omega
    have Zo : ∀ x, x ≠ w0 → x ≠ 81 → sI Z x = sI σ x := fun x h1 h2 => by rw [eZ, put_ne h2, put_ne h1]
    have ZA : ∀ j, sI Z w0 j = if j = p1.toNat then p3 else sI σ w0 j := fun j => by rw [eZ, put_ne (nA 81 (by decide) (by omega)).symm, put_at]
    have ZN : ∀ j, sI Z 81 j = if j = p1.toNat then p3 else sI σ 81 j := fun j => by rw [eZ, put_at, put_ne (nA 81 (by decide) (by omega))]
    have nAB : w0 ≠ w1' := fun e => by rw [e] at y3; omega
    have zB : ∀ j, sI Z w1' j = sI σ w1' j := fun j => by rw [Zo w1' nAB.symm (nA2 81 (by decide) (by omega)).2]
    have zM : ∀ j, sI Z 82 j = sI σ 82 j := fun j => by rw [Zo 82 (nA 82 (by decide) (by omega)) (by decide)]
    have z31 := Zo 31 (nA 31 (by decide) (by omega)) (by decide)
    have zw : sI Z w' 2 = sI σ w' 2 := by rw [Zo w' (fun e => by have := o1 w' (by omega); rw [e] at this; omega) (by omega)]
    have rw2 : RW Z own g' w' G W2 := by
      refine RW_2 Z2 ho.2.1 lW (fun x hx' hr => Zo x (fun e => by rw [e] at hr; have := o1 g' (by omega); rcases hr with q | q; (· rw [q] at y3; omega); omega) (fun e => by rw [e] at hr; have := o1 81 (by decide); omega)) zw (fun i i1 i2 => ?_)
      have yi := y9 i (by omega)
      unfold rNu rTo
      rw [zr, zr, y1, y2]
      simp only [rg_some]
      rw [gW, ZA, zB]
      by_cases e : i = p1.toNat
      · rw [if_pos e, if_pos e]
        rw [e] at yi ⊢
        exact ⟨rfl, yi.2.2.2⟩
      · rw [if_neg e, if_neg e]
        exact yi.2.2
    have ro2 : RO Z W2 := by
      refine ⟨by rw [z31, e76, lW], by omega, fun i i1 => ?_⟩
      have yi := y9 i (by omega)
      rw [gW, ZN, zM]
      by_cases e : i = p1.toNat
      · rw [if_pos e, if_pos e]
        rw [e] at yi ⊢
        exact ⟨rfl, by omega⟩
      · rw [if_neg e, if_neg e]
        omega
    have inv : INV xs Z (c + 1) := by
      obtain ⟨sc', zz⟩ := SC_2 Z2 sc
      refine INV_srch (own' := own) hx0 hc (by omega) (fun _ _ => rfl) (fun x hx' r1 r2 r3 r4 r5 r6 r7 => Zo x (fun e => by rw [e] at r3; omega) (fun e => by rw [e, o1 81 (by decide)] at r5; omega)) (fun x _ _ _ j => zr x j) (fun j _ => zr 12 j) (fun j _ => zr 13 j) (fun j _ _ _ _ _ _ => by rw [z31]) (fun j _ => by rw [Zo 2 (nA 2 (by decide) (by omega)) (by decide)]) (by rw [Zo 2 (nA 2 (by decide) (by omega)) (by decide), z31]; exact m4) (fun j => by rw [Zo 64 (nA 64 (by decide) (by omega)) (by decide), Zo 65 (nA 65 (by decide) (by omega)) (by decide)]; exact rz j) sc' ?_ (by unfold IR at ir ⊢; rw [zz, zN, zU]; omega)
      obtain ⟨q1, q2, q3, q4, q5, q6, q7, q8, q9, q10, q11⟩ := hr
      refine IS_over hF hb q1 q2 q3 q4 q5 q6 q7 q8 q9 q10 q11 Z2 (fun x hx' h1 h2 h3 h4 h5 h6 h7 => Zo x (fun e => by rw [e] at h6; omega) h4) (fun j _ _ => by rw [Zo 12 (nA 12 (by decide) (by omega)) (by decide)]) (fun j _ _ _ _ _ _ => by rw [z31]) ?_
      obtain ⟨⟨p17, p78, p59, pn⟩, _, pl, pl1, p77, _, pb⟩ := ho
      refine Or.inr ⟨by rw [Zo 12 (nA 12 (by decide) (by omega)) (by decide)]; exact p17, by rw [z31]; exact p78, by rw [z31]; exact p59, pn, g', w', G, W2, rw2, Or.inl ⟨by omega, by omega, by rw [z31]; exact p77, ro2, fun i hi => ?_⟩⟩
      rw [gW]
      have := pb i (by omega)
      by_cases e : i = p1.toNat
      · rw [if_pos e]
        rw [e] at this
        exact this
      · rw [if_neg e]
        exact this
    refine ⟨⟨rfl, rfl, g1, by show p1 < ((m0 : Nat) : Int); omega⟩, by show sI (putI σ w0 p1.toNat p3) 0 = xs; rw [put_ne (nA 0 (by decide) (by omega))]; exact hxs, ?_⟩
    have u31 : sI (putI σ w0 p1.toNat p3) 31 = sI σ 31 := put_ne (nA 31 (by decide) (by omega))
    refine v_M_spoil_0 (d + 27) p1 p2 p3 (putI σ w0 p1.toNat p3) _ (MF_I hF rfl) (by rw [u31]; exact T26) ?_
    rw [u31]
    refine ⟨by omega, fun c1 => by omega, fun c1 => ⟨fun c2 => by omega, fun c2 => ⟨fun c3 => by omega, fun c3 => ⟨fun c4 => by omega, fun c4 => ⟨fun c5 => by omega, fun c5 => ⟨fun c6 => by omega, fun c6 => ⟨⟨fun _ => by omega, fun _ => by omega, fun _ => by omega, fun _ => by omega⟩, fun _ => ⟨by omega, by rw [if_pos c7, put_ne (nA 81 (by decide) (by omega))]; exact yy.1, by rw [← eZ]; exact inv⟩, fun q => absurd c7 q⟩⟩⟩⟩⟩⟩⟩
  · have hlt : p1.toNat < W'.length := by omega
    obtain ⟨W2, eW⟩ : ∃ W2, W2 = W'.set p1.toNat ((W'.getD p1.toNat (0, 0)).1, p3) := ⟨_, rfl⟩
    have lW : W2.length = W'.length := by rw [eW, List.length_set]
    have gW : ∀ i, W2.getD i (0, 0) = if i = p1.toNat then ((W'.getD p1.toNat (0, 0)).1, p3) else W'.getD i (0, 0) := fun i => by rw [eW, getD_set hlt]
    obtain ⟨Z, eZ⟩ : ∃ Z, Z = putI (putI σ w1' p1.toNat p3) 82 p1.toNat p3 := ⟨_, rfl⟩
    have Z2 : Z.2 = σ.2 := by rw [eZ]; rfl
    obtain ⟨zr, zN, zU⟩ := R2 Z2
    have nA : ∀ x, x < 87 → ¬ (20 ≤ x ∧ x ≤ 25) → x ≠ w1' := fun x hx' hn e => by
      have := o1 x hx'
      rw [e] at this
      omega
    have Zo : ∀ x, x ≠ w1' → x ≠ 82 → sI Z x = sI σ x := fun x h1 h2 => by rw [eZ, put_ne h2, put_ne h1]
    have ZA : ∀ j, sI Z w1' j = if j = p1.toNat then p3 else sI σ w1' j := fun j => by rw [eZ, put_ne (nA 82 (by decide) (by omega)).symm, put_at]
    have ZN : ∀ j, sI Z 82 j = if j = p1.toNat then p3 else sI σ 82 j := fun j => by rw [eZ, put_at, put_ne (nA 82 (by decide) (by omega))]
    have nAB : w1' ≠ w0 := fun e => by rw [e] at y4; omega
    have zB : ∀ j, sI Z w0 j = sI σ w0 j := fun j => by rw [Zo w0 nAB.symm (nA2 82 (by decide) (by omega)).1]
    have zM : ∀ j, sI Z 81 j = sI σ 81 j := fun j => by rw [Zo 81 (nA 81 (by decide) (by omega)) (by decide)]
    have z31 := Zo 31 (nA 31 (by decide) (by omega)) (by decide)
    have zw : sI Z w' 2 = sI σ w' 2 := by rw [Zo w' (fun e => by have := o1 w' (by omega); rw [e] at this; omega) (by omega)]
    have rw2 : RW Z own g' w' G W2 := by
      refine RW_2 Z2 ho.2.1 lW (fun x hx' hr => Zo x (fun e => by rw [e] at hr; have := o1 g' (by omega); rcases hr with q | q; (· rw [q] at y4; omega); omega) (fun e => by rw [e] at hr; have := o1 82 (by decide); omega)) zw (fun i i1 i2 => ?_)
      have yi := y9 i (by omega)
      unfold rNu rTo
      rw [zr, zr, y1, y2]
      simp only [rg_some]
      rw [gW, zB, ZA]
      by_cases e : i = p1.toNat
      · rw [if_pos e, if_pos e]
        rw [e] at yi ⊢
        exact ⟨yi.2.2.1, rfl⟩
      · rw [if_neg e, if_neg e]
        exact yi.2.2
    have ro2 : RO Z W2 := by
      refine ⟨by rw [z31, e76, lW], by omega, fun i i1 => ?_⟩
      have yi := y9 i (by omega)
      rw [gW, zM, ZN]
      by_cases e : i = p1.toNat
      · rw [if_pos e, if_pos e]
        rw [e] at yi ⊢
        exact ⟨by omega, rfl⟩
      · rw [if_neg e, if_neg e]
        omega
    have inv : INV xs Z (c + 1) := by
      obtain ⟨sc', zz⟩ := SC_2 Z2 sc
      refine INV_srch (own' := own) hx0 hc (by omega) (fun _ _ => rfl) (fun x hx' r1 r2 r3 r4 r5 r6 r7 => Zo x (fun e => by rw [e] at r3; omega) (fun e => by rw [e, o1 82 (by decide)] at r5; omega)) (fun x _ _ _ j => zr x j) (fun j _ => zr 12 j) (fun j _ => zr 13 j) (fun j _ _ _ _ _ _ => by rw [z31]) (fun j _ => by rw [Zo 2 (nA 2 (by decide) (by omega)) (by decide)]) (by rw [Zo 2 (nA 2 (by decide) (by omega)) (by decide), z31]; exact m4) (fun j => by rw [Zo 64 (nA 64 (by decide) (by omega)) (by decide), Zo 65 (nA 65 (by decide) (by omega)) (by decide)]; exact rz j) sc' ?_ (by unfold IR at ir ⊢; rw [zz, zN, zU]; omega)
      obtain ⟨q1, q2, q3, q4, q5, q6, q7, q8, q9, q10, q11⟩ := hr
      refine IS_over hF hb q1 q2 q3 q4 q5 q6 q7 q8 q9 q10 q11 Z2 (fun x hx' h1 h2 h3 h4 h5 h6 h7 => Zo x (fun e => by rw [e] at h6; omega) h5) (fun j _ _ => by rw [Zo 12 (nA 12 (by decide) (by omega)) (by decide)]) (fun j _ _ _ _ _ _ => by rw [z31]) ?_
      obtain ⟨⟨p17, p78, p59, pn⟩, _, pl, pl1, p77, _, pb⟩ := ho
      refine Or.inr ⟨by rw [Zo 12 (nA 12 (by decide) (by omega)) (by decide)]; exact p17, by rw [z31]; exact p78, by rw [z31]; exact p59, pn, g', w', G, W2, rw2, Or.inl ⟨by omega, by omega, by rw [z31]; exact p77, ro2, fun i hi => ?_⟩⟩
      rw [gW]
      have := pb i (by omega)
      by_cases e : i = p1.toNat
      · rw [if_pos e]
        rw [e] at this
        show -100000 ≤ p3 ∧ p3 ≤ 100000; omega
      · rw [if_neg e]
        exact this
    refine ⟨⟨rfl, rfl, g1, by show p1 < ((m1' : Nat) : Int); omega⟩, by show sI (putI σ w1' p1.toNat p3) 0 = xs; rw [put_ne (nA 0 (by decide) (by omega))]; exact hxs, ?_⟩
    have u31 : sI (putI σ w1' p1.toNat p3) 31 = sI σ 31 := put_ne (nA 31 (by decide) (by omega))
    refine v_M_spoil_0 (d + 27) p1 p2 p3 (putI σ w1' p1.toNat p3) _ (MF_I hF rfl) (by rw [u31]; exact T26) ?_
    rw [u31]
    refine ⟨by omega, fun c1 => by omega, fun c1 => ⟨fun c2 => by omega, fun c2 => ⟨fun c3 => by omega, fun c3 => ⟨fun c4 => by omega, fun c4 => ⟨fun c5 => by omega, fun c5 => ⟨fun c6 => by omega, fun c6 => ⟨⟨fun _ => by omega, fun _ => by omega, fun _ => by omega, fun _ => by omega⟩, fun q => absurd q c7, fun _ => ⟨by omega, by rw [if_neg c7, put_ne (nA 82 (by decide) (by omega))]; exact yy.2.1, by rw [← eZ]; exact inv⟩⟩⟩⟩⟩⟩⟩⟩
theorem p_check (d : Nat) {xs : Nat → Int} {c : Nat} {σ : am_S} (hI : INV xs σ c) (hc : c + 1 ≤ 600) : PR d xs m_C_check m_M_check [] σ c := by
  have hs := INV_s hI hc
  obtain ⟨own, β, μ, κ, ρ, me, n, aH, nH, aL, nL, aY, nY, aS, nS, N, l, m, T, W, kd, aR, nR, aV, nV, aI, nI, aQ, nQ, g, w, hx⟩ := hI
  have hx0 := hx
  obtain ⟨⟨hF, hab, hxs⟩, it, il, ib, im, ij, sc, rz, is, ir, hc6⟩ := hx
  have it0 := it
  obtain ⟨hR, ow, ti, kt, ks, ⟨w1, w2, w3, w4, w5, w6, w7, w8⟩, ⟨l1, l2, l3, l4⟩, lz, ⟨q1, q2, q3, q4⟩, h87⟩ := it
  have o1 := ow.1
  have ib0 := ib
  obtain ⟨a1, a2, a3, ⟨n12, a4, a5⟩, bd, a6, a7, a8, a9, a10⟩ := ib
  obtain ⟨m1, ⟨m2, T26⟩, m3, m4, m5, m6⟩ := im
  have tN := ti.2.2.2.2.1
  have tT := ti.2.2.2.2.2.2.1
  have T4 := ti.2.2.2.2.2.2.2.2.1
  have h76 := IS_76 is
  refine v_C_check_0 (d + 22) β μ κ ρ me aH nH aL nL aY nY aS nS n σ _ hR a1 (c_rowsShown (d + 27) hR a1 is ⟨⟨hR, a1⟩, fun c1 => ⟨hxs, ?_⟩, fun c1 => ?_⟩)
  · refine v_M_checkT_0 (d + 25) σ _ hF T26 ⟨fun _ => ⟨rfl, hs⟩, fun q => ?_⟩
    obtain ⟨X, ob, nb, tr, c0, k0, aQ', st, n0, g', w', G, W', hb, hr, ho⟩ := IS_RO is (Or.inr q)
    have := (RO_in ho).2.2.1
    have := ho.2.2.2.1
    omega
  · obtain ⟨X, ob, nb, tr, c0, k0, aQ', st, n0, g', w', G, W', hb, hr, ho⟩ := IS_RO is (Or.inl (by omega))
    obtain ⟨e5, e2, e76, w0, m0, w1', m1', y1, y2, y3, y4, y5, y6, y7, y8, y9⟩ := RO_in ho
    have gw := ho.2.1.1
    have hE := hb.1
    have hr0 := hr
    have ho0 := ho
    obtain ⟨⟨p17, p78, p59, pn⟩, prw, pl, pl1, p77, pro, pb⟩ := ho
    obtain ⟨q1, q2, q3, q4, q5, q6, q7, q8, q9, q10, q11⟩ := hr
    have chs : chS own w' w0 w1' := by
      have a := o1 w' (by omega)
      have b := o1 12 (by decide)
      exact ⟨by omega, by omega, fun e => by rw [e] at y3; omega, fun e => by rw [e] at y4; omega⟩
    refine e_rowsHold (d + 17) (m := W'.length) (r1 := sI σ w0) (r2 := sI σ w1') hE chs ⟨e5, y1, y2, y7, y8, pl, e2, rfl, rfl, fun i hi => by have := pb i hi; have := y9 i hi; omega⟩ q2.2 (by omega) (fun s ch => ?_)
    obtain ⟨s1, s2, s3⟩ := ch
    obtain ⟨sr, sN', sU'⟩ := R2 s1
    have qown := hE.1.2.2.2.2
    have so : ∀ x, own x < 2000 → x ≠ 12 → sI s x = sI σ x := fun x hx' h12 => s2 x h12 (fun i k _ hi hk e => by have := qown i hi k hk; rw [← e] at this; omega)
    have sl : ∀ x, x < 87 → x ≠ 12 → sI s x = sI σ x := fun x hx' h12 => so x (by rw [o1 x hx']; omega) h12
    have s31 := sl 31 (by decide) (by decide)
    have Fs : MF s := MF_I hF s1
    have Ms : MX s X ob nb tr := MX_y (n := nb) ⟨Fs, fun x hx' => sl x (by omega) (by omega), fun j _ => by rw [s31], fun b _ => by rw [sl 41 (by decide) (by decide), sl 47 (by decide) (by decide)]; exact ⟨rfl, rfl⟩, fun i _ => by rw [sl 46 (by decide) (by decide)]⟩ (Nat.le_refl _) hb.2.1
    have ecK : ck X (sI σ w0) (sI σ w1') W'.length (n0 - 1) c0 k0 0 = ck X (sI σ 81) (sI σ 82) W'.length (n0 - 1) c0 k0 0 := ck_cg (fun i hi => (y9 i hi).1) (fun i hi => (y9 i hi).2.1) _ _ _ _
    rw [ecK]
    refine ⟨⟨TR_2 s1 hR, BS_2 s1 a1⟩, by rw [sl 0 (by decide) (by decide)]; exact hxs, ?_⟩
    obtain ⟨b1, b2, b3, b4, b5, b6, b7, b8, b9, b10, b11, b12, b13⟩ := hb
    have om : OM s X ob nb tr c0 k0 n0 := by
      refine ⟨Fs, Ms, fun j => by rw [sl 64 (by decide) (by decide), sl 65 (by decide) (by decide)]; exact rz j, hE.2.1.2.1.1, q1, by omega, by rw [s31]; exact q8.2.2.2, by rw [s31]; exact q8.2.1, by rw [s31]; omega, by rw [s31]; exact b13, fun p hp => by rw [sl 36 (by decide) (by decide)]; exact b7 p hp, by rw [s31]; exact b6⟩
    refine c_M_check (d + 25) (r1 := sI σ 81) (r2 := sI σ 82) (m := W'.length) om (by rw [s31]; omega) (by omega) (by rw [s31]; exact p59) ⟨sl 81 (by decide) (by decide), sl 82 (by decide) (by decide), by rw [s31]; exact e76, pl⟩ (fun t pf t31 t81 t82 => ⟨?_, ?_⟩)
    · split <;> rfl
    obtain ⟨x1, x2, x3, x4⟩ := pf
    have t2 : t.2 = σ.2 := x1.trans s1
    obtain ⟨tr', tN', tU'⟩ := R2 t2
    have to : ∀ x, own x < 2000 → x ≠ 12 → x ≠ 31 → ¬ (53 ≤ x ∧ x ≤ 66) → sI t x = sI σ x := fun x hx' h12 h3 h5 => by
      by_cases e81 : x = 81
      · rw [e81, t81, sl 81 (by decide) (by decide)]
      · by_cases e82 : x = 82
        · rw [e82, t82, sl 82 (by decide) (by decide)]
        · rw [x2 x (by omega) h3 e81 e82, so x hx' h12]
    have tl' : ∀ x, x < 87 → x ≠ 12 → x ≠ 31 → ¬ (53 ≤ x ∧ x ≤ 66) → sI t x = sI σ x := fun x hx' h12 h3 h5 => to x (by rw [o1 x hx']; omega) h12 h3 h5
    have z31 : ∀ j, j ≠ 57 → j ≠ 58 → sI t 31 j = sI σ 31 j := fun j j1 j2 => by rw [t31 j j1 j2, s31]
    have z12 : ∀ j, j ≠ 14 → sI t 12 j = sI σ 12 j := fun j hj => by rw [x2 12 (by omega) (by decide) (by decide) (by decide), s3 j hj]
    obtain ⟨sc', zz⟩ := SC_2 t2 sc
    have cell : ∀ x, x < sN σ → (20 ≤ own x ∧ own x ≤ 25) → sI t x = sI σ x := fun x hx' hr => by
      have : ¬ (x < 87 ∧ own x ≠ x) := fun q => q.2 (o1 x q.1)
      exact to x (by omega) (by omega) (by omega) (by omega)
    refine INV_srch (own' := own) hx0 hc (by omega) (fun _ _ => rfl) (fun x hx' r1 r2 r3 r4 r5 r6 r7 => ?_) (fun x _ _ _ j => tr' x j) (fun j _ => tr' 12 j) (fun j _ => tr' 13 j) (fun j j1 j2 _ _ _ _ => z31 j (by omega) (by omega)) (fun j _ => by rw [tl' 2 (by decide) (by decide) (by decide) (by omega)]) (by rw [tl' 2 (by decide) (by decide) (by decide) (by omega), z31 38 (by decide) (by decide)]; exact m4) x4 sc' (IS_over hF ⟨b1, b2, b3, b4, b5, b6, b7, b8, b9, b10, b11, b12, b13⟩ q1 q2 q3 q4 q5 q6 q7 q8 q9 q10 q11 t2 (fun x hx' h1 h2 h3 h4 h5 h6 h7 => to x h7 h1 h2 h3) (fun j j1 _ => z12 j j1) (fun j j1 j2 _ _ _ _ => z31 j j1 j2) (Or.inr ⟨by rw [z12 17 (by decide)]; exact p17, by rw [z31 78 (by decide) (by decide)]; exact p78, by rw [z31 59 (by decide) (by decide)]; exact p59, pn, g', w', G, W', RW_2 t2 prw rfl (fun x hx' hr => cell x hx' (by rcases hr with e | e | e; (· rw [e, o1 g' (by omega)]; omega); (· omega); omega)) (by rw [cell w' (by omega) (by rw [o1 w' (by omega)]; omega)]) (fun i i1 i2 => ?_), Or.inl ⟨pl, pl1, by rw [z31 77 (by decide) (by decide)]; exact p77, RO_fr pro (z31 76 (by decide) (by decide)) (tl' 81 (by decide) (by decide) (by decide) (by omega)) (tl' 82 (by decide) (by decide) (by decide) (by omega)), pb⟩⟩)) (by unfold IR at ir ⊢; rw [zz, tN', tU']; omega)
    · have : ¬ (x < 87 ∧ own x ≠ x) := fun q => q.2 (o1 x q.1)
      exact to x r4 (by omega) (by omega) (by omega)
    · have yi := y9 i i1
      unfold rNu rTo
      rw [tr', tr', y1, y2]
      simp only [rg_some]
      rw [cell w0 y5 (by omega), cell w1' y6 (by omega)]
      exact yi.2.2
