/-! the class: a search begins -/
theorem v_Search_begin_0 (d : Nat) (a1 aH nH aL nL aY nY aS nS : Nat) (p2 : Int) (σ : am_S) (K : am_S → Prop) (hR : TR σ aH nH aL nL aY nY aS nS) (h :
  am_Calls PP MLL (d + 6) m_Search_makeQuestions [qr (12, 5, 18)] σ (kV fun s1 =>
    (TR s1 aH nH aL nL aY nY aS nS) ∧
    am_Calls PP MLL (d + 6) m_Suspects_gather [qr (13, 6, 5), qr (3, 9, 11)] s1 (kV fun s2 =>
      (TR s2 aH nH aL nL aY nY aS nS) ∧
      (-2147483648 ≤ 2 * (sI (putI (putI (putR s2 12 6 (some (a1, 0, 9))) 12 7 (sI s2 3 3)) 12 8 p2) a1 5) ∧ 2 * (sI (putI (putI (putR s2 12 6 (some (a1, 0, 9))) 12 7 (sI s2 3 3)) 12 8 p2) a1 5) < 2147483648 ∧ -2147483648 ≤ (2 * (sI (putI (putI (putR s2 12 6 (some (a1, 0, 9))) 12 7 (sI s2 3 3)) 12 8 p2) a1 5)) + 1 ∧ (2 * (sI (putI (putI (putR s2 12 6 (some (a1, 0, 9))) 12 7 (sI s2 3 3)) 12 8 p2) a1 5)) + 1 < 2147483648 ∧ (rg (sR (putI (putI (putI (putI (putI (putI (putI (putR s2 12 6 (some (a1, 0, 9))) 12 7 (sI s2 3 3)) 12 8 p2) 12 9 ((2 * (sI (putI (putI (putR s2 12 6 (some (a1, 0, 9))) 12 7 (sI s2 3 3)) 12 8 p2) a1 5)) + 1)) 12 13 0) 12 17 0) 12 16 (-1000)) 12 15 0) 12 5)).2.1 = 4) ∧
      am_Calls PP MLL (d + 6) m_Search_askFor [qr (12, 5, 18), qi 0] (putI (putI (putI (putI (putI (putI (putI (putI (putR s2 12 6 (some (a1, 0, 9))) 12 7 (sI s2 3 3)) 12 8 p2) 12 9 ((2 * (sI (putI (putI (putR s2 12 6 (some (a1, 0, 9))) 12 7 (sI s2 3 3)) 12 8 p2) a1 5)) + 1)) 12 13 0) 12 17 0) 12 16 (-1000)) 12 15 0) ((rg (sR (putI (putI (putI (putI (putI (putI (putI (putR s2 12 6 (some (a1, 0, 9))) 12 7 (sI s2 3 3)) 12 8 p2) 12 9 ((2 * (sI (putI (putI (putR s2 12 6 (some (a1, 0, 9))) 12 7 (sI s2 3 3)) 12 8 p2) a1 5)) + 1)) 12 13 0) 12 17 0) 12 16 (-1000)) 12 15 0) 12 5)).1) 2 0) (kV fun s3 =>
        K s3)))) : am_Runs PP MLL (d + 6) m_Search_begin 0 [some (qr (12, 5, 18)), some (qr (a1, 0, 9)), some (qi p2)] [] σ (kV K) := am_wEF_ok (orc [(3, 13, 6, 5), (5, 3, 9, 11), (12, 3, 9, 11)]) 200 (⟨rfl, (am_cV h fun s1 h1 => ⟨⟨rfl, (h1.1.1 12 1 _ rfl)⟩, ⟨⟨rfl, (h1.1.1 12 0 _ rfl)⟩, ⟨rfl, (am_cV h1.2 fun s2 h2 => ⟨rfl, ⟨⟨rfl, (h2.1.1 12 0 _ rfl)⟩, ⟨rfl, ⟨rfl, ⟨rfl, ⟨rfl, ⟨⟨h2.2.1.1, h2.2.1.2.1⟩, ⟨⟨h2.2.1.2.2.1, h2.2.1.2.2.2.1⟩, ⟨rfl, ⟨⟨rfl, (Or.inl rfl)⟩, ⟨⟨rfl, (Or.inl rfl)⟩, ⟨rfl, ⟨rfl, ⟨rfl, ⟨h2.2.1.2.2.2.2, ⟨rfl, (am_cV h2.2.2 fun s3 h3 => h3)⟩⟩⟩⟩⟩⟩⟩⟩⟩⟩⟩⟩⟩⟩⟩⟩)⟩⟩⟩)⟩)

/-- roles that a beginning search changes -/
def p1' (r : Nat) : Prop := (12 ≤ r ∧ r ≤ 25) ∨ 2000 ≤ r
/-- a balance as a search sees it -/
def BLS (σ : am_S) (own β μ κ ρ : Nat → Nat) (me : Nat → Nat → Nat) (nb b : Nat) : Prop := BS σ β μ κ ρ me nb ∧ OB own β μ ρ nb ∧ (∀ g, g < nb → β g < sN σ ∧ μ g < sN σ ∧ ρ g + 3 < sN σ) ∧ nb ≤ 12 ∧ b < nb ∧ κ b ≤ 3 ∧ (∀ k, cw κ me b k < nb ∧ sI σ 41 (wr σ b k) = sI σ (β (cw κ me b k)) 0 ∧ sI σ (β (cw κ me b k)) 5 = mo (sI σ 41 (wr σ b k))) ∧ sI σ (β b) 5 = ownM σ b
/-- the search's cells as it begins -/
def SCb (σ : am_S) (own : Nat → Nat) (aI nI aQ nQ g w : Nat) : Prop := (sR σ 13 4 = some (aI, 20, nI) ∧ own aI = 16 ∧ aI < sN σ ∧ nI ≤ 8000) ∧ (sR σ 12 2 = some (aQ, 23, nQ) ∧ (nQ = 0 ∨ nQ = 7) ∧ (nQ = 7 → SEq σ own aQ)) ∧ ((g = 20 ∧ w = 23) ∨ (g = 23 ∧ w = 20)) ∧ sR σ 12 4 = some (g, 4, 3) ∧ sR σ 12 5 = some (w, 4, 3) ∧ RV σ own g 0 ∧ RV σ own w 0 ∧ TV σ own 0
theorem c_sbegin (d : Nat) {aH nH aL nL aY nY aS nS aI nI aQ nQ g w n l m T W nb b : Nat} {own β μ κ ρ : Nat → Nat} {me : Nat → Nat → Nat} {kd : Int} {σ : am_S} {js : Nat → Nat} {os : Nat → Int} {K : am_S → Prop} (hI : IT σ own aH nH aL nL aY nY aS nS n l m T W kd) (hBe : BeI σ n l m T W kd nb) (hBL : BLS σ own β μ κ ρ me nb b) (hSC : SCb σ own aI nI aQ nQ g w) (h10 : sI σ 10 2 = 0)
    (h : ∀ s own' aQ' aI' nI', (∀ x, x < sN σ → ¬ p1' (own x) → sI s x = sI σ x ∧ ∀ j, sR s x j = sR σ x j) → (∀ x, x < sN σ → own' x = own x) → sN σ ≤ sN s → sN s ≤ sN σ + 65 → sU s + 2 * nI ≤ sU σ + 1414 + 2 * nI' → zl s = zl σ → nI ≤ nI' → sR s 13 4 = some (aI', 20, nI') → nI' ≤ 8000 → (∀ j, j ≠ 2 → j ≠ 6 → sR s 12 j = sR σ 12 j) → CS s own' aQ' W (trX σ T) (mkX σ n l m kd T b) (cX σ T) (0, 0, 0, js, os) 0 → K s) : am_Calls PP MLL (d + 7) m_Search_begin [qr (12, 5, 18), qr (β b, 0, 9), qi (sI σ 31 4)] σ (kV K) := by
  have hI0 := hI
  obtain ⟨hR, ow, ti, kt, ks, ⟨w1, w2, w3, w4, w5, w6, w7, w8⟩, ⟨l1, l2, l3, l4⟩, lz, ⟨p1, p2, p3, p4⟩, h87⟩ := hI
  have ow' := ow
  obtain ⟨o1, o2, o3, o4, o5⟩ := ow
  obtain ⟨hF, hT, _, n12, hM, hl, hq, hnb, hli, hw, hW⟩ := hBe
  have hBe' : BeI σ n l m T W kd nb := ⟨hF, hT, ti, n12, hM, hl, hq, hnb, hli, hw, hW⟩
  obtain ⟨bs, ob, ba, nb12, bb, kb3, bk, b5⟩ := hBL
  obtain ⟨⟨i1, i2, i3, i4⟩, ⟨q1, q2, q3⟩, gw, r4, r5, rv1, rv2, tv⟩ := hSC
  refine v_Search_begin_0 d (β b) aH nH aL nL aY nY aS nS _ σ K hR ?_
  -- behind makeQuestions: s, own', aQ'
  have main : ∀ s own1 aQ', (∀ x, x < sN σ → sI s x = sI σ x) → (∀ x, x < sN σ → ∀ j, (x = 12 ∧ j = 2) ∨ sR s x j = sR σ x j) → sN σ ≤ sN s → sN s ≤ sN σ + 64 → sU s ≤ sU σ + 1414 → (∀ x, x < sN σ → own1 x = own x) → SEq s own1 aQ' → (TR s aH nH aL nL aY nY aS nS) ∧ am_Calls PP MLL (d + 6) m_Suspects_gather [qr (13, 6, 5), qr (3, 9, 11)] s (kV fun s2 =>
      (TR s2 aH nH aL nL aY nY aS nS) ∧
      (-2147483648 ≤ 2 * (sI (putI (putI (putR s2 12 6 (some (β b, 0, 9))) 12 7 (sI s2 3 3)) 12 8 (sI σ 31 4)) (β b) 5) ∧ 2 * (sI (putI (putI (putR s2 12 6 (some (β b, 0, 9))) 12 7 (sI s2 3 3)) 12 8 (sI σ 31 4)) (β b) 5) < 2147483648 ∧ -2147483648 ≤ (2 * (sI (putI (putI (putR s2 12 6 (some (β b, 0, 9))) 12 7 (sI s2 3 3)) 12 8 (sI σ 31 4)) (β b) 5)) + 1 ∧ (2 * (sI (putI (putI (putR s2 12 6 (some (β b, 0, 9))) 12 7 (sI s2 3 3)) 12 8 (sI σ 31 4)) (β b) 5)) + 1 < 2147483648 ∧ (rg (sR (putI (putI (putI (putI (putI (putI (putI (putR s2 12 6 (some (β b, 0, 9))) 12 7 (sI s2 3 3)) 12 8 (sI σ 31 4)) 12 9 ((2 * (sI (putI (putI (putR s2 12 6 (some (β b, 0, 9))) 12 7 (sI s2 3 3)) 12 8 (sI σ 31 4)) (β b) 5)) + 1)) 12 13 0) 12 17 0) 12 16 (-1000)) 12 15 0) 12 5)).2.1 = 4) ∧
      am_Calls PP MLL (d + 6) m_Search_askFor [qr (12, 5, 18), qi 0] (putI (putI (putI (putI (putI (putI (putI (putI (putR s2 12 6 (some (β b, 0, 9))) 12 7 (sI s2 3 3)) 12 8 (sI σ 31 4)) 12 9 ((2 * (sI (putI (putI (putR s2 12 6 (some (β b, 0, 9))) 12 7 (sI s2 3 3)) 12 8 (sI σ 31 4)) (β b) 5)) + 1)) 12 13 0) 12 17 0) 12 16 (-1000)) 12 15 0) ((rg (sR (putI (putI (putI (putI (putI (putI (putI (putR s2 12 6 (some (β b, 0, 9))) 12 7 (sI s2 3 3)) 12 8 (sI σ 31 4)) 12 9 ((2 * (sI (putI (putI (putR s2 12 6 (some (β b, 0, 9))) 12 7 (sI s2 3 3)) 12 8 (sI σ 31 4)) (β b) 5)) + 1)) 12 13 0) 12 17 0) 12 16 (-1000)) 12 15 0) 12 5)).1) 2 0) (kV fun s3 =>
        K s3)) := by
    intro s own1 aQ' sI1 sR1 sN1 sN2 sU1 ho1 hq1
    have sRe : ∀ x j, x < sN σ → x ≠ 12 → sR s x j = sR σ x j := fun x j hx h12 => by
      rcases sR1 x hx j with e | e
      · exact absurd e.1 h12
      · exact e
    have sR12 : ∀ j, j ≠ 2 → sR s 12 j = sR σ 12 j := fun j hj => by
      rcases sR1 12 (by omega) j with e | e
      · exact absurd e.2 hj
      · exact e
    have Cs : CF s := fun a j r hr => by
      obtain ⟨z1, z2, z3, z4, z5, z6, z7, z8, z9⟩ := cref_dec _ (crefF_mem _ a j r hr)
      rcases sR1 a (by omega) j with ⟨e1, e2⟩ | e
      · have : j = 0 ∨ j = 1 ∨ j = 3 := z3 e1
        omega
      · rw [e]; exact hR.1 a j r hr
    have Rs : TR s aH nH aL nL aY nY aS nS := ⟨Cs, by rw [sRe 3 6 (by omega) (by decide)]; exact hR.2.1, by rw [sRe 3 7 (by omega) (by decide)]; exact hR.2.2.1, by rw [sRe 3 8 (by omega) (by decide)]; exact hR.2.2.2.1, by rw [sRe 3 9 (by omega) (by decide)]; exact hR.2.2.2.2⟩
    have ti' : TI s n l m kd T := TI_fr (fun x _ x2 => sI1 x (by omega)) ti
    have e37 := sI1 37 (by omega)
    have kt' : KTt s aH aL n l m kd T := by
      unfold KTt at kt ⊢
      rw [sI1 aH p1, sI1 aL p2]
      exact kt
    have ks' : KS s aY aS T W := by
      unfold KS at ks ⊢
      rw [sI1 aY p3, sI1 aS p4, sI1 36 (by omega), sI1 37 (by omega), sI1 38 (by omega)]
      exact ks
    have Is : IT s own1 aH nH aL nL aY nY aS nS n l m T W kd := by
      refine ⟨Rs, ⟨fun a ha => by rw [ho1 a (by omega)]; exact o1 a ha, by rw [ho1 aH p1]; exact o2, by rw [ho1 aL p2]; exact o3, by rw [ho1 aY p3]; exact o4, by rw [ho1 aS p4]; exact o5⟩, ti', kt', ks', ?_, ⟨l1, l2, l3, l4⟩, lz, by omega, by omega⟩
      rw [sI1 3 (by omega), sI1 31 (by omega), e37]
      exact ⟨w1, w2, w3, w4, w5, w6, w7, w8⟩
    have Fs : MF s := fun j => by rw [sRe 31 j (by omega) (by decide)]; exact hF j
    have etr : trX s T = trX σ T := by unfold trX; rw [e37]
    have ecx : cX s T = cX σ T := by unfold cX; rw [etr, sI1 36 (by omega)]
    have exr : ∀ a b t u, XR s n l m kd a b t u ↔ XR σ n l m kd a b t u := fun a b t u => ⟨XR_cg (sI1 33 (by omega)) (sI1 34 (by omega)) (sI1 35 (by omega)), XR_cg (sI1 33 (by omega)).symm (sI1 34 (by omega)).symm (sI1 35 (by omega)).symm⟩
    refine ⟨Rs, c_gather d Is Fs (by rw [sRe 13 4 (by omega) (by decide)]; exact i1) (by rw [ho1 aI i3]; exact i2) (by omega) i4 (by rw [e37]; exact hM.2) (by rw [e37]; exact hM.1) n12 (fun t aI' nI' hG t4 t5 t6 t7 hS hP => ?_)⟩
    rw [e37] at hS hP
    rw [etr, ecx] at hS
    have tR : ∀ x j, x < sN σ → x ≠ 12 → ¬ (x = 13 ∧ j = 4) → sR t x j = sR σ x j := fun x j hx h12 h13 => by
      rcases hG.2.1 x (by omega) j with e | e
      · exact absurd e h13
      · rw [e, sRe x j hx h12]
    have tI : ∀ x, x < sN σ → x ≠ 13 → x ≠ 14 → x ≠ 15 → x ≠ aI → sI t x = sI σ x := fun x hx x1 x2 x3 x4 => by rw [hG.1 x (by omega) x1 x2 x3 x4, sI1 x hx]
    have aI87 : ∀ x, x < 87 → x ≠ 16 → x ≠ aI := fun x hx h16 e => by
      have := o1 x hx
      rw [e, i2] at this
      omega
    have role : ∀ x, x < sN σ → (own x < 12 ∨ 16 < own x) → sI t x = sI σ x := fun x hx hr => tI x hx (fun e => by rw [e, o1 13 (by decide)] at hr; omega) (fun e => by rw [e, o1 14 (by decide)] at hr; omega) (fun e => by rw [e, o1 15 (by decide)] at hr; omega) (fun e => by rw [e, i2] at hr; omega)
    have roleR : ∀ x j, x < sN σ → (own x < 12 ∨ 13 < own x) → sR t x j = sR σ x j := fun x j hx hr => tR x j hx (fun e => by rw [e, o1 12 (by decide)] at hr; omega) (fun e => by rw [e.1, o1 13 (by decide)] at hr; omega)
    have Rt : TR t aH nH aL nL aY nY aS nS := GSf_TR hG (by omega) Rs
    have t12 : ∀ j, j ≠ 2 → sR t 12 j = sR σ 12 j := fun j hj => by
      rcases hG.2.1 12 (by omega) j with e | e
      · omega
      · rw [e, sR12 j hj]
    have tb5 : sI t (β b) 5 = sI σ (β b) 5 := by rw [role (β b) (ba b bb).1 (by rw [(ob b bb).1]; omega)]
    have t33 : sI t 3 3 = W := by rw [role 3 (by omega) (by rw [o1 3 (by decide)]; omega)]; exact w5
    have nb12' : β b ≠ 12 := fun e => by have := (ob b bb).1; rw [e, o1 12 (by decide)] at this; omega
    have hmo := ownM_13 hq bb
    have ew : rg (sR t 12 5) = (w, 4, 3) := by rw [t12 5 (by decide), r5]; rfl
    have w12 : w ≠ 12 ∧ w < 87 := by omega
    refine ⟨Rt, ⟨?_, ?_, ?_, ?_, ?_⟩, ?_⟩
    · show -2147483648 ≤ 2 * (sI (putI (putI (putR t 12 6 (some (β b, 0, 9))) 12 7 (sI t 3 3)) 12 8 (sI σ 31 4)) (β b) 5)
      rw [put_ne nb12', put_ne nb12']
      show -2147483648 ≤ 2 * sI t (β b) 5
      rw [tb5, b5]; omega
    · rw [put_ne nb12', put_ne nb12']
      show 2 * sI t (β b) 5 < 2147483648
      rw [tb5, b5]; omega
    · rw [put_ne nb12', put_ne nb12']
      show -2147483648 ≤ 2 * sI t (β b) 5 + 1
      rw [tb5, b5]; omega
    · rw [put_ne nb12', put_ne nb12']
      show 2 * sI t (β b) 5 + 1 < 2147483648
      rw [tb5, b5]; omega
    · show (rg (if 12 = 12 ∧ 5 = 6 then some (β b, 0, 9) else sR t 12 5)).2.1 = 4
      rw [if_neg (by decide), ew]
    · have er5 : (rg (sR (putI (putI (putI (putI (putI (putI (putI (putR t 12 6 (some (β b, 0, 9))) 12 7 (sI t 3 3)) 12 8 (sI σ 31 4)) 12 9 ((2 * (sI (putI (putI (putR t 12 6 (some (β b, 0, 9))) 12 7 (sI t 3 3)) 12 8 (sI σ 31 4)) (β b) 5)) + 1)) 12 13 0) 12 17 0) 12 16 (-1000)) 12 15 0) 12 5)).1 = w := by
        show (rg (if 12 = 12 ∧ 5 = 6 then some (β b, 0, 9) else sR t 12 5)).1 = w
        rw [if_neg (by decide), ew]
      rw [er5]
      obtain ⟨Y, eY⟩ : ∃ Y, Y = putI (putI (putI (putI (putI (putI (putI (putI (putR t 12 6 (some (β b, 0, 9))) 12 7 (sI t 3 3)) 12 8 (sI σ 31 4)) 12 9 ((2 * (sI (putI (putI (putR t 12 6 (some (β b, 0, 9))) 12 7 (sI t 3 3)) 12 8 (sI σ 31 4)) (β b) 5)) + 1)) 12 13 0) 12 17 0) 12 16 (-1000)) 12 15 0) w 2 0 := ⟨_, rfl⟩
      rw [← eY]
      have yR : ∀ x j, sR Y x j = if x = 12 ∧ j = 6 then some (β b, 0, 9) else sR t x j := fun x j => by rw [eY]; rfl
      have yo : ∀ x, x ≠ 12 → x ≠ w → sI Y x = sI t x := fun x x1 x2 => by
        rw [eY, put_ne x2, put_ne x1, put_ne x1, put_ne x1, put_ne x1, put_ne x1, put_ne x1, put_ne x1]
        rfl
      have yw' : sI Y w 2 = 0 := by rw [eY, put_at, if_pos rfl]
      have e9 : sI (putI (putI (putR t 12 6 (some (β b, 0, 9))) 12 7 (sI t 3 3)) 12 8 (sI σ 31 4)) (β b) 5 = ownM σ b := by
        rw [put_ne nb12', put_ne nb12']
        show sI t (β b) 5 = _
        rw [tb5, b5]
      have y12 : ∀ j, sI Y 12 j = if j = 15 then 0 else if j = 16 then -1000 else if j = 17 then 0 else if j = 13 then 0 else if j = 9 then 2 * ownM σ b + 1 else if j = 8 then sI σ 31 4 else if j = 7 then (W : Int) else sI t 12 j := fun j => by
        rw [eY, put_ne w12.1.symm, put_at, put_at, put_at, put_at, put_at, put_at, put_at, e9, t33]
        rfl
      have yN : sN Y = sN t := by rw [eY]; rfl
      have yU : sU Y = sU t := by rw [eY]; rfl
      obtain ⟨own2, eo⟩ : ∃ own2 : Nat → Nat, own2 = fun y => if y = aI' then 16 else own1 y := ⟨_, rfl⟩
      have aI1 : own1 aI = 16 := by rw [ho1 aI i3]; exact i2
      have ho2 : ∀ x, x < sN s → own2 x = own1 x := fun x hx => by
        rw [eo]
        show (if x = aI' then 16 else own1 x) = own1 x
        by_cases e : x = aI'
        · rw [if_pos e]
          rcases t7 with ⟨z1, _⟩ | ⟨z1, _⟩
          · rw [e, z1, aI1]
          · omega
        · rw [if_neg e]
      have ho : ∀ x, x < sN σ → own2 x = own x := fun x hx => by rw [ho2 x (by omega), ho1 x hx]
      have oa : own2 aI' = 16 := by rw [eo]; exact if_pos rfl
      have aIn : aI' < sN t := by
        rcases t7 with ⟨z1, z2, z3, z4⟩ | ⟨z1, z2, z3, z4⟩ <;> omega
      have tN : sN s ≤ sN t ∧ sN t ≤ sN s + 1 := by
        rcases t7 with ⟨z1, z2, z3, z4⟩ | ⟨z1, z2, z3, z4⟩ <;> omega
      have wa : w ≠ aI' := fun e => by
        have := ho w (by omega)
        rw [e, oa, ← e, o1 w (by omega)] at this
        omega
      have a12 : aI' ≠ 12 := fun e => by
        have := ho 12 (by omega)
        rw [← e, oa, e, o1 12 (by decide)] at this
        omega
      have r0w : w = 20 ∨ w = 23 := by omega
      have roY : ∀ x, x < sN σ → (own x < 12 ∨ (16 < own x ∧ own x ≠ 20 ∧ own x ≠ 23)) → sI Y x = sI σ x := fun x hx hr => by
        rw [yo x (fun e => by rw [e, o1 12 (by decide)] at hr; omega) (fun e => by rw [e, o1 w (by omega)] at hr; omega), role x hx (by omega)]
      have roR : ∀ x j, x < sN σ → (own x < 12 ∨ 13 < own x) → sR Y x j = sR σ x j := fun x j hx hr => by
        rw [yR, if_neg (fun e => by rw [e.1, o1 12 (by decide)] at hr; omega), roleR x j hx hr]
      have xv := mkX_XV (ob := b) ti n12 hM hl hq bb
      have f87 : ∀ x, x < 87 → x < 12 ∨ (25 < x) → sI Y x = sI σ x := fun x hx hr => roY x (by omega) (by rw [o1 x hx]; omega)
      have hE : SE Y own2 aQ' W (trX σ T) (mkX σ n l m kd T b) (cX σ T) := by
        refine ⟨?_, ⟨xv, ⟨cX_CV (ob := b) hBe', cX_mn (ob := b) hBe'⟩, by omega⟩, ⟨?_, ?_, ?_, ?_, ?_, fun p hp => ?_⟩, ⟨aI', nI', ?_, oa, by omega, t5, fun p hp a c hac hc => ?_⟩, ⟨β, μ, κ, ρ, me, nb, b, aH, nH, aL, nL, aY, nY, aS, nS, n, l, m, T, kd, ?_, ?_, ?_, ?_, ?_, l1, l2, ?_, ?_, ?_, ?_, nb12, bb, kb3, ?_, fun k => ?_, fun p hp => ⟨?_, trX_T hM.1 p, fun f hf => ?_⟩⟩⟩
        · obtain ⟨⟨z1, z2⟩, z3, z4, z5, z6⟩ := hq1
          have qc : ∀ x j, aQ' ≤ x → x < aQ' + 64 → sR Y x j = sR s x j := fun x j x1 x2 => by
            have h1 : x ≠ 12 := fun e => by
              by_cases ea : x = aQ'
              · have := ho1 12 (by omega)
                rw [← e, ea, z3, ← ea, e, o1 12 (by decide)] at this
                omega
              · have hh := z6 ((x - aQ' - 1) / 9) (by omega) ((x - aQ' - 1) % 9) (by omega)
                have ex : qA aQ' ((x - aQ' - 1) / 9) + (x - aQ' - 1) % 9 = x := by unfold qA; omega
                rw [ex] at hh
                have := ho1 12 (by omega)
                rw [← e, hh, e, o1 12 (by decide)] at this
                omega
            have h2 : x ≠ 13 := fun e => by
              by_cases ea : x = aQ'
              · have := ho1 13 (by omega)
                rw [← e, ea, z3, ← ea, e, o1 13 (by decide)] at this
                omega
              · have hh := z6 ((x - aQ' - 1) / 9) (by omega) ((x - aQ' - 1) % 9) (by omega)
                have ex : qA aQ' ((x - aQ' - 1) / 9) + (x - aQ' - 1) % 9 = x := by unfold qA; omega
                rw [ex] at hh
                have := ho1 13 (by omega)
                rw [← e, hh, e, o1 13 (by decide)] at this
                omega
            rw [yR, if_neg (fun e => h1 e.1)]
            rcases hG.2.1 x (by omega) j with e | e
            · exact absurd e.1 h2
            · exact e
          refine ⟨⟨?_, fun i hi => ?_⟩, by rw [ho2 aQ' (by omega)]; exact z3, by omega, by omega, fun i hi k hk => by rw [ho2 _ (by unfold qA; omega)]; exact z6 i hi k hk⟩
          · rw [yR, if_neg (by decide)]
            rcases hG.2.1 12 (by omega) 2 with e | e
            · omega
            · rw [e]; exact z1
          · obtain ⟨v1, v2, v3⟩ := z2 i hi
            refine ⟨by rw [qc aQ' i (by omega) (by omega)]; exact v1, ?_, ?_⟩
            · unfold QF at v2 ⊢
              rw [qc _ 0 (by unfold qA; omega) (by unfold qA; omega), qc _ 1 (by unfold qA; omega) (by unfold qA; omega), qc _ 2 (by unfold qA; omega) (by unfold qA; omega)]
              exact v2
            · unfold WF at v3 ⊢
              rw [qc _ 0 (by unfold qA; omega) (by unfold qA; omega), qc _ 1 (by unfold qA; omega) (by unfold qA; omega), qc _ 2 (by unfold qA; omega) (by unfold qA; omega), qc _ 3 (by unfold qA; omega) (by unfold qA; omega), qc _ 4 (by unfold qA; omega) (by unfold qA; omega)]
              exact v3
        · rw [y12]; rfl
        · rw [y12]; rfl
        · rw [y12]; rfl
        · rw [yo 13 (by decide) (by omega)]
          exact hS.1
        · rw [yo 13 (by decide) (by omega)]
          exact hS.2.1
        · rw [yo 15 (by decide) (by omega)]
          exact (hS.2.2 p hp).2
        · rw [yR, if_neg (by decide)]
          exact t4
        · rw [yo aI' a12 wa.symm]
          have := hP a c p hac hc hp
          rw [this]
          show xpl s n l m kd T p a c = xpl σ n l m kd T p a c
          obtain ⟨f, x, y, z, w', hvc, hN, hct⟩ := ti.2.2.2.2.2.2.2.2.2.2 (trX σ T p) (trX_T hM.1 p)
          obtain ⟨u, hu⟩ := EX_has hF ti (trX_T hM.1 p) hvc hN hct (show a < n by have : c < n := hc; omega) (show c < n from hc)
          have xr : XR σ n l m kd a c (trX σ T p) u := ⟨f, x, y, z, w', hvc, hct, hu⟩
          have xr' : XR s n l m kd a c (trX s T p) u := by rw [etr]; exact (exr _ _ _ _).2 xr
          rw [xpl_sp ti hp xr, xpl_sp ti' (by rw [e37]; exact hp) xr', e37]
        · refine ⟨fun a j r hr => ?_, by rw [roR 3 6 (by omega) (by rw [o1 3 (by decide)]; omega)]; exact hR.2.1, by rw [roR 3 7 (by omega) (by rw [o1 3 (by decide)]; omega)]; exact hR.2.2.1, by rw [roR 3 8 (by omega) (by rw [o1 3 (by decide)]; omega)]; exact hR.2.2.2.1, by rw [roR 3 9 (by omega) (by rw [o1 3 (by decide)]; omega)]; exact hR.2.2.2.2⟩
          obtain ⟨z1, z2, z3, z4, z5, z6, z7, z8, z9⟩ := cref_dec _ (crefF_mem _ a j r hr)
          rw [yR, if_neg (fun e => by have : j = 0 ∨ j = 1 ∨ j = 3 := z3 e.1; omega)]
          exact Rt.1 a j r hr
        · exact ⟨fun a ha => by rw [ho a (by omega)]; exact o1 a ha, by rw [ho aH p1]; exact o2, by rw [ho aL p2]; exact o3, by rw [ho aY p3]; exact o4, by rw [ho aS p4]; exact o5⟩
        · omega
        · exact TI_fr (fun x x1 x2 => f87 x (by omega) (by omega)) ti
        · unfold KTt at kt ⊢
          rw [roY aH p1 (by rw [o2]; omega), roY aL p2 (by rw [o3]; omega)]
          exact kt
        · rw [f87 10 (by decide) (by omega)]
          exact h10
        · refine BS_fr bs (fun g' _ => roR 9 g' (by omega) (by rw [o1 9 (by decide)]; omega)) (fun g' hg' j => ?_)
          obtain ⟨z1, z2, z3⟩ := ob g' hg'
          obtain ⟨v1, v2, v3⟩ := ba g' hg'
          have z30 := z3 0 (by decide)
          have z32 := z3 2 (by decide)
          rw [Nat.add_zero] at z30
          exact ⟨roR _ j v1 (by omega), roR _ j (by omega) (by omega), roR _ j (by omega) (by omega), roR _ j v2 (by omega)⟩
        · intro g' hg'
          obtain ⟨z1, z2, z3⟩ := ob g' hg'
          obtain ⟨v1, v2, v3⟩ := ba g' hg'
          exact ⟨by rw [ho _ v1]; exact z1, by rw [ho _ v2]; exact z2, fun k hk => by rw [ho _ (by omega)]; exact z3 k hk⟩
        · intro g' hg'
          obtain ⟨v1, v2, v3⟩ := ba g' hg'
          omega
        · rw [yR, if_pos ⟨rfl, rfl⟩]
        · obtain ⟨z1, z2, z3⟩ := bk k
          have eb : sI Y (β (cw κ me b k)) = sI σ (β (cw κ me b k)) := roY _ (ba _ z1).1 (by rw [(ob _ z1).1]; omega)
          rw [eb]
          exact ⟨z1, z2, z3⟩
        · rw [yo 14 (by decide) (by omega)]
          exact (hS.2.2 p hp).1
        · rw [f87 33 (by decide) (by omega), f87 34 (by decide) (by omega), f87 35 (by decide) (by omega)]
          rfl
      have rvf : ∀ o, (o = 20 ∨ o = 23) → RV σ own o 0 → RV Y own2 o 0 := by
        intro o hoo hv
        obtain ⟨⟨a, n', b', m', y1, y2, y3, y4, y5, y6, y7, y8, y9, y10⟩, c1, c2, c3, c4⟩ := hv
        exact ⟨⟨a, n', b', m', by rw [roR o 0 (by omega) (by rw [o1 o (by omega)]; omega)]; exact y1, by rw [roR o 1 (by omega) (by rw [o1 o (by omega)]; omega)]; exact y2, by rw [ho a y5]; exact y3, by rw [ho b' y6]; exact y4, by omega, by omega, y7, y8, y9, y10⟩, by rw [ho 18 (by omega)]; exact c1, by rw [ho 20 (by omega)]; exact c2, by rw [ho 23 (by omega)]; exact c3, by omega⟩
      have tvf : TV Y own2 0 := by
        obtain ⟨⟨a, n', y1, y2, y3, y4, y5⟩, c1, c2, c3, c4⟩ := tv
        exact ⟨⟨a, n', by rw [roR 18 0 (by omega) (by rw [o1 18 (by decide)]; omega)]; exact y1, by rw [ho a y3]; exact y2, by omega, y4, y5⟩, by rw [ho 18 (by omega)]; exact c1, by rw [ho 20 (by omega)]; exact c2, by rw [ho 23 (by omega)]; exact c3, by omega⟩
      have ewh : wh (mkX σ n l m kd T b) (cX σ T) W 0 = [] := by unfold wh; rw [if_pos rfl]
      have y4 : sR Y 12 4 = some (g, 4, 3) := by rw [yR, if_neg (by decide), t12 4 (by decide)]; exact r4
      have y5 : sR Y 12 5 = some (w, 4, 3) := by rw [yR, if_neg (by decide), t12 5 (by decide)]; exact r5
      have zz : zl Y = zl σ := by
        unfold zl
        rw [roR 18 0 (by omega) (by rw [o1 18 (by decide)]; omega), roR 20 0 (by omega) (by rw [o1 20 (by decide)]; omega), roR 20 1 (by omega) (by rw [o1 20 (by decide)]; omega), roR 23 0 (by omega) (by rw [o1 23 (by decide)]; omega), roR 23 1 (by omega) (by rw [o1 23 (by decide)]; omega)]
      refine e_askFor (d + 4) (n0 := 0) (g := g) (w := w) (st := 0) (js := js) (os := os) hE (by decide) (by decide) ⟨by rw [y12]; rfl, by rw [y12]; rfl, by rw [y12]; rfl, by rw [y12]; rfl⟩ (fun m' hm' => absurd hm' (Nat.not_lt_zero m')) gw y4 y5 (rvf g (by omega) rv1) (by rw [ewh]; exact rvf w (by omega) rv2) (by rw [ewh]; exact ⟨yw', fun i hi => absurd hi (Nat.not_lt_zero i)⟩) (by rw [ewh]; exact Nat.le_refl _) tvf (fun u u2 uo hP0 => ?_)
      have uR : ∀ x j, sR u x j = sR Y x j := fun x j => R2' u2 x j
      have uN : sN u = sN Y := by unfold sN; rw [u2]
      have uU : sU u = sU Y := by unfold sU; rw [u2]
      refine h u own2 aQ' aI' nI' (fun x hx hp => ?_) ho (by omega) (by omega) ?_ (by unfold zl; rw [uR, uR, uR, uR, uR]; exact zz) (by omega) (by rw [uR, yR, if_neg (by decide)]; exact t4) t6 (fun j j1 j2 => by rw [uR, yR, if_neg (fun e => j2 e.2), t12 j j1]) (Or.inl ⟨rfl, hP0⟩)
      · have hp' : ¬ ((12 ≤ own x ∧ own x ≤ 25) ∨ 2000 ≤ own x) := hp
        refine ⟨?_, fun j => by rw [uR, roR x j hx (by omega)]⟩
        rw [uo x (fun z => by rw [ho x hx] at z; unfold p0 at z; omega), roY x hx (by omega)]
      · rw [uU, yU]
        rcases t7 with ⟨z1, z2, z3, z4⟩ | ⟨z1, z2, z3, z4⟩ <;> omega
  have hn7 : nQ = 7 → SEq σ own aQ := q3
  refine c_makeQ (d + 3) hR.1 h87 q1 q2 (fun e7 => ?_) (fun e0 s s1 s2 s3 s4 s5 => ?_)
  · exact main σ own aQ (fun _ _ => rfl) (fun _ _ _ => Or.inr rfl) (Nat.le_refl _) (by omega) (by omega) (fun _ _ => rfl) (hn7 e7)
  · obtain ⟨own1, eo1⟩ : ∃ own1 : Nat → Nat, own1 = fun y => if y < sN σ then own y else if y = sN σ then 17 else 2000 + (y - sN σ - 1) := ⟨_, rfl⟩
    have ho1 : ∀ x, x < sN σ → own1 x = own x := fun x hx => by rw [eo1]; exact if_pos hx
    refine main s own1 (sN σ) s1 s2 (by omega) (by omega) (by omega) ho1 ⟨s5, ?_, by omega, by omega, fun i hi k hk => ?_⟩
    · rw [eo1]
      show (if sN σ < sN σ then own (sN σ) else if sN σ = sN σ then 17 else 2000 + (sN σ - sN σ - 1)) = 17
      rw [if_neg (by omega), if_pos rfl]
    · rw [eo1]
      show (if qA (sN σ) i + k < sN σ then own (qA (sN σ) i + k) else if qA (sN σ) i + k = sN σ then 17 else 2000 + (qA (sN σ) i + k - sN σ - 1)) = 2000 + 9 * i + k
      unfold qA
      rw [if_neg (by omega), if_neg (by omega)]
      omega
