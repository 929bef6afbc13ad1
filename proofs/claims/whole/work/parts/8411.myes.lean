/-! the reference: a yes goes up, whole -/
theorem yM (d : Nat) {kp R f ob n k0 n0 : Nat} {X : sX} {tr : Nat → Nat} {c0 : Nat → Int} {js : Nat → Nat} {os : Nat → Int} {p2 : Int} (hR : (kp = 1 → R = 0 ∧ f = 0) ∧ R < 6000) : ∀ (l : Nat) {σ : am_S} {K : Int → am_S → Prop}, l ≤ 6 → YM σ kp R f X ob n tr c0 k0 n0 js os l → (upY X k0 n0 js os l = (2, n0, 0, js, os) → ∀ s, MFr σ s f → sI s 31 37 = sI σ 31 37 ∧ sI s 31 39 = sI σ 31 39 → MB s kp f X ob n tr c0 k0 n0 → sI s 31 57 = f → (kp = 1 → mn X c0 ≤ 0 ∨ (sI s 31 60 = tsz X n0 c0 k0 ∧ RS s X tr n0 c0 k0 0 0 0)) → (kp = 0 → sI s 31 60 = R) → LA s f X c0 n0 k0 → can X n0 c0 k0 → K 1 s) → (∀ s l' os', upY X k0 n0 js os l = (0, n0, l' + 1, js, os') → MFr σ s f → sI s 31 37 = sI σ 31 37 ∧ sI s 31 39 = sI σ 31 39 → M0 s kp R f X ob n tr c0 k0 n0 js os' (l' + 1) → GO d (f : Int) p2 0 s K) → UP d (f : Int) p2 1 σ K
  | 0, σ, K, _, hY, h1, _ => by
    obtain ⟨r, e60, r6, rle, r0, r1, r3⟩ := YM_r hY hR
    have hY' := hY
    obtain ⟨hB, hG, hc, h57, hML, hLA, hd⟩ := hY
    have f7 := hB.2.2.2.2.2.1
    have hkp := hB.2.2.2.2.1
    refine goY d (f := sdw X (csq X c0 k0 js os 0) (wAt X (csq X c0 k0 js os 0) (js 0))) hB.1 hB.2.1 h57 (by omega) (by rw [hB.2.2.2.1]; omega) e60 r6 hLA.1 (fun _ m q hq => ?_) (fun _ s hs => ?_) (fun e => absurd (by omega) e)
    · rcases hd with ⟨w, _⟩ | ⟨_, _, _, _, _, lw, _⟩
      · omega
      · exact ⟨lw.2.2.2 q hq, sdw_pm X _ _ q⟩
    · have fr := KE_fr hs f
      have o := KE_o hs
      have rz : rkp kp R X c0 k0 n0 js os 0 = R := by
        unfold rkp
        by_cases e : kp = 1
        · rw [if_pos e]; rfl
        · rw [if_neg e]; rfl
      refine h1 rfl s fr ⟨o.2.2.2 37 (by decide), o.2.2.2 39 (by decide)⟩ (MB_fr hB fr (fun j => by rw [o.2.1 64 (by omega) (by decide), o.2.1 65 (by omega) (by decide)]; exact hB.2.2.1 j)) (by rw [o.2.2.2 57 (by decide)]; exact h57) (fun k => ?_) (fun k => ?_) ?_ hc
      · rcases yK hY' r1 e60 hs k with w | ⟨w1, w2⟩
        · exact Or.inl w
        · rw [rz, (hR.1 k).1] at w1 w2
          rw [(hR.1 k).2] at w2
          rw [Nat.zero_add] at w1
          exact Or.inr ⟨w1, w2⟩
      · rcases hs with ⟨_, q⟩ | ⟨q, _⟩
        · rw [q, e60, r0 k]
        · rw [hB.2.2.2.1, k] at q
          exact absurd q (by decide)
      · exact LA_fr hB.2.1.1.2.1 (fun j _ _ => by rw [o.2.1 53 (by omega) (by decide)]) (by rw [o.2.1 54 (by omega) (by decide)]) (by rw [o.2.1 55 (by omega) (by decide)]) hLA
  | l + 1, σ, K, hl, hY, h1, h0 => by
    obtain ⟨r, e60, r6, rle, r0, r1, r3⟩ := YM_r hY hR
    have hY' := hY
    obtain ⟨hB, hG, hc, h57, hML, hLA, hd⟩ := hY
    have f7 := hB.2.2.2.2.2.1
    have hkp := hB.2.2.2.2.1
    have xv := hB.2.1.1
    obtain ⟨g1, g2, g3, g4, g5, g6, g7⟩ := hG l (by omega)
    obtain ⟨m1, m2, m3, m4, m5, m6⟩ := hML l (by omega)
    have hmo := oc_37 X (k0 + l)
    have upe : upY X k0 n0 js os (l + 1) = if os l < mo (xK X (k0 + l)) then (0, n0, l + 1, js, ud os l (os l + 1)) else upY X k0 n0 js os l := rfl
    rw [upe] at h1 h0
    refine goY d (f := sdw X (csq X c0 k0 js os (l + 1)) (wAt X (csq X c0 k0 js os (l + 1)) (js (l + 1)))) hB.1 hB.2.1 h57 (by omega) (by rw [hB.2.2.2.1]; omega) e60 r6 hLA.1 (fun _ m q hq => ?_) (fun e => by omega) (fun _ => ⟨f + l, rfl, by rw [m4]; omega, fun s hs => ?_⟩)
    · rcases hd with ⟨w, _⟩ | ⟨_, _, _, _, _, lw, _⟩
      · omega
      · exact ⟨lw.2.2.2 q hq, sdw_pm X _ _ q⟩
    · obtain ⟨c1, c2⟩ := yC hY' e60 rle r1 r0 r3 hs
      have o := KE_o hs
      rw [m3, m4]
      obtain ⟨T, eT⟩ : ∃ T, T = putI (putI s 31 57 ((f + l : Nat) : Int)) 57 (f + l) (os l + 1) := ⟨_, rfl⟩
      rw [← eT]
      have T2 : T.2 = s.2 := by rw [eT]; rfl
      have To : ∀ x, x ≠ 31 → x ≠ 57 → sI T x = sI s x := fun x x1 x2 => by rw [eT, put_ne x2, put_ne x1]
      have T31 : ∀ j, j ≠ 57 → sI T 31 j = sI s 31 j := fun j hj => by rw [eT, put_ne (by decide), put_at, if_neg hj]
      have T3157 : sI T 31 57 = (f + l : Nat) := by rw [eT, put_ne (by decide), put_at, if_pos rfl]
      have T57 : ∀ j, sI T 57 j = if j = f + l then os l + 1 else sI s 57 j := fun j => by rw [eT, put_at, put_ne (by decide)]
      have frT : ∀ f', f' ≤ f + l → MFr s T f' := fun f' hf' => ⟨T2, fun x x1 x2 => To x x2 (by omega), fun j _ _ j3 _ _ => T31 j j3, fun j _ => by rw [To 53 (by decide) (by decide)], fun x x1 x2 j hj => by
        by_cases e : x = 57
        · rw [e, T57, if_neg (by omega)]
        · rw [To x (by omega) e], fun x x1 x2 j _ => by rw [To x (by omega) (by omega)], fun _ x x1 x2 => To x (by omega) (by omega)⟩
      have fr : ∀ f', f' ≤ f + l → MFr σ T f' := fun f' hf' => MFr_tr (KE_fr hs f') (frT f' hf')
      have oT : ∀ x, x < 67 → x ≠ 31 → x ≠ 57 → sI T x = sI σ x := fun x x0 x1 x2 => by rw [To x x1 x2, o.2.1 x (by omega) x1]
      have BT : MB T kp f X ob n tr c0 k0 n0 := MB_fr hB (fr f (by omega)) (fun j => by rw [oT 64 (by decide) (by decide) (by decide), oT 65 (by decide) (by decide) (by decide)]; exact hB.2.2.1 j)
      have MLT : ML' T kp R f X tr c0 k0 n0 js os l := ML_fr xv (GL_le hG (by omega)) (fun i hi => hML i (by omega)) (fr (f + l) (Nat.le_refl _)) (fun k x x1 x2 j hj => by
        rw [To x (by omega) (by omega)]
        refine o.2.2.1 x x1 x2 j ?_
        have := rkp_mono (R := R) (X := X) (c0 := c0) (k0 := k0) (n0 := n0) (js := js) (os := os) k (l + 1) (by omega : l ≤ l + 1)
        omega)
      have LAT : LA T (f + l) X (csq X c0 k0 js os l) (n0 - l) (k0 + l) := LA_fr xv.2.1 (fun j _ _ => by rw [oT 53 (by decide) (by decide) (by decide)]) (by rw [oT 54 (by decide) (by decide) (by decide)]) (by rw [oT 55 (by decide) (by decide) (by decide)]) m1
      have LWT : LW T (f + l) X (csq X c0 k0 js os l) (js l) := LW_fr xv (by rw [oT 59 (by decide) (by decide) (by decide)]) (by rw [oT 60 (by decide) (by decide) (by decide)]) (by rw [oT 61 (by decide) (by decide) (by decide)]) (fun x x1 x2 q _ _ => by rw [oT x (by omega) (by omega) (by omega)]) m2
      have e37 : sI T 31 37 = sI σ 31 37 ∧ sI T 31 39 = sI σ 31 39 := by rw [T31 37 (by decide), T31 39 (by decide), o.2.2.2 37 (by decide), o.2.2.2 39 (by decide)]; exact ⟨rfl, rfl⟩
      have ch : kp = 1 → ∀ u, u < oi X (k0 + l) (os l) + 1 → mn X (chd X (csq X c0 k0 js os l) (k0 + l) (wAt X (csq X c0 k0 js os l) (js l)) u) ≤ 0 ∨ RS T X tr (n0 - (l + 1)) (chd X (csq X c0 k0 js os l) (k0 + l) (wAt X (csq X c0 k0 js os l) (js l)) u) (k0 + l + 1) (f + l + 1) (-mo (xK X (k0 + l)) + (u : Int)) (rkp kp R X c0 k0 n0 js os l + tof X (n0 - (l + 1)) (csq X c0 k0 js os l) (k0 + l) (wAt X (csq X c0 k0 js os l) (js l)) u) := by
        intro k u hu
        rcases c2 k u hu with w | w
        · exact Or.inl w
        · by_cases mu : mn X (chd X (csq X c0 k0 js os l) (k0 + l) (wAt X (csq X c0 k0 js os l) (js l)) u) ≤ 0
          · exact Or.inl mu
          · exact Or.inr (RS_fr _ _ _ _ _ _ mu (fun x x1 x2 j _ _ => by rw [To x (by omega) (by omega)]) w)
      refine ⟨fun ce => ?_, fun ce => ?_⟩
      · have ce' : ¬ os l < mo (xK X (k0 + l)) := by omega
        rw [if_neg ce'] at h1 h0
        obtain ⟨y1, y2⟩ := Y_end xv hG hc ce'
        have eoc := oc_end ce' g5
        refine yM d hR l (by omega) ⟨BT, GL_le hG (by omega), y1, T3157, MLT, LAT, Or.inr ⟨by omega, g1, g3, g4, y2.symm, LWT, ?_, ?_⟩⟩ (fun e t t1 t2 => h1 e t (MFr_tr (fr f (by omega)) t1) ⟨t2.1.trans e37.1, t2.2.trans e37.2⟩) (fun t l' os' e t1 t2 => h0 t l' os' e (MFr_tr (fr f (by omega)) t1) ⟨t2.1.trans e37.1, t2.2.trans e37.2⟩)
        · rw [T31 60 (by decide), c1, eoc]
        · rw [eoc]; exact ch
      · have ce' : os l < mo (xK X (k0 + l)) := by omega
        rw [if_pos ce'] at h0
        obtain ⟨Z, eZ⟩ : ∃ Z, Z = putI T 31 58 3 := ⟨_, rfl⟩
        rw [← eZ]
        have Z2 : Z.2 = T.2 := by rw [eZ]; rfl
        have Zo : ∀ x, x ≠ 31 → sI Z x = sI T x := fun x hx => by rw [eZ, put_ne hx]
        have Z31 : ∀ j, j ≠ 58 → sI Z 31 j = sI T 31 j := fun j hj => by rw [eZ, put_at, if_neg hj]
        have frZ : ∀ f', MFr T Z f' := fun f' => ⟨Z2, fun x _ x2 => Zo x x2, fun j _ _ _ j4 _ => Z31 j j4, fun j _ => by rw [Zo 53 (by decide)], fun x x1 x2 j _ => by rw [Zo x (by omega)], fun x x1 x2 j _ => by rw [Zo x (by omega)], fun _ x x1 x2 => Zo x (by omega)⟩
        have BZ : MB Z kp f X ob n tr c0 k0 n0 := MB_fr BT (frZ f) (fun j => by rw [Zo 64 (by decide), Zo 65 (by decide)]; exact BT.2.2.1 j)
        have LAZ : LA Z (f + l) X (csq X c0 k0 js os l) (n0 - l) (k0 + l) := LA_fr xv.2.1 (fun j _ _ => by rw [Zo 53 (by decide)]) (by rw [Zo 54 (by decide)]) (by rw [Zo 55 (by decide)]) LAT
        have k60 := hB.2.2.2.2.2.2.2.1
        have n6 := hB.2.2.2.2.2.2.1
        have cv := hB.2.2.2.2.2.2.2.2
        have z54 := LAZ.2.1
        refine mg3 d (L := f + l) (k := k0 + l) (c := csq X c0 k0 js os l) (f := sdw X (csq X c0 k0 js os l) (wAt X (csq X c0 k0 js os l) (js l))) (o := os l + 1) BZ.1 BZ.2.1 (by rw [eZ, put_at, if_pos rfl]) (by rw [Z31 57 (by decide)]; exact T3157) (by omega) LAZ.2.2 (by omega) (by omega) (by rw [Zo 57 (by decide), T57, if_pos rfl]) LAZ.1 (fun q hq => ⟨by rw [Zo 66 (by decide)]; exact LWT.2.2.2 q hq, sdw_pm X _ _ q⟩) ?_
        intro s' hs'
        obtain ⟨a1, a2, a3, a4, a5, a6, a7⟩ := hs'
        obtain ⟨W, eW⟩ : ∃ W, W = putI (putI s' 31 57 ((f + l + 1 : Nat) : Int)) 31 58 0 := ⟨_, rfl⟩
        rw [← eW]
        have W2 : W.2 = Z.2 := by rw [eW]; exact a1
        have Wo : ∀ x, x ≠ 31 → sI W x = sI s' x := fun x hx => by rw [eW, put_ne hx, put_ne hx]
        have e31 : sI s' 31 = sI Z 31 := a2 31 (by decide) (by decide) (by decide)
        have W31 : ∀ j, j ≠ 57 → j ≠ 58 → sI W 31 j = sI Z 31 j := fun j j1 j2 => by rw [eW, put_at, if_neg j2, put_at, if_neg j1, e31]
        have WZ : ∀ x, x ≠ 31 → x ≠ 53 → x ≠ 54 → x ≠ 55 → sI W x = sI Z x := fun x x1 x2 x3 x4 => by rw [Wo x x1, a2 x x2 x3 x4]
        have frW : ∀ f', f' ≤ f + l + 1 → MFr Z W f' := fun f' hf' => ⟨W2, fun x x1 x2 => WZ x x2 (by omega) (by omega) (by omega), fun j _ _ j3 j4 _ => W31 j j3 j4, fun j hj => by rw [Wo 53 (by decide)]; exact a3 j (Or.inl (by omega)), fun x x1 x2 j hj => by
          by_cases e : x = 54
          · rw [e, Wo 54 (by decide)]; exact (a5 j (by omega)).1
          · by_cases e2 : x = 55
            · rw [e2, Wo 55 (by decide)]; exact (a5 j (by omega)).2
            · rw [WZ x (by omega) (by omega) e e2], fun x x1 x2 j _ => by rw [WZ x (by omega) (by omega) (by omega) (by omega)], fun _ x x1 x2 => WZ x (by omega) (by omega) (by omega) (by omega)⟩
        have frA : ∀ f', f' ≤ f + l → MFr T W f' := fun f' hf' => MFr_tr (frZ f') (frW f' (by omega))
        have BW : MB W kp f X ob n tr c0 k0 n0 := MB_fr BT (frA f (by omega)) (fun j => by rw [WZ 64 (by decide) (by decide) (by decide) (by decide), WZ 65 (by decide) (by decide) (by decide) (by decide), Zo 64 (by decide), Zo 65 (by decide)]; exact BT.2.2.1 j)
        have cgl : ∀ q, q < l → js q = js q ∧ os q = ud os l (os l + 1) q := fun q hq => ⟨rfl, by unfold ud; rw [if_neg (by omega)]⟩
        have uol : ud os l (os l + 1) l = os l + 1 := by unfold ud; rw [if_pos rfl]
        have ec := csq_congr (X := X) (c0 := c0) (k0 := k0) l cgl
        have ek := rkp_cg (kp := kp) (R := R) (X := X) (c0 := c0) (k0 := k0) (n0 := n0) (i := l) cgl
        have eoi : oi X (k0 + l) (os l + 1) = oi X (k0 + l) (os l) + 1 := by unfold oi; omega
        have ecs : csq X c0 k0 js (ud os l (os l + 1)) (l + 1) = mkc X (csq X c0 k0 js os l) (k0 + l) (sdw X (csq X c0 k0 js os l) (wAt X (csq X c0 k0 js os l) (js l))) (os l + 1) := by
          show mkc X (csq X c0 k0 js (ud os l (os l + 1)) l) (k0 + l) (sdw X (csq X c0 k0 js (ud os l (os l + 1)) l) (wAt X (csq X c0 k0 js (ud os l (os l + 1)) l) (js l))) (ud os l (os l + 1) l) = _
          rw [← ec, uol]
        have cvn := mkc_CV xv (k := k0 + l) (f := sdw X (csq X c0 k0 js os l) (wAt X (csq X c0 k0 js os l) (js l))) (o := os l + 1) (csq_CV xv cv (k0 := k0) (js := js) (os := os) l)
        have oW : ∀ x, x ≠ 31 → x ≠ 53 → x ≠ 54 → x ≠ 55 → sI W x = sI T x := fun x x1 x2 x3 x4 => by rw [WZ x x1 x2 x3 x4, Zo x x1]
        refine h0 W l (ud os l (os l + 1)) rfl (MFr_tr (fr f (by omega)) (frA f (by omega))) (by rw [W31 37 (by decide) (by decide), W31 39 (by decide) (by decide), Z31 37 (by decide), Z31 39 (by decide)]; exact e37) ⟨BW, fun i hi => ?_, by rw [eW, put_at, if_pos rfl], by rw [eW, put_at, if_neg (by decide), put_at, if_pos rfl]; rfl, fun i hi => ?_, ?_, ?_⟩
        · by_cases e : i < l
          · exact GL_cg cgl (GL_le hG (by omega)) i e
          · have : i = l := by omega
            rw [this, ← ec, uol]
            refine ⟨g1, g2, g3, g4, by omega, g6, fun u hu => ?_⟩
            rw [eoi] at hu
            by_cases e2 : u < oi X (k0 + l) (os l)
            · exact g7 u e2
            · have : u = oi X (k0 + l) (os l) := by omega
              rw [this, ← csq_s g5.1]
              exact hc
        · by_cases e : i < l
          · exact ML_cg cgl (ML_fr xv (GL_le hG (by omega)) MLT (frA (f + l) (Nat.le_refl _)) (fun _ x x1 x2 j _ => by rw [oW x (by omega) (by omega) (by omega) (by omega)])) i e
          · have : i = l := by omega
            rw [this, ← ec, ← ek, uol, eoi]
            refine ⟨LA_fr (σ := Z) xv.2.1 (fun j j1 j2 => by rw [Wo 53 (by decide)]; exact a3 j (Or.inl (by omega))) (by rw [Wo 54 (by decide)]; exact (a5 _ (by omega)).1) (by rw [Wo 55 (by decide)]; exact (a5 _ (by omega)).2) LAZ, LW_fr xv (by rw [oW 59 (by decide) (by decide) (by decide) (by decide)]) (by rw [oW 60 (by decide) (by decide) (by decide) (by decide)]) (by rw [oW 61 (by decide) (by decide) (by decide) (by decide)]) (fun x x1 x2 q _ _ => by rw [oW x (by omega) (by omega) (by omega) (by omega)]) LWT, by rw [oW 56 (by decide) (by decide) (by decide) (by decide), oT 56 (by decide) (by decide) (by decide)]; exact m3, by rw [oW 57 (by decide) (by decide) (by decide) (by decide), T57, if_pos rfl], by rw [oW 58 (by decide) (by decide) (by decide) (by decide), oT 58 (by decide) (by decide) (by decide)]; exact m5, fun k u hu => ?_⟩
            rcases ch k u hu with w | w
            · exact Or.inl w
            · by_cases mu : mn X (chd X (csq X c0 k0 js os l) (k0 + l) (wAt X (csq X c0 k0 js os l) (js l)) u) ≤ 0
              · exact Or.inl mu
              · exact Or.inr (RS_fr _ _ _ _ _ _ mu (fun x x1 x2 j _ _ => by rw [oW x (by omega) (by omega) (by omega) (by omega)]) w)
        · rw [ecs]
          refine ⟨fun q hq => ⟨by rw [Wo 53 (by decide)]; exact a4 q hq, (cvn q hq).1, by have := cvn q hq; omega⟩, ?_, ?_⟩
          · rw [Wo 54 (by decide), show f + (l + 1) = f + l + 1 from rfl, a6, z54]
            omega
          · rw [Wo 55 (by decide), show f + (l + 1) = f + l + 1 from rfl, a7]
            omega
        · rw [W31 60 (by decide) (by decide), Z31 60 (by decide), T31 60 (by decide), c1]
          by_cases k : kp = 1
          · rw [rkp_s k, if_pos k, ← ek, ← ec, uol, eoi]
          · unfold rkp
            rw [if_neg k, if_neg k, if_neg k]
