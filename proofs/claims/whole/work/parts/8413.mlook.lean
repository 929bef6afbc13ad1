/-! the reference: a STEP that looks -/
theorem sLook (d : Nat) {kp R f ob n k0 n0 l : Nat} {X : sX} {tr : Nat → Nat} {c0 : Nat → Int} {js : Nat → Nat} {os : Nat → Int} {p2 : Int} {σ : am_S} {K : Int → am_S → Prop} (hM : M2 σ kp R f X ob n tr c0 k0 n0 js os l) (hp : p2 = 0 ∨ (p2 = 1 ∧ ¬ sI σ 31 39 = 0)) (h39 : 0 ≤ sI σ 31 39 ∧ sI σ 31 39 ≤ 1000000) (h37 : 0 ≤ sI σ 31 37 ∧ sI σ 31 37 ≤ 1000000)
    (h : ∀ s, MFr σ s f → sI s 31 37 = sI σ 31 37 + p2 ∧ sI s 31 39 = sI σ 31 39 - p2 → M0 s kp R f X ob n tr c0 k0 n0 js (ud os l (-mo (xK X (k0 + l)))) (l + 1) → GO d (f : Int) p2 0 s K) : GO d (f : Int) p2 0 σ K := by
  obtain ⟨hB, hG, ⟨hln, hm, hb, hjw, hny⟩, h58, h57, hML, hLA, hLW, hmk, h60⟩ := hM
  have f7 := hB.2.2.2.2.2.1
  have n6 := hB.2.2.2.2.2.2.1
  have k60 := hB.2.2.2.2.2.2.2.1
  have cv := hB.2.2.2.2.2.2.2.2
  have xv := hB.2.1.1
  have hmo := oc_37 X (k0 + l)
  refine mg2 d (k := k0 + l) hB.1 hB.2.1 h58 h57 (by omega) hLA.2.2 hp h39 h37 ?_
  obtain ⟨v, ev⟩ : ∃ v, v = mo (xK X (k0 + l)) := ⟨_, rfl⟩
  rw [← ev] at h ⊢
  obtain ⟨T, eT⟩ : ∃ T, T = mk2 σ p2 (f + l) v := ⟨_, rfl⟩
  rw [← eT]
  have T2 : T.2 = σ.2 := by rw [eT]; rfl
  have To : ∀ x, x ≠ 31 → x ≠ 56 → x ≠ 57 → sI T x = sI σ x := fun x x1 x2 x3 => by rw [eT]; unfold mk2; rw [put_ne x1, put_ne x3, put_ne x2, put_ne x1, put_ne x1]
  have T31 : ∀ j, j ≠ 37 → j ≠ 39 → j ≠ 58 → sI T 31 j = sI σ 31 j := fun j j1 j2 j3 => by rw [eT]; unfold mk2; rw [put_at, if_neg j3, put_ne (by decide), put_ne (by decide), put_at, if_neg j1, put_at, if_neg j2]
  have T37 : sI T 31 37 = sI σ 31 37 + p2 := by rw [eT]; unfold mk2; rw [put_at, if_neg (by decide), put_ne (by decide), put_ne (by decide), put_at, if_pos rfl]
  have T39 : sI T 31 39 = sI σ 31 39 - p2 := by rw [eT]; unfold mk2; rw [put_at, if_neg (by decide), put_ne (by decide), put_ne (by decide), put_at, if_neg (by decide), put_at, if_pos rfl]
  have T58 : sI T 31 58 = 3 := by rw [eT]; unfold mk2; rw [put_at, if_pos rfl]
  have T56 : ∀ j, sI T 56 j = if j = f + l then v else sI σ 56 j := fun j => by rw [eT]; unfold mk2; rw [put_ne (by decide), put_ne (by decide), put_at, put_ne (by decide), put_ne (by decide)]
  have T57 : ∀ j, sI T 57 j = if j = f + l then -v else sI σ 57 j := fun j => by rw [eT]; unfold mk2; rw [put_ne (by decide), put_at, put_ne (by decide), put_ne (by decide), put_ne (by decide)]
  have frT : ∀ f', f' ≤ f + l → MFr σ T f' := fun f' hf' => ⟨T2, fun x x1 x2 => To x x2 (by omega) (by omega), fun j j1 j2 _ j4 _ => T31 j j1 j2 j4, fun j _ => by rw [To 53 (by decide) (by decide) (by decide)], fun x x1 x2 j hj => by
    by_cases e : x = 56
    · rw [e, T56, if_neg (by omega)]
    · by_cases e2 : x = 57
      · rw [e2, T57, if_neg (by omega)]
      · rw [To x (by omega) e e2], fun x x1 x2 j _ => by rw [To x (by omega) (by omega) (by omega)], fun _ x x1 x2 => To x (by omega) (by omega) (by omega)⟩
  have BT : MB T kp f X ob n tr c0 k0 n0 := MB_fr hB (frT f (by omega)) (fun j => by rw [To 64 (by decide) (by decide) (by decide), To 65 (by decide) (by decide) (by decide)]; exact hB.2.2.1 j)
  have MLT : ML' T kp R f X tr c0 k0 n0 js os l := ML_fr xv hG hML (frT (f + l) (Nat.le_refl _)) (fun _ x x1 x2 j _ => by rw [To x (by omega) (by omega) (by omega)])
  have LAT : LA T (f + l) X (csq X c0 k0 js os l) (n0 - l) (k0 + l) := LA_fr xv.2.1 (fun j _ _ => by rw [To 53 (by decide) (by decide) (by decide)]) (by rw [To 54 (by decide) (by decide) (by decide)]) (by rw [To 55 (by decide) (by decide) (by decide)]) hLA
  have LWT : LW T (f + l) X (csq X c0 k0 js os l) (js l) := LW_fr xv (by rw [To 59 (by decide) (by decide) (by decide)]) (by rw [To 60 (by decide) (by decide) (by decide)]) (by rw [To 61 (by decide) (by decide) (by decide)]) (fun x x1 x2 q _ _ => by rw [To x (by omega) (by omega) (by omega)]) hLW
  have z54 := LAT.2.1
  refine mg3 d (L := f + l) (k := k0 + l) (c := csq X c0 k0 js os l) (f := sdw X (csq X c0 k0 js os l) (wAt X (csq X c0 k0 js os l) (js l))) (o := -v) BT.1 BT.2.1 T58 (by rw [T31 57 (by decide) (by decide) (by decide)]; exact h57) (by omega) LAT.2.2 (by omega) (by omega) (by rw [T57, if_pos rfl]) LAT.1 (fun q hq => ⟨LWT.2.2.2 q hq, sdw_pm X _ _ q⟩) ?_
  intro s' hs'
  obtain ⟨a1, a2, a3, a4, a5, a6, a7⟩ := hs'
  obtain ⟨W, eW⟩ : ∃ W, W = putI (putI s' 31 57 ((f + l + 1 : Nat) : Int)) 31 58 0 := ⟨_, rfl⟩
  rw [← eW]
  have W2 : W.2 = T.2 := by rw [eW]; exact a1
  have Wo : ∀ x, x ≠ 31 → sI W x = sI s' x := fun x hx => by rw [eW, put_ne hx, put_ne hx]
  have e31 : sI s' 31 = sI T 31 := a2 31 (by decide) (by decide) (by decide)
  have W31 : ∀ j, j ≠ 57 → j ≠ 58 → sI W 31 j = sI T 31 j := fun j j1 j2 => by rw [eW, put_at, if_neg j2, put_at, if_neg j1, e31]
  have WZ : ∀ x, x ≠ 31 → x ≠ 53 → x ≠ 54 → x ≠ 55 → sI W x = sI T x := fun x x1 x2 x3 x4 => by rw [Wo x x1, a2 x x2 x3 x4]
  have frW : ∀ f', f' ≤ f + l + 1 → MFr T W f' := fun f' hf' => ⟨W2, fun x x1 x2 => WZ x x2 (by omega) (by omega) (by omega), fun j _ _ j3 j4 _ => W31 j j3 j4, fun j hj => by rw [Wo 53 (by decide)]; exact a3 j (Or.inl (by omega)), fun x x1 x2 j hj => by
    by_cases e : x = 54
    · rw [e, Wo 54 (by decide)]; exact (a5 j (by omega)).1
    · by_cases e2 : x = 55
      · rw [e2, Wo 55 (by decide)]; exact (a5 j (by omega)).2
      · rw [WZ x (by omega) (by omega) e e2], fun x x1 x2 j _ => by rw [WZ x (by omega) (by omega) (by omega) (by omega)], fun _ x x1 x2 => WZ x (by omega) (by omega) (by omega) (by omega)⟩
  have BW : MB W kp f X ob n tr c0 k0 n0 := MB_fr BT (frW f (by omega)) (fun j => by rw [WZ 64 (by decide) (by decide) (by decide) (by decide), WZ 65 (by decide) (by decide) (by decide) (by decide)]; exact BT.2.2.1 j)
  have cgl : ∀ q, q < l → js q = js q ∧ os q = ud os l (-v) q := fun q hq => ⟨rfl, by unfold ud; rw [if_neg (by omega)]⟩
  have uol : ud os l (-v) l = -v := by unfold ud; rw [if_pos rfl]
  have ec := csq_congr (X := X) (c0 := c0) (k0 := k0) l cgl
  have ek := rkp_cg (kp := kp) (R := R) (X := X) (c0 := c0) (k0 := k0) (n0 := n0) (i := l) cgl
  have eoi : oi X (k0 + l) (-v) = 0 := by unfold oi; omega
  have ecs : csq X c0 k0 js (ud os l (-v)) (l + 1) = mkc X (csq X c0 k0 js os l) (k0 + l) (sdw X (csq X c0 k0 js os l) (wAt X (csq X c0 k0 js os l) (js l))) (-v) := by
    show mkc X (csq X c0 k0 js (ud os l (-v)) l) (k0 + l) (sdw X (csq X c0 k0 js (ud os l (-v)) l) (wAt X (csq X c0 k0 js (ud os l (-v)) l) (js l))) (ud os l (-v) l) = _
    rw [← ec, uol]
  have cvn := mkc_CV xv (k := k0 + l) (f := sdw X (csq X c0 k0 js os l) (wAt X (csq X c0 k0 js os l) (js l))) (o := -v) (csq_CV xv cv (k0 := k0) (js := js) (os := os) l)
  refine h W (MFr_tr (frT f (by omega)) (frW f (by omega))) (by rw [W31 37 (by decide) (by decide), W31 39 (by decide) (by decide)]; exact ⟨T37, T39⟩) ⟨BW, fun i hi => ?_, by rw [eW, put_at, if_pos rfl], by rw [eW, put_at, if_neg (by decide), put_at, if_pos rfl]; rfl, fun i hi => ?_, ?_, ?_⟩
  · by_cases e : i < l
    · exact GL_cg cgl hG i e
    · have : i = l := by omega
      rw [this, ← ec, uol]
      refine ⟨hln, by omega, hb, hjw, by omega, hny, fun u hu => ?_⟩
      rw [eoi] at hu
      exact absurd hu (Nat.not_lt_zero u)
  · by_cases e : i < l
    · exact ML_cg cgl (ML_fr xv hG MLT (frW (f + l) (by omega)) (fun _ x x1 x2 j _ => by rw [WZ x (by omega) (by omega) (by omega) (by omega)])) i e
    · have : i = l := by omega
      rw [this, ← ec, ← ek, uol, eoi]
      exact ⟨LA_fr (σ := T) xv.2.1 (fun j j1 j2 => by rw [Wo 53 (by decide)]; exact a3 j (Or.inl (by omega))) (by rw [Wo 54 (by decide)]; exact (a5 _ (by omega)).1) (by rw [Wo 55 (by decide)]; exact (a5 _ (by omega)).2) LAT, LW_fr xv (by rw [WZ 59 (by decide) (by decide) (by decide) (by decide)]) (by rw [WZ 60 (by decide) (by decide) (by decide) (by decide)]) (by rw [WZ 61 (by decide) (by decide) (by decide) (by decide)]) (fun x x1 x2 q _ _ => by rw [WZ x (by omega) (by omega) (by omega) (by omega)]) LWT, by rw [WZ 56 (by decide) (by decide) (by decide) (by decide), T56, if_pos rfl, ev], by rw [WZ 57 (by decide) (by decide) (by decide) (by decide), T57, if_pos rfl], by rw [WZ 58 (by decide) (by decide) (by decide) (by decide), To 58 (by decide) (by decide) (by decide)]; exact hmk, fun _ u hu => absurd hu (Nat.not_lt_zero u)⟩
  · rw [ecs]
    refine ⟨fun q hq => ⟨by rw [Wo 53 (by decide)]; exact a4 q hq, (cvn q hq).1, by have := cvn q hq; omega⟩, ?_, ?_⟩
    · rw [Wo 54 (by decide), show f + (l + 1) = f + l + 1 from rfl, a6, z54]
      omega
    · rw [Wo 55 (by decide), show f + (l + 1) = f + l + 1 from rfl, a7]
      omega
  · rw [W31 60 (by decide) (by decide), T31 60 (by decide) (by decide) (by decide), h60]
    by_cases k : kp = 1
    · rw [rkp_s k, ← ek, ← ec, uol, eoi]
      rfl
    · unfold rkp
      rw [if_neg k, if_neg k]
