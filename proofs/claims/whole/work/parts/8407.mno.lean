/-! the reference: a no goes up -/
theorem MB_fr {σ s : am_S} {kp f ob n k0 n0 : Nat} {X : sX} {tr : Nat → Nat} {c0 : Nat → Int} (h : MB σ kp f X ob n tr c0 k0 n0) (hf : MFr σ s f) (hz : RZ s) : MB s kp f X ob n tr c0 k0 n0 := by
  obtain ⟨h1, h2, h3, h4, h5⟩ := h
  obtain ⟨a1, a2, a3, _⟩ := hf
  exact ⟨MF_I h1 a1, MX_fr h2 (fun x x1 x2 => a2 x (by omega) x2) (fun j hj => a3 j (by omega) (by omega) (by omega) (by omega) (by omega)), hz, by rw [a3 59 (by decide) (by decide) (by decide) (by decide) (by decide)]; exact h4, h5⟩
theorem rkp_s {kp R : Nat} {X : sX} {c0 : Nat → Int} {k0 n0 : Nat} {js : Nat → Nat} {os : Nat → Int} {i : Nat} (h : kp = 1) : rkp kp R X c0 k0 n0 js os (i + 1) = rkp kp R X c0 k0 n0 js os i + tof X (n0 - (i + 1)) (csq X c0 k0 js os i) (k0 + i) (wAt X (csq X c0 k0 js os i) (js i)) (oi X (k0 + i) (os i)) := by
  unfold rkp
  rw [if_pos h, if_pos h, Nat.add_assoc]
  rfl
theorem rkp_mono {kp R : Nat} {X : sX} {c0 : Nat → Int} {k0 n0 : Nat} {js : Nat → Nat} {os : Nat → Int} {i : Nat} (h : kp = 1) : ∀ j, i ≤ j → rkp kp R X c0 k0 n0 js os i ≤ rkp kp R X c0 k0 n0 js os j
  | 0, h2 => by
    have : i = 0 := by omega
    rw [this]
    exact Nat.le_refl _
  | j + 1, h2 => by
    by_cases e : i = j + 1
    · rw [e]
      exact Nat.le_refl _
    · have h1 := rkp_mono (R := R) (X := X) (c0 := c0) (k0 := k0) (n0 := n0) (js := js) (os := os) h j (by omega : i ≤ j)
      have h2 := rkp_s (R := R) (X := X) (c0 := c0) (k0 := k0) (n0 := n0) (js := js) (os := os) (i := j) h
      omega
theorem rkp_cg {kp R : Nat} {X : sX} {c0 : Nat → Int} {k0 n0 : Nat} {js js' : Nat → Nat} {os os' : Nat → Int} {i : Nat} (h : ∀ q, q < i → js q = js' q ∧ os q = os' q) : rkp kp R X c0 k0 n0 js os i = rkp kp R X c0 k0 n0 js' os' i := by
  unfold rkp
  rw [(ndq_congr (X := X) (c0 := c0) (k0 := k0) (n0 := n0) i h).2]
theorem ML_fr {σ s : am_S} {kp R f : Nat} {X : sX} {tr : Nat → Nat} {c0 : Nat → Int} {k0 n0 : Nat} {js : Nat → Nat} {os : Nat → Int} {l : Nat} (hX : XV X) (hG : GL X c0 k0 n0 js os l) (h : ML' σ kp R f X tr c0 k0 n0 js os l) (hf : MFr σ s (f + l)) (hR : kp = 1 → ∀ x, 67 ≤ x → x ≤ 73 → ∀ j, j < rkp kp R X c0 k0 n0 js os l → sI s x j = sI σ x j) : ML' s kp R f X tr c0 k0 n0 js os l := by
  obtain ⟨a1, a2, a3, a4, a5, a6, a7⟩ := hf
  intro i hi
  obtain ⟨h1, h2, h3, h4, h5, h6⟩ := h i hi
  refine ⟨LA_fr hX.2.1 (fun j j1 j2 => a4 j (by omega)) (a5 54 (by decide) (by decide) _ (by omega)) (a5 55 (by decide) (by decide) _ (by omega)) h1, LW_fr hX (a5 59 (by decide) (by decide) _ (by omega)) (a5 60 (by decide) (by decide) _ (by omega)) (a5 61 (by decide) (by decide) _ (by omega)) (fun x x1 x2 q q1 q2 => a6 x x1 x2 q (by omega)) h2, by rw [a5 56 (by decide) (by decide) _ (by omega)]; exact h3, by rw [a5 57 (by decide) (by decide) _ (by omega)]; exact h4, by rw [a5 58 (by decide) (by decide) _ (by omega)]; exact h5, fun k u hu => ?_⟩
  rcases h6 k u hu with w | w
  · exact Or.inl w
  · by_cases m0 : mn X (chd X (csq X c0 k0 js os i) (k0 + i) (wAt X (csq X c0 k0 js os i) (js i)) u) ≤ 0
    · exact Or.inl m0
    · refine Or.inr (RS_fr _ _ _ _ _ _ m0 (fun x x1 x2 j j1 j2 => hR k x x1 x2 j ?_) w)
      have m1 := tof_s X (n0 - (i + 1)) (csq X c0 k0 js os i) (k0 + i) (wAt X (csq X c0 k0 js os i) (js i)) u
      have m2 : tof X (n0 - (i + 1)) (csq X c0 k0 js os i) (k0 + i) (wAt X (csq X c0 k0 js os i) (js i)) (u + 1) ≤ tof X (n0 - (i + 1)) (csq X c0 k0 js os i) (k0 + i) (wAt X (csq X c0 k0 js os i) (js i)) (oi X (k0 + i) (os i)) := sN'_mono (by omega)
      have m3 := rkp_s (R := R) (X := X) (c0 := c0) (k0 := k0) (n0 := n0) (js := js) (os := os) (i := i) k
      have m4 := rkp_mono (R := R) (X := X) (c0 := c0) (k0 := k0) (n0 := n0) (js := js) (os := os) k l (by omega : i + 1 ≤ l)
      omega
theorem ML_cg {σ : am_S} {kp R f : Nat} {X : sX} {tr : Nat → Nat} {c0 : Nat → Int} {k0 n0 : Nat} {js js' : Nat → Nat} {os os' : Nat → Int} {l : Nat} (h : ∀ q, q < l → js q = js' q ∧ os q = os' q) (g : ML' σ kp R f X tr c0 k0 n0 js os l) : ML' σ kp R f X tr c0 k0 n0 js' os' l := by
  intro i hi
  have e1 := csq_congr (X := X) (c0 := c0) (k0 := k0) i (fun q hq => h q (by omega))
  obtain ⟨e2, e3⟩ := h i hi
  have e4 := rkp_cg (kp := kp) (R := R) (X := X) (c0 := c0) (k0 := k0) (n0 := n0) (i := i) (fun q hq => h q (by omega))
  have q := g i hi
  rw [← e1, ← e2, ← e3, ← e4]
  exact q
theorem nM (d : Nat) {kp R f ob n k0 n0 : Nat} {X : sX} {tr : Nat → Nat} {c0 : Nat → Int} {js : Nat → Nat} {os : Nat → Int} {p2 : Int} : ∀ (l : Nat) {σ : am_S} {K : Int → am_S → Prop}, l ≤ 6 → NM σ kp R f X ob n tr c0 k0 n0 js os l → (upN X c0 k0 n0 js os l = upN X c0 k0 n0 js os 0 → ∀ s, MFr σ s f → sI s 31 37 = sI σ 31 37 ∧ sI s 31 39 = sI σ 31 39 → MB s kp f X ob n tr c0 k0 n0 → sI s 31 57 = f → sI s 31 60 = R → LA s f X c0 n0 k0 → ¬ can X n0 c0 k0 → K 2 s) → (∀ s l', upN X c0 k0 n0 js os l = (1, n0, l', uN js l' (js l' + 1), os) → MFr σ s f → sI s 31 37 = sI σ 31 37 ∧ sI s 31 39 = sI σ 31 39 → M2 s kp R f X ob n tr c0 k0 n0 (uN js l' (js l' + 1)) os l' → GO d (f : Int) p2 0 s K) → UP d (f : Int) p2 0 σ K
  | 0, σ, K, _, hN, h2, _ => by
    obtain ⟨hB, hG, hc, h57, hML, hLA, h58⟩ := hN
    have x26 := hB.2.1.2.2.2.2.2.2.2.2.2.2.2.2.2
    have f7 := hB.2.2.2.2.2.1
    refine goN d hB.1 x26 h57 (by omega) (fun _ => ?_) (fun e => absurd (by omega) e)
    have rz : rkp kp R X c0 k0 n0 js os 0 = R := by
      unfold rkp
      by_cases e : kp = 1
      · rw [if_pos e]; rfl
      · rw [if_neg e]; rfl
    rw [h58, rz]
    have fr : MFr σ (putI σ 31 60 (R : Int)) f := ⟨rfl, fun x _ x2 => put_ne x2, fun j _ _ _ _ j5 => by rw [put_at, if_neg j5], fun j _ => by rw [put_ne (by decide)], fun x x1 x2 j _ => by rw [put_ne (by omega)], fun x x1 x2 j _ => by rw [put_ne (by omega)], fun _ x x1 x2 => put_ne (by omega)⟩
    refine h2 rfl _ fr ⟨by rw [put_at, if_neg (by decide)], by rw [put_at, if_neg (by decide)]⟩ (MB_fr hB fr (fun j => by rw [put_ne (by decide), put_ne (by decide)]; exact hB.2.2.1 j)) (by rw [put_at, if_neg (by decide)]; exact h57) (by rw [put_at, if_pos rfl]) ?_ hc
    have := LA_fr (s := putI σ 31 60 (R : Int)) hB.2.1.1.2.1 (fun j _ _ => by rw [put_ne (by decide)]) (by rw [put_ne (by decide)]) (by rw [put_ne (by decide)]) hLA
    exact this
  | l + 1, σ, K, hl, hN, h2, hM => by
    obtain ⟨hB, hG, hc, h57, hML, hLA, h58⟩ := hN
    have x26 := hB.2.1.2.2.2.2.2.2.2.2.2.2.2.2.2
    have xv := hB.2.1.1
    have f7 := hB.2.2.2.2.2.1
    obtain ⟨g1, g2, g3, g4, g5, g6, g7⟩ := hG l (by omega)
    obtain ⟨m1, m2, m3, m4, m5, m6⟩ := hML l (by omega)
    obtain ⟨hr, hny⟩ := N_row hG hc
    have en : n0 - l = n0 - (l + 1) + 1 := by omega
    have wb := wct_bd xv (csq X c0 k0 js os l)
    refine goN d hB.1 x26 h57 (by omega) (fun e => by omega) (fun _ => ⟨f + l, rfl, ?_⟩)
    rw [m5]
    obtain ⟨T, eT⟩ : ∃ T, T = putI (putI (putI (putI σ 31 60 (sI σ 58 (f + (l + 1)))) 31 57 ((f + l : Nat) : Int)) 31 60 ((rkp kp R X c0 k0 n0 js os l : Nat) : Int)) 31 58 1 := ⟨_, rfl⟩
    rw [← eT]
    have T2 : T.2 = σ.2 := by rw [eT]; rfl
    have To : ∀ x, x ≠ 31 → sI T x = sI σ x := fun x hx => by rw [eT, put_ne hx, put_ne hx, put_ne hx, put_ne hx]
    have T31 : ∀ j, j ≠ 57 → j ≠ 58 → j ≠ 60 → sI T 31 j = sI σ 31 j := fun j j1 j2 j3 => by rw [eT, put_at, if_neg j2, put_at, if_neg j3, put_at, if_neg j1, put_at, if_neg j3]
    have T57 : sI T 31 57 = (f + l : Nat) := by rw [eT, put_at, if_neg (by decide), put_at, if_neg (by decide), put_at, if_pos rfl]
    have T58 : sI T 31 58 = 1 := by rw [eT, put_at, if_pos rfl]
    have T60 : sI T 31 60 = rkp kp R X c0 k0 n0 js os l := by rw [eT, put_at, if_neg (by decide), put_at, if_pos rfl]
    have frT : ∀ f', MFr σ T f' := fun f' => ⟨T2, fun x _ x2 => To x x2, fun j _ _ j3 j4 j5 => T31 j j3 j4 j5, fun j _ => by rw [To 53 (by decide)], fun x x1 x2 j _ => by rw [To x (by omega)], fun x x1 x2 j _ => by rw [To x (by omega)], fun _ x x1 x2 => To x (by omega)⟩
    have BT : MB T kp f X ob n tr c0 k0 n0 := MB_fr hB (frT f) (fun j => by rw [To 64 (by decide), To 65 (by decide)]; exact hB.2.2.1 j)
    have T26 : sI T 31 26 = 0 := by rw [T31 26 (by decide) (by decide) (by decide)]; exact x26
    have LWT : LW T (f + l) X (csq X c0 k0 js os l) (js l) := LW_fr xv (by rw [To 59 (by decide)]) (by rw [To 60 (by decide)]) (by rw [To 61 (by decide)]) (fun x x1 x2 q _ _ => by rw [To x (by omega)]) m2
    have upe : upN X c0 k0 n0 js os (l + 1) = match wsq X (csq X c0 k0 js os l) (js l + 1) with | some _ => (1, n0, l, uN js l (js l + 1), os) | none => upN X c0 k0 n0 js os l := rfl
    refine mg1 d BT.1 T26 T58 T57 ?_
    refine m_next (d + 1) BT.1 xv (by omega) BT.2.1.2.1 BT.2.2.1 LWT.1 LWT.2 g4 (by omega) ?_ ?_
    · intro w0 w1 s s1 s2 s3
      have fr : ∀ f', f' ≤ f + l → MFr T s f' := fun f' hf' => ⟨s1, fun x x1 x2 => s2 x (by omega), fun j _ _ _ _ _ => by rw [s2 31 (by decide)], fun j _ => by rw [s2 53 (by decide)], fun x x1 x2 j hj => by
        by_cases e : x = 59
        · rw [e]; exact s3 j (by omega)
        · rw [s2 x e], fun x x1 x2 j _ => by rw [s2 x (by omega)], fun _ x x1 x2 => s2 x (by omega)⟩
      rw [upe, w1] at h2 hM
      have Bs : MB s kp f X ob n tr c0 k0 n0 := MB_fr BT (fr f (by omega)) (fun j => by rw [s2 64 (by decide), s2 65 (by decide)]; exact BT.2.2.1 j)
      refine ⟨⟨Bs.1, by rw [s2 31 (by decide)]; exact T26⟩, fun _ => ?_, fun e => absurd rfl e⟩
      have hend : ¬ can X (n0 - l) (csq X c0 k0 js os l) (k0 + l) := by
        rw [en] at g3 ⊢
        refine N_end xv (by omega) g3 (fun j hj => ?_)
        rw [w0] at hj
        by_cases e : j = js l
        · rw [e]; exact hny
        · exact g6 j (by omega)
      have e37 : sI s 31 37 = sI σ 31 37 ∧ sI s 31 39 = sI σ 31 39 := by rw [s2 31 (by decide), T31 37 (by decide) (by decide) (by decide), T31 39 (by decide) (by decide) (by decide)]; exact ⟨rfl, rfl⟩
      refine nM d l (by omega) ⟨Bs, GL_le hG (by omega), hend, by rw [s2 31 (by decide)]; exact T57, ML_fr xv (GL_le hG (by omega)) (fun i hi => hML i (by omega)) (MFr_tr (frT (f + l)) (fr (f + l) (Nat.le_refl _))) (fun _ x x1 x2 j _ => by rw [s2 x (by omega), To x (by omega)]), LA_fr xv.2.1 (fun j _ _ => by rw [s2 53 (by decide), To 53 (by decide)]) (by rw [s2 54 (by decide), To 54 (by decide)]) (by rw [s2 55 (by decide), To 55 (by decide)]) m1, by rw [s2 58 (by decide), To 58 (by decide)]; exact m5⟩ (fun e t t1 t2 => h2 e t (MFr_tr (MFr_tr (frT f) (fr f (by omega))) t1) ⟨t2.1.trans e37.1, t2.2.trans e37.2⟩) (fun t l' e t1 t2 => hM t l' e (MFr_tr (MFr_tr (frT f) (fr f (by omega))) t1) ⟨t2.1.trans e37.1, t2.2.trans e37.2⟩)
    · intro s w0 w1 s1 s2 s3 s4
      obtain ⟨a1, a2, a3, a4⟩ := s1
      rw [upe, w1] at hM
      obtain ⟨Z, eZ⟩ : ∃ Z, Z = putI s 31 58 2 := ⟨_, rfl⟩
      have Z2 : Z.2 = T.2 := by rw [eZ]; exact a1
      have Zo : ∀ x, x ≠ 31 → sI Z x = sI s x := fun x hx => by rw [eZ, put_ne hx]
      have e31 : sI s 31 = sI T 31 := a2 31 (by decide) (by decide) (by decide) (by decide) (by decide)
      have Z31 : ∀ j, j ≠ 58 → sI Z 31 j = sI T 31 j := fun j hj => by rw [eZ, put_at, if_neg hj, e31]
      have fr : ∀ f', f' ≤ f + l → MFr T Z f' := fun f' hf' => ⟨Z2, fun x x1 x2 => by rw [Zo x x2, a2 x (by omega) (by omega) (by omega) (by omega) (by omega)], fun j _ _ _ j4 _ => Z31 j j4, fun j _ => by rw [Zo 53 (by decide), a2 53 (by decide) (by decide) (by decide) (by decide) (by decide)], fun x x1 x2 j hj => by
        rw [Zo x (by omega)]
        by_cases e : x = 59
        · rw [e]; exact (a3 j (by omega)).1
        · by_cases e2 : x = 60
          · rw [e2]; exact (a3 j (by omega)).2
          · rw [a2 x e e2 (by omega) (by omega) (by omega)], fun x x1 x2 j hj => by
        rw [Zo x (by omega)]
        by_cases e : x = 64
        · rw [e]; exact (a4 j (by omega)).1
        · by_cases e2 : x = 65
          · rw [e2]; exact (a4 j (by omega)).2.1
          · by_cases e3 : x = 66
            · rw [e3]; exact (a4 j (by omega)).2.2
            · rw [a2 x (by omega) (by omega) e e2 e3], fun _ x x1 x2 => by rw [Zo x (by omega), a2 x (by omega) (by omega) (by omega) (by omega) (by omega)]⟩
      have BZ : MB Z kp f X ob n tr c0 k0 n0 := MB_fr BT (fr f (by omega)) (fun j => by rw [Zo 64 (by decide), Zo 65 (by decide)]; exact s2 j)
      refine ⟨⟨MF_I BT.1 a1, by rw [e31]; exact T26⟩, fun e => absurd e (by decide), fun _ => ?_⟩
      rw [← eZ]
      have cgl : ∀ q, q < l → js q = uN js l (js l + 1) q ∧ os q = os q := fun q hq => ⟨by unfold uN; rw [if_neg (by omega)], rfl⟩
      have ujl : uN js l (js l + 1) l = js l + 1 := by unfold uN; rw [if_pos rfl]
      have ec := csq_congr (X := X) (c0 := c0) (k0 := k0) l cgl
      have ek := rkp_cg (kp := kp) (R := R) (X := X) (c0 := c0) (k0 := k0) (n0 := n0) (i := l) cgl
      have o2 : ∀ x, x ≠ 31 → x ≠ 59 → x ≠ 60 → x ≠ 64 → x ≠ 65 → x ≠ 66 → sI Z x = sI σ x := fun x x1 x2 x3 x4 x5 x6 => by rw [Zo x x1, a2 x x2 x3 x4 x5 x6, To x x1]
      refine hM Z l rfl (MFr_tr (frT f) (fr f (by omega))) (by rw [Z31 37 (by decide), Z31 39 (by decide), T31 37 (by decide) (by decide) (by decide), T31 39 (by decide) (by decide) (by decide)]; exact ⟨rfl, rfl⟩) ⟨BZ, GL_cg cgl (GL_le hG (by omega)), ⟨g1, by rw [← ec]; omega, by rw [← ec]; exact g3, by rw [← ec, ujl]; exact w0, fun j hj => ?_⟩, by rw [eZ, put_at, if_pos rfl], by rw [Z31 57 (by decide)]; exact T57, ML_cg cgl (ML_fr xv (GL_le hG (by omega)) (fun i hi => hML i (by omega)) (MFr_tr (frT (f + l)) (fr (f + l) (Nat.le_refl _))) (fun _ x x1 x2 j _ => by rw [o2 x (by omega) (by omega) (by omega) (by omega) (by omega) (by omega)])), ?_, ?_, by rw [← ek, o2 58 (by decide) (by decide) (by decide) (by decide) (by decide) (by decide)]; exact m5, by rw [← ek, Z31 60 (by decide)]; exact T60⟩
      · rw [ujl] at hj
        rw [← ec]
        by_cases e : j = js l
        · rw [e]; exact hny
        · exact g6 j (by omega)
      · rw [← ec]
        exact LA_fr xv.2.1 (fun j _ _ => by rw [o2 53 (by decide) (by decide) (by decide) (by decide) (by decide) (by decide)]) (by rw [o2 54 (by decide) (by decide) (by decide) (by decide) (by decide) (by decide)]) (by rw [o2 55 (by decide) (by decide) (by decide) (by decide) (by decide) (by decide)]) m1
      · rw [← ec, ujl]
        exact LW_fr (σ := s) xv (by rw [Zo 59 (by decide)]) (by rw [Zo 60 (by decide)]) (by rw [Zo 61 (by decide)]) (fun x x1 x2 q _ _ => by rw [Zo x (by omega)]) ⟨s3, s4⟩
