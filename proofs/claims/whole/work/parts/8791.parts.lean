/-! the calls in pairs: parts -/
/-- coins laid -/
theorem mLay_f {st : am_S} {g : Nat} (hpl : ∀ i, sI st 45 i < 40) : (mLay (putI st 31 28 (g : Int)) g).2 = st.2 ∧ (∀ x, x ≠ 31 → x ≠ 50 → sI (mLay (putI st 31 28 (g : Int)) g) x = sI st x) ∧ (∀ j, j ≠ 28 → j ≠ 30 → j ≠ 31 → j ≠ 32 → sI (mLay (putI st 31 28 (g : Int)) g) 31 j = sI st 31 j) ∧ sI (mLay (putI st 31 28 (g : Int)) g) 31 28 = g ∧ (∀ c, c < 40 → sI (mLay (putI st 31 28 (g : Int)) g) 50 c = (layQ2 st g).1 c) ∧ ∀ c, -1 ≤ (layQ2 st g).1 c ∧ (layQ2 st g).1 c ≤ 1 := by
  have e44 : sI (putI st 31 28 (g : Int)) 44 = sI st 44 := put_ne (by decide)
  have e45 : sI (putI st 31 28 (g : Int)) 45 = sI st 45 := put_ne (by decide)
  have q1 : layQ (putI st 31 28 (g : Int)) g = layQ st g := by unfold layQ; rw [e44, e45]
  have q2 : layQ2 (putI st 31 28 (g : Int)) g = layQ2 st g := by unfold layQ2; rw [q1, e44, e45]
  have b1 := layL_bd (fun i => sI st 45 (40 * g + i)) (sI st 44 (2 * g)).toNat
  have b2 := layR_bd ((layQ st g).1, (layQ st g).2.1) ⟨b1.1, b1.2.2.2⟩ (fun i => sI st 45 (40 * g + 20 + i)) (sI st 44 (2 * g + 1)).toNat
  unfold mLay layS
  rw [q1, q2]
  refine ⟨rfl, fun x h1 h2 => by rw [put_ne h1, put_ne h1, put_ne h1, row_ne h2, put_ne h1], fun j j1 j2 j3 j4 => by rw [put_at, if_neg j4, put_at, if_neg j3, put_at, if_neg j2, row_ne (by decide), put_at, if_neg j1], by rw [put_at, if_neg (by decide), put_at, if_neg (by decide), put_at, if_neg (by decide), row_ne (by decide), put_at, if_pos rfl], fun c hc => by rw [put_ne (by decide), put_ne (by decide), put_ne (by decide), row_at]; exact if_pos hc, b2.2.2.2⟩
theorem df_cg {s s' m c g : Nat → Int} {t : Nat} (hv : TVt m c g 40 t) (h : ∀ k, k < 40 → s k = s' k) : df s m c g t = df s' m c g t := by
  unfold df
  have h1 := hv.1
  refine sm_congr _ (fun i hi => ?_)
  obtain ⟨u1, u2, u3⟩ := hv.2.2 i (by omega)
  rw [h _ (by omega)]
/-- one truth in both -/
theorem fv_jw {σ M : am_S} {k o : Int} {lf' rt t : Nat} (hv : TVt (sI σ 33) (sI σ 34) (sI σ 35) 40 t) (e3 : sI M 33 = sI σ 33) (e4 : sI M 34 = sI σ 34) (e5 : sI M 35 = sI σ 35) (e6 : sI M 36 = sI σ 36) (el : sI M 31 4 = sI σ 31 4) (h : ∀ c, c < 40 → sI M 50 c = bt lf' c - bt rt c) : fv M k o t = jw σ k o lf' rt (sI σ 31 4) t := by
  unfold fv jw
  rw [e3, e4, e5, e6, el, df_cg (s' := fun c => bt lf' c - bt rt c) hv h]
theorem FLm_0 {σ : am_S} {own β μ κ ρ : Nat → Nat} {me : Nat → Nat → Nat} {n c g : Nat} (h : IB σ own β μ κ ρ me n c) (hg : g < n) (f : FLm σ g) : (∀ c, bt (lfB σ ρ g) c * bt (rtB σ ρ g) c = 0) ∧ ∀ c, (layQ2 σ g).1 c = bt (lfB σ ρ g) c - bt (rtB σ ρ g) c := by
  obtain ⟨_, e1, e2⟩ := IB_FL h hg
  have a8 := h.2.2.2.2.2.2.2.1
  have z := f.2.2.1
  rw [e1, e2]
  exact ⟨fun c => and_0.1 z c, fun c => lay_side (fun i => (a8 i).2) z c⟩
theorem p_parts (d : Nat) {xs : Nat → Int} {c : Nat} {σ : am_S} {p1 p2 : Int} (hI : INV xs σ c) (hc : c + 1 ≤ 600) : PR d xs m_C_parts m_M_parts [qi p1, qi p2] σ c := by
  have hs := INV_s hI hc
  obtain ⟨own, β, μ, κ, ρ, me, n, aH, nH, aL, nL, aY, nY, aS, nS, N, l, m, T, W, kd, aR, nR, aV, nV, aI, nI, aQ, nQ, g, w, hx⟩ := hI
  have hx0 := hx
  obtain ⟨⟨hF, hab, hxs⟩, it, il, ib, im, ij, sc, rz, is, ir, hc6⟩ := hx
  have it0 := it
  obtain ⟨hR, ow, ti, kt, ks, ⟨w1, w2, w3, w4, w5, w6, w7, w8⟩, ⟨l1, l2, l3, l4⟩, lz, ⟨q1, q2, q3, q4⟩, h87⟩ := it
  have o1 := ow.1
  have ib0 := ib
  obtain ⟨a1, a2, a3, ⟨n12, a4, a5⟩, bd, a6, a7, a8, a9, a10⟩ := ib
  obtain ⟨m1, ⟨m2, T26⟩, m3, m4, m5, m6⟩ := im
  have tN := ti.2.2.2.2.1
  have tT := ti.2.2.2.2.2.2.1
  have T4 := ti.2.2.2.2.2.2.2.2.1
  have nB : ∀ b, b < n → ∀ x, x < 87 → x ≠ β b := fun b hb x hx' e => by
    have := (a2 b hb).1
    rw [← e, o1 x hx'] at this
    omega
  have fd : ∀ (b : Nat) (f : Int) (K : Int → am_S → Prop) (e : Nat), b < n → 0 ≤ f ∧ f ≤ 6 → (TR (fdC σ β b f) aH nH aL nL aY nY aS nS → BS (fdC σ β b f) β μ κ ρ me n → K (-1010 - f) (fdC σ β b f)) → am_Calls PP MLL (e + 1) m_C_found [qr (2, 11, 10), qi (b : Int), qi f] σ (kI K) := fun b f K e hb hf h => c_found e hR.1 a1 n12 hb (nB b hb 2 (by decide)).symm (by omega) (by omega) (h (TR_2 fdC_2 hR) (BS_2 fdC_2 a1))
  have fe : ∀ (b : Nat) (f : Int) (e : Nat), b < n → 0 ≤ f ∧ f ≤ 6 → am_Calls PP MLL (e + 2) m_M_finds [qr (31, 12, 89), qi (b : Int), qi f] (fdC σ β b f) (kI fun x s => (MF s ∧ sI s 31 26 = 0) ∧ -1010 - f = x ∧ INV xs s (c + 1)) := fun b f e hb hf => by
    have e31 : sI (fdC σ β b f) 31 = sI σ 31 := fdC_o (by decide) (nB b hb 31 (by decide))
    refine c_M_finds e (MF_I hF fdC_2) (by omega) (by omega) (by rw [e31]; omega) ⟨⟨MF_I hF (show (mFinds (fdC σ β b f) b f).2 = σ.2 from fdC_2), by rw [mF_31, if_neg (by decide), if_neg (by decide), e31]; exact T26⟩, rfl, INV_fd hx0 hc hb hf⟩
  have fx : ∀ b f, b < n → sI (fdC σ β b f) 0 = xs := fun b f hb => by rw [fdC_o (by decide) (nB b hb 0 (by decide))]; exact hxs
  have fr : ∀ b f x, b < n → x < 87 → x ≠ 2 → sI (fdC σ β b f) x = sI σ x := fun b f x hb hx' h2 => fdC_o h2 (nB b hb x hx')
  have n40 := ti.1
  have bad : ∀ x : Int, ((p1 < 0 ∨ (n : Int) ≤ p1 ∨ p2 < -3 ∨ 3 < p2) ∧ x = -1001) ∨ (¬ (p1 < 0 ∨ (n : Int) ≤ p1 ∨ p2 < -3 ∨ 3 < p2) ∧ N = 0 ∧ x = -1002) → am_Calls PP MLL (d + 30) m_M_parts [qr (31, 12, 89), qi p1, qi p2] σ (kI fun y t => x = y ∧ INV xs t (c + 1)) := by
    intro x hh
    refine v_M_partsT_0 (d + 26) p1 p2 σ _ hF T26 ?_
    rw [a5, tN]
    exact ⟨by omega, fun c1 => ⟨by omega, hs⟩, fun c1 => ⟨fun c2 => ⟨by omega, hs⟩, fun c2 => ⟨fun c3 => ⟨by omega, hs⟩, fun c3 => ⟨fun c4 => ⟨by omega, hs⟩, fun c4 => ⟨fun c5 => ⟨by omega, hs⟩, fun c5 => by omega⟩⟩⟩⟩⟩
  by_cases hr : p1 < 0 ∨ (n : Int) ≤ p1 ∨ p2 < -3 ∨ 3 < p2
  · refine v_C_parts_0 (d + 24) β μ κ ρ me aH nH aL nL aY nY aS nS n p1 p2 σ _ hR a1 ?_
    refine v_C_refusalToWeigh_0 (d + 26) β μ κ ρ me aH nH aL nL aY nY aS nS n p1 p2 σ _ hR a1 ?_
    rw [a4]
    exact ⟨fun c1 => ⟨⟨hR, a1⟩, fun q => absurd q (by decide), fun _ => ⟨hxs, bad _ (Or.inl ⟨hr, rfl⟩)⟩⟩, fun c1 => ⟨fun c2 => ⟨⟨hR, a1⟩, fun q => absurd q (by decide), fun _ => ⟨hxs, bad _ (Or.inl ⟨hr, rfl⟩)⟩⟩, fun c2 => ⟨fun c3 => ⟨⟨hR, a1⟩, fun q => absurd q (by decide), fun _ => ⟨hxs, bad _ (Or.inl ⟨hr, rfl⟩)⟩⟩, fun c3 => ⟨fun c4 => ⟨⟨hR, a1⟩, fun q => absurd q (by decide), fun _ => ⟨hxs, bad _ (Or.inl ⟨hr, rfl⟩)⟩⟩, fun c4 => by omega⟩⟩⟩⟩
  by_cases hN : N = 0
  · refine v_C_parts_0 (d + 24) β μ κ ρ me aH nH aL nL aY nY aS nS n p1 p2 σ _ hR a1 ?_
    refine v_C_refusalToWeigh_0 (d + 26) β μ κ ρ me aH nH aL nL aY nY aS nS n p1 p2 σ _ hR a1 ?_
    rw [a4, w2]
    exact ⟨fun c1 => by omega, fun c1 => ⟨fun c2 => by omega, fun c2 => ⟨fun c3 => by omega, fun c3 => ⟨fun c4 => by omega, fun c4 => ⟨fun _ => ⟨⟨hR, a1⟩, fun q => absurd q (by decide), fun _ => ⟨hxs, bad _ (Or.inr ⟨hr, hN, rfl⟩)⟩⟩, fun q => by omega⟩⟩⟩⟩⟩
  obtain ⟨b, eb⟩ : ∃ b : Nat, p1 = b := ⟨p1.toNat, by omega⟩
  subst eb
  have hb : b < n := by omega
  obtain ⟨kb, hg, ewr, _, _⟩ := IB_wr ib0 hb W
  have qv := IB_QV ib0
  obtain ⟨g', eg⟩ : ∃ g', g' = cw κ me b W := ⟨_, rfl⟩
  -- the reference up to its loop
  have ref : ∀ (st : am_S) (K : Int → am_S → Prop), MF st → sI st 31 = sI σ 31 → sI st 41 = sI σ 41 → sI st 44 = sI σ 44 → sI st 45 = sI σ 45 → sI st 46 = sI σ 46 → sI st 47 = sI σ 47 → (sI σ 41 b < 0 → am_Calls PP MLL (d + 29) m_M_finds [qr (31, 12, 89), qi (b : Int), qi 1] st (kI fun x s => (MF s ∧ sI s 31 26 = 0) ∧ K x s)) → (0 ≤ sI σ 41 b → sI σ 41 g' < 0 → am_Calls PP MLL (d + 29) m_M_finds [qr (31, 12, 89), qi (b : Int), qi 1] (putI st 31 28 (g' : Int)) (kI fun x s => (MF s ∧ sI s 31 26 = 0) ∧ K x s)) → (0 ≤ sI σ 41 b → 0 ≤ sI σ 41 g' → (sI σ 44 (2 * g') < 0 ∨ sI σ 44 (2 * g' + 1) < 0) → am_Calls PP MLL (d + 29) m_M_finds [qr (31, 12, 89), qi (b : Int), qi 2] (putI st 31 28 (g' : Int)) (kI fun x s => (MF s ∧ sI s 31 26 = 0) ∧ K x s)) → (0 ≤ sI σ 41 b → 0 ≤ sI σ 41 g' → 0 ≤ sI σ 44 (2 * g') → 0 ≤ sI σ 44 (2 * g' + 1) → ¬ FLm σ g' → K (-1002) (mLay (putI st 31 28 (g' : Int)) g')) → (0 ≤ sI σ 41 b → 0 ≤ sI σ 41 g' → 0 ≤ sI σ 44 (2 * g') → 0 ≤ sI σ 44 (2 * g' + 1) → FLm σ g' → ∀ z, am_Runs PP MLL (d + 29) m_M_parts 35 [some (qr (31, 12, 89)), some (qi (b : Int)), some (qi p2), z, some (qi 0), some (qi 0)] [] (mLay (putI st 31 28 (g' : Int)) g') (kI K)) → am_Calls PP MLL (d + 30) m_M_parts [qr (31, 12, 89), qi (b : Int), qi p2] st (kI K) := by
    intro st K f1 f31 f41 f44 f45 f46 f47 k1 k2 k3 k4 k5
    have T26s : sI st 31 26 = 0 := by rw [f31]; exact T26
    have qvs : QV st n := by unfold QV at qv ⊢; rw [f41, f46, f47]; exact qv
    have wrs : wr st b W = wr σ b W := by unfold wr; rw [f41, f46, f47]
    have fp : ∀ v, MF (putI st 31 28 v) ∧ sI (putI st 31 28 v) 31 26 = 0 := fun v => ⟨MF_I f1 rfl, by rw [put_at, if_neg (by decide)]; exact T26s⟩
    have lf' := mLay_f (st := st) (g := g') (by rw [f45]; exact fun i => (a8 i).2)
    have fm : MF (mLay (putI st 31 28 (g' : Int)) g') ∧ sI (mLay (putI st 31 28 (g' : Int)) g') 31 26 = 0 := ⟨MF_I f1 lf'.1, by rw [lf'.2.2.1 26 (by decide) (by decide) (by decide) (by decide)]; exact T26s⟩
    refine v_M_partsT_0 (d + 26) (b : Int) p2 st _ f1 T26s ?_
    rw [f31, a5, tN]
    refine ⟨by omega, fun c1 => by omega, fun c1 => ⟨fun c2 => by omega, fun c2 => ⟨fun c3 => by omega, fun c3 => ⟨fun c4 => by omega, fun c4 => ⟨fun c5 => by omega, fun c5 => ?_⟩⟩⟩⟩⟩
    have lfair := lay_fair (σ := st) (b := g') (by rw [f45]; exact fun i => (a8 i).2)
    have eFL : FLm st g' ↔ FLm σ g' := by unfold FLm; rw [f44, f45]
    refine c_M_weighFault (d + 27) (t := W) f1 n12 hb qvs (by rw [f31]; exact w6) (by omega) (by rw [f44]; exact fun k => (a7 k).2) (by rw [f45]; exact fun i => (a8 i).2) (fun h1 => ⟨⟨f1, T26s⟩, fun q => by omega, fun _ => k1 (by rw [f41] at h1; exact h1)⟩) (fun h1 h2 => ?_) (fun h1 h2 h3 => ?_) (fun h1 h2 h3 h4 => ?_)
    · rw [f41] at h1 h2
      rw [wrs, ewr h1, ← eg] at h2 ⊢
      exact ⟨fp _, fun q => by omega, fun _ => k2 h1 h2⟩
    · rw [f41] at h1 h2
      rw [f44] at h3
      rw [wrs, ewr h1, ← eg] at h2 h3 ⊢
      exact ⟨fp _, fun q => by omega, fun _ => k3 h1 h2 h3⟩
    · rw [f41] at h1 h2
      rw [f44] at h3 h4
      rw [wrs, ewr h1, ← eg] at h2 h3 h4 ⊢
      refine ⟨fm, ?_⟩
      by_cases fl : FLm σ g'
      · rw [if_pos (lfair.2 (eFL.2 fl))]
        exact ⟨fun _ => ⟨fun _ => k5 h1 h2 h3 h4 fl _, fun q => absurd (Int.le_refl 0) q⟩, fun q => absurd (Int.le_refl 0) q⟩
      · rw [if_neg (fun q => fl (eFL.1 (lfair.1 q)))]
        exact ⟨fun _ => ⟨fun q => absurd q (by decide), fun _ => k4 h1 h2 h3 h4 fl⟩, fun q => absurd q (by decide)⟩
  have fe2 : ∀ (f v : Int), 0 ≤ f ∧ f ≤ 6 → am_Calls PP MLL (d + 29) m_M_finds [qr (31, 12, 89), qi (b : Int), qi f] (putI (fdC σ β b f) 31 28 v) (kI fun x s => (MF s ∧ sI s 31 26 = 0) ∧ -1010 - f = x ∧ INV xs s (c + 1)) := fun f v hf => by
    have q31 := fr b f 31 hb (by decide) (by decide)
    refine c_M_finds (d + 27) (MF_I hF fdC_2) (by omega) (by omega) (by rw [put_at, if_neg (by decide), q31]; omega) ⟨⟨MF_I hF (show (mFinds (putI (fdC σ β b f) 31 28 v) b f).2 = σ.2 from fdC_2), by rw [mF_31, if_neg (by decide), if_neg (by decide), put_at, if_neg (by decide), q31]; exact T26⟩, rfl, ?_⟩
    rw [mF_28]
    exact INV_0 (INV_fd hx0 hc hb hf) rfl (fun x h1 _ => put_ne h1) (fun j j1 _ _ _ => by rw [put_at, if_neg j1])
  have ly := mLay_f (st := σ) (g := g') (fun i => (a8 i).2)
  have invL : INV xs (mLay (putI σ 31 28 (g' : Int)) g') (c + 1) := INV_0 hs ly.1 ly.2.1 ly.2.2.1
  have fdd := fun (f : Int) (K : Int → am_S → Prop) (e : Nat) => fd b f K e hb
  have fr' := fun f => And.intro (fr b f 31 hb (by decide) (by decide)) (And.intro (fr b f 41 hb (by decide) (by decide)) (And.intro (fr b f 44 hb (by decide) (by decide)) (And.intro (fr b f 45 hb (by decide) (by decide)) (And.intro (fr b f 46 hb (by decide) (by decide)) (fr b f 47 hb (by decide) (by decide))))))
  refine v_C_parts_0 (d + 24) β μ κ ρ me aH nH aL nL aY nY aS nS n (b : Int) p2 σ _ hR a1 ?_
  refine c_refuse (d + 26) hR ib0 hb w2 hN w5 w1 (by omega) fdd (fun hh => ⟨⟨TR_2 fdC_2 hR, BS_2 fdC_2 a1⟩, fun q => absurd q (by decide), fun _ => ⟨fx b 1 hb, ?_⟩⟩) (fun h1 h2 h3 => ⟨⟨TR_2 fdC_2 hR, BS_2 fdC_2 a1⟩, fun q => absurd q (by decide), fun _ => ⟨fx b 2 hb, ?_⟩⟩) (fun h1 h2 h3 h4 h5 => ⟨⟨hR, a1⟩, fun q => absurd q (by decide), fun _ => ⟨hxs, ?_⟩⟩) (fun h1 h2 h3 h4 h5 => ⟨⟨hR, a1⟩, fun _ => ⟨by omega, ?_⟩, fun q => absurd rfl q⟩)
  · rw [← eg] at hh
    obtain ⟨u1, u2, u3, u4, u5, u6⟩ := fr' 1
    exact ref _ _ (MF_I hF fdC_2) u1 u2 u3 u4 u5 u6 (fun _ => fe b 1 (d + 27) hb (by omega)) (fun _ _ => fe2 1 _ (by omega)) (fun q1 q2 _ => by omega) (fun q1 q2 _ _ _ => by omega) (fun q1 q2 _ _ _ => by omega)
  · rw [← eg] at h2 h3
    obtain ⟨u1, u2, u3, u4, u5, u6⟩ := fr' 2
    exact ref _ _ (MF_I hF fdC_2) u1 u2 u3 u4 u5 u6 (fun q => by omega) (fun _ q => by omega) (fun _ _ _ => fe2 2 _ (by omega)) (fun _ _ q1 q2 _ => by omega) (fun _ _ q1 q2 _ => by omega)
  · rw [← eg] at h2 h3 h4 h5
    exact ref _ _ hF rfl rfl rfl rfl rfl rfl (fun q => by omega) (fun _ q => by omega) (fun _ _ q => by omega) (fun _ _ _ _ _ => ⟨rfl, invL⟩) (fun _ _ _ _ q => absurd q h5)
  · rw [Int.toNat_natCast, w5]
    refine c_weigherAt (t := W) (d + 27) a1 hb kb (by omega) ⟨⟨hR, a1⟩, ?_⟩
    rw [← eg] at h2 h3 h4 h5 hg ⊢
    obtain ⟨e1, e2, e3, e4, e5, e6, e7, e8, e9⟩ := bd g' hg
    obtain ⟨z0, z1⟩ := FLm_0 ib0 hg h5
    refine c_leftBehind (d + 24) (own := own) (lf := lfB σ ρ g') (rt := rtB σ ρ g') hR a1 ti kt ks w1 w3 hg m2 l1 l2 l3 l4 e6.1 e6.2.1 e6.2.2 rfl rfl z0 ⟨⟨hR, a1⟩, hxs, ?_⟩
    refine ref _ _ hF rfl rfl rfl rfl rfl rfl (fun q => by omega) (fun _ q => by omega) (fun _ _ q => by omega) (fun _ _ _ _ q => absurd h5 q) (fun _ _ _ _ _ z => ?_)
    obtain ⟨y1, y2, y3, y4, y5, y6⟩ := ly
    have e41 : sI σ 41 g' = sI σ (β g') 0 := by
      rw [e3] at h2 ⊢
      by_cases t : sI σ (β g') 6 = 0
      · rw [if_pos t]
      · rw [if_neg t] at h2
        omega
    refine l_M_partsK (d + 26) (g := g') (k := sI σ (β g') 0) (MF_I hF y1) (by rw [y3 26 (by decide) (by decide) (by decide) (by decide)]; exact T26) (by rw [y3 5 (by decide) (by decide) (by decide) (by decide)]; exact tT) T4 y4 (by omega) (by rw [y2 41 (by decide) (by decide)]; exact e41) (fun t ht => by rw [y2 33 (by decide) (by decide), y2 34 (by decide) (by decide), y2 35 (by decide) (by decide)]; exact TI_40 ti ht) (fun k hk => by rw [y5 k hk]; exact y6 k) ?_ _ z
    refine ⟨?_, invL⟩
    unfold jL
    refine sm_congr T (fun t ht => ?_)
    have ef := fv_jw (σ := σ) (M := mLay (putI σ 31 28 (g' : Int)) g') (k := sI σ (β g') 0) (o := p2) (TI_40 ti ht) (y2 33 (by decide) (by decide)) (y2 34 (by decide) (by decide)) (y2 35 (by decide) (by decide)) (y2 36 (by decide) (by decide)) (y3 4 (by decide) (by decide) (by decide) (by decide)) (lf' := lfB σ ρ g') (rt := rtB σ ρ g') (fun c hc => by rw [y5 c hc]; exact z1 c)
    unfold pt
    rw [ef, y2 37 (by decide) (by decide), m3.1]
    have h012 := ft_012 (sI σ (β g') 0) (df (fun c => bt (lfB σ ρ g') c - bt (rtB σ ρ g') c) (sI σ 33) (sI σ 34) (sI σ 35) t) p2 (sI σ 36 t) (sI σ 31 4)
    have h012' : jw σ (sI σ (β g') 0) p2 (lfB σ ρ g') (rtB σ ρ g') (sI σ 31 4) t = 0 ∨ jw σ (sI σ (β g') 0) p2 (lfB σ ρ g') (rtB σ ρ g') (sI σ 31 4) t = 1 ∨ jw σ (sI σ (β g') 0) p2 (lfB σ ρ g') (rtB σ ρ g') (sI σ 31 4) t = 2 := h012
    by_cases q : sI σ 37 t < 0
    · rw [if_pos q]
      by_cases q0 : jw σ (sI σ (β g') 0) p2 (lfB σ ρ g') (rtB σ ρ g') (sI σ 31 4) t = 0
      · rw [if_neg (fun p => p.2 q0), if_pos (by omega)]
      · rw [if_pos ⟨q, q0⟩, if_neg (by omega)]
    · rw [if_neg q, if_neg (fun p => q p.1)]
