/-! the calls in pairs: search, whole -/
theorem p_search (d : Nat) {xs : Nat → Int} {c : Nat} {σ : am_S} {p1 p2 : Int} (hI : INV xs σ c) (hc : c + 1 ≤ 600) : PR d xs m_C_search m_M_search [qi p1, qi p2] σ c := by
  have hs := INV_s hI hc
  obtain ⟨own, β, μ, κ, ρ, me, n, aH, nH, aL, nL, aY, nY, aS, nS, N, l, m, T, W, kd, aR, nR, aV, nV, aI, nI, aQ, nQ, g, w, hx⟩ := hI
  have hx0 := hx
  obtain ⟨⟨hF, hab, hxs⟩, it, il, ib, im, ij, sc, rz, is, ir, hc6⟩ := hx
  have it0 := it
  obtain ⟨hR, ow, ti, kt, ks, ⟨w1, w2, w3, w4, w5, w6, w7, w8⟩, ⟨l1, l2, l3, l4⟩, lz, ⟨q1, q2, q3, q4⟩, h87⟩ := it
  have o1 := ow.1
  have ib0 := ib
  obtain ⟨a1, a2, a3, ⟨n12, a4, a5⟩, bd, a6, a7, a8, a9, a10⟩ := ib
  obtain ⟨m1, ⟨m2, T26⟩, m3, m4, m5, m6⟩ := im
  have tN := ti.2.2.2.2.1
  have tT := ti.2.2.2.2.2.2.1
  have T4 := ti.2.2.2.2.2.2.2.2.1
  have nB : ∀ b, b < n → ∀ x, x < 87 → x ≠ β b := fun b hb x hx' e => by
    have := (a2 b hb).1
    rw [← e, o1 x hx'] at this
    omega
  have fd : ∀ (b : Nat) (f : Int) (K : Int → am_S → Prop) (e : Nat), b < n → 0 ≤ f ∧ f ≤ 6 → (TR (fdC σ β b f) aH nH aL nL aY nY aS nS → BS (fdC σ β b f) β μ κ ρ me n → K (-1010 - f) (fdC σ β b f)) → am_Calls PP MLL (e + 1) m_C_found [qr (2, 11, 10), qi (b : Int), qi f] σ (kI K) := fun b f K e hb hf h => c_found e hR.1 a1 n12 hb (nB b hb 2 (by decide)).symm (by omega) (by omega) (h (TR_2 fdC_2 hR) (BS_2 fdC_2 a1))
  have fe : ∀ (b : Nat) (f : Int) (e : Nat), b < n → 0 ≤ f ∧ f ≤ 6 → am_Calls PP MLL (e + 2) m_M_finds [qr (31, 12, 89), qi (b : Int), qi f] (fdC σ β b f) (kI fun x s => (MF s ∧ sI s 31 26 = 0) ∧ -1010 - f = x ∧ INV xs s (c + 1)) := fun b f e hb hf => by
    have e31 : sI (fdC σ β b f) 31 = sI σ 31 := fdC_o (by decide) (nB b hb 31 (by decide))
    refine c_M_finds e (MF_I hF fdC_2) (by omega) (by omega) (by rw [e31]; omega) ⟨⟨MF_I hF (show (mFinds (fdC σ β b f) b f).2 = σ.2 from fdC_2), by rw [mF_31, if_neg (by decide), if_neg (by decide), e31]; exact T26⟩, rfl, INV_fd hx0 hc hb hf⟩
  have fx : ∀ b f, b < n → sI (fdC σ β b f) 0 = xs := fun b f hb => by rw [fdC_o (by decide) (nB b hb 0 (by decide))]; exact hxs
  have fr : ∀ b f x, b < n → x < 87 → x ≠ 2 → sI (fdC σ β b f) x = sI σ x := fun b f x hb hx' h2 => fdC_o h2 (nB b hb x hx')
  have im0 := (⟨m1, ⟨m2, T26⟩, m3, m4, m5, m6⟩ : IM σ c)
  have eL := lfN_lf (sI σ 37) T
  have bad : ∀ x : Int, ((p1 < 0 ∨ (n : Int) ≤ p1 ∨ p2 < 1 ∨ 10000 < p2) ∧ x = -1001) ∨ (¬ (p1 < 0 ∨ (n : Int) ≤ p1 ∨ p2 < 1 ∨ 10000 < p2) ∧ ((N = 0 ∨ 12 < N ∨ lf (sI σ 37) T = 0 ∨ 60 < lf (sI σ 37) T) ∧ x = -1002 ∨ (¬ (N = 0 ∨ 12 < N ∨ lf (sI σ 37) T = 0 ∨ 60 < lf (sI σ 37) T) ∧ 30000 < sI σ 31 38 + p2 ∧ x = -1003))) → am_Calls PP MLL (d + 30) m_M_search [qr (31, 12, 89), qi p1, qi p2] σ (kI fun y t => x = y ∧ INV xs t (c + 1)) := by
    intro x hh
    refine v_M_search_0 (d + 23) p1 p2 σ _ hF T26 ?_
    rw [a5]
    refine ⟨by omega, fun c1 => ⟨by omega, hs⟩, fun c1 => ⟨fun c2 => ⟨by omega, hs⟩, fun c2 => ⟨fun c3 => ⟨by omega, hs⟩, fun c3 => ⟨fun c4 => ⟨by omega, hs⟩, fun c4 => c_M_left (d + 27) hF tT T4 ⟨⟨hF, T26⟩, ?_⟩⟩⟩⟩⟩
    rw [tN]
    exact ⟨fun q => ⟨by omega, hs⟩, fun q1 => ⟨fun q => ⟨by omega, hs⟩, fun q2 => ⟨fun q => ⟨by omega, hs⟩, fun q3 => ⟨fun q4 => ⟨by omega, fun q5 => by omega, fun q5 => ⟨by omega, hs⟩⟩, fun q4 => ⟨by omega, hs⟩⟩⟩⟩⟩
  refine v_C_search_0 (d + 22) β μ κ ρ me aH nH aL nL aY nY aS nS n p1 p2 σ _ hR a1 ?_
  rw [a4, w2, w4]
  refine ⟨fun c1 => ⟨hxs, bad _ (Or.inl ⟨by omega, rfl⟩)⟩, fun c1 => ⟨fun c2 => ⟨hxs, bad _ (Or.inl ⟨by omega, rfl⟩)⟩, fun c2 => ⟨fun c3 => ⟨hxs, bad _ (Or.inl ⟨by omega, rfl⟩)⟩, fun c3 => ⟨fun c4 => ⟨hxs, bad _ (Or.inl ⟨by omega, rfl⟩)⟩, fun c4 => ⟨fun c5 => ⟨hxs, bad _ (Or.inr ⟨by omega, Or.inl ⟨by omega, rfl⟩⟩)⟩, fun c5 => ⟨fun c6 => ⟨fun c7 => ⟨hxs, bad _ (Or.inr ⟨by omega, Or.inl ⟨by omega, rfl⟩⟩)⟩, fun c7 => ⟨fun c8 => ⟨by omega, fun c9 => ⟨by omega, ?_⟩, fun c9 => ⟨hxs, bad _ (Or.inr ⟨by omega, Or.inr ⟨by omega, by omega, rfl⟩⟩)⟩⟩, fun c8 => ⟨hxs, bad _ (Or.inr ⟨by omega, Or.inl ⟨by omega, rfl⟩⟩)⟩⟩⟩, fun c6 => ⟨hxs, bad _ (Or.inr ⟨by omega, Or.inl ⟨by omega, rfl⟩⟩)⟩⟩⟩⟩⟩⟩⟩
  obtain ⟨b, eb⟩ : ∃ b : Nat, p1 = b := ⟨p1.toNat, by omega⟩
  obtain ⟨P, eP⟩ : ∃ P : Nat, p2 = P := ⟨p2.toNat, by omega⟩
  subst eb
  subst eP
  have hb : b < n := by omega
  rw [Int.toNat_natCast]
  have wh := IB_wh ib0 hb
  have qv := IB_QV ib0
  have k3 : κ b ≤ 3 := by
    obtain ⟨d1, d2, d3, d4, d5, d6, d7, d8, d9⟩ := bd b hb
    by_cases e : sI σ (β b) 0 = 6
    · exact (d9 e).2.1
    · rw [(d8 e).1]; omega
  -- the reference up to its loop
  have ref : ∀ (st : am_S) (K : Int → am_S → Prop), MF st → sI st 31 26 = 0 → sI st 31 16 = n → sI st 31 2 = N → sI st 31 5 = T → sI st 37 = sI σ 37 → sI st 31 38 = sI σ 31 38 → sI st 41 = sI σ 41 → sI st 46 = sI σ 46 → sI st 47 = sI σ 47 → (0 ≤ sI σ 41 b → whM σ b → am_Calls PP MLL (d + 29) m_M_beginSearch [qr (31, 12, 89), qi (b : Int)] st (kV fun s14 => (MF s14 ∧ sI s14 31 26 = 0) ∧ am_Calls PP MLL (d + 29) m_M_goesOn [qr (31, 12, 89), qi (P : Int)] s14 (kI fun x15 s15 => (MF s15 ∧ sI s15 31 26 = 0) ∧ K x15 s15))) → ((sI σ 41 b < 0 ∨ (0 ≤ sI σ 41 b ∧ ¬ whM σ b)) → am_Calls PP MLL (d + 29) m_M_finds [qr (31, 12, 89), qi (b : Int), qi 1] st (kI fun x6 s6 => (MF s6 ∧ sI s6 31 26 = 0) ∧ K x6 s6)) → am_Calls PP MLL (d + 30) m_M_search [qr (31, 12, 89), qi (b : Int), qi (P : Int)] st (kI K) := by
    intro st K f1 f2 f3 f4 f5 f6 f7 f8 f9 f10 hy hn
    have qv' : QV st n := by unfold QV at qv ⊢; rw [f8, f9, f10]; exact qv
    have ew : whM st b ↔ whM σ b := by unfold whM mmb; rw [f8, f9, f10]
    refine v_M_search_0 (d + 23) (b : Int) (P : Int) st _ f1 f2 ?_
    rw [f3]
    refine ⟨by omega, fun c1 => by omega, fun c1 => ⟨fun c2 => by omega, fun c2 => ⟨fun c3 => by omega, fun c3 => ⟨fun c4 => by omega, fun c4 => c_M_left (d + 27) f1 f5 T4 ⟨⟨f1, f2⟩, ?_⟩⟩⟩⟩⟩
    rw [f4, f6, f7, f8, Int.toNat_natCast]
    refine ⟨fun q => by omega, fun q1 => ⟨fun q => by omega, fun q2 => ⟨fun q => by omega, fun q3 => ⟨fun q4 => ⟨by omega, fun q5 => ⟨by omega, fun t1 => ?_, fun t1 => ?_⟩, fun q5 => by omega⟩, fun q4 => by omega⟩⟩⟩⟩
    · exact l_srch (d + 23) f1 f2 hb n12 qv' (fun w => hy t1 (ew.1 w)) (fun w => hn (Or.inr ⟨t1, fun q => w (ew.2 q)⟩)) _
    · exact v_M_search_42 (d + 23) (b : Int) (P : Int) 0 0 _ st K f1 f2 ⟨fun _ => hn (Or.inl (by omega)), fun q => absurd rfl q⟩
  refine c_isWhole (t := 12) (d + 28) a1 hb k3 (fun t0 tm => ⟨⟨hR, a1⟩, fun q => absurd q (by decide), fun _ => ?_⟩) (fun hh => ⟨⟨hR, a1⟩, fun _ => ?_, fun q => absurd rfl q⟩)
  · obtain ⟨⟨h41, hw⟩, _⟩ := wh.1 t0 tm
    refine ⟨by omega, ?_⟩
    obtain ⟨Z, eZ⟩ : ∃ Z, Z = putI σ 2 7 (sI σ 2 7 + (P : Int)) := ⟨_, rfl⟩
    rw [← eZ]
    have Z2 : Z.2 = σ.2 := by rw [eZ]; rfl
    obtain ⟨zr, zN, zU⟩ := R2 Z2
    have Zo : ∀ x, x ≠ 2 → sI Z x = sI σ x := fun x hx' => by rw [eZ, put_ne hx']
    have Zf : ∀ x, own x ≠ 2 → sI Z x = sI σ x := fun x hx' => Zo x (fun e => by rw [e, o1 2 (by decide)] at hx'; omega)
    have Zz : ∀ j, sI Z 2 j = if j = 7 then sI σ 2 7 + P else sI σ 2 j := fun j => by rw [eZ, put_at]
    have zz : zl Z = zl σ := by unfold zl; rw [zr, zr, zr, zr, zr]
    have itZ := IT_g Z2 (fun x _ hr => Zf x (by omega)) (fun j _ => by rw [Zo 31 (by decide)]) it0
    have ibZ := IB_K Z2 (fun x _ hr => Zf x (by omega)) (fun x x1 x2 => Zo x (by omega)) (by rw [Zz, if_neg (by decide)]) (by rw [Zo 31 (by decide)]) ib0
    have blZ := ((IB_wh ibZ hb).1 (by rw [Zf (β b) (by rw [(a2 b hb).1]; omega)]; exact t0) (fun i i1 i2 => by
      obtain ⟨d1, d2, d3, d4, d5, d6, d7, d8, d9⟩ := bd b hb
      have e6 : sI σ (β b) 0 = 6 := Classical.byContradiction fun q => by
        have := (d8 q).1
        omega
      have z1 := ((d9 e6).2.2.2.1 i i1).1
      rw [Zf (β (me b i)) (by rw [(a2 _ z1).1]; omega)]
      exact tm i i1 i2)).2
    have e31 := Zo 31 (by decide)
    have beZ : BeI Z N l m T W kd n := by
      refine ⟨MF_I hF Z2, by rw [e31]; exact T26, itZ.2.2.1, by omega, by rw [Zo 37 (by decide)]; omega, by rw [e31]; exact m3.2, IB_QV ibZ, n12, fun t ht => ?_, by rw [e31]; exact w6, w1⟩
      rw [Zo 36 (by decide)]
      obtain ⟨k1, k2, k3, k4, k5, k6, k7⟩ := ks t ht
      have := il t ht
      have := pc_bd (sI σ 38 t).toNat
      omega
    rw [show sI σ 2 6 = sI Z 31 4 by rw [e31]; exact m3.1]
    have scZ := (SC_2 Z2 sc).1
    refine c_sbegin (d + 22) (js := fun _ => 0) (os := fun _ => 0) itZ beZ blZ scZ (by rw [Zo 10 (by decide)]; exact m2) (fun s own1 aQ1 aI1 nI1 g1 g2 g3 g4 g5 g6 g6' g7 g8 g9 cs0 => ?_)
    obtain ⟨X, eX⟩ : ∃ X, X = mkX Z N l m kd T b := ⟨_, rfl⟩
    obtain ⟨tr, etr⟩ : ∃ tr, tr = trX Z T := ⟨_, rfl⟩
    obtain ⟨c0, ec0⟩ : ∃ c0, c0 = cX Z T := ⟨_, rfl⟩
    have hmn : ¬ mn X c0 ≤ 0 := by
      have h1 := cX_mn (ob := b) beZ
      have h2 : xM X = lfN (sI Z 37) T := by rw [eX]; rfl
      rw [← eX, ← ec0, h2, Zo 37 (by decide)] at h1
      omega
    rw [← eX, ← etr, ← ec0] at cs0
    have CF1 : CF s := by
      obtain ⟨β', μ', κ', ρ', me', n', b', aH', nH', aL', nL', aY', nY', aS', nS', N', lo', hi', T', kd', e1, _⟩ := (CS_SE cs0).2.2.2.2
      exact e1.1
    have sR1 : ∀ x, x < sN σ → ¬ p1' (own x) → ∀ j, sR s x j = sR σ x j := fun x hx' hp j => by rw [(g1 x (by omega) hp).2 j, zr]
    refine ⟨TB_run n12 CF1 hR a1 a2 a3 o1 h87 (fun x hx' hr j => sR1 x hx' (by unfold p1'; omega) j), ?_⟩
    refine c_runOn (d + 22) cs0 (by omega) (fun s2 own2 fr cs => ?_)
    obtain ⟨fr1, fr2, fr3, fr4, fr5⟩ := fr
    have CF2 : CF s2 := by
      obtain ⟨β', μ', κ', ρ', me', n', b', aH', nH', aL', nL', aY', nY', aS', nS', N', lo', hi', T', kd', e1, _⟩ := (CS_SE cs).2.2.2.2
      exact e1.1
    have os1 : ∀ x, x < sN σ → own1 x = own x := fun x hx' => g2 x (by omega)
    have os : ∀ x, x < sN σ → own2 x = own x := fun x hx' => by rw [fr2 x (by omega), os1 x hx']
    have sI2 : ∀ x, x < sN σ → ¬ p1' (own x) → sI s2 x = sI Z x := fun x hx' hp => by rw [(fr1 x (by omega) (by rw [os1 x hx']; unfold p0; unfold p1' at hp; omega)).1, (g1 x (by omega) hp).1]
    have sR2 : ∀ x, x < sN σ → ¬ p1' (own x) → ∀ j, sR s2 x j = sR σ x j := fun x hx' hp j => by rw [(fr1 x (by omega) (by rw [os1 x hx']; unfold p0; unfold p1' at hp; omega)).2 j, sR1 x hx' hp]
    have sr : ∀ x, x < 87 → ¬ (12 ≤ x ∧ x ≤ 25) → sI s2 x = sI Z x := fun x hx' hp => sI2 x (by omega) (by unfold p1'; rw [o1 x hx']; omega)
    have Fs : MF s2 := fun j => by rw [sR2 31 (by omega) (by unfold p1'; rw [o1 31 (by decide)]; omega)]; exact hF j
    have s31 : sI s2 31 = sI σ 31 := by rw [sr 31 (by decide) (by omega), e31]
    have sz : ∀ x, x < 87 → ¬ (12 ≤ x ∧ x ≤ 25) → x ≠ 2 → sI s2 x = sI σ x := fun x hx' hp h2 => by rw [sr x hx' hp, Zo x h2]
    refine ⟨TB_run n12 CF2 hR a1 a2 a3 o1 h87 (fun x hx' hr j => sR2 x hx' (by unfold p1'; omega) j), ?_, by rw [sz 0 (by decide) (by omega) (by decide)]; exact hxs, ?_⟩
    · rcases CS_13 cs with ⟨_, q⟩ | ⟨_, q⟩ <;> omega
    refine ref s2 _ Fs (by rw [s31]; exact T26) (by rw [s31]; exact a5) (by rw [s31]; exact tN) (by rw [s31]; exact tT) (sz 37 (by decide) (by omega) (by decide)) (by rw [s31]) (sz 41 (by decide) (by omega) (by decide)) (sz 46 (by decide) (by omega) (by decide)) (sz 47 (by decide) (by omega) (by decide)) (fun _ _ => ?_) (fun q => by
      rcases q with q | ⟨_, q⟩
      · omega
      · exact absurd hw q)
    have be2 : BeI s2 N l m T W kd n := by
      obtain ⟨u1, u2, u3, u4, u5, u6, u7, u8, u9, u10, u11⟩ := beZ
      have q41 := sr 41 (by decide) (by omega)
      refine ⟨Fs, by rw [s31]; exact T26, TI_fr (fun x x1 x2 => sr x (by omega) (by omega)) u3, u4, by rw [sr 37 (by decide) (by omega)]; exact u5, by rw [s31]; exact m3.2, by unfold QV at u7 ⊢; rw [q41, sr 46 (by decide) (by omega), sr 47 (by decide) (by omega)]; exact u7, u8, by rw [sr 36 (by decide) (by omega)]; exact u9, by rw [s31]; exact w6, u11⟩
    refine c_M_beginSearch (d + 25) be2 hb (fun j => by rw [sz 64 (by decide) (by omega) (by decide), sz 65 (by decide) (by omega) (by decide)]; exact rz j) (fun s3 bg ms y33 y34 y35 y37 y73 y76 y77 y78 => ?_)
    obtain ⟨x1, x2, x3⟩ := bg
    obtain ⟨mk1, mk2, mk3⟩ := mkX_cg (s := s2) (σ := Z) (n := N) (l := l) (m := m) (T := T) (ob := b) (kd := kd) (sr 33 (by decide) (by omega)) (sr 34 (by decide) (by omega)) (sr 35 (by decide) (by omega)) (sr 36 (by decide) (by omega)) (sr 37 (by decide) (by omega)) (sr 41 (by decide) (by omega)) (sr 46 (by decide) (by omega)) (sr 47 (by decide) (by omega)) (by rw [sr 31 (by decide) (by omega)])
    rw [mk1, mk2, mk3, ← eX, ← etr, ← ec0] at ms
    have F3 : MF s3 := MF_I Fs x1
    have z26 : sI s3 31 26 = 0 := by rw [x3 26 (by decide) (by decide) (by decide) (by decide) (by decide) (by decide) (by decide) (by decide) (by decide) (by decide) (by decide) (by decide) (by decide) (by decide), s31]; exact T26
    refine ⟨⟨F3, z26⟩, ?_⟩
    have z38 : sI s3 31 38 = sI σ 31 38 := by rw [x3 38 (by decide) (by decide) (by decide) (by decide) (by decide) (by decide) (by decide) (by decide) (by decide) (by decide) (by decide) (by decide) (by decide) (by decide), s31]
    refine c_M_goesOn9 (d + 23) (st := 0) hmn ms y34 y35 y73 y37 (by omega) (by rw [z38]; omega) (fun t mg mr h37 h39 => ?_)
    obtain ⟨k1, k2, k3'⟩ := mg
    have t2 : t.2 = s2.2 := k1.trans x1
    obtain ⟨tr', tN', tU⟩ := R2 t2
    obtain ⟨r34, Ft, RZt, T26t⟩ := MR_34 mr
    have tI : ∀ x, (x < 51 ∨ 82 < x) → x ≠ 31 → x ≠ 39 → x ≠ 40 → sI t x = sI s2 x := fun x q1 q2 q3 q4 => by rw [k2 x (by omega) q2, put_ne q2, x2 x q2 q3 q4 (by omega) (by omega) (by omega) (by omega) (by omega) (by omega)]
    have t31 : ∀ j, ¬ (33 ≤ j ∧ j ≤ 40) → ¬ (57 ≤ j ∧ j ≤ 60) → j ≠ 73 → j ≠ 76 → j ≠ 77 → j ≠ 78 → sI t 31 j = sI σ 31 j := fun j j1 j2 j3 j4 j5 j6 => by rw [k3' j (by omega) (by omega) (by omega) (by omega) (by omega) (by omega) (by omega) j3, put_at, if_neg (by omega), x3 j (by omega) (by omega) (by omega) (by omega) (by omega) (by omega) (by omega) (by omega) (by omega) (by omega) j3 j4 j5 j6, s31]
    have tk : ∀ j, j ≠ 34 → j ≠ 35 → j ≠ 37 → j ≠ 39 → j ≠ 57 → j ≠ 58 → j ≠ 60 → j ≠ 73 → j ≠ 38 → sI t 31 j = sI s3 31 j := fun j j1 j2 j3 j4 j5 j6 j7 j8 j9 => by rw [k3' j j1 j2 j3 j4 j5 j6 j7 j8, put_at, if_neg j9]
    have t38 : sI t 31 38 = sI σ 31 38 + P := by rw [k3' 38 (by decide) (by decide) (by decide) (by decide) (by decide) (by decide) (by decide) (by decide), put_at, if_pos rfl, z38]
    have o1s : ∀ a, a < 87 → own2 a = a := fun a ha => by rw [os a (by omega)]; exact o1 a ha
    have xs2 : XC s2 t own2 own2 := by
      refine ⟨⟨by omega, fun _ _ => rfl⟩, fun x hx' hr => ?_, fun x _ _ _ j => tr' x j, ⟨fun j _ => tr' 9 j, fun j _ => tr' 26 j⟩, fun x g' hx' hr => ?_, by rw [tI 10 (by omega) (by decide) (by decide) (by decide)], fun j hj => by rw [t31 j (by omega) (by omega) (by omega) (by omega) (by omega) (by omega), s31], trivial, trivial, trivial⟩
      · by_cases e : x < 87
        · rw [o1s x e] at hr
          exact tI x (by omega) (by omega) (by omega) (by omega)
        · exact tI x (by omega) (by omega) (by omega) (by omega)
      · by_cases e : x < 87
        · rw [o1s x e] at hr
          omega
        · rw [tI x (by omega) (by omega) (by omega) (by omega)]
          exact ⟨rfl, rfl⟩
    refine ⟨⟨Ft, T26t⟩, ?_, ?_⟩
    · rcases CS_13 cs with ⟨u1, u2⟩ | ⟨u1, u2⟩
      · rw [if_pos u2]
        omega
      · rw [if_neg (by omega)]
        omega
    · obtain ⟨aI2, nI2, v1, v2, v3, _⟩ := (CS_SE cs).2.2.2.1
      have e13 : sR s2 13 4 = some (aI1, 20, nI1) := by rw [(fr1 13 (by omega) (by rw [os1 13 (by omega), o1 13 (by decide)]; unfold p0; omega)).2 4]; exact g7
      have ee : aI2 = aI1 ∧ nI2 = nI1 := by
        rw [e13] at v1
        injection v1 with v1
        injection v1 with p q
        injection q with q1 q2
        exact ⟨p.symm, q2.symm⟩
      obtain ⟨ee1, ee2⟩ := ee
      subst ee1
      subst ee2
      obtain ⟨g', w', sc'⟩ := CS_SC cs e13 v2 v3 g8
      obtain ⟨sc'', z2⟩ := SC_2 t2 sc'
      have e12 : ∀ j, (j = 0 ∨ j = 1 ∨ j = 3) → sR t 12 j = sR σ 12 j := fun j hj => by
        rw [tr']
        rcases hj with e | e | e
        · rw [e, CF2 12 0 _ rfl, hR.1 12 0 _ rfl]
        · rw [e, CF2 12 1 _ rfl, hR.1 12 1 _ rfl]
        · rw [e, CF2 12 3 _ rfl, hR.1 12 3 _ rfl]
      have e13' : ∀ j, j < 2 → sR t 13 j = sR σ 13 j := fun j hj => by
        rw [tr']
        have : j = 0 ∨ j = 1 := by omega
        rcases this with e | e
        · rw [e, CF2 13 0 _ rfl, hR.1 13 0 _ rfl]
        · rw [e, CF2 13 1 _ rfl, hR.1 13 1 _ rfl]
      have e36 : sI t 36 = sI Z 36 := by rw [tI 36 (by omega) (by decide) (by decide) (by decide), sr 36 (by decide) (by omega)]
      have e37 : sI t 37 = sI σ 37 := by rw [tI 37 (by omega) (by decide) (by decide) (by decide), sz 37 (by decide) (by omega) (by decide)]
      have xm : xM X = lfN (sI σ 37) T := by rw [eX]; show lfN (sI Z 37) T = _; rw [Zo 37 (by decide)]
      have iss : ISs t own2 T n := by
        refine IS_run cs xs2 mr (Nat.le_refl _) hmn w1 (by rw [t31 13 (by omega) (by omega) (by decide) (by decide) (by decide) (by decide)]; exact w6) (fun p hp => by rw [e36, etr, ec0]; rfl) (fun x hx' hl => ?_) (by rw [tk 33 (by decide) (by decide) (by decide) (by decide) (by decide) (by decide) (by decide) (by decide) (by decide)]; exact y33) h37 (by have := stc_le (X := X) (c0 := c0) (k0 := W) P (0, 0, 0, (fun _ => 0), (fun _ => 0)); omega) (by omega) (by rw [tk 76 (by decide) (by decide) (by decide) (by decide) (by decide) (by decide) (by decide) (by decide) (by decide)]; exact y76) (by rw [tk 77 (by decide) (by decide) (by decide) (by decide) (by decide) (by decide) (by decide) (by decide) (by decide)]; exact y77) (by rw [tk 78 (by decide) (by decide) (by decide) (by decide) (by decide) (by decide) (by decide) (by decide) (by decide)]; exact y78)
        rw [e37] at hl
        have hp : lfN (sI σ 37) x < lfN (sI σ 37) T := lfN_lt hl hx'
        have sp := trX_sp (σ := Z) (T := T) (s := lfN (sI σ 37) x) (by rw [Zo 37 (by decide)]; exact hp)
        rw [Zo 37 (by decide), ← etr] at sp
        have ex : tr (lfN (sI σ 37) x) = x := lfN_inj sp.2.1 hl sp.2.2
        refine ⟨lfN (sI σ 37) x, by rw [xm]; exact hp, ex, ?_⟩
        have : c0 (lfN (sI σ 37) x) = sI σ 36 x := by
          rw [ec0]
          show sI Z 36 (trX Z T (lfN (sI σ 37) x)) = _
          rw [← etr, ex, Zo 36 (by decide)]
        rw [this]
        obtain ⟨k1, k2, k3, k4, k5, k6, k7⟩ := ks x hx'
        have := pc_bd (sI σ 38 x).toNat
        omega
      refine INV_srch (own' := own2) hx0 hc (by omega) os (fun x hx' r1 r2 r3 r4 r5 r6 r7 => ?_) (fun x hx' r1 r2 j => by rw [tr', sR2 x hx' (by unfold p1'; omega)]) e12 e13' t31 (fun j hj => ?_) ?_ RZt sc'' iss ?_
      · have : sI t x = sI s2 x := by
          by_cases e : x < 87
          · rw [o1 x e] at r1 r2 r5 r6 r7
            exact tI x (by omega) (by omega) (by omega) (by omega)
          · exact tI x (by omega) (by omega) (by omega) (by omega)
        rw [this, sI2 x hx' (by unfold p1'; omega), Zf x r1]
      · rw [tI 2 (by omega) (by decide) (by decide) (by decide), sr 2 (by decide) (by omega), Zz, if_neg hj]
      · rw [tI 2 (by omega) (by decide) (by decide) (by decide), sr 2 (by decide) (by omega), Zz, if_pos rfl, t38]
        omega
      · unfold IR at ir ⊢
        rw [z2, tN', tU]
        omega
  · have hno := wh.2 hh
    refine fd b 1 _ (d + 28) hb (by omega) (fun t1 t2 => ⟨⟨t1, t2⟩, fx b 1 hb, ?_⟩)
    have q31 := fr b 1 31 hb (by decide) (by decide)
    refine ref _ _ (MF_I hF fdC_2) (by rw [q31]; exact T26) (by rw [q31]; exact a5) (by rw [q31]; exact tN) (by rw [q31]; exact tT) (fr b 1 37 hb (by decide) (by decide)) (by rw [q31]) (fr b 1 41 hb (by decide) (by decide)) (fr b 1 46 hb (by decide) (by decide)) (fr b 1 47 hb (by decide) (by decide)) (fun h1 h2 => ?_) (fun _ => fe b 1 (d + 27) hb (by omega))
    rcases hno with q | ⟨_, q⟩
    · omega
    · exact absurd h2 q
