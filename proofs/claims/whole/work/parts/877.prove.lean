/-! the calls in pairs: prove -/
theorem v_C_prove_0 (d : Nat) (β μ κ ρ : Nat → Nat) (me : Nat → Nat → Nat) (aH nH aL nL aY nY aS nS n : Nat) (σ : am_S) (K : Int → am_S → Prop) (hR : TR σ aH nH aL nL aY nY aS nS) (hB : BS σ β μ κ ρ me n) (h :
  am_Calls PP MLL (d + 2) m_Search_hasTree [qr (12, 5, 18)] σ (kI fun x1 s1 =>
    (TR s1 aH nH aL nL aY nY aS nS ∧ BS s1 β μ κ ρ me n) ∧
    ((x1 = 0 →
      K (-1002) s1) ∧
    (¬ (x1 = 0) →
      (((sI s1 12 16) = 0 →
        K (-1002) s1) ∧
      (¬ ((sI s1 12 16) = 0) →
        (((sI s1 12 17) = 0 →
          am_Calls PP MLL (d + 2) m_Search_rowsShown [qr (12, 5, 18)] (putI s1 12 17 1) (kI fun x5 s5 =>
            (TR s5 aH nH aL nL aY nY aS nS ∧ BS s5 β μ κ ρ me n) ∧
            ((x5 ≤ 0 →
              K (-1003) s5) ∧
            (¬ (x5 ≤ 0) →
              am_Calls PP MLL (d + 2) m_Search_rowsShown [qr (12, 5, 18)] s5 (kI fun x8 s8 =>
                (TR s8 aH nH aL nL aY nY aS nS ∧ BS s8 β μ κ ρ me n) ∧
                K x8 s8))))) ∧
        (¬ ((sI s1 12 17) = 0) →
          K (-1002) s1)))))))) : am_Runs PP MLL (d + 2) m_C_prove 0 [some (qr (2, 11, 10))] [] σ (kI K) := am_wEF_ok (orc [(1, 12, 5, 18), (5, 12, 5, 18), (9, 12, 5, 18), (15, 12, 5, 18), (19, 12, 5, 18), (23, 12, 5, 18)]) 200 (⟨⟨rfl, (hR.1 2 3 _ rfl)⟩, ⟨rfl, (am_cI h fun x1 s1 h1 => ⟨fun c2 => (h1.2.1 c2), fun c2 => ⟨⟨rfl, (h1.1.1.1 2 3 _ rfl)⟩, ⟨rfl, ⟨fun c3 => ((h1.2.2 c2).1 c3), fun c3 => ⟨⟨rfl, (h1.1.1.1 2 3 _ rfl)⟩, ⟨rfl, ⟨fun c4 => ⟨⟨rfl, (h1.1.1.1 2 3 _ rfl)⟩, ⟨⟨rfl, (Or.inr rfl)⟩, ⟨⟨rfl, (h1.1.1.1 2 3 _ rfl)⟩, ⟨rfl, (am_cI (((h1.2.2 c2).2 c3).1 c4) fun x5 s5 h5 => ⟨fun c7 => (h5.2.1 c7), fun c7 => ⟨⟨rfl, (h5.1.1.1 2 3 _ rfl)⟩, ⟨rfl, (am_cI (h5.2.2 c7) fun x8 s8 h8 => h8.2)⟩⟩⟩)⟩⟩⟩⟩, fun c4 => (((h1.2.2 c2).2 c3).2 c4)⟩⟩⟩⟩⟩⟩⟩)⟩⟩)

theorem v_M_proveT_0 (d : Nat) (σ : am_S) (K : Int → am_S → Prop) (hF : MF σ) (hT : sI σ 31 26 = 0) (h :
  (((sI σ 31 73) = 0 →
    K (-1002) σ) ∧
  (¬ ((sI σ 31 73) = 0) →
    (((sI σ 31 35) = 0 →
      K (-1002) σ) ∧
    (¬ ((sI σ 31 35) = 0) →
      (((sI σ 31 78) = 0 →
        am_Calls PP MLL (d + 6) m_M_startCase [qr (31, 12, 89)] (putI (putI (putI σ 31 78 1) 31 59 0) 31 76 0) (kV fun s4 =>
          (MF s4 ∧ sI s4 31 26 = 0) ∧
          (-2147483648 ≤ (sI s4 31 35) - 1 ∧ (sI s4 31 35) - 1 < 2147483648) ∧
          am_Runs PP MLL (d + 6) m_M_prove 36 [some (qr (31, 12, 89)), some (qi 0), some (qi 1), some (qi 1), none, none] [] (putI s4 54 0 ((sI s4 31 35) - 1)) (kI K))) ∧
      (¬ ((sI σ 31 78) = 0) →
        K (-1002) σ))))))) : am_Runs PP MLL (d + 6) m_M_prove 0 [some (qr (31, 12, 89)), none, none, none, none, none] [] σ (kI K) := am_wEF_ok (orc [(23, 54, 20, 14)]) 200 (⟨rfl, ⟨fun c1 => (h.1 c1), fun c1 => ⟨rfl, ⟨fun c2 => ((h.2 c1).1 c2), fun c2 => ⟨rfl, ⟨fun c3 => ⟨⟨rfl, (Or.inr rfl)⟩, ⟨⟨rfl, (Or.inl rfl)⟩, ⟨rfl, ⟨rfl, (am_cV (((h.2 c1).2 c2).1 c3) fun s4 h4 => ⟨⟨rfl, (h4.1.1 44)⟩, ⟨rfl, ⟨⟨h4.2.1.1, h4.2.1.2⟩, ⟨⟨rfl, (by decide : (0 : Int) ≤ 0), (by decide : (0 : Int) < 14)⟩, h4.2.2⟩⟩⟩⟩)⟩⟩⟩⟩, fun c3 => (((h.2 c1).2 c2).2 c3)⟩⟩⟩⟩⟩⟩)

theorem c_shown2 (d : Nat) {β μ κ ρ : Nat → Nat} {me : Nat → Nat → Nat} {n aH nH aL nL aY nY aS nS w : Nat} {σ : am_S} {K : Int → am_S → Prop} (hR : TR σ aH nH aL nL aY nY aS nS) (hB : BS σ β μ κ ρ me n) (q1 : sR σ 12 6 ≠ none) (q2 : sI σ 12 13 = 1) (q3 : sI σ 12 16 ≠ -1000) (r1 : sI σ 12 17 = 1) (r2 : sR σ 12 5 = some (w, 4, 3)) (h : K (if 600 < sI σ w 2 then 0 else sI σ w 2) σ) : am_Calls PP MLL (d + 2) m_Search_rowsShown [qr (12, 5, 18)] σ (kI K) := by
  refine v_Search_rowsShown_0 d β μ κ ρ me aH nH aL nL aY nY aS nS n σ K hR hB ?_
  refine v_Search_hasTree_0 d β μ κ ρ me aH nH aL nL aY nY aS nS n σ _ hR hB ⟨fun q => absurd q q1, fun _ => ?_⟩
  have e : (if (sI σ 12 13) = 0 then (0 : Int) else (if (sI σ 12 16) = (-1000) then (0 : Int) else 1)) = 1 := by rw [if_neg (by omega), if_neg q3]
  rw [e, r2, rg_some]
  refine ⟨Or.inr rfl, ⟨hR, hB⟩, ⟨fun _ _ => rfl, fun _ _ _ => rfl⟩, ?_⟩
  show K (if (1 : Int) = 0 then 0 else if sI σ 12 17 = 0 then 0 else if 600 < sI σ w 2 then 0 else sI σ w 2) σ
  rw [if_neg (by decide), if_neg (by omega)]
  exact h
theorem p_prove (d : Nat) {xs : Nat → Int} {c : Nat} {σ : am_S} (hI : INV xs σ c) (hc : c + 1 ≤ 600) : PR d xs m_C_prove m_M_prove [] σ c := by
  have hs := INV_s hI hc
  obtain ⟨own, β, μ, κ, ρ, me, n, aH, nH, aL, nL, aY, nY, aS, nS, N, l, m, T, W, kd, aR, nR, aV, nV, aI, nI, aQ, nQ, g, w, hx⟩ := hI
  have hx0 := hx
  obtain ⟨⟨hF, hab, hxs⟩, it, il, ib, im, ij, sc, rz, is, ir, hc6⟩ := hx
  have it0 := it
  obtain ⟨hR, ow, ti, kt, ks, ⟨w1, w2, w3, w4, w5, w6, w7, w8⟩, ⟨l1, l2, l3, l4⟩, lz, ⟨q1, q2, q3, q4⟩, h87⟩ := it
  have o1 := ow.1
  have ib0 := ib
  obtain ⟨a1, a2, a3, ⟨n12, a4, a5⟩, bd, a6, a7, a8, a9, a10⟩ := ib
  obtain ⟨m1, ⟨m2, T26⟩, m3, m4, m5, m6⟩ := im
  have tN := ti.2.2.2.2.1
  have tT := ti.2.2.2.2.2.2.1
  have T4 := ti.2.2.2.2.2.2.2.2.1
  have bad : (sI σ 31 73 = 0 ∨ sI σ 31 35 = 0 ∨ ¬ sI σ 31 78 = 0) → am_Calls PP MLL (d + 30) m_M_prove [qr (31, 12, 89)] σ (kI fun y t => -1002 = y ∧ INV xs t (c + 1)) := by
    intro hp
    exact v_M_proveT_0 (d + 23) σ _ hF T26 ⟨fun _ => ⟨rfl, hs⟩, fun c1 => ⟨fun _ => ⟨rfl, hs⟩, fun c2 => ⟨fun c3 => by omega, fun _ => ⟨rfl, hs⟩⟩⟩⟩
  refine v_C_prove_0 (d + 27) β μ κ ρ me aH nH aL nL aY nY aS nS n σ _ hR a1 (c_hasTree (d + 28) hR a1 is (fun z _ _ => ⟨⟨hR, a1⟩, fun _ => ⟨hxs, bad (Or.inl z)⟩, fun q => absurd rfl q⟩) (fun X ob nb tr c0 k0 aQ' st hb hr => ⟨⟨hR, a1⟩, fun q => absurd q (by decide), fun _ => ?_⟩))
  obtain ⟨n0, q1, q2, q3, q4, q5, q6, q7, q8, q9, q10, q11, o⟩ := hr
  have tp := tsz_p (n := n0) (k := k0) hb.2.2.2.1
  have hE := hb.1
  have xv := hE.2.1.1
  have ne : sR σ 12 6 ≠ none := by
    obtain ⟨β', μ', κ', ρ', me', n', b', aH', nH', aL', nL', aY', nY', aS', nS', N', lo', hi', T', kd', e1, e2, e3, e4, e5, e6, e7, e8, e9, e10, e11, e12, e13, e14, e15, _⟩ := hE.2.2.2.2
    rw [e15]
    exact fun q => by cases q
  refine ⟨fun c1 => ⟨hxs, bad (by omega)⟩, fun c1 => ⟨fun c2 => ?_, fun c2 => ⟨hxs, bad ?_⟩⟩⟩
  · rcases o with ⟨d1, d2, d3, d4, g', w', G, prw⟩ | ⟨d1, _⟩
    · have n1 : 1 ≤ n0 := by omega
      have ew : wh X c0 k0 n0 = rws X (n0 - 1) c0 k0 := by unfold wh; rw [if_neg (by omega)]
      rw [ew] at prw
      obtain ⟨L, eL⟩ : ∃ L, L = rws X (n0 - 1) c0 k0 := ⟨_, rfl⟩
      rw [← eL] at prw
      have l1' : 1 ≤ L.length := by
        rw [eL]
        exact rws_p xv (n := n0 - 1) (by rw [show n0 - 1 + 1 = n0 by omega]; exact q4) (q3 (n0 - 1) (by omega))
      have gw := prw.1
      have e5 := prw.2.2.1
      have ez := prw.2.2.2.2.2.2.1
      obtain ⟨Z, eZ⟩ : ∃ Z, Z = putI σ 12 17 1 := ⟨_, rfl⟩
      rw [← eZ]
      have Z2 : Z.2 = σ.2 := by rw [eZ]; rfl
      obtain ⟨zr, zN, zU⟩ := R2 Z2
      have Zo : ∀ x, x ≠ 12 → sI Z x = sI σ x := fun x h => by rw [eZ, put_ne h]
      have Z12 : ∀ j, sI Z 12 j = if j = 17 then 1 else sI σ 12 j := fun j => by rw [eZ, put_at]
      have RZ' := TR_2 Z2 hR
      have BZ := BS_2 Z2 a1
      have zs : sI Z w' 2 = L.length := by rw [Zo w' (by omega)]; exact ez
      have s31 := Zo 31 (by decide)
      have Fs : MF Z := MF_I hF Z2
      have Ms : MX Z X ob nb tr := MX_y (n := nb) ⟨Fs, fun x hx' => Zo x (by omega), fun j _ => by rw [s31], fun b _ => by rw [Zo 41 (by decide), Zo 47 (by decide)]; exact ⟨rfl, rfl⟩, fun i _ => by rw [Zo 46 (by decide)]⟩ (Nat.le_refl _) hb.2.1
      have hb0 := hb
      obtain ⟨b1, b2, b3, b4, b5, b6, b7, b8, b9, b10, b11, b12, b13⟩ := hb
      have om : OM Z X ob nb tr c0 k0 n0 := by
        refine ⟨Fs, Ms, fun j => by rw [Zo 64 (by decide), Zo 65 (by decide)]; exact rz j, hE.2.1.2.1.1, q1, by omega, by rw [s31]; exact q8.2.2.2, by rw [s31]; exact q8.2.1, by rw [s31]; omega, by rw [s31]; exact b13, fun p hp => by rw [Zo 36 (by decide)]; exact b7 p hp, by rw [s31]; exact b6⟩
      -- whatever the reference shows
      have fin : ∀ t, PrF Z t → sI t 31 59 = 0 → sI t 31 78 = 1 → ((L.length ≤ 600 ∧ sI t 31 77 = 1 ∧ RO t L) ∨ (600 < L.length ∧ sI t 31 77 = 0 ∧ sI t 31 76 = 0)) → INV xs t (c + 1) := by
        intro t pf t59 t78 ht
        obtain ⟨x1, x2, x3, x4⟩ := pf
        have t2 : t.2 = σ.2 := x1.trans Z2
        obtain ⟨tr', tN', tU'⟩ := R2 t2
        have to : ∀ x, x ≠ 12 → x ≠ 31 → ¬ (53 ≤ x ∧ x ≤ 66) → x ≠ 81 → x ≠ 82 → sI t x = sI σ x := fun x h12 h3 h5 h6 h7 => by rw [x2 x (by omega) h3 h6 h7, Zo x h12]
        have z31 : ∀ j, j ≠ 57 → j ≠ 58 → j ≠ 59 → j ≠ 76 → j ≠ 77 → j ≠ 78 → sI t 31 j = sI σ 31 j := fun j j1 j2 j3 j4 j5 j6 => by rw [x3 j j1 j2 j3 j4 j5 j6, s31]
        have z12 : ∀ j, sI t 12 j = if j = 17 then 1 else sI σ 12 j := fun j => by rw [x2 12 (by omega) (by decide) (by decide) (by decide), Z12]
        obtain ⟨sc', zz⟩ := SC_2 t2 sc
        have cell : ∀ x, x < sN σ → (20 ≤ own x ∧ own x ≤ 25) → sI t x = sI σ x := fun x hx' hr => by
          have : ¬ (x < 87 ∧ own x ≠ x) := fun q => q.2 (o1 x q.1)
          exact to x (by omega) (by omega) (by omega) (by omega) (by omega)
        have rw2 : RW t own g' w' G L := by
          refine RW_2 t2 prw rfl (fun x hx' hr => cell x hx' (by rcases hr with e | e | e; (· rw [e, o1 g' (by omega)]; omega); (· omega); omega)) (by rw [cell w' (by omega) (by rw [o1 w' (by omega)]; omega)]) (fun i i1 i2 => ?_)
          have z := prw.2.2.2.2.2.2.2 i i1 i2
          obtain ⟨⟨a, n', b, m', h1, h2, h3, h4, h5, h6, h7, h8, h9, h10⟩, _⟩ := prw.2.2.2.2.2.1
          unfold rNu rTo at z ⊢
          rw [tr', tr', h1, h2]
          rw [h1, h2] at z
          simp only [rg_some] at z ⊢
          rw [cell a h5 (by omega), cell b h6 (by omega)]
          exact z
        refine INV_srch (own' := own) hx0 hc (by omega) (fun _ _ => rfl) (fun x hx' r1 r2 r3 r4 r5 r6 r7 => ?_) (fun x _ _ _ j => tr' x j) (fun j _ => tr' 12 j) (fun j _ => tr' 13 j) (fun j j1 j2 j3 j4 j5 j6 => z31 j (by omega) (by omega) (by omega) j4 j5 j6) (fun j _ => by rw [to 2 (by decide) (by decide) (by omega) (by decide) (by decide)]) (by rw [to 2 (by decide) (by decide) (by omega) (by decide) (by decide), z31 38 (by decide) (by decide) (by decide) (by decide) (by decide) (by decide)]; exact m4) x4 sc' (IS_over hF hb0 q1 q2 q3 q4 q5 q6 q7 q8 q9 q10 q11 t2 (fun x hx' h1 h2 h3 h4 h5 h6 h7 => to x h1 h2 h3 h4 h5) (fun j _ j2 => by rw [z12, if_neg j2]) z31 (Or.inr ⟨by rw [z12, if_pos rfl], t78, t59, n1, g', w', G, L, rw2, ?_⟩)) (by unfold IR at ir ⊢; rw [zz, tN', tU']; omega)
        · have : ¬ (x < 87 ∧ own x ≠ x) := fun q => q.2 (o1 x q.1)
          exact to x (by omega) (by omega) (by omega) (by omega) (by omega)
        · rcases ht with ⟨u1, u2, u3⟩ | u
          · refine Or.inl ⟨u1, l1', u2, u3, fun i hi => ?_⟩
            have := rws_bd xv (n0 - 1) c0 k0 (L.getD i (0, 0)) (by rw [← eL]; exact getD_in hi)
            omega
          · exact Or.inr u
      have ref : ∀ x : Int, (L.length ≤ 600 → x = (L.length : Nat)) → (600 < L.length → x = -1003) → am_Calls PP MLL (d + 30) m_M_prove [qr (31, 12, 89)] Z (kI fun y t => x = y ∧ INV xs t (c + 1)) := by
        intro x h1 h2
        refine c_M_prove (d + 23) om (by rw [s31]; omega) (by omega) (by rw [s31]; exact d2) (q3 (n0 - 1) (by omega)) (fun le t pf t59 t78 t77 ro => ?_) (fun gt t pf t59 t78 t77 t76 => ?_)
        · rw [← eL] at le ro ⊢
          exact ⟨h1 le, fin t pf t59 t78 (Or.inl ⟨le, t77, ro⟩)⟩
        · rw [← eL] at gt
          exact ⟨h2 gt, fin t pf t59 t78 (Or.inr ⟨gt, t77, t76⟩)⟩
      have shown := fun {K : Int → am_S → Prop} (h : K (if 600 < sI Z w' 2 then 0 else sI Z w' 2) Z) => c_shown2 (d + 27) (w := w') RZ' BZ (by rw [zr]; exact ne) (by rw [Z12, if_neg (by decide)]; exact q2.1) (by rw [Z12, if_neg (by decide)]; omega) (by rw [Z12, if_pos rfl]) (by rw [zr]; exact e5) h
      refine shown ⟨⟨RZ', BZ⟩, ?_⟩
      rw [zs]
      by_cases big' : 600 < (L.length : Int)
      · rw [if_pos big']
        exact ⟨fun _ => ⟨by rw [Zo 0 (by decide)]; exact hxs, ref _ (fun q => by omega) (fun _ => rfl)⟩, fun q => absurd (Int.le_refl 0) q⟩
      · rw [if_neg big']
        refine ⟨fun q => by omega, fun _ => shown ⟨⟨RZ', BZ⟩, by rw [Zo 0 (by decide)]; exact hxs, ?_⟩⟩
        rw [zs, if_neg big']
        exact ref _ (fun _ => rfl) (fun q => by omega)
    · omega
  · rcases o with ⟨d1, d2, d3, d4, _⟩ | ⟨d1, d2, _⟩
    · exact absurd d1 c2
    · exact Or.inr (Or.inr (by omega))
