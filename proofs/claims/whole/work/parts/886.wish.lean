/-! the calls in pairs: wish, together -/
theorem v_C_wish_0 (d : Nat) (β μ κ ρ : Nat → Nat) (me : Nat → Nat → Nat) (n : Nat) (p1 p2 p3 : Int) (σ : am_S) (K : Int → am_S → Prop) (hC : CF σ) (hB : BS σ β μ κ ρ me n) (h :
  ((p1 < 0 →
    K (-1001) σ) ∧
  (¬ (p1 < 0) →
    (((sI σ 2 5) ≤ p1 →
      K (-1001) σ) ∧
    (¬ ((sI σ 2 5) ≤ p1) →
      ((p2 < 0 →
        K (-1001) σ) ∧
      (¬ (p2 < 0) →
        ((p2 ≤ 4 →
          ((p2 = 0 →
            ((p3 < (-3) →
              K (-1001) σ) ∧
            (¬ (p3 < (-3)) →
              ((3 < p3 →
                K (-1001) σ) ∧
              (¬ (3 < p3) →
                (0 ≤ p1 ∧ p1 < 12 ∧ (Int.toNat p1) < n) ∧
                (((sI (putI σ 10 1 0) (β (Int.toNat p1)) 6) = 0 →
                  (((sI (putI σ 10 1 0) (β (Int.toNat p1)) 0) = 6 →
                    am_Calls PP MLL (d + 7) m_C_found [qr (2, 11, 10), qi p1, qi 4] (putI σ 10 1 0) (kI fun x10 s10 =>
                      (CF s10 ∧ BS s10 β μ κ ρ me n) ∧
                      K x10 s10)) ∧
                  (¬ ((sI (putI σ 10 1 0) (β (Int.toNat p1)) 0) = 6) →
                    am_Calls PP MLL (d + 7) m_Balance_answer [qr (β (Int.toNat p1), 0, 9), qi p2, qi p3] (putI (putI σ 10 1 0) 10 2 1) (kI fun x11 s11 =>
                      (CF s11 ∧ BS s11 β μ κ ρ me n) ∧
                      ((x11 = (-1000) →
                        am_Calls PP MLL (d + 7) m_C_found [qr (2, 11, 10), qi p1, qi 1] (putI s11 10 2 0) (kI fun x14 s14 =>
                          (CF s14 ∧ BS s14 β μ κ ρ me n) ∧
                          K x14 s14)) ∧
                      (¬ (x11 = (-1000)) →
                        K x11 (putI s11 10 2 0))))))) ∧
                (¬ ((sI (putI σ 10 1 0) (β (Int.toNat p1)) 6) = 0) →
                  am_Calls PP MLL (d + 7) m_C_found [qr (2, 11, 10), qi p1, qi 1] (putI σ 10 1 0) (kI fun x15 s15 =>
                    (CF s15 ∧ BS s15 β μ κ ρ me n) ∧
                    K x15 s15)))))))) ∧
          (¬ (p2 = 0) →
            (0 ≤ p1 ∧ p1 < 12 ∧ (Int.toNat p1) < n) ∧
            (((sI (putI σ 10 1 0) (β (Int.toNat p1)) 6) = 0 →
              am_Calls PP MLL (d + 7) m_Balance_answer [qr (β (Int.toNat p1), 0, 9), qi p2, qi p3] (putI (putI σ 10 1 0) 10 2 1) (kI fun x17 s17 =>
                (CF s17 ∧ BS s17 β μ κ ρ me n) ∧
                ((x17 = (-1000) →
                  am_Calls PP MLL (d + 7) m_C_found [qr (2, 11, 10), qi p1, qi 1] (putI s17 10 2 0) (kI fun x20 s20 =>
                    (CF s20 ∧ BS s20 β μ κ ρ me n) ∧
                    K x20 s20)) ∧
                (¬ (x17 = (-1000)) →
                  K x17 (putI s17 10 2 0))))) ∧
            (¬ ((sI (putI σ 10 1 0) (β (Int.toNat p1)) 6) = 0) →
              am_Calls PP MLL (d + 7) m_C_found [qr (2, 11, 10), qi p1, qi 1] (putI σ 10 1 0) (kI fun x21 s21 =>
                (CF s21 ∧ BS s21 β μ κ ρ me n) ∧
                K x21 s21)))))) ∧
        (¬ (p2 ≤ 4) →
          K (-1001) σ))))))))) : am_Runs PP MLL (d + 7) m_C_wish 0 [some (qr (2, 11, 10)), some (qi p1), some (qi p2), some (qi p3), none, none] [] σ (kI K) := am_wEF_ok (orc [(19, 10, 7, 3), (22, 9, 22, 12), (24, β (Int.toNat p1), 0, 9), (46, 10, 7, 3), (55, 10, 7, 3)]) 200 (⟨rfl, am_wEF_ok (orc []) 200 (⟨fun c1 => ⟨(Or.inl rfl), ⟨fun _ => (h.1 c1), fun c => absurd (by decide : (0 : Int) = 0) c⟩⟩, fun c1 => ⟨rfl, ⟨fun c2 => ⟨(Or.inl rfl), ⟨fun _ => ((h.2 c1).1 c2), fun c => absurd (by decide : (0 : Int) = 0) c⟩⟩, fun c2 => ⟨(Or.inr rfl), ⟨fun c => absurd c (by decide : ¬ ((1 : Int) = 0)), fun _ => ⟨fun c3 => (((h.2 c1).2 c2).1 c3), fun c3 => ⟨fun c4 => ⟨fun c5 => am_wEF_ok (orc []) 200 (⟨fun c6 => ⟨(Or.inl rfl), ⟨fun _ => ((((((h.2 c1).2 c2).2 c3).1 c4).1 c5).1 c6), fun c => absurd (by decide : (0 : Int) = 0) c⟩⟩, fun c6 => ⟨fun c7 => ⟨(Or.inl rfl), ⟨fun _ => (((((((h.2 c1).2 c2).2 c3).1 c4).1 c5).2 c6).1 c7), fun c => absurd (by decide : (0 : Int) = 0) c⟩⟩, fun c7 => ⟨(Or.inr rfl), ⟨fun c => absurd c (by decide : ¬ ((1 : Int) = 0)), fun _ => ⟨⟨rfl, (hC 2 2 _ rfl)⟩, ⟨rfl, am_wEF_ok (orc []) 200 (⟨rfl, ⟨⟨rfl, (hC 2 1 _ rfl)⟩, ⟨⟨rfl, (((((((h.2 c1).2 c2).2 c3).1 c4).1 c5).2 c6).2 c7).1.1, (((((((h.2 c1).2 c2).2 c3).1 c4).1 c5).2 c6).2 c7).1.2.1, (hB (Int.toNat p1) (((((((h.2 c1).2 c2).2 c3).1 c4).1 c5).2 c6).2 c7).1.2.2).1⟩, ⟨rfl, ⟨fun c8 => ⟨fun _ => ⟨rfl, ⟨fun c9 => ⟨rfl, (am_cI (((((((((h.2 c1).2 c2).2 c3).1 c4).1 c5).2 c6).2 c7).2.1 c8).1 c9) fun x10 s10 h10 => h10.2)⟩, fun c9 => ⟨⟨rfl, (hC 2 2 _ rfl)⟩, ⟨⟨rfl, (Or.inr rfl)⟩, ⟨rfl, (am_cI (((((((((h.2 c1).2 c2).2 c3).1 c4).1 c5).2 c6).2 c7).2.1 c8).2 c9) fun x11 s11 h11 => ⟨⟨rfl, (h11.1.1 2 2 _ rfl)⟩, ⟨⟨rfl, (Or.inl rfl)⟩, ⟨fun c13 => ⟨rfl, (am_cI (h11.2.1 c13) fun x14 s14 h14 => h14.2)⟩, fun c13 => (h11.2.2 c13)⟩⟩⟩)⟩⟩⟩⟩⟩, fun c => absurd c5 c⟩, fun c8 => ⟨rfl, (am_cI ((((((((h.2 c1).2 c2).2 c3).1 c4).1 c5).2 c6).2 c7).2.2 c8) fun x15 s15 h15 => h15.2)⟩⟩⟩⟩⟩⟩)⟩⟩⟩⟩⟩⟩), fun c5 => ⟨⟨rfl, (hC 2 2 _ rfl)⟩, ⟨rfl, am_wEF_ok (orc []) 200 (⟨rfl, ⟨⟨rfl, (hC 2 1 _ rfl)⟩, ⟨⟨rfl, (((((h.2 c1).2 c2).2 c3).1 c4).2 c5).1.1, (((((h.2 c1).2 c2).2 c3).1 c4).2 c5).1.2.1, (hB (Int.toNat p1) (((((h.2 c1).2 c2).2 c3).1 c4).2 c5).1.2.2).1⟩, ⟨rfl, ⟨fun c16 => ⟨fun c => absurd c c5, fun _ => ⟨⟨rfl, (hC 2 2 _ rfl)⟩, ⟨⟨rfl, (Or.inr rfl)⟩, ⟨rfl, (am_cI ((((((h.2 c1).2 c2).2 c3).1 c4).2 c5).2.1 c16) fun x17 s17 h17 => ⟨⟨rfl, (h17.1.1 2 2 _ rfl)⟩, ⟨⟨rfl, (Or.inl rfl)⟩, ⟨fun c19 => ⟨rfl, (am_cI (h17.2.1 c19) fun x20 s20 h20 => h20.2)⟩, fun c19 => (h17.2.2 c19)⟩⟩⟩)⟩⟩⟩⟩, fun c16 => ⟨rfl, (am_cI ((((((h.2 c1).2 c2).2 c3).1 c4).2 c5).2.2 c16) fun x21 s21 h21 => h21.2)⟩⟩⟩⟩⟩⟩)⟩⟩⟩, fun c4 => ((((h.2 c1).2 c2).2 c3).2 c4)⟩⟩⟩⟩⟩⟩⟩)⟩)

theorem p_wish (d : Nat) {xs : Nat → Int} {c : Nat} {σ : am_S} {p1 p2 p3 : Int} (hI : INV xs σ c) (hc : c + 1 ≤ 600) : PR d xs m_C_wish m_M_wish [qi p1, qi p2, qi p3] σ c := by
  have hs := INV_s hI hc
  obtain ⟨own, β, μ, κ, ρ, me, n, aH, nH, aL, nL, aY, nY, aS, nS, N, l, m, T, W, kd, aR, nR, aV, nV, aI, nI, aQ, nQ, g, w, hx⟩ := hI
  have hx0 := hx
  obtain ⟨⟨hF, hab, hxs⟩, it, il, ib, im, ij, sc, rz, is, ir, hc6⟩ := hx
  have it0 := it
  obtain ⟨hR, ow, ti, kt, ks, ⟨w1, w2, w3, w4, w5, w6, w7, w8⟩, ⟨l1, l2, l3, l4⟩, lz, ⟨q1, q2, q3, q4⟩, h87⟩ := it
  have o1 := ow.1
  have ib0 := ib
  obtain ⟨a1, a2, a3, ⟨n12, a4, a5⟩, bd, a6, a7, a8, a9, a10⟩ := ib
  obtain ⟨m1, ⟨m2, T26⟩, m3, m4, m5, m6⟩ := im
  have tN := ti.2.2.2.2.1
  have tT := ti.2.2.2.2.2.2.1
  have T4 := ti.2.2.2.2.2.2.2.2.1
  have nB : ∀ b, b < n → ∀ x, x < 87 → x ≠ β b := fun b hb x hx' e => by
    have := (a2 b hb).1
    rw [← e, o1 x hx'] at this
    omega
  have rb : (p1 < 0 ∨ (n : Int) ≤ p1 ∨ p2 < 0 ∨ 4 < p2 ∨ (p2 = 0 ∧ (p3 < -3 ∨ 3 < p3))) → am_Calls PP MLL (d + 30) m_M_wish [qr (31, 12, 89), qi p1, qi p2, qi p3] σ (kI fun y t => -1001 = y ∧ INV xs t (c + 1)) := fun hb => w_Mb (d + 26) hF a5 n12 hb ⟨rfl, hs⟩
  have qv : QV σ n := IB_QV ib0
  have G : ∀ L, CF (trC σ L) ∧ BS (trC σ L) β μ κ ρ me n := fun L => ⟨hR.1, a1⟩
  have tx : ∀ L x, 12 ≤ x → x < 87 → sI (trC σ L) x = sI σ x := fun L x y1 y2 => trC_o (by omega) (by omega)
  have core : ∀ b : Nat, b < n → 0 ≤ p2 ∧ p2 ≤ 4 → (p2 = 0 → -3 ≤ p3 ∧ p3 ≤ 3) → (¬ sI σ (β b) 6 = 0 → am_Calls PP MLL (d + 22 + 7) m_C_found [qr (2, 11, 10), qi (b : Int), qi 1] (trC σ []) (kI fun x s => (CF s ∧ BS s β μ κ ρ me n) ∧ sI s 0 = xs ∧ am_Calls PP MLL (d + 30) m_M_wish [qr (31, 12, 89), qi (b : Int), qi p2, qi p3] s (kI fun y t => x = y ∧ INV xs t (c + 1)))) ∧ (sI σ (β b) 6 = 0 → p2 = 0 → sI σ (β b) 0 = 6 → am_Calls PP MLL (d + 22 + 7) m_C_found [qr (2, 11, 10), qi (b : Int), qi 4] (trC σ []) (kI fun x s => (CF s ∧ BS s β μ κ ρ me n) ∧ sI s 0 = xs ∧ am_Calls PP MLL (d + 30) m_M_wish [qr (31, 12, 89), qi (b : Int), qi p2, qi p3] s (kI fun y t => x = y ∧ INV xs t (c + 1)))) ∧ (sI σ (β b) 6 = 0 → ¬ (p2 = 0 ∧ sI σ (β b) 0 = 6) → am_Calls PP MLL (d + 22 + 7) m_Balance_answer [qr (β b, 0, 9), qi p2, qi p3] (trC (putI σ 10 2 1) []) (kI fun x s => (CF s ∧ BS s β μ κ ρ me n) ∧ ((x = -1000 → am_Calls PP MLL (d + 22 + 7) m_C_found [qr (2, 11, 10), qi (b : Int), qi 1] (putI s 10 2 0) (kI fun x s => (CF s ∧ BS s β μ κ ρ me n) ∧ sI s 0 = xs ∧ am_Calls PP MLL (d + 30) m_M_wish [qr (31, 12, 89), qi (b : Int), qi p2, qi p3] s (kI fun y t => x = y ∧ INV xs t (c + 1)))) ∧ (¬ (x = -1000) → sI (putI s 10 2 0) 0 = xs ∧ am_Calls PP MLL (d + 30) m_M_wish [qr (31, 12, 89), qi (b : Int), qi p2, qi p3] (putI s 10 2 0) (kI fun y t => x = y ∧ INV xs t (c + 1)))))) := by
    intro b hb g2 g3
    have nb2 := (nB b hb 2 (by decide)).symm
    have nb31 := (nB b hb 31 (by decide)).symm
    have nb48 := (nB b hb 48 (by decide)).symm
    obtain ⟨d1, d2, d3, -⟩ := bd b hb
    have sx : ∀ f L x, 12 ≤ x → x < 87 → sI (fdC (trC σ L) β b f) x = sI σ x := fun f L x y1 y2 => by
      rw [fdC_o (by omega) (nB b hb x y2)]
      exact tx L x y1 y2
    have sF : ∀ f L, MF (fdC (trC σ L) β b f) := fun f L => MF_I hF fdC_2
    have ff : ∀ (f : Int) (L : List Int), 0 ≤ f ∧ f ≤ 6 → am_Calls PP MLL (d + 26 + 3) m_M_finds [qr (31, 12, 89), qi (b : Int), qi f] (trM (fdC (trC σ L) β b f) L) (kI fun x s => MF s ∧ -1010 - f = x ∧ INV xs s (c + 1)) := fun f L hf => by
      have e31 : sI (trM (fdC (trC σ L) β b f) L) 31 1 = sI σ 31 1 := by rw [trM_31 (by decide), sx f L 31 (by decide) (by decide)]
      refine c_M_finds (d + 27) (sF f L) (by omega) (by omega) (by rw [e31]; omega) ⟨sF f L, rfl, ?_⟩
      rw [tr_fd nb2 nb31 nb48]
      exact INV_fd (INV_tr hx0 L) hc hb hf
    have fnd : ∀ (f : Int) (L : List Int), 0 ≤ f ∧ f ≤ 6 → am_Calls PP MLL (d + 30) m_M_wish [qr (31, 12, 89), qi (b : Int), qi p2, qi p3] (fdC (trC σ L) β b f) (kI fun y t => -1010 - f = y ∧ INV xs t (c + 1)) → am_Calls PP MLL (d + 22 + 7) m_C_found [qr (2, 11, 10), qi (b : Int), qi f] (trC σ L) (kI fun x s => (CF s ∧ BS s β μ κ ρ me n) ∧ sI s 0 = xs ∧ am_Calls PP MLL (d + 30) m_M_wish [qr (31, 12, 89), qi (b : Int), qi p2, qi p3] s (kI fun y t => x = y ∧ INV xs t (c + 1))) := fun f L hf hh => by
      refine c_found (d + 28) (G L).1 (G L).2 n12 hb nb2 (by omega) (by rw [trC_o (by decide) (by decide)]; omega) ⟨⟨fun y j r hr => by rw [(R2 fdC_2).1]; exact (G L).1 y j r hr, BS_2 fdC_2 (G L).2⟩, ?_, hh⟩
      rw [fdC_o (by decide) (nB b hb 0 (by decide)), trC_o (by decide) (by decide)]
      exact hxs
    refine ⟨fun e6 => fnd 1 [] (by omega) ?_, fun e6 p20 h6 => fnd 4 [] (by omega) ?_, fun e6 h6 => ?_⟩
    · rw [if_neg e6] at d3
      refine w_M (d + 26) (sF 1 []) (by rw [sx 1 [] 31 (by decide) (by decide)]; exact T26) (by rw [sx 1 [] 31 (by decide) (by decide)]; exact a5) n12 (by unfold QV; rw [sx 1 [] 41 (by decide) (by decide), sx 1 [] 46 (by decide) (by decide), sx 1 [] 47 (by decide) (by decide)]; exact qv) (by rw [sx 1 [] 44 (by decide) (by decide)]; exact fun k => (a7 k).2) (by rw [sx 1 [] 42 (by decide) (by decide)]; exact a10) hb g2 g3 (fun _ => ff 1 [] (by omega)) (fun y _ _ => ?_) (fun y _ _ _ _ => ?_)
      · rw [sx 1 [] 41 (by decide) (by decide)] at y
        omega
      · rw [sx 1 [] 41 (by decide) (by decide)] at y
        omega
    · rw [if_pos e6] at d3
      refine w_M (d + 26) (sF 4 []) (by rw [sx 4 [] 31 (by decide) (by decide)]; exact T26) (by rw [sx 4 [] 31 (by decide) (by decide)]; exact a5) n12 (by unfold QV; rw [sx 4 [] 41 (by decide) (by decide), sx 4 [] 46 (by decide) (by decide), sx 4 [] 47 (by decide) (by decide)]; exact qv) (by rw [sx 4 [] 44 (by decide) (by decide)]; exact fun k => (a7 k).2) (by rw [sx 4 [] 42 (by decide) (by decide)]; exact a10) hb g2 g3 (fun y => ?_) (fun _ _ _ => ff 4 [] (by omega)) (fun _ y _ _ _ => ?_)
      · rw [sx 4 [] 41 (by decide) (by decide)] at y
        omega
      · rw [sx 4 [] 41 (by decide) (by decide)] at y
        exact absurd ⟨p20, by rw [d3]; exact h6⟩ y
    · rw [if_pos e6] at d3
      have b1 : ∀ g', g' < n → sI (putI σ 10 2 1) (β g') = sI σ (β g') := fun g' hg' => put_ne (nB g' hg' 10 (by decide)).symm
      have o10 := o1 10 (by decide)
      have o11 := o1 11 (by decide)
      have r1 : ∀ g', g' < n → ∀ k, k < 4 → sI (putI σ 10 2 1) (ρ g' + k) = sI σ (ρ g' + k) := fun g' hg' k hk => put_ne (fun e => by
        have y := (a2 g' hg').2.2 k hk
        rw [e] at y
        omega)
      have bd1 : ∀ g', g' < n → BD (putI σ 10 2 1) β κ ρ me n (c + 1) g' := fun g' hg' => BD_K b1 (r1 g' hg') hg' (fun x y1 y2 => put_ne (by omega)) (bd g' hg')
      have nt : ∀ g', g' < n → nT β ρ g' := fun g' hg' => by
        obtain ⟨y1, -, y3⟩ := a2 g' hg'
        have z0 := y3 0 (by decide)
        have z1 := y3 1 (by decide)
        have z2 := y3 2 (by decide)
        have z3 := y3 3 (by decide)
        rw [Nat.add_zero] at z0
        exact ⟨⟨fun e => by rw [e] at y1; omega, fun e => by rw [e] at y1; omega⟩, ⟨fun e => by rw [e] at z0; omega, fun e => by rw [e] at z0; omega⟩, ⟨fun e => by rw [e] at z1; omega, fun e => by rw [e] at z1; omega⟩, ⟨fun e => by rw [e] at z2; omega, fun e => by rw [e] at z2; omega⟩, ⟨fun e => by rw [e] at z3; omega, fun e => by rw [e] at z3; omega⟩⟩
      refine w_C (d + 22) (σ := putI σ 10 2 1) (μ := μ) (κ := κ) (ρ := ρ) (me := me) (n := n) hR.1 a1 (by rw [put_at, if_pos rfl]; decide) hb g2 g3 nt (fun g' hg' => (bd1 g' hg').2.2.2.2.2.1) (fun g' hg' => ?_) (fun q6 => ?_) (fun v L hv => ?_)
      · have y := (bd1 g' hg').2.2.2.1
        omega
      · obtain ⟨-, y2, -, y4, -⟩ := (bd1 b hb).2.2.2.2.2.2.2.2 q6
        exact ⟨y2, fun i hi => (y4 i hi).1⟩
      · have ht1 : sI (putI σ 10 2 1) (β b) 6 = 0 := by rw [b1 b hb]; exact e6
        have ag : ∀ (s : am_S) v' L', (∀ x, 12 ≤ x → x < 87 → sI s x = sI σ x) → AWm s b p2 p3 v' L' → v = v' ∧ L = L' := fun s v' L' hx' hw => AW_eq bd1 hb ht1 hv (AWm_e (fun x y1 y2 => by rw [hx' x (by omega) (by omega), put_ne (by omega)]) hw)
        refine ⟨⟨hR.1, a1⟩, ?_⟩
        rw [w_c2 m2]
        refine ⟨fun ev => fnd 1 L (by omega) ?_, fun ev => ⟨by rw [trC_o (by decide) (by decide)]; exact hxs, ?_⟩⟩
        · refine w_M (d + 26) (sF 1 L) (by rw [sx 1 L 31 (by decide) (by decide)]; exact T26) (by rw [sx 1 L 31 (by decide) (by decide)]; exact a5) n12 (by unfold QV; rw [sx 1 L 41 (by decide) (by decide), sx 1 L 46 (by decide) (by decide), sx 1 L 47 (by decide) (by decide)]; exact qv) (by rw [sx 1 L 44 (by decide) (by decide)]; exact fun k => (a7 k).2) (by rw [sx 1 L 42 (by decide) (by decide)]; exact a10) hb g2 g3 (fun y => ?_) (fun _ y1 y2 => ?_) (fun _ _ v' L' hw => ?_)
          · rw [sx 1 L 41 (by decide) (by decide)] at y
            omega
          · rw [sx 1 L 41 (by decide) (by decide)] at y2
            exact absurd ⟨y1, by rw [← d3]; exact y2⟩ h6
          · obtain ⟨z1, z2⟩ := ag _ v' L' (sx 1 L) hw
            refine ⟨fun ne => absurd (by rw [← z1]; exact ev) ne, fun _ => ?_⟩
            rw [← z2]
            exact ff 1 L (by omega)
        · refine w_M (d + 26) (hF) (by rw [tx L 31 (by decide) (by decide)]; exact T26) (by rw [tx L 31 (by decide) (by decide)]; exact a5) n12 (by unfold QV; rw [tx L 41 (by decide) (by decide), tx L 46 (by decide) (by decide), tx L 47 (by decide) (by decide)]; exact qv) (by rw [tx L 44 (by decide) (by decide)]; exact fun k => (a7 k).2) (by rw [tx L 42 (by decide) (by decide)]; exact a10) hb g2 g3 (fun y => ?_) (fun _ y1 y2 => ?_) (fun _ _ v' L' hw => ?_)
          · rw [tx L 41 (by decide) (by decide)] at y
            omega
          · rw [tx L 41 (by decide) (by decide)] at y2
            exact absurd ⟨y1, by rw [← d3]; exact y2⟩ h6
          · obtain ⟨z1, z2⟩ := ag _ v' L' (tx L) hw
            refine ⟨fun _ => ⟨z1, ?_⟩, fun y => absurd (by rw [z1]; exact y) ev⟩
            rw [← z2]
            exact INV_s ⟨own, β, μ, κ, ρ, me, n, aH, nH, aL, nL, aY, nY, aS, nS, N, l, m, T, W, kd, aR, nR, aV, nV, aI, nI, aQ, nQ, g, w, INV_tr hx0 L⟩ hc
  refine v_C_wish_0 (d + 22) β μ κ ρ me n p1 p2 p3 σ _ hR.1 a1 ?_
  rw [a4, w_c1, ← trC_nil (σ := σ)]
  have fin : ¬ (p1 < 0 ∨ (n : Int) ≤ p1 ∨ p2 < 0 ∨ 4 < p2 ∨ (p2 = 0 ∧ (p3 < -3 ∨ 3 < p3))) → ∃ b : Nat, p1 = b ∧ b < n ∧ Int.toNat p1 = b := fun y => ⟨p1.toNat, by omega, by omega, rfl⟩
  refine ⟨fun c1 => ⟨hxs, rb (by omega)⟩, fun c1 => ⟨fun c2 => ⟨hxs, rb (by omega)⟩, fun c2 => ⟨fun c3 => ⟨hxs, rb (by omega)⟩, fun c3 => ⟨fun c4 => ⟨fun e => ⟨fun c5 => ⟨hxs, rb (by omega)⟩, fun c5 => ⟨fun c6 => ⟨hxs, rb (by omega)⟩, fun c6 => ?_⟩⟩, fun e => ?_⟩, fun c4 => ⟨hxs, rb (by omega)⟩⟩⟩⟩⟩
  · obtain ⟨b, eb, hb, et⟩ := fin (by omega)
    rw [et]
    subst eb
    have q := trC_o (σ := σ) (L := []) (nB b hb 10 (by decide)).symm (nB b hb 11 (by decide)).symm
    rw [q]
    have g2 : 0 ≤ p2 ∧ p2 ≤ 4 := ⟨by omega, by omega⟩
    have g3 : -3 ≤ p3 ∧ p3 ≤ 3 := ⟨by omega, by omega⟩
    obtain ⟨k1, k2, k3⟩ := core b hb g2 (fun _ => g3)
    exact ⟨by omega, fun u => ⟨fun u' => k2 u e u', fun u' => k3 u (fun y => u' y.2)⟩, fun u => k1 u⟩
  · obtain ⟨b, eb, hb, et⟩ := fin (by omega)
    rw [et]
    subst eb
    have q := trC_o (σ := σ) (L := []) (nB b hb 10 (by decide)).symm (nB b hb 11 (by decide)).symm
    rw [q]
    have g2 : 0 ≤ p2 ∧ p2 ≤ 4 := ⟨by omega, by omega⟩
    obtain ⟨k1, k2, k3⟩ := core b hb g2 (fun y => absurd y e)
    exact ⟨by omega, fun u => k3 u (fun y => e y.1), fun u => k1 u⟩
