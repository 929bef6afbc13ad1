/-! the calls in pairs: row, spoil -/
theorem v_C_spoil_0 (d : Nat) (β μ κ ρ : Nat → Nat) (me : Nat → Nat → Nat) (aH nH aL nL aY nY aS nS n : Nat) (p1 p2 p3 : Int) (σ : am_S) (K : Int → am_S → Prop) (hR : TR σ aH nH aL nL aY nY aS nS) (hB : BS σ β μ κ ρ me n) (h :
  am_Calls PP MLL (d + 3) m_C_isRow [qr (2, 11, 10), qi p1] σ (kI fun x1 s1 =>
    (TR s1 aH nH aL nL aY nY aS nS ∧ BS s1 β μ κ ρ me n) ∧
    ((x1 = 0 →
      K (-1001) s1) ∧
    (¬ (x1 = 0) →
      ((p2 < 0 →
        K (-1001) s1) ∧
      (¬ (p2 < 0) →
        ((1 < p2 →
          K (-1001) s1) ∧
        (¬ (1 < p2) →
          ((p3 < (-200) →
            K (-1001) s1) ∧
          (¬ (p3 < (-200)) →
            ((p3 ≤ 20000 →
              ((p2 = 0 →
                ((rg (sR s1 12 5)).2.1 = 4 ∧ (rg (sR s1 ((rg (sR s1 12 5)).1) 0)).2.1 = 20 ∧ 0 ≤ p1 ∧ p1 < (((rg (sR s1 ((rg (sR s1 12 5)).1) 0)).2.2 : Nat) : Int)) ∧
                K (sI s1 ((rg (sR s1 ((rg (sR s1 12 5)).1) 0)).1) (Int.toNat p1)) (putI s1 ((rg (sR s1 ((rg (sR s1 12 5)).1) 0)).1) (Int.toNat p1) p3)) ∧
              (¬ (p2 = 0) →
                ((rg (sR s1 12 5)).2.1 = 4 ∧ (rg (sR s1 ((rg (sR s1 12 5)).1) 1)).2.1 = 20 ∧ 0 ≤ p1 ∧ p1 < (((rg (sR s1 ((rg (sR s1 12 5)).1) 1)).2.2 : Nat) : Int)) ∧
                K (sI s1 ((rg (sR s1 ((rg (sR s1 12 5)).1) 1)).1) (Int.toNat p1)) (putI s1 ((rg (sR s1 ((rg (sR s1 12 5)).1) 1)).1) (Int.toNat p1) p3)))) ∧
            (¬ (p3 ≤ 20000) →
              K (-1001) s1)))))))))))) : am_Runs PP MLL (d + 3) m_C_spoil 0 [some (qr (2, 11, 10)), some (qi p1), some (qi p2), some (qi p3), none, none] [] σ (kI K) := am_wEF_ok (orc [(20, 12, 5, 18), (25, 12, 5, 18)]) 200 (⟨rfl, (am_cI h fun x1 s1 h1 => ⟨fun c2 => (h1.2.1 c2), fun c2 => ⟨fun c3 => ((h1.2.2 c2).1 c3), fun c3 => ⟨fun c4 => (((h1.2.2 c2).2 c3).1 c4), fun c4 => ⟨fun c5 => ((((h1.2.2 c2).2 c3).2 c4).1 c5), fun c5 => ⟨fun c6 => ⟨fun c8 => ⟨⟨rfl, (h1.1.1.1 2 3 _ rfl)⟩, ⟨rfl, ⟨((((((h1.2.2 c2).2 c3).2 c4).2 c5).1 c6).1 c8).1.1, ⟨⟨((((((h1.2.2 c2).2 c3).2 c4).2 c5).1 c6).1 c8).1.2.1, ((((((h1.2.2 c2).2 c3).2 c4).2 c5).1 c6).1 c8).1.2.2.1, ((((((h1.2.2 c2).2 c3).2 c4).2 c5).1 c6).1 c8).1.2.2.2⟩, ⟨⟨((((((h1.2.2 c2).2 c3).2 c4).2 c5).1 c6).1 c8).1.2.1, ((((((h1.2.2 c2).2 c3).2 c4).2 c5).1 c6).1 c8).1.2.2.1, ((((((h1.2.2 c2).2 c3).2 c4).2 c5).1 c6).1 c8).1.2.2.2⟩, ((((((h1.2.2 c2).2 c3).2 c4).2 c5).1 c6).1 c8).2⟩⟩⟩⟩⟩, fun c8 => ⟨⟨rfl, (h1.1.1.1 2 3 _ rfl)⟩, ⟨rfl, ⟨((((((h1.2.2 c2).2 c3).2 c4).2 c5).1 c6).2 c8).1.1, ⟨⟨((((((h1.2.2 c2).2 c3).2 c4).2 c5).1 c6).2 c8).1.2.1, ((((((h1.2.2 c2).2 c3).2 c4).2 c5).1 c6).2 c8).1.2.2.1, ((((((h1.2.2 c2).2 c3).2 c4).2 c5).1 c6).2 c8).1.2.2.2⟩, ⟨⟨((((((h1.2.2 c2).2 c3).2 c4).2 c5).1 c6).2 c8).1.2.1, ((((((h1.2.2 c2).2 c3).2 c4).2 c5).1 c6).2 c8).1.2.2.1, ((((((h1.2.2 c2).2 c3).2 c4).2 c5).1 c6).2 c8).1.2.2.2⟩, ((((((h1.2.2 c2).2 c3).2 c4).2 c5).1 c6).2 c8).2⟩⟩⟩⟩⟩⟩, fun c6 => (((((h1.2.2 c2).2 c3).2 c4).2 c5).2 c6)⟩⟩⟩⟩⟩)⟩)

theorem v_M_spoil_0 (d : Nat) (p1 p2 p3 : Int) (σ : am_S) (K : Int → am_S → Prop) (hF : MF σ) (hT : sI σ 31 26 = 0) (h :
  (-2147483648 ≤ (sI σ 31 76) - 1 ∧ (sI σ 31 76) - 1 < 2147483648) ∧
  ((p1 < 0 →
    K (-1001) σ) ∧
  (¬ (p1 < 0) →
    ((((sI σ 31 76) - 1) < p1 →
      K (-1001) σ) ∧
    (¬ (((sI σ 31 76) - 1) < p1) →
      ((p2 < 0 →
        K (-1001) σ) ∧
      (¬ (p2 < 0) →
        ((1 < p2 →
          K (-1001) σ) ∧
        (¬ (1 < p2) →
          ((p3 < (-200) →
            K (-1001) σ) ∧
          (¬ (p3 < (-200)) →
            ((20000 < p3 →
              K (-1001) σ) ∧
            (¬ (20000 < p3) →
              (((p2 = 0) → 0 ≤ p1) ∧ ((p2 = 0) → p1 < 600) ∧ (¬ (p2 = 0) → 0 ≤ p1) ∧ (¬ (p2 = 0) → p1 < 600)) ∧
              ((p2 = 0 →
                (0 ≤ p1 ∧ p1 < 600) ∧
                K (if p2 = 0 then (sI σ 81 (Int.toNat p1) : Int) else (sI σ 82 (Int.toNat p1))) (putI σ 81 (Int.toNat p1) p3)) ∧
              (¬ (p2 = 0) →
                (0 ≤ p1 ∧ p1 < 600) ∧
                K (if p2 = 0 then (sI σ 81 (Int.toNat p1) : Int) else (sI σ 82 (Int.toNat p1))) (putI σ 82 (Int.toNat p1) p3)))))))))))))))) : am_Runs PP MLL (d + 2) m_M_spoil 0 [some (qr (31, 12, 89)), some (qi p1), some (qi p2), some (qi p3), none] [] σ (kI K) := am_wEC_ok (orc [(15, 81, 20, 600), (20, 82, 20, 600)]) [23] 200 (⟨rfl, am_wEF_ok (orc []) 200 (⟨rfl, ⟨⟨h.1.1, h.1.2⟩, am_wEF_ok (orc []) 200 (⟨fun c1 => ⟨(Or.inl rfl), ⟨fun _ => ⟨(Or.inl rfl), ⟨fun _ => (h.2.1 c1), fun c => absurd (by decide : (0 : Int) = 0) c⟩⟩, fun c => absurd (by decide : (0 : Int) = 0) c⟩⟩, fun c1 => ⟨fun c2 => ⟨(Or.inl rfl), ⟨fun _ => ⟨(Or.inl rfl), ⟨fun _ => ((h.2.2 c1).1 c2), fun c => absurd (by decide : (0 : Int) = 0) c⟩⟩, fun c => absurd (by decide : (0 : Int) = 0) c⟩⟩, fun c2 => ⟨(Or.inr rfl), ⟨fun c => absurd c (by decide : ¬ ((1 : Int) = 0)), fun _ => am_wEF_ok (orc []) 200 (⟨fun c3 => ⟨(Or.inl rfl), ⟨fun _ => ⟨(Or.inl rfl), ⟨fun _ => (((h.2.2 c1).2 c2).1 c3), fun c => absurd (by decide : (0 : Int) = 0) c⟩⟩, fun c => absurd (by decide : (0 : Int) = 0) c⟩⟩, fun c3 => ⟨fun c4 => ⟨(Or.inl rfl), ⟨fun _ => ⟨(Or.inl rfl), ⟨fun _ => ((((h.2.2 c1).2 c2).2 c3).1 c4), fun c => absurd (by decide : (0 : Int) = 0) c⟩⟩, fun c => absurd (by decide : (0 : Int) = 0) c⟩⟩, fun c4 => ⟨(Or.inr rfl), ⟨fun c => absurd c (by decide : ¬ ((1 : Int) = 0)), fun _ => ⟨(Or.inr rfl), ⟨fun c => absurd c (by decide : ¬ ((1 : Int) = 0)), fun _ => am_wEF_ok (orc []) 200 (⟨fun c5 => ⟨(Or.inl rfl), ⟨fun _ => (((((h.2.2 c1).2 c2).2 c3).2 c4).1 c5), fun c => absurd (by decide : (0 : Int) = 0) c⟩⟩, fun c5 => ⟨fun c6 => ⟨(Or.inl rfl), ⟨fun _ => ((((((h.2.2 c1).2 c2).2 c3).2 c4).2 c5).1 c6), fun c => absurd (by decide : (0 : Int) = 0) c⟩⟩, fun c6 => ⟨(Or.inr rfl), ⟨fun c => absurd c (by decide : ¬ ((1 : Int) = 0)), fun _ => am_use (fun H10 => ⟨fun c7 => ⟨⟨rfl, (hF 79)⟩, ⟨⟨rfl, (((((((h.2.2 c1).2 c2).2 c3).2 c4).2 c5).2 c6).1.1 c7), (((((((h.2.2 c1).2 c2).2 c3).2 c4).2 c5).2 c6).1.2.1 c7)⟩, (Eq.mp (congrArg (fun z => am_Runs _ _ _ _ _ _ (qi z :: _) _ _) (if_pos c7 : (if p2 = 0 then (sI σ 81 (Int.toNat p1) : Int) else sI σ 82 (Int.toNat p1)) = sI σ 81 (Int.toNat p1))) H10)⟩⟩, fun c7 => ⟨⟨rfl, (hF 80)⟩, ⟨⟨rfl, (((((((h.2.2 c1).2 c2).2 c3).2 c4).2 c5).2 c6).1.2.2.1 c7), (((((((h.2.2 c1).2 c2).2 c3).2 c4).2 c5).2 c6).1.2.2.2 c7)⟩, (Eq.mp (congrArg (fun z => am_Runs _ _ _ _ _ _ (qi z :: _) _ _) (if_neg c7 : (if p2 = 0 then (sI σ 81 (Int.toNat p1) : Int) else sI σ 82 (Int.toNat p1)) = sI σ 82 (Int.toNat p1))) H10)⟩⟩⟩) (am_wEC_ok (orc [(27, 81, 20, 600), (33, 82, 20, 600)]) [23] 200 (⟨fun c9 => ⟨⟨rfl, (hF 79)⟩, ⟨⟨rfl, (((((((h.2.2 c1).2 c2).2 c3).2 c4).2 c5).2 c6).2.1 c9).1.1, (((((((h.2.2 c1).2 c2).2 c3).2 c4).2 c5).2 c6).2.1 c9).1.2⟩, (((((((h.2.2 c1).2 c2).2 c3).2 c4).2 c5).2 c6).2.1 c9).2⟩⟩, fun c9 => ⟨⟨rfl, (hF 80)⟩, ⟨⟨rfl, (((((((h.2.2 c1).2 c2).2 c3).2 c4).2 c5).2 c6).2.2 c9).1.1, (((((((h.2.2 c1).2 c2).2 c3).2 c4).2 c5).2 c6).2.2 c9).1.2⟩, (((((((h.2.2 c1).2 c2).2 c3).2 c4).2 c5).2 c6).2.2 c9).2⟩⟩⟩))⟩⟩⟩⟩)⟩⟩⟩⟩⟩⟩)⟩⟩⟩⟩)⟩⟩)⟩)

def SRb (σ : am_S) (own : Nat → Nat) (X : sX) (tr : Nat → Nat) (c0 : Nat → Int) (k0 n0 : Nat) : Prop := n0 ≤ 6 ∧ (sI σ 12 13 = 1 ∧ sI σ 12 16 = n0) ∧ (∀ m, m < n0 → ¬ can X m c0 k0) ∧ can X n0 c0 k0 ∧ TC X tr (tcl σ) n0 c0 k0 0 0 ∧ TV σ own (tsz X n0 c0 k0) ∧ sI σ 18 1 = tsz X n0 c0 k0 ∧ (sI σ 31 34 = 1 ∧ sI σ 31 35 = n0 ∧ sI σ 31 73 = tsz X n0 c0 k0 ∧ sI σ 31 60 = tsz X n0 c0 k0) ∧ RS σ X tr n0 c0 k0 0 0 0 ∧ hBT σ X n0 c0 k0 0 ∧ hNT σ X n0 c0 k0 0 0
def ROk (σ : am_S) (own : Nat → Nat) (n0 g w : Nat) (G W : List (Int × Int)) : Prop := (sI σ 12 17 = 1 ∧ sI σ 31 78 = 1 ∧ sI σ 31 59 = 0 ∧ 1 ≤ n0) ∧ RW σ own g w G W ∧ W.length ≤ 600 ∧ 1 ≤ W.length ∧ sI σ 31 77 = 1 ∧ RO σ W ∧ ∀ i, i < W.length → -100000 ≤ (W.getD i (0, 0)).2 ∧ (W.getD i (0, 0)).2 ≤ 100000
theorem IS_RO {σ : am_S} {own : Nat → Nat} {T n : Nat} (is : ISs σ own T n) (h : 0 < sI σ 31 76 ∨ sI σ 31 77 ≠ 0) : ∃ X ob nb tr c0 k0 aQ st n0 g w G W, SBs σ own T n X ob nb tr c0 k0 aQ st ∧ SRb σ own X tr c0 k0 n0 ∧ ROk σ own n0 g w G W := by
  rcases is with ⟨a1, a2, a3, a4, a5, a6, a7, a8, a9, a10⟩ | ⟨X, ob, nb, tr, c0, k0, aQ, st, hb, hr⟩
  · omega
  · rcases hr with ⟨A, c1, c2, c3, c4, c5, c6, c7, c8, c9⟩ | ⟨n0, q1, q2, q3, q4, q5, q6, q7, q8, q9, q10, q11, o⟩ | ⟨c1, c2⟩
    · omega
    · rcases o with ⟨d1, d2, d3, d4, _⟩ | ⟨d1, d2, d3, d4, g, w, G, W, d5, d6⟩
      · omega
      · rcases d6 with ⟨u1, u2, u3, u4, u5⟩ | ⟨u1, u2, u3⟩
        · exact ⟨X, ob, nb, tr, c0, k0, aQ, st, n0, g, w, G, W, hb, ⟨q1, q2, q3, q4, q5, q6, q7, q8, q9, q10, q11⟩, ⟨d1, d2, d3, d4⟩, d5, u1, u2, u3, u4, u5⟩
        · omega
    · omega
/-- where rows lie -/
theorem RO_in {σ : am_S} {own : Nat → Nat} {n0 g w : Nat} {G W : List (Int × Int)} (h : ROk σ own n0 g w G W) : sR σ 12 5 = some (w, 4, 3) ∧ sI σ w 2 = W.length ∧ sI σ 31 76 = W.length ∧ ∃ w0 m0 w1 m1, sR σ w 0 = some (w0, 20, m0) ∧ sR σ w 1 = some (w1, 20, m1) ∧ own w0 = w + 1 ∧ own w1 = w + 2 ∧ w0 < sN σ ∧ w1 < sN σ ∧ W.length ≤ m0 ∧ W.length ≤ m1 ∧ (∀ i, i < W.length → sI σ w0 i = sI σ 81 i ∧ sI σ w1 i = sI σ 82 i ∧ sI σ w0 i = (W.getD i (0, 0)).1 ∧ sI σ w1 i = (W.getD i (0, 0)).2) := by
  obtain ⟨_, ⟨r1, r2, r3, r4, r5, ⟨⟨a, n', b, m', h1, h2, h3, h4, h5, h6, h7, h8, h9, h10⟩, _⟩, r7⟩, l6, l1, s77, ro, bd⟩ := h
  refine ⟨r3, r7.1, ro.1, a, n', b, m', h1, h2, h3, h4, h5, h6, by omega, by omega, fun i hi => ?_⟩
  have z := r7.2 i hi (by omega)
  have y := ro.2.2 i hi
  unfold rNu rTo at z
  rw [h1, h2] at z
  simp only [rg_some] at z
  omega
theorem c_isRow (d : Nat) {β μ κ ρ : Nat → Nat} {me : Nat → Nat → Nat} {n aH nH aL nL aY nY aS nS T : Nat} {own : Nat → Nat} {σ : am_S} {K : Int → am_S → Prop} (hR : TR σ aH nH aL nL aY nY aS nS) (hB : BS σ β μ κ ρ me n) (is : ISs σ own T n) {p1 : Int} (h0 : p1 < 0 ∨ sI σ 31 76 ≤ p1 → K 0 σ) (h1 : 0 ≤ p1 → p1 < sI σ 31 76 → K 1 σ) : am_Calls PP MLL (d + 3) m_C_isRow [qr (2, 11, 10), qi p1] σ (kI K) := by
  refine v_C_isRow_0 d β μ κ ρ me aH nH aL nL aY nY aS nS n p1 σ K hR hB ⟨fun q => h0 (Or.inl q), fun q => c_rowsShown d hR hB is ⟨⟨hR, hB⟩, ?_⟩⟩
  by_cases e : sI σ 31 76 ≤ p1
  · rw [if_pos e]
    exact ⟨Or.inl rfl, h0 (Or.inr e)⟩
  · rw [if_neg e]
    exact ⟨Or.inr rfl, h1 (by omega) (by omega)⟩
theorem IS_76 {σ : am_S} {own : Nat → Nat} {T n : Nat} (is : ISs σ own T n) : 0 ≤ sI σ 31 76 ∧ sI σ 31 76 ≤ 600 := by
  by_cases h : 0 < sI σ 31 76
  · obtain ⟨X, ob, nb, tr, c0, k0, aQ, st, n0, g, w, G, W, hb, hr, ho⟩ := IS_RO is (Or.inl h)
    have := (RO_in ho).2.2.1
    have := ho.2.2.1
    omega
  · rcases IS_rows is with ⟨_, q⟩ | ⟨_, q, _⟩ | ⟨_, _, _, ⟨_, q⟩ | ⟨_, w, q1, ⟨q2, q3⟩ | ⟨q2, q3⟩⟩⟩
    · omega
    · omega
    · omega
    · rcases is with ⟨a1, a2, a3, a4, a5, a6, a7, a8, a9, a10⟩ | ⟨X, ob, nb, tr, c0, k0, aQ, st, hb, hr⟩
      · omega
      · rcases hr with ⟨A, c1, c2, c3, c4, c5, c6, c7, c8, c9⟩ | ⟨n0, _, _, _, _, _, _, _, _, _, _, _, o⟩ | ⟨c1, c2⟩
        · omega
        · rcases o with ⟨d1, d2, d3, d4, _⟩ | ⟨d1, d2, d3, d4, g, w, G, W, d5, d6⟩
          · omega
          · rcases d6 with ⟨u1, u2, u3, u4, u5⟩ | ⟨u1, u2, u3⟩
            · have := u4.1
              omega
            · omega
        · omega
    · omega
theorem p_row (d : Nat) {xs : Nat → Int} {c : Nat} {σ : am_S} {p1 p2 : Int} (hI : INV xs σ c) (hc : c + 1 ≤ 600) : PR d xs m_C_row m_M_row [qi p1, qi p2] σ c := by
  have hs := INV_s hI hc
  obtain ⟨own, β, μ, κ, ρ, me, n, aH, nH, aL, nL, aY, nY, aS, nS, N, l, m, T, W, kd, aR, nR, aV, nV, aI, nI, aQ, nQ, g, w, hx⟩ := hI
  have hx0 := hx
  obtain ⟨⟨hF, hab, hxs⟩, it, il, ib, im, ij, sc, rz, is, ir, hc6⟩ := hx
  have it0 := it
  obtain ⟨hR, ow, ti, kt, ks, ⟨w1, w2, w3, w4, w5, w6, w7, w8⟩, ⟨l1, l2, l3, l4⟩, lz, ⟨q1, q2, q3, q4⟩, h87⟩ := it
  have o1 := ow.1
  have ib0 := ib
  obtain ⟨a1, a2, a3, ⟨n12, a4, a5⟩, bd, a6, a7, a8, a9, a10⟩ := ib
  obtain ⟨m1, ⟨m2, T26⟩, m3, m4, m5, m6⟩ := im
  have tN := ti.2.2.2.2.1
  have tT := ti.2.2.2.2.2.2.1
  have T4 := ti.2.2.2.2.2.2.2.2.1
  have h76 := IS_76 is
  have bad : ((p1 < 0 ∨ sI σ 31 76 ≤ p1) ∨ p2 < 0 ∨ 1 < p2) → am_Calls PP MLL (d + 30) m_M_row [qr (31, 12, 89), qi p1, qi p2] σ (kI fun y t => -1001 = y ∧ INV xs t (c + 1)) := by
    intro hp
    exact v_M_row_0 (d + 27) p1 p2 σ _ hF T26 ⟨by omega, fun c1 => ⟨rfl, hs⟩, fun c1 => ⟨fun c2 => ⟨rfl, hs⟩, fun c2 => ⟨fun c3 => ⟨rfl, hs⟩, fun c3 => ⟨fun c4 => ⟨rfl, hs⟩, fun c4 => by omega⟩⟩⟩⟩
  refine v_C_row_0 (d + 26) β μ κ ρ me aH nH aL nL aY nY aS nS n p1 p2 σ _ hR a1 (c_isRow (d + 26) hR a1 is (fun q => ⟨⟨hR, a1⟩, fun _ => ⟨hxs, bad (by omega)⟩, fun q => absurd rfl q⟩) (fun g1 g2 => ⟨⟨hR, a1⟩, fun q => absurd q (by decide), fun _ => ⟨fun c3 => ⟨hxs, bad (by omega)⟩, fun c3 => ⟨fun c4 => ?_, fun c4 => ⟨hxs, bad (by omega)⟩⟩⟩⟩))
  obtain ⟨X, ob, nb, tr, c0, k0, aQ', st, n0, g', w', G, W', hb, hr, ho⟩ := IS_RO is (Or.inl (by omega))
  obtain ⟨e5, e2, e76, w0, m0, w1', m1', y1, y2, y3, y4, y5, y6, y7, y8, y9⟩ := RO_in ho
  have yy := y9 p1.toNat (by omega)
  rw [e5, rg_some]
  show ((_ → _) ∧ (p2 = 0 → (rg (sR σ w' 0)).2.1 = 20) ∧ _ ∧ (p2 = 0 → p1 < (((rg (sR σ w' 0)).2.2 : Nat) : Int)) ∧ _ ∧ (¬ p2 = 0 → (rg (sR σ w' 1)).2.1 = 20) ∧ _ ∧ (¬ p2 = 0 → p1 < (((rg (sR σ w' 1)).2.2 : Nat) : Int))) ∧ (sI σ 0 = xs ∧ am_Calls PP MLL (d + 30) m_M_row [qr (31, 12, 89), qi p1, qi p2] σ (kI fun y t => (if p2 = 0 then (sI σ ((rg (sR σ w' 0)).1) (Int.toNat p1) : Int) else (sI σ ((rg (sR σ w' 1)).1) (Int.toNat p1))) = y ∧ INV xs t (c + 1)))
  rw [y1, y2, rg_some, rg_some]
  refine ⟨⟨fun _ => rfl, fun _ => rfl, fun _ => g1, fun _ => by show p1 < ((m0 : Nat) : Int); omega, fun _ => rfl, fun _ => rfl, fun _ => g1, fun _ => by show p1 < ((m1' : Nat) : Int); omega⟩, hxs, ?_⟩
  refine v_M_row_0 (d + 27) p1 p2 σ _ hF T26 ⟨by omega, fun c1 => by omega, fun c1 => ⟨fun c2 => by omega, fun c2 => ⟨fun c3 => by omega, fun c3 => ⟨fun c4 => by omega, fun c4 => ⟨⟨fun _ => by omega, fun _ => by omega, fun _ => by omega, fun _ => by omega⟩, ?_, hs⟩⟩⟩⟩⟩
  show (if p2 = 0 then sI σ w0 p1.toNat else sI σ w1' p1.toNat) = _
  rw [yy.1, yy.2.1]
