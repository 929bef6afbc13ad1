/-! the reference: records become a tree, the way down -/
/-- the children of a record are numbered -/
theorem b_num (d : Nat) {r a m U i : Nat} {t : Nat → Nat} {K : am_S → Prop} (hr6 : r < 6000) (hm : m ≤ 3) (hU : U ≤ m + 4) (ha : a + sN' t U ≤ r) (hi : i + 1 + sN' t U ≤ 6000) : ∀ (q o : Nat) {σ : am_S}, o + q = 7 → MF σ → sI σ 31 26 = 0 → (∀ u, u < U → sI σ 77 (7 * r + (u + 3 - m)) = if t u = 0 then -1 else ((a + sN' t (u + 1) - 1 : Nat) : Int)) → (∀ o, o < 7 → (∀ u, u < U → o ≠ u + 3 - m) → sI σ 77 (7 * r + o) = -1) → (∀ u, u < U → ¬ t u = 0 → sI σ 74 (a + sN' t (u + 1) - 1) = t u) → (∀ s, s.2 = σ.2 → (∀ x, x ≠ 75 → sI s x = sI σ x) → (∀ j, (∀ u, u < U → o ≤ u + 3 - m → ¬ t u = 0 → j ≠ a + sN' t (u + 1) - 1) → sI s 75 j = sI σ 75 j) → (∀ u, u < U → o ≤ u + 3 - m → ¬ t u = 0 → sI s 75 (a + sN' t (u + 1) - 1) = ((i + 1 + sN' t u : Nat) : Int)) → bR d 123 ((r : Int) + -1) s K) → ∀ z4, am_Runs PP MLL d m_M_build 142 [some (qr (31, 12, 89)), some (qi (r : Int)), some (qi ((i + 1 + sN' t (min (o + m - 3) U) : Nat) : Int)), some (qi (o : Int)), z4] [] σ (kV K)
  | 0, o, σ, ho, hF, hT, h77, h7, h74, k => by
    intro z4
    refine v_M_build_142 d (r : Int) _ (o : Int) z4 σ K hF hT ⟨fun _ => ⟨by omega, ?_⟩, fun c => absurd (by omega) c⟩
    exact k σ rfl (fun _ _ => rfl) (fun _ _ => rfl) (fun u hu h' _ => by omega) _ _ _
  | q + 1, o, σ, ho, hF, hT, h77, h7, h74, k => by
    intro z4
    refine v_M_build_142 d (r : Int) _ (o : Int) z4 σ K hF hT ⟨fun c => absurd c (by omega), fun _ => ⟨by omega, ?_⟩⟩
    rw [show 7 * (r : Int) + (o : Int) = ((7 * r + o : Nat) : Int) by omega, Int.toNat_natCast, show (o : Int) + 1 = ((o + 1 : Nat) : Int) by omega]
    by_cases hx : ∃ u, u < U ∧ o = u + 3 - m
    · obtain ⟨u, hu, eo⟩ := hx
      have e7 := h77 u hu
      rw [← eo] at e7
      have e1 : min (o + m - 3) U = u := by omega
      have e2 : min (o + 1 + m - 3) U = u + 1 := by omega
      have es : sN' t (u + 1) = sN' t u + t u := rfl
      have eU : sN' t (u + 1) ≤ sN' t U := sN'_mono (by omega)
      by_cases z : t u = 0
      · rw [if_pos z] at e7
        rw [e7]
        refine ⟨fun _ => ⟨by omega, ?_⟩, fun c => absurd (by decide) c⟩
        rw [e1, show i + 1 + sN' t u = i + 1 + sN' t (min (o + 1 + m - 3) U) by rw [e2]; omega]
        exact b_num d hr6 hm hU ha hi q (o + 1) (by omega) hF hT h77 h7 h74 (fun s s1 s2 s3 s4 => k s s1 s2 (fun j hj => s3 j (fun u' hu' ho' ht' => hj u' hu' (by omega) ht')) (fun u' hu' ho' ht' => s4 u' hu' (by have : u' ≠ u := (fun e => ht' (by rw [e]; exact z)); omega) ht')) _
      · rw [if_neg z] at e7
        rw [e7]
        have e74 := h74 u hu z
        obtain ⟨p, ep⟩ : ∃ p, p = a + sN' t (u + 1) - 1 := ⟨_, rfl⟩
        rw [← ep] at e74 ⊢
        rw [Int.toNat_natCast, e74]
        refine ⟨fun c => absurd c (by omega), fun _ => ⟨by rw [e1]; omega, ?_⟩⟩
        rw [e1, show ((i + 1 + sN' t u : Nat) : Int) + (t u : Int) = ((i + 1 + sN' t (min (o + 1 + m - 3) U) : Nat) : Int) by rw [e2, es]; omega]
        obtain ⟨Z, eZ⟩ : ∃ Z, Z = putI σ 75 p ((i + 1 + sN' t u : Nat) : Int) := ⟨_, rfl⟩
        rw [← eZ]
        have Z2 : Z.2 = σ.2 := by rw [eZ]; rfl
        have Zo : ∀ x, x ≠ 75 → sI Z x = sI σ x := fun x hx => by rw [eZ, put_ne hx]
        have Z75 : ∀ j, sI Z 75 j = if j = p then ((i + 1 + sN' t u : Nat) : Int) else sI σ 75 j := fun j => by rw [eZ, put_at]
        refine b_num d hr6 hm hU ha hi q (o + 1) (by omega) (MF_I hF Z2) (by rw [Zo 31 (by decide)]; exact hT) (by rw [Zo 77 (by decide)]; exact h77) (by rw [Zo 77 (by decide)]; exact h7) (by rw [Zo 74 (by decide)]; exact h74) (fun s s1 s2 s3 s4 => k s (s1.trans Z2) (fun x hx => by rw [s2 x hx, Zo x hx]) (fun j hj => ?_) (fun u' hu' ho' ht' => ?_)) _
        · rw [s3 j (fun u' hu' ho' ht' => hj u' hu' (by omega) ht'), Z75, if_neg (by rw [ep]; exact hj u hu (by omega) z)]
        · by_cases e : u' = u
          · subst e
            rw [← ep, s3 p (fun v hv ho2 ht2 => ?_), Z75, if_pos rfl]
            have ev : sN' t (v + 1) = sN' t v + t v := rfl
            have : sN' t (u' + 1) ≤ sN' t v := sN'_mono (by omega)
            omega
          · exact s4 u' hu' (by omega) ht'
    · have e7 := h7 o (by omega) (fun u hu e => hx ⟨u, hu, e⟩)
      rw [e7]
      refine ⟨fun _ => ⟨by omega, ?_⟩, fun c => absurd (by decide) c⟩
      have e1 : min (o + m - 3) U = min (o + 1 + m - 3) U := by
        by_cases g : o + m < 3
        · omega
        · have : ¬ o + m - 3 < U := fun q => hx ⟨o + m - 3, q, by omega⟩
          omega
      rw [e1]
      refine b_num d hr6 hm hU ha hi q (o + 1) (by omega) hF hT h77 h7 h74 (fun s s1 s2 s3 s4 => k s s1 s2 (fun j hj => s3 j (fun u' hu' ho' ht' => hj u' hu' (by omega) ht')) (fun u' hu' ho' ht' => s4 u' hu' ?_ ht')) _
      have : o ≠ u' + 3 - m := fun e => hx ⟨u', hu', e⟩
      omega
/-- the numbers of a tree of records -/
def hNT (s : am_S) (X : sX) : Nat → (Nat → Int) → Nat → Nat → Nat → Prop
  | 0, _, _, a, i => sI s 75 a = i ∧ sI s 78 i = a
  | n + 1, c, k, a, i => (mn X c < 2 ∧ sI s 75 a = i ∧ sI s 78 i = a) ∨ (¬ mn X c < 2 ∧ sI s 75 (a + tof X n c k (wAt X c (yj X n c k)) (oc X k)) = i ∧ sI s 78 i = ((a + tof X n c k (wAt X c (yj X n c k)) (oc X k) : Nat) : Int) ∧ ∀ u, u < oc X k → mn X (chd X c k (wAt X c (yj X n c k)) u) ≤ 0 ∨ hNT s X n (chd X c k (wAt X c (yj X n c k)) u) (k + 1) (a + tof X n c k (wAt X c (yj X n c k)) (u)) (i + 1 + tof X n c k (wAt X c (yj X n c k)) (u)))
theorem hNT_fr {σ s : am_S} {X : sX} : ∀ n (c : Nat → Int) k a i, ¬ mn X c ≤ 0 → (∀ j, a ≤ j → j < a + tsz X n c k → sI s 75 j = sI σ 75 j) → (∀ j, i ≤ j → j < i + tsz X n c k → sI s 78 j = sI σ 78 j) → hNT σ X n c k a i → hNT s X n c k a i
  | 0, c, k, a, i, hm, h1, h2, h => by
    rw [tsz_z hm] at h1 h2
    exact ⟨by rw [h1 a (by omega) (by omega)]; exact h.1, by rw [h2 i (by omega) (by omega)]; exact h.2⟩
  | n + 1, c, k, a, i, hm, h1, h2, h => by
    rcases h with ⟨q1, q2, q3⟩ | ⟨q1, q2, q3, q4⟩
    · rw [tsz_1 hm q1] at h1 h2
      exact Or.inl ⟨q1, by rw [h1 a (by omega) (by omega)]; exact q2, by rw [h2 i (by omega) (by omega)]; exact q3⟩
    · rw [tsz_s q1] at h1 h2
      refine Or.inr ⟨q1, by rw [h1 _ (by omega) (by omega)]; exact q2, by rw [h2 i (by omega) (by omega)]; exact q3, fun u hu => ?_⟩
      rcases q4 u hu with w | w
      · exact Or.inl w
      · by_cases w0 : mn X (chd X c k (wAt X c (yj X n c k)) u) ≤ 0
        · exact Or.inl w0
        · have m1 := tof_s X n c k (wAt X c (yj X n c k)) u
          have m2 : tof X n c k (wAt X c (yj X n c k)) (u + 1) ≤ tof X n c k (wAt X c (yj X n c k)) (oc X k) := sN'_mono (by omega)
          exact Or.inr (hNT_fr n _ _ _ _ w0 (fun j j1 j2 => h1 j (by omega) (by omega)) (fun j j1 j2 => h2 j (by omega) (by omega)) w)
theorem hBT_rt {σ : am_S} {X : sX} : ∀ n (c : Nat → Int) k a, ¬ mn X c ≤ 0 → hBT σ X n c k a → sI σ 74 (a + tsz X n c k - 1) = tsz X n c k
  | 0, c, k, a, hm, h => by
    rw [tsz_z hm]
    exact h.1
  | n + 1, c, k, a, hm, h => by
    rcases h with ⟨q1, q2, q3⟩ | ⟨q1, q2, q3, q4⟩
    · rw [tsz_1 hm q1]
      exact q2
    · rw [tsz_s q1, show a + (1 + tof X n c k (wAt X c (yj X n c k)) (oc X k)) - 1 = a + tof X n c k (wAt X c (yj X n c k)) (oc X k) by omega]
      exact q2
def hNF (σ s : am_S) (a e i e' : Nat) : Prop := s.2 = σ.2 ∧ (∀ x, x ≠ 75 → x ≠ 78 → sI s x = sI σ x) ∧ (∀ j, (j < a ∨ e ≤ j) → sI s 75 j = sI σ 75 j) ∧ ∀ j, (j < i ∨ e' ≤ j) → sI s 78 j = sI σ 78 j
theorem b_leaf2 (d : Nat) {a i : Nat} {σ : am_S} {K : am_S → Prop} (hF : MF σ) (hT : sI σ 31 26 = 0) (ha : a < 6000) (hi : i < 6000) (h75 : sI σ 75 a = i) (h77 : ∀ o, o < 7 → sI σ 77 (7 * a + o) = -1) (k : ∀ s, hNF σ s a (a + 1) i (i + 1) → (sI s 75 a = i ∧ sI s 78 i = a) → bR d 123 ((a : Int) + -1) s K) : bR d 123 (a : Int) σ K := by
  intro z2 z3 z4
  refine v_M_build_123 d (a : Int) z2 z3 z4 σ K hF hT ⟨fun c => absurd c (by omega), fun _ => ?_⟩
  rw [Int.toNat_natCast, h75, Int.toNat_natCast]
  refine ⟨by omega, ?_⟩
  obtain ⟨Z, eZ⟩ : ∃ Z, Z = putI σ 78 i (a : Int) := ⟨_, rfl⟩
  rw [← eZ]
  have Z2 : Z.2 = σ.2 := by rw [eZ]; rfl
  have Zo : ∀ x, x ≠ 78 → sI Z x = sI σ x := fun x hx => by rw [eZ, put_ne hx]
  have Z78 : ∀ j, sI Z 78 j = if j = i then (a : Int) else sI σ 78 j := fun j => by rw [eZ, put_at]
  refine b_num d (r := a) (a := 0) (m := 3) (U := 0) (i := i) (t := fun _ => 0) ha (by decide) (by decide) (Nat.zero_le _) (by show i + 1 + 0 ≤ 6000; omega) 7 0 (by omega) (MF_I hF Z2) (by rw [Zo 31 (by decide)]; exact hT) (fun u hu => absurd hu (Nat.not_lt_zero u)) (fun o ho _ => by rw [Zo 77 (by decide)]; exact h77 o ho) (fun u hu => absurd hu (Nat.not_lt_zero u)) (fun s s1 s2 s3 s4 => ?_) _
  have s75 : ∀ j, sI s 75 j = sI σ 75 j := fun j => by rw [s3 j (fun u hu => absurd hu (Nat.not_lt_zero u)), Zo 75 (by decide)]
  refine k s ⟨s1.trans Z2, fun x x1 x2 => by rw [s2 x x1, Zo x x2], fun j _ => s75 j, fun j hj => by rw [s2 78 (by decide), Z78, if_neg (by omega)]⟩ ⟨by rw [s75]; exact h75, by rw [s2 78 (by decide), Z78, if_pos rfl]⟩
theorem b_tree2 (d : Nat) {X : sX} : ∀ (n : Nat) (c : Nat → Int) (k a i : Nat) {σ : am_S} {K : am_S → Prop}, MF σ → sI σ 31 26 = 0 → ¬ mn X c ≤ 0 → hBT σ X n c k a → a + tsz X n c k ≤ 6000 → i + tsz X n c k ≤ 6000 → sI σ 75 (a + tsz X n c k - 1) = i → (∀ s, hNF σ s a (a + tsz X n c k) i (i + tsz X n c k) → hNT s X n c k a i → bR d 123 ((a : Int) + -1) s K) → bR d 123 ((a + tsz X n c k - 1 : Nat) : Int) σ K
  | 0, c, k, a, i, σ, K, hF, hT, hm, hB, ha, hi, h75, kk => by
    rw [tsz_z hm] at *
    exact b_leaf2 d hF hT (by omega) (by omega) h75 hB.2 (fun s q1 q2 => kk s q1 q2)
  | n + 1, c, k, a, i, σ, K, hF, hT, hm, hB, ha, hi, h75, kk => by
    rcases hB with ⟨q1, q2, q3⟩ | ⟨q1, q2, q3, q4⟩
    · rw [tsz_1 hm q1] at *
      exact b_leaf2 d hF hT (by omega) (by omega) h75 q3 (fun s p1 p2 => kk s p1 (Or.inl ⟨q1, p2⟩))
    · rw [tsz_s q1] at *
      obtain ⟨mm1, mm2, mm3, mm4⟩ := mo_n X k
      obtain ⟨t, et⟩ : ∃ t : Nat → Nat, t = fun u => tsz X n (chd X c k (wAt X c (yj X n c k)) u) (k + 1) := ⟨_, rfl⟩
      have tt : ∀ U, sN' t U = tof X n c k (wAt X c (yj X n c k)) (U) := fun U => by rw [et]; rfl
      have tu : ∀ u, t u = tsz X n (chd X c k (wAt X c (yj X n c k)) u) (k + 1) := fun u => by rw [et]
      rw [show a + (1 + tof X n c k (wAt X c (yj X n c k)) (oc X k)) - 1 = a + tof X n c k (wAt X c (yj X n c k)) (oc X k) by omega] at h75 ⊢
      obtain ⟨r, er⟩ : ∃ r, r = a + tof X n c k (wAt X c (yj X n c k)) (oc X k) := ⟨_, rfl⟩
      rw [← er] at h75 q2 q3 q4 ⊢
      have D : ∀ U, U ≤ oc X k → ∀ s, hNF σ s a (r + 1) i (i + 1 + tof X n c k (wAt X c (yj X n c k)) (oc X k)) → sI s 75 r = i → sI s 78 i = (r : Int) → (∀ u, u < U → ¬ mn X (chd X c k (wAt X c (yj X n c k)) u) ≤ 0 → sI s 75 (a + tof X n c k (wAt X c (yj X n c k)) (u + 1) - 1) = ((i + 1 + tof X n c k (wAt X c (yj X n c k)) (u) : Nat) : Int)) → (∀ u, U ≤ u → u < oc X k → mn X (chd X c k (wAt X c (yj X n c k)) u) ≤ 0 ∨ hNT s X n (chd X c k (wAt X c (yj X n c k)) u) (k + 1) (a + tof X n c k (wAt X c (yj X n c k)) (u)) (i + 1 + tof X n c k (wAt X c (yj X n c k)) (u))) → bR d 123 (((a + tof X n c k (wAt X c (yj X n c k)) (U) : Nat) : Int) + -1) s K := by
        intro U
        induction U with
        | zero =>
          intro _ s f1 f2 f3 f4 f5
          rw [show a + (1 + tof X n c k (wAt X c (yj X n c k)) (oc X k)) = r + 1 by omega, show i + (1 + tof X n c k (wAt X c (yj X n c k)) (oc X k)) = i + 1 + tof X n c k (wAt X c (yj X n c k)) (oc X k) by omega] at kk
          exact kk s f1 (Or.inr ⟨q1, by rw [← er]; exact f2, by rw [← er]; exact f3, fun u hu => f5 u (Nat.zero_le _) hu⟩)
        | succ U ih =>
          intro hU s f1 f2 f3 f4 f5
          have e1 := tof_s X n c k (wAt X c (yj X n c k)) U
          have m2 : tof X n c k (wAt X c (yj X n c k)) (U + 1) ≤ tof X n c k (wAt X c (yj X n c k)) (oc X k) := sN'_mono (by omega)
          by_cases m0 : mn X (chd X c k (wAt X c (yj X n c k)) U) ≤ 0
          · have z := tsz_0 (n := n) (k := k + 1) m0
            rw [show tof X n c k (wAt X c (yj X n c k)) (U + 1) = tof X n c k (wAt X c (yj X n c k)) (U) by omega]
            refine ih (by omega) s f1 f2 f3 (fun u hu => f4 u (by omega)) (fun u u1 u2 => ?_)
            by_cases e : u = U
            · rw [e]; exact Or.inl m0
            · exact f5 u (by omega) u2
          · obtain ⟨g1, g2, g3, g4⟩ := f1
            have hz := tsz_p (n := n) (k := k + 1) m0
            have b0 : hBT σ X n (chd X c k (wAt X c (yj X n c k)) U) (k + 1) (a + tof X n c k (wAt X c (yj X n c k)) (U)) := by
              rcases q4 U (by omega) with ⟨w, _⟩ | ⟨_, _, w⟩
              · exact absurd w m0
              · exact w
            have b1 : hBT s X n (chd X c k (wAt X c (yj X n c k)) U) (k + 1) (a + tof X n c k (wAt X c (yj X n c k)) (U)) := hBT_fr n _ _ _ m0 (fun j _ _ => by rw [g2 74 (by decide) (by decide)]) (fun j _ _ => by rw [g2 77 (by decide) (by decide)]) b0
            have y := f4 U (by omega) m0
            rw [show ((a + tof X n c k (wAt X c (yj X n c k)) (U + 1) : Nat) : Int) + -1 = ((a + tof X n c k (wAt X c (yj X n c k)) (U) + tsz X n (chd X c k (wAt X c (yj X n c k)) U) (k + 1) - 1 : Nat) : Int) by omega]
            refine b_tree2 d n (chd X c k (wAt X c (yj X n c k)) U) (k + 1) (a + tof X n c k (wAt X c (yj X n c k)) (U)) (i + 1 + tof X n c k (wAt X c (yj X n c k)) (U)) (MF_I hF g1) (by rw [g2 31 (by decide) (by decide)]; exact hT) m0 b1 (by omega) (by omega) (by rw [show a + tof X n c k (wAt X c (yj X n c k)) (U) + tsz X n (chd X c k (wAt X c (yj X n c k)) U) (k + 1) - 1 = a + tof X n c k (wAt X c (yj X n c k)) (U + 1) - 1 by omega]; exact y) (fun s' h1 h2 => ?_)
            obtain ⟨c1, c2, c3, c4⟩ := h1
            refine ih (by omega) s' ⟨c1.trans g1, fun x x1 x2 => by rw [c2 x x1 x2, g2 x x1 x2], fun j hj => by rw [c3 j (by omega), g3 j (by omega)], fun j hj => by rw [c4 j (by omega), g4 j (by omega)]⟩ (by rw [c3 r (by omega)]; exact f2) (by rw [c4 i (by omega)]; exact f3) (fun u hu w0 => ?_) (fun u u1 u2 => ?_)
            · have n1 := tof_s X n c k (wAt X c (yj X n c k)) u
              have n2 : tof X n c k (wAt X c (yj X n c k)) (u + 1) ≤ tof X n c k (wAt X c (yj X n c k)) (U) := sN'_mono (by omega)
              have n3 := tsz_p (n := n) (k := k + 1) w0
              rw [c3 _ (by omega)]
              exact f4 u (by omega) w0
            · by_cases e : u = U
              · rw [e]; exact Or.inr h2
              · rcases f5 u (by omega) u2 with w | w
                · exact Or.inl w
                · by_cases w0 : mn X (chd X c k (wAt X c (yj X n c k)) u) ≤ 0
                  · exact Or.inl w0
                  · have n2 : tof X n c k (wAt X c (yj X n c k)) (U + 1) ≤ tof X n c k (wAt X c (yj X n c k)) (u) := sN'_mono (by omega)
                    exact Or.inr (hNT_fr n _ _ _ _ w0 (fun j j1 j2 => c3 j (by omega)) (fun j j1 j2 => c4 j (by omega)) w)
      intro z2 z3 z4
      refine v_M_build_123 d (r : Int) z2 z3 z4 σ K hF hT ⟨fun c => absurd c (by omega), fun _ => ?_⟩
      rw [Int.toNat_natCast, h75, Int.toNat_natCast]
      refine ⟨by omega, ?_⟩
      obtain ⟨Z, eZ⟩ : ∃ Z, Z = putI σ 78 i (r : Int) := ⟨_, rfl⟩
      rw [← eZ]
      have Z2 : Z.2 = σ.2 := by rw [eZ]; rfl
      have Zo : ∀ x, x ≠ 78 → sI Z x = sI σ x := fun x hx => by rw [eZ, put_ne hx]
      have Z78 : ∀ j, sI Z 78 j = if j = i then (r : Int) else sI σ 78 j := fun j => by rw [eZ, put_at]
      have i0 : ((i : Int) + 1) = ((i + 1 + sN' t (min (0 + (mo (xK X k)).toNat - 3) (oc X k)) : Nat) : Int) := by
        rw [show min (0 + (mo (xK X k)).toNat - 3) (oc X k) = 0 by omega]
        rfl
      rw [i0]
      refine b_num d (r := r) (a := a) (m := (mo (xK X k)).toNat) (U := oc X k) (i := i) (t := t) (by omega) mm1 mm2 (by rw [tt]; omega) (by rw [tt]; omega) 7 0 (by omega) (MF_I hF Z2) (by rw [Zo 31 (by decide)]; exact hT) (fun u hu => ?_) (fun o ho hn => by rw [Zo 77 (by decide)]; exact q3 o ho hn) (fun u hu ht => ?_) (fun s s1 s2 s3 s4 => ?_) _
      · rw [Zo 77 (by decide), tu, tt]
        rcases q4 u hu with ⟨w1, w2⟩ | ⟨w1, w2, w3⟩
        · rw [if_pos (tsz_0 w1)]
          exact w2
        · have hz := tsz_p (n := n) (k := k + 1) w1
          rw [if_neg (by omega)]
          exact w2
      · rw [tu] at ht
        rw [Zo 74 (by decide), tu, tt]
        rcases q4 u hu with ⟨w1, w2⟩ | ⟨w1, w2, w3⟩
        · exact absurd (tsz_0 w1) ht
        · have n1 := tof_s X n c k (wAt X c (yj X n c k)) u
          have := hBT_rt n _ _ _ w1 w3
          rw [show a + tof X n c k (wAt X c (yj X n c k)) (u + 1) - 1 = a + tof X n c k (wAt X c (yj X n c k)) (u) + tsz X n (chd X c k (wAt X c (yj X n c k)) u) (k + 1) - 1 by omega]
          exact this
      · rw [er]
        refine D (oc X k) (Nat.le_refl _) s ⟨s1.trans Z2, fun x x1 x2 => by rw [s2 x x1, Zo x x2], fun j hj => ?_, fun j hj => by rw [s2 78 (by decide), Z78, if_neg (by omega)]⟩ ?_ (by rw [s2 78 (by decide), Z78, if_pos rfl]) (fun u hu w0 => ?_) (fun u u1 u2 => by omega)
        · rw [s3 j (fun u hu _ ht => ?_), Zo 75 (by decide)]
          rw [tt]
          rw [tu] at ht
          have n1 := tof_s X n c k (wAt X c (yj X n c k)) u
          have n2 : tof X n c k (wAt X c (yj X n c k)) (u + 1) ≤ tof X n c k (wAt X c (yj X n c k)) (oc X k) := sN'_mono (by omega)
          omega
        · rw [s3 r (fun u hu _ ht => ?_), Zo 75 (by decide)]
          · exact h75
          · rw [tt]
            rw [tu] at ht
            have n1 := tof_s X n c k (wAt X c (yj X n c k)) u
            have n2 : tof X n c k (wAt X c (yj X n c k)) (u + 1) ≤ tof X n c k (wAt X c (yj X n c k)) (oc X k) := sN'_mono (by omega)
            omega
        · have hz := tsz_p (n := n) (k := k + 1) w0
          have := s4 u hu (Nat.zero_le _) (by rw [tu]; omega)
          rw [tt, tt] at this
          exact this
/-- the heads are cleared -/
theorem b_hd (d : Nat) {K : am_S → Prop} : ∀ (q o : Nat) {σ : am_S}, o + q = 8 → MF σ → sI σ 31 26 = 0 → (∀ s, s.2 = σ.2 → (∀ x, x ≠ 80 → sI s x = sI σ x) → (∀ j, o ≤ j → j < 8 → sI s 80 j = -1) → (∀ j, j < o → sI s 80 j = sI σ 80 j) → bR d 14 0 s K) → bR d 2 (o : Int) σ K
  | 0, o, σ, ho, hF, hT, k => by
    intro z2 z3 z4
    refine v_M_build_2 d (o : Int) z2 z3 z4 σ K hF hT ⟨fun _ => ?_, fun c => absurd (by omega) c⟩
    exact k σ rfl (fun _ _ => rfl) (fun j j1 j2 => by omega) (fun _ _ => rfl) _ _ _
  | q + 1, o, σ, ho, hF, hT, k => by
    intro z2 z3 z4
    refine v_M_build_2 d (o : Int) z2 z3 z4 σ K hF hT ⟨fun c => absurd c (by omega), fun _ => ⟨by omega, ?_⟩⟩
    rw [Int.toNat_natCast, show (o : Int) + 1 = ((o + 1 : Nat) : Int) by omega]
    obtain ⟨Z, eZ⟩ : ∃ Z, Z = putI σ 80 o (-1) := ⟨_, rfl⟩
    rw [← eZ]
    have Z2 : Z.2 = σ.2 := by rw [eZ]; rfl
    have Zo : ∀ x, x ≠ 80 → sI Z x = sI σ x := fun x hx => by rw [eZ, put_ne hx]
    have Z80 : ∀ j, sI Z 80 j = if j = o then -1 else sI σ 80 j := fun j => by rw [eZ, put_at]
    refine b_hd d q (o + 1) (by omega) (MF_I hF Z2) (by rw [Zo 31 (by decide)]; exact hT) (fun s s1 s2 s3 s4 => k s (s1.trans Z2) (fun x hx => by rw [s2 x hx, Zo x hx]) (fun j j1 j2 => ?_) (fun j hj => by rw [s4 j (by omega), Z80, if_neg (by omega)])) _ _ _
    by_cases e : j = o
    · rw [e, s4 o (by omega), Z80, if_pos rfl]
    · exact s3 j (by omega) j2
def BLD (σ s : am_S) (X : sX) (n0 : Nat) (c0 : Nat → Int) (k0 : Nat) : Prop := s.2 = σ.2 ∧ (∀ x, (x < 74 ∨ 80 < x) → x ≠ 31 → sI s x = sI σ x) ∧ (∀ j, j ≠ 73 → sI s 31 j = sI σ 31 j) ∧ sI s 79 = sI σ 79 ∧ sI s 31 73 = tsz X n0 c0 k0 ∧ hBT s X n0 c0 k0 0 ∧ hNT s X n0 c0 k0 0 0
theorem c_M_build (d : Nat) {X : sX} {tr : Nat → Nat} {n0 k0 : Nat} {c0 : Nat → Int} {σ : am_S} {K : am_S → Prop} (hF : MF σ) (hT : sI σ 31 26 = 0) (hm : ¬ mn X c0 ≤ 0) (h60 : sI σ 31 60 = tsz X n0 c0 k0) (h6 : tsz X n0 c0 k0 ≤ 6000) (hn : n0 ≤ 6) (hR : RS σ X tr n0 c0 k0 0 0 0) (k : ∀ s, BLD σ s X n0 c0 k0 → K s) : am_Calls PP MLL (d + 1) m_M_build [qr (31, 12, 89)] σ (kV K) := by
  have hp := tsz_p (n := n0) (k := k0) hm
  refine v_M_build_0 d σ K hF hT ?_
  refine b_hd d 8 0 (by omega) hF hT (fun A a1 a2 a3 _ => ?_) _ _ _
  have TA : sI A 31 26 = 0 := by rw [a2 31 (by decide)]; exact hT
  have A60 : sI A 31 60 = tsz X n0 c0 k0 := by rw [a2 31 (by decide)]; exact h60
  refine b_tree d (tr := tr) h6 n0 c0 k0 0 0 0 (MF_I hF a1) TA A60 hm (RS_fr n0 _ _ _ _ _ hm (fun x x1 x2 j _ _ => by rw [a2 x (by omega)]) hR) (by omega) (by omega) (fun j j1 j2 => a3 j (by omega) j2) (fun B b1 b2 b3 b4 b5 => ?_)
  rw [Nat.zero_add] at b1 b3 b4 b5 ⊢
  obtain ⟨b1, b6, b7, b8, b9⟩ := b1
  have e31 : sI B 31 = sI A 31 := b6 31 (by decide) (by decide) (by decide) (by decide)
  intro z2 z3 z4
  have FB : MF B := MF_I (MF_I hF a1) b1
  refine v_M_build_14 d _ z2 z3 z4 B K FB (by rw [e31]; exact TA) ⟨fun _ => ?_, fun c => absurd (by rw [e31, A60]; exact Int.le_refl _) c⟩
  rw [e31, A60, show ((tsz X n0 c0 k0 : Nat) : Int) - 1 = ((tsz X n0 c0 k0 - 1 : Nat) : Int) by omega, Int.toNat_natCast]
  refine ⟨by omega, ?_⟩
  obtain ⟨C, eC⟩ : ∃ C, C = putI (putI B 31 73 ((tsz X n0 c0 k0 : Nat) : Int)) 75 (tsz X n0 c0 k0 - 1) 0 := ⟨_, rfl⟩
  rw [← eC]
  have C2 : C.2 = B.2 := by rw [eC]; rfl
  have Co : ∀ x, x ≠ 31 → x ≠ 75 → sI C x = sI B x := fun x x1 x2 => by rw [eC, put_ne x2, put_ne x1]
  have C31 : ∀ j, sI C 31 j = if j = 73 then ((tsz X n0 c0 k0 : Nat) : Int) else sI σ 31 j := fun j => by rw [eC, put_ne (by decide), put_at, e31, a2 31 (by decide)]
  have FC : MF C := MF_I FB C2
  have TC' : sI C 31 26 = 0 := by rw [C31, if_neg (by decide)]; exact hT
  have h75 : sI C 75 (0 + tsz X n0 c0 k0 - 1) = ((0 : Nat) : Int) := by rw [eC, put_at, if_pos (by omega)]; rfl
  have cont : ∀ s, hNF C s 0 (0 + tsz X n0 c0 k0) 0 (0 + tsz X n0 c0 k0) → hNT s X n0 c0 k0 0 0 → bR d 123 (((0 : Nat) : Int) + -1) s K := by
    intro s f1 f2
    obtain ⟨g1, g2, g3, g4⟩ := f1
    intro z2 z3 z4
    refine v_M_build_123 d _ z2 z3 z4 s K (MF_I FC g1) (by rw [g2 31 (by decide) (by decide)]; exact TC') ⟨fun _ => ?_, fun c => absurd (by decide) c⟩
    refine k s ⟨g1.trans (C2.trans (b1.trans a1)), fun x x1 x2 => ?_, fun j hj => by rw [g2 31 (by decide) (by decide), C31, if_neg hj], ?_, by rw [g2 31 (by decide) (by decide), C31, if_pos rfl], hBT_fr n0 _ _ _ hm (fun j _ _ => by rw [g2 74 (by decide) (by decide), Co 74 (by decide) (by decide)]) (fun j _ _ => by rw [g2 77 (by decide) (by decide), Co 77 (by decide) (by decide)]) b2, f2⟩
    · rw [g2 x (by omega) (by omega), Co x x2 (by omega), b6 x (by omega) (by omega) (by omega) (by omega), a2 x (by omega)]
    · rw [g2 79 (by decide) (by decide), Co 79 (by decide) (by decide), b6 79 (by decide) (by decide) (by decide) (by decide), a2 79 (by decide)]
  have fin := b_tree2 d n0 c0 k0 0 0 FC TC' hm (hBT_fr n0 _ _ _ hm (fun j _ _ => by rw [Co 74 (by decide) (by decide)]) (fun j _ _ => by rw [Co 77 (by decide) (by decide)]) b2) (by omega) (by omega) h75 cont
  rw [show 0 + tsz X n0 c0 k0 - 1 = tsz X n0 c0 k0 - 1 by omega] at fin
  exact fin z2 z3 z4
