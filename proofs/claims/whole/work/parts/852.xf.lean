/-! a search does not see other changes, whole -/
theorem ML_x {σ s : am_S} {kp R f : Nat} {X : sX} {tr : Nat → Nat} {c0 : Nat → Int} {k0 n0 : Nat} {js : Nat → Nat} {os : Nat → Int} {l : Nat} (hX : XV X) (Zo : ∀ x, 53 ≤ x → x ≤ 73 → sI s x = sI σ x) (h : ML' σ kp R f X tr c0 k0 n0 js os l) : ML' s kp R f X tr c0 k0 n0 js os l := fun i hi => by
  obtain ⟨a1, a2, a3, a4, a5, a6⟩ := h i hi
  refine ⟨LA_fr hX.2.1 (fun j _ _ => by rw [Zo 53 (by decide) (by decide)]) (by rw [Zo 54 (by decide) (by decide)]) (by rw [Zo 55 (by decide) (by decide)]) a1, LW_fr hX (by rw [Zo 59 (by decide) (by decide)]) (by rw [Zo 60 (by decide) (by decide)]) (by rw [Zo 61 (by decide) (by decide)]) (fun x x1 x2 q _ _ => by rw [Zo x (by omega) (by omega)]) a2, by rw [Zo 56 (by decide) (by decide)]; exact a3, by rw [Zo 57 (by decide) (by decide)]; exact a4, by rw [Zo 58 (by decide) (by decide)]; exact a5, fun e u hu => ?_⟩
  rcases a6 e u hu with w | w
  · exact Or.inl w
  · rcases Classical.em (mn X (chd X (csq X c0 k0 js os i) (k0 + i) (wAt X (csq X c0 k0 js os i) (js i)) u) ≤ 0) with m0 | m0
    · exact Or.inl m0
    · exact Or.inr (RS_fr _ _ _ _ _ _ m0 (fun x x1 x2 j _ _ => by rw [Zo x (by omega) (by omega)]) w)
theorem MS_x {σ s : am_S} {own own' : Nat → Nat} {X : sX} {ob nb n k0 : Nat} {tr : Nat → Nat} {c0 : Nat → Int} {A : sA} (h87 : 87 ≤ sN σ) (o1 : ∀ a, a < 87 → own a = a) (hx : XF σ s own own' n) (hn : nb ≤ n) (h : MS σ X ob nb tr c0 k0 A) : MS s X ob nb tr c0 k0 A := by
  have hx' := hx
  obtain ⟨_, f3, f4, _, _, _, f8, _, f10, f11⟩ := hx
  have Zo : ∀ x, 53 ≤ x → x ≤ 73 → sI s x = sI σ x := fun x x1 x2 => f3 x (by omega) (by rw [o1 x (by omega)]; omega)
  have mb : ∀ n0, MB σ 1 0 X ob nb tr c0 k0 n0 → MB s 1 0 X ob nb tr c0 k0 n0 := fun n0 ⟨hB1, hB2, hB3, hB4, hB5⟩ => ⟨fun j => by rw [f4 31 (by omega) (by rw [o1 31 (by decide)]; omega) (by rw [o1 31 (by decide)]; decide) j]; exact hB1 j, MX_x h87 o1 hx' hn hB2, fun j => by rw [Zo 64 (by decide) (by decide), Zo 65 (by decide) (by decide)]; exact hB3 j, by rw [f8 59 (by omega)]; exact hB4, hB5⟩
  rcases h with ⟨e, q1, q2, q3, q4, q5, q6, q7⟩ | ⟨e, q1, q2, q3, q4, q5, q6, q7, q8, q9, q10⟩
  · have xv := q1.2.1.1
    exact Or.inl ⟨e, mb _ q1, q2, by rw [f8 58 (by omega)]; exact q3, by rw [f8 57 (by omega)]; exact q4, ML_x xv Zo q5, LA_fr xv.2.1 (fun j _ _ => by rw [Zo 53 (by decide) (by decide)]) (by rw [Zo 54 (by decide) (by decide)]) (by rw [Zo 55 (by decide) (by decide)]) q6, by rw [f8 60 (by omega)]; exact q7⟩
  · have xv := q1.2.1.1
    exact Or.inr ⟨e, mb _ q1, q2, q3, by rw [f8 58 (by omega)]; exact q4, by rw [f8 57 (by omega)]; exact q5, ML_x xv Zo q6, LA_fr xv.2.1 (fun j _ _ => by rw [Zo 53 (by decide) (by decide)]) (by rw [Zo 54 (by decide) (by decide)]) (by rw [Zo 55 (by decide) (by decide)]) q7, LW_fr xv (by rw [Zo 59 (by decide) (by decide)]) (by rw [Zo 60 (by decide) (by decide)]) (by rw [Zo 61 (by decide) (by decide)]) (fun x x1 x2 q _ _ => by rw [Zo x (by omega) (by omega)]) q8, by rw [Zo 58 (by decide) (by decide)]; exact q9, by rw [f8 60 (by omega)]; exact q10⟩
theorem ISs_x {σ s : am_S} {own own' : Nat → Nat} {T n n' : Nat} (h87 : 87 ≤ sN σ) (o1 : ∀ a, a < 87 → own a = a) (hx : XF σ s own own' n) (hn : n ≤ n') (h : ISs σ own T n) : ISs s own' T n' := by
  have hx' := hx
  obtain ⟨⟨f1, f2⟩, f3, f4, ⟨f5, f52⟩, f6, f7, f8, f9, f10, f11⟩ := hx
  have e12 : sI s 12 = sI σ 12 := f3 12 (by omega) (by rw [o1 12 (by decide)]; omega)
  have r12 : ∀ j, sR s 12 j = sR σ 12 j := f4 12 (by omega) (by rw [o1 12 (by decide)]; omega) (by rw [o1 12 (by decide)]; decide)
  have Zo : ∀ x, 51 ≤ x → x ≤ 82 → sI s x = sI σ x := fun x x1 x2 => f3 x (by omega) (by rw [o1 x (by omega)]; omega)
  have ri : ∀ x, 32 ≤ x → x ≤ 38 → sI s x = sI σ x := fun x x1 x2 => f3 x (by omega) (by rw [o1 x (by omega)]; omega)
  rcases h with ⟨a1, a2, a3, a4, a5, a6, a7, a8, a9, a10⟩ | ⟨X, ob, nb, tr, c0, k0, aQ, st, ⟨b1, b2, b3, b4, b5, b6, b7, b8, b9, b10, b11, b12, b13⟩, hr⟩
  · exact Or.inl ⟨by rw [r12]; exact a1, by rw [e12]; exact a2, by rw [f8 33 (by omega)]; exact a3, by rw [f8 34 (by omega)]; exact a4, by rw [f8 35 (by omega)]; exact a5, by rw [f8 37 (by omega)]; exact a6, by rw [f8 73 (by omega)]; exact a7, by rw [f8 76 (by omega)]; exact a8, by rw [f8 77 (by omega)]; exact a9, by rw [f8 78 (by omega)]; exact a10⟩
  · refine Or.inr ⟨X, ob, nb, tr, c0, k0, aQ, st, ⟨SE_x b1 hx', MX_x h87 o1 hx' b3 b2, by omega, b4, b5, by rw [f8 13 (by omega)]; exact b6, fun p hp => by rw [ri 36 (by decide) (by decide)]; exact b7 p hp, fun t ht hl => by rw [ri 37 (by decide) (by decide)] at hl; exact b8 t ht hl, by rw [f8 33 (by omega)]; exact b9, by rw [f8 37 (by omega)]; exact b10, by rw [e12]; exact b11, by omega, by rw [f8 39 (by omega)]; exact b13⟩, ?_⟩
    rcases hr with ⟨A, c1, c2, c3, c4, c5, c6, c7, c8, c9⟩ | ⟨n0, c1, c2, c3, c4, c5, c6, c7, c8, c9, c10, c11, c12⟩ | ⟨c1, c2⟩
    · exact Or.inl ⟨A, c1, CS_x c1 c2 hx', MS_x h87 o1 hx' b3 c3, by rw [f8 34 (by omega)]; exact c4, by rw [f8 35 (by omega)]; exact c5, by rw [f8 73 (by omega)]; exact c6, by rw [f8 76 (by omega)]; exact c7, by rw [f8 77 (by omega)]; exact c8, by rw [f8 78 (by omega)]; exact c9⟩
    · obtain ⟨t1, t2⟩ := TV_x h87 o1 hx' c6
      refine Or.inr (Or.inl ⟨n0, c1, by rw [e12]; exact c2, c3, c4, by rw [t2]; exact c5, t1, by rw [f3 18 (by omega) (by rw [o1 18 (by decide)]; omega)]; exact c7, by rw [f8 34 (by omega), f8 35 (by omega), f8 73 (by omega), f8 60 (by omega)]; exact c8, RS_fr n0 _ _ _ _ _ b4 (fun x x1 x2 j _ _ => by rw [Zo x (by omega) (by omega)]) c9, hBT_fr n0 _ _ _ b4 (fun j _ _ => by rw [Zo 74 (by decide) (by decide)]) (fun j _ _ => by rw [Zo 77 (by decide) (by decide)]) c10, hNT_fr n0 _ _ _ _ b4 (fun j _ _ => by rw [Zo 75 (by decide) (by decide)]) (fun j _ _ => by rw [Zo 78 (by decide) (by decide)]) c11, ?_⟩)
      rcases c12 with ⟨d1, d2, d3, d4, g, w, G, d5⟩ | ⟨d1, d2, d3, d4, g, w, G, W, d5, d6⟩
      · exact Or.inl ⟨by rw [e12]; exact d1, by rw [f8 78 (by omega)]; exact d2, by rw [f8 77 (by omega)]; exact d3, by rw [f8 76 (by omega)]; exact d4, g, w, G, RW_x h87 o1 hx' d5⟩
      · refine Or.inr ⟨by rw [e12]; exact d1, by rw [f8 78 (by omega)]; exact d2, by rw [f8 59 (by omega)]; exact d3, d4, g, w, G, W, RW_x h87 o1 hx' d5, ?_⟩
        rcases d6 with ⟨u1, u2, u3, u4, u5⟩ | ⟨u1, u2, u3⟩
        · exact Or.inl ⟨u1, u2, by rw [f8 77 (by omega)]; exact u3, RO_fr u4 (f8 76 (by omega)) (Zo 81 (by decide) (by decide)) (Zo 82 (by decide) (by decide)), u5⟩
        · exact Or.inr ⟨u1, by rw [f8 77 (by omega)]; exact u2, by rw [f8 76 (by omega)]; exact u3⟩
    · refine Or.inr (Or.inr ⟨by rw [e12]; exact c1, ?_⟩)
      rw [f8 34 (by omega), f8 35 (by omega), f8 73 (by omega), f8 76 (by omega), f8 77 (by omega), f8 78 (by omega)]
      exact c2
/-- the search's cells -/
theorem SC_x {σ s : am_S} {own own' : Nat → Nat} {aI nI aQ nQ g w n : Nat} (h87 : 87 ≤ sN σ) (o1 : ∀ a, a < 87 → own a = a) (hx : XF σ s own own' n) (h : SCb σ own aI nI aQ nQ g w) : SCb s own' aI nI aQ nQ g w ∧ zl s = zl σ := by
  have hx' := hx
  obtain ⟨⟨f1, f2⟩, f3, f4, ⟨f5, f52⟩, f6, f7, f8, f9, f10, f11⟩ := hx
  have rf : ∀ x j, x < 87 → x < 26 → x ≠ 9 → sR s x j = sR σ x j := fun x j hx' hr h9 => f4 x (by omega) (by rw [o1 x hx']; omega) (by rw [o1 x hx']; exact h9) j
  obtain ⟨⟨i1, i2, i3, i4⟩, ⟨q1, q2, q3⟩, gw, r4, r5, rv1, rv2, tv⟩ := h
  have rv : ∀ o, (o = 20 ∨ o = 23) → RV σ own o 0 → RV s own' o 0 := by
    intro o ho hv
    obtain ⟨⟨a, n', b, m', h1, h2, h3, h4, h5, h6, h7, h8, h9, h10⟩, c1, c2, c3, c4⟩ := hv
    exact ⟨⟨a, n', b, m', by rw [rf o 0 (by omega) (by omega) (by omega)]; exact h1, by rw [rf o 1 (by omega) (by omega) (by omega)]; exact h2, by rw [f2 a h5]; exact h3, by rw [f2 b h6]; exact h4, by omega, by omega, h7, h8, h9, h10⟩, by rw [f2 18 (by omega)]; exact c1, by rw [f2 20 (by omega)]; exact c2, by rw [f2 23 (by omega)]; exact c3, by omega⟩
  refine ⟨⟨⟨by rw [rf 13 4 (by decide) (by decide) (by decide)]; exact i1, by rw [f2 aI i3]; exact i2, by omega, i4⟩, ⟨by rw [rf 12 2 (by decide) (by decide) (by decide)]; exact q1, q2, fun e7 => ?_⟩, gw, by rw [rf 12 4 (by decide) (by decide) (by decide)]; exact r4, by rw [rf 12 5 (by decide) (by decide) (by decide)]; exact r5, rv g (by omega) rv1, rv w (by omega) rv2, (TV_x h87 o1 hx' tv).1⟩, ?_⟩
  · obtain ⟨⟨z1, z2⟩, z3, z4, z5, z6⟩ := q3 e7
    have qi : ∀ i, i < 7 → ∀ k, k < 9 → ∀ j, sR s (qA aQ i + k) j = sR σ (qA aQ i + k) j := fun i hi' k hk j => f4 _ (by unfold qA; omega) (by rw [z6 i hi' k hk]; omega) (by rw [z6 i hi' k hk]; omega) j
    refine ⟨⟨by rw [rf 12 2 (by decide) (by decide) (by decide)]; exact z1, fun i hi' => ?_⟩, by rw [f2 aQ (by omega)]; exact z3, by omega, by omega, fun i hi' k hk => by rw [f2 _ (by unfold qA; omega)]; exact z6 i hi' k hk⟩
    obtain ⟨w1, w2, w3⟩ := z2 i hi'
    have y0 : ∀ j, sR s (qA aQ i) j = sR σ (qA aQ i) j := qi i hi' 0 (by decide)
    have y3 := qi i hi' 3 (by decide)
    refine ⟨by rw [f4 aQ (by omega) (by rw [z3]; omega) (by rw [z3]; decide)]; exact w1, ?_, ?_⟩
    · unfold QF at w2 ⊢
      rw [y0, y0, y0]
      exact w2
    · unfold WF at w3 ⊢
      rw [y3, y3, y3, y3, y3]
      exact w3
  · unfold zl
    rw [rf 18 0 (by decide) (by decide) (by decide), rf 20 0 (by decide) (by decide) (by decide), rf 20 1 (by decide) (by decide) (by decide), rf 23 0 (by decide) (by decide) (by decide), rf 23 1 (by decide) (by decide) (by decide)]
