/-! the cells of a search when rows of truths have moved -/
theorem SC_r {σ s : am_S} {own own' : Nat → Nat} {aI nI aQ nQ g w : Nat} (h87 : 87 ≤ sN σ) (o1 : ∀ a, a < 87 → own a = a) (f1 : sN σ ≤ sN s) (f2 : ∀ x, x < sN σ → own' x = own x) (f4 : ∀ x, x < sN σ → x ≠ 3 → ∀ j, sR s x j = sR σ x j) (h : SCb σ own aI nI aQ nQ g w) : SCb s own' aI nI aQ nQ g w ∧ zl s = zl σ := by
  have o3 := o1 3 (by decide)
  have rf : ∀ x j, x < 87 → x < 26 → x ≠ 3 → sR s x j = sR σ x j := fun x j hx' hr h3 => f4 x (by omega) h3 j
  obtain ⟨⟨i1, i2, i3, i4⟩, ⟨q1, q2, q3⟩, gw, r4, r5, rv1, rv2, tv⟩ := h
  have rv : ∀ o, (o = 20 ∨ o = 23) → RV σ own o 0 → RV s own' o 0 := by
    intro o ho hv
    obtain ⟨⟨a, n', b, m', h1, h2, h3, h4, h5, h6, h7, h8, h9, h10⟩, c1, c2, c3, c4⟩ := hv
    exact ⟨⟨a, n', b, m', by rw [rf o 0 (by omega) (by omega) (by omega)]; exact h1, by rw [rf o 1 (by omega) (by omega) (by omega)]; exact h2, by rw [f2 a h5]; exact h3, by rw [f2 b h6]; exact h4, by omega, by omega, h7, h8, h9, h10⟩, by rw [f2 18 (by omega)]; exact c1, by rw [f2 20 (by omega)]; exact c2, by rw [f2 23 (by omega)]; exact c3, by omega⟩
  have tvv : TV s own' 0 := by
    obtain ⟨⟨a, n', r18, oa, la, cap, nle⟩, c1, c2, c3, c4⟩ := tv
    exact ⟨⟨a, n', by rw [rf 18 0 (by decide) (by decide) (by decide)]; exact r18, by rw [f2 a la]; exact oa, by omega, cap, nle⟩, by rw [f2 18 (by omega)]; exact c1, by rw [f2 20 (by omega)]; exact c2, by rw [f2 23 (by omega)]; exact c3, by omega⟩
  refine ⟨⟨⟨by rw [rf 13 4 (by decide) (by decide) (by decide)]; exact i1, by rw [f2 aI i3]; exact i2, by omega, i4⟩, ⟨by rw [rf 12 2 (by decide) (by decide) (by decide)]; exact q1, q2, fun e7 => ?_⟩, gw, by rw [rf 12 4 (by decide) (by decide) (by decide)]; exact r4, by rw [rf 12 5 (by decide) (by decide) (by decide)]; exact r5, rv g (by omega) rv1, rv w (by omega) rv2, tvv⟩, ?_⟩
  · obtain ⟨⟨z1, z2⟩, z3, z4, z5, z6⟩ := q3 e7
    have qi : ∀ i, i < 7 → ∀ k, k < 9 → ∀ j, sR s (qA aQ i + k) j = sR σ (qA aQ i + k) j := fun i hi' k hk j => f4 _ (by unfold qA; omega) (fun e => by have := z6 i hi' k hk; rw [e, o3] at this; omega) j
    refine ⟨⟨by rw [rf 12 2 (by decide) (by decide) (by decide)]; exact z1, fun i hi' => ?_⟩, by rw [f2 aQ (by omega)]; exact z3, by omega, by omega, fun i hi' k hk => by rw [f2 _ (by unfold qA; omega)]; exact z6 i hi' k hk⟩
    obtain ⟨w1, w2, w3⟩ := z2 i hi'
    have y0 : ∀ j, sR s (qA aQ i) j = sR σ (qA aQ i) j := qi i hi' 0 (by decide)
    have y3 := qi i hi' 3 (by decide)
    refine ⟨by rw [f4 aQ (by omega) (fun e => by rw [e, o3] at z3; omega)]; exact w1, ?_, ?_⟩
    · unfold QF at w2 ⊢
      rw [y0, y0, y0]
      exact w2
    · unfold WF at w3 ⊢
      rw [y3, y3, y3, y3, y3]
      exact w3
  · unfold zl
    rw [rf 18 0 (by decide) (by decide) (by decide), rf 20 0 (by decide) (by decide) (by decide), rf 20 1 (by decide) (by decide) (by decide), rf 23 0 (by decide) (by decide) (by decide), rf 23 1 (by decide) (by decide) (by decide)]
