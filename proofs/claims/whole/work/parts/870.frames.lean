/-! what a search keeps while one side goes on -/
/-- for the class: what the reference does in its own rows is not seen -/
def XC (σ s : am_S) (own own' : Nat → Nat) : Prop := (sN σ ≤ sN s ∧ ∀ x, x < sN σ → own' x = own x) ∧ (∀ x, x < sN σ → (own x = 3 ∨ own x = 4 ∨ own x = 5 ∨ (12 ≤ own x ∧ own x ≤ 25) ∨ 2000 ≤ own x ∨ (32 ≤ own x ∧ own x ≤ 38)) → sI s x = sI σ x) ∧ (∀ x, x < sN σ → (own x < 26 ∨ own x = 31 ∨ 1000 ≤ own x) → own x ≠ 9 → ∀ j, sR s x j = sR σ x j) ∧ ((∀ j, sR σ 9 j ≠ none → sR s 9 j = sR σ 9 j) ∧ ∀ j, j < 2 → sR s 26 j = sR σ 26 j) ∧ (∀ x g, x < sN σ → own x = 1000 + 8 * g → sI s x 0 = sI σ x 0 ∧ sI s x 5 = sI σ x 5) ∧ sI s 10 2 = sI σ 10 2 ∧ (∀ j, (j = 2 ∨ j = 3 ∨ j = 5) → sI s 31 j = sI σ 31 j) ∧ True ∧ True ∧ True
/-- for the reference -/
def XM (σ s : am_S) (n : Nat) : Prop := MF s ∧ (∀ x, ((32 ≤ x ∧ x ≤ 38) ∨ (51 ≤ x ∧ x ≤ 82)) → sI s x = sI σ x) ∧ (∀ j, (j = 2 ∨ j = 4 ∨ j = 26 ∨ j = 36 ∨ j = 40 ∨ (57 ≤ j ∧ j ≤ 60)) → sI s 31 j = sI σ 31 j) ∧ (∀ b, b < n → sI s 41 b = sI σ 41 b ∧ sI s 47 b = sI σ 47 b) ∧ ∀ i, i < 3 * n → sI s 46 i = sI σ 46 i
theorem SE_y {σ s : am_S} {own own' : Nat → Nat} {aQ k0 : Nat} {tr : Nat → Nat} {X : sX} {c0 : Nat → Int} (hE : SE σ own aQ k0 tr X c0) (hx : XC σ s own own') : SE s own' aQ k0 tr X c0 := by
  have h87 := SE_87 hE
  obtain ⟨⟨⟨q1, q2⟩, q3, q4, q5, q6⟩, hx0, ⟨i1, i2, i3, i4, i5, i6⟩, ⟨aI, nI, a1, a2, a3, a4, a5⟩, ⟨β, μ, κ, ρ, me, nb, b, aH, nH, aL, nL, aY, nY, aS, nS, N, lo, hi, T, kd, b1, b2, b3, b4, b5, b6, b7, b8, b9, b10, b11, b12, b13, b14, b15, b16, b17⟩⟩ := hE
  obtain ⟨⟨f1, f2⟩, f3, f4, ⟨f5, f52⟩, f6, f7, f8, f9, f10, f11⟩ := hx
  have o1 := b2.1
  have rf : ∀ x j, x < 87 → x < 26 ∨ x = 31 → x ≠ 9 → sR s x j = sR σ x j := fun x j hx' hr h9 => f4 x (by omega) (by rw [o1 x hx']; omega) (by rw [o1 x hx']; exact h9) j
  have ri : ∀ x, x < 87 → (x = 3 ∨ (12 ≤ x ∧ x ≤ 25) ∨ (32 ≤ x ∧ x ≤ 38)) → sI s x = sI σ x := fun x hx' hr => f3 x (by omega) (by rw [o1 x hx']; omega)
  have cfx : CF s := fun a j r hr => by
    obtain ⟨z1, z2, z3, z4, z5, z6, z7, z8, z9⟩ := cref_dec _ (crefF_mem _ a j r hr)
    have z6' : a ≠ 9 := z6
    have z5' : a = 26 → j < 2 := z5
    by_cases e : a < 26
    · rw [rf a j (by omega) (by omega) z6']; exact b1.1 a j r hr
    · by_cases e2 : a = 26
      · rw [e2] at hr ⊢
        rw [f52 j (z5' e2)]; exact b1.1 26 j r hr
      · have := crefF_mem _ a j r hr
        have hh := cref_hi _ this
        exact absurd hh (by show ¬ (a < 26 ∨ a = 26); omega)
  have qi : ∀ i, i < 7 → ∀ k, k < 9 → ∀ j, sR s (qA aQ i + k) j = sR σ (qA aQ i + k) j := fun i hi' k hk j => f4 _ (by unfold qA; omega) (by rw [q6 i hi' k hk]; omega) (by rw [q6 i hi' k hk]; omega) j
  refine ⟨⟨⟨by rw [rf 12 2 (by decide) (by omega) (by decide)]; exact q1, fun i hi' => ?_⟩, by rw [f2 aQ (by omega)]; exact q3, by omega, by omega, fun i hi' k hk => by rw [f2 _ (by unfold qA; omega)]; exact q6 i hi' k hk⟩, hx0, ⟨by rw [ri 12 (by decide) (by omega)]; exact i1, by rw [ri 12 (by decide) (by omega)]; exact i2, by rw [ri 12 (by decide) (by omega)]; exact i3, by rw [ri 13 (by decide) (by omega)]; exact i4, by rw [ri 13 (by decide) (by omega)]; exact i5, fun p hp => by rw [ri 15 (by decide) (by omega)]; exact i6 p hp⟩, ⟨aI, nI, by rw [rf 13 4 (by decide) (by omega) (by decide)]; exact a1, by rw [f2 aI a3]; exact a2, by omega, a4, fun t ht x y hxy hy => by rw [f3 aI a3 (by rw [a2]; omega)]; exact a5 t ht x y hxy hy⟩, ⟨β, μ, κ, ρ, me, nb, b, aH, nH, aL, nL, aY, nY, aS, nS, N, lo, hi, T, kd, ?_, OW_f f2 (by omega) b3 b2, by omega, ?_, ?_, b6, b7, by rw [f7]; exact b8, ?_, OB_f f2 b11 b10, fun g hg => by have := b11 g hg; omega, b12, b13, b14, by rw [rf 12 6 (by decide) (by omega) (by decide)]; exact b15, fun k => ?_, fun p hp => ?_⟩⟩
  · obtain ⟨w1, w2, w3⟩ := q2 i hi'
    have z0 : ∀ j, sR s (qA aQ i) j = sR σ (qA aQ i) j := qi i hi' 0 (by decide)
    have z3 := qi i hi' 3 (by decide)
    refine ⟨by rw [f4 aQ (by omega) (by rw [q3]; omega) (by rw [q3]; decide)]; exact w1, ?_, ?_⟩
    · unfold QF at w2 ⊢
      rw [z0, z0, z0]
      exact w2
    · unfold WF at w3 ⊢
      rw [z3, z3, z3, z3, z3]
      exact w3
  · exact ⟨cfx, by rw [rf 3 6 (by decide) (by omega) (by decide)]; exact b1.2.1, by rw [rf 3 7 (by decide) (by omega) (by decide)]; exact b1.2.2.1, by rw [rf 3 8 (by decide) (by omega) (by decide)]; exact b1.2.2.2.1, by rw [rf 3 9 (by decide) (by omega) (by decide)]; exact b1.2.2.2.2⟩
  · unfold TI CT at b4 ⊢
    rw [f8 2 (by omega), f8 3 (by omega), f8 5 (by omega), ri 32 (by decide) (by omega), ri 33 (by decide) (by omega), ri 34 (by decide) (by omega), ri 35 (by decide) (by omega)]
    exact b4
  · unfold KTt at b5 ⊢
    rw [f3 aH b3.1 (by rw [b2.2.1]; omega), f3 aL b3.2.1 (by rw [b2.2.2.1]; omega)]
    exact b5
  · intro g hg
    obtain ⟨w1, w2, w3, w4, w5, w6, w7, w8⟩ := b9 g hg
    obtain ⟨z1, z2, z3⟩ := b10 g hg
    obtain ⟨y1, y2, y3⟩ := b11 g hg
    have z30 := z3 0 (by decide)
    have z32 := z3 2 (by decide)
    rw [Nat.add_zero] at z30
    have rb : ∀ j, sR s (β g) j = sR σ (β g) j := f4 _ y1 (by omega) (by omega)
    have r0 : ∀ j, sR s (ρ g) j = sR σ (ρ g) j := f4 _ (by omega) (by omega) (by omega)
    have r2 : ∀ j, sR s (ρ g + 2) j = sR σ (ρ g + 2) j := f4 _ (by omega) (by omega) (by omega)
    have rm : ∀ j, sR s (μ g) j = sR σ (μ g) j := f4 _ y2 (by omega) (by omega)
    exact ⟨by rw [f5 g (by rw [w1]; simp)]; exact w1, by rw [rb]; exact w2, by rw [rb]; exact w3, by rw [rb]; exact w4, by rw [rb]; exact w5, by rw [r0]; exact w6, by rw [r2]; exact w7, fun i hi' => by rw [rm]; exact w8 i hi'⟩
  · obtain ⟨w1, w2, w3⟩ := b16 k
    obtain ⟨e0, e5⟩ := f6 _ _ (b11 _ w1).1 (b10 _ w1).1
    rw [e0, e5]
    exact ⟨w1, w2, w3⟩
  · obtain ⟨w1, w2, w3⟩ := b17 p hp
    rw [ri 14 (by decide) (by omega), ri 33 (by decide) (by omega), ri 34 (by decide) (by omega), ri 35 (by decide) (by omega)]
    exact ⟨w1, w2, w3⟩
theorem RW_y {σ s : am_S} {own own' : Nat → Nat} {g w : Nat} {G W : List (Int × Int)} (h87 : 87 ≤ sN σ) (o1 : ∀ a, a < 87 → own a = a) (hx : XC σ s own own') (hR : RW σ own g w G W) : RW s own' g w G W := by
  obtain ⟨⟨f1, f2⟩, f3, f4, _⟩ := hx
  have rf : ∀ x j, x < 87 → x < 26 → x ≠ 9 → sR s x j = sR σ x j := fun x j hx' hr h9 => f4 x (by omega) (by rw [o1 x hx']; omega) (by rw [o1 x hx']; exact h9) j
  obtain ⟨y1, y2, y3, y4, y5, y6, y7⟩ := hR
  have rv : ∀ o k, (o = 20 ∨ o = 23) → RV σ own o k → RV s own' o k := by
    intro o k ho hv
    obtain ⟨⟨a, n', b, m', h1, h2, h3, h4, h5, h6, h7, h8, h9, h10⟩, c1, c2, c3, c4⟩ := hv
    exact ⟨⟨a, n', b, m', by rw [rf o 0 (by omega) (by omega) (by omega)]; exact h1, by rw [rf o 1 (by omega) (by omega) (by omega)]; exact h2, by rw [f2 a h5]; exact h3, by rw [f2 b h6]; exact h4, by omega, by omega, h7, h8, h9, h10⟩, by rw [f2 18 (by omega)]; exact c1, by rw [f2 20 (by omega)]; exact c2, by rw [f2 23 (by omega)]; exact c3, by omega⟩
  have rl : ∀ o k L, (o = 20 ∨ o = 23) → RV σ own o k → RL σ o L → RL s o L := by
    intro o k L ho hv hL
    obtain ⟨⟨a, n', b, m', h1, h2, h3, h4, h5, h6, h7, h8, h9, h10⟩, c1, c2, c3, c4⟩ := hv
    have oo := o1 o (by omega)
    refine ⟨by rw [f3 o (by omega) (by omega)]; exact hL.1, fun i i1 i2 => ?_⟩
    have z := hL.2 i i1 i2
    unfold rNu rTo at z ⊢
    rw [rf o 0 (by omega) (by omega) (by omega), rf o 1 (by omega) (by omega) (by omega), h1, h2]
    rw [h1, h2] at z
    simp only [rg_some] at z ⊢
    rw [f3 a h5 (by omega), f3 b h6 (by omega)]
    exact z
  exact ⟨y1, by rw [rf 12 4 (by decide) (by decide) (by decide)]; exact y2, by rw [rf 12 5 (by decide) (by decide) (by decide)]; exact y3, rv g _ (by omega) y4, rl g _ _ (by omega) y4 y5, rv w _ (by omega) y6, rl w _ _ (by omega) y6 y7⟩
theorem TV_y {σ s : am_S} {own own' : Nat → Nat} {z : Nat} (h87 : 87 ≤ sN σ) (o1 : ∀ a, a < 87 → own a = a) (hx : XC σ s own own') (hT : TV σ own z) : TV s own' z ∧ tcl s = tcl σ := by
  obtain ⟨⟨f1, f2⟩, f3, f4, _⟩ := hx
  obtain ⟨⟨a, n', r18, oa, la, cap, nle⟩, c1, c2, c3, c4⟩ := hT
  have e18 : sR s 18 0 = sR σ 18 0 := f4 18 (by omega) (by rw [o1 18 (by decide)]; omega) (by rw [o1 18 (by decide)]; decide) 0
  refine ⟨⟨⟨a, n', by rw [e18]; exact r18, by rw [f2 a la]; exact oa, by omega, cap, nle⟩, by rw [f2 18 (by omega)]; exact c1, by rw [f2 20 (by omega)]; exact c2, by rw [f2 23 (by omega)]; exact c3, by omega⟩, ?_⟩
  funext i
  unfold tcl
  rw [e18, r18]
  simp only [rg_some]
  rw [f3 a la (by omega)]
theorem CS_y {σ s : am_S} {own own' : Nat → Nat} {aQ k0 st : Nat} {tr : Nat → Nat} {X : sX} {c0 : Nat → Int} {A : sA} (hA : A.1 ≤ 1) (hC : CS σ own aQ k0 tr X c0 A st) (hx : XC σ s own own') : CS s own' aQ k0 tr X c0 A st := by
  have hE := CS_SE hC
  have Es := SE_y hE hx
  have o1 := SE_87 hE
  have h87 := hE.1.2.2.2.1
  have hx' := hx
  obtain ⟨⟨f1, f2⟩, f3, f4, _⟩ := hx
  have e12 : sI s 12 = sI σ 12 := f3 12 (by omega) (by rw [o1 12 (by decide)]; omega)
  have e18 : sI s 18 = sI σ 18 := f3 18 (by omega) (by rw [o1 18 (by decide)]; omega)
  have qk : ∀ i, i < 7 → ∀ k, k < 9 → sI s (qA aQ i + k) = sI σ (qA aQ i + k) := fun i hi k hk => f3 _ (by have := hE.1.2.2.1; unfold qA; omega) (by rw [hE.1.2.2.2.2 i hi k hk]; omega)
  rcases hC with ⟨e, ⟨_, c2, c3, c4, c5⟩, p2, p3, p4, p5, p6, ⟨g, w, p7⟩, p8, p9, p10, p11⟩ | ⟨e, ⟨_, c2, c3, c4, c5⟩, p2, p3, p4, p5, p6, p7, ⟨g, w, p8⟩, p9, p10, p11, p12⟩ | ⟨e, _⟩ | ⟨e, _⟩
  · have ln := GL_n p2
    obtain ⟨t1, t2⟩ := TV_y h87 o1 hx' p10
    refine Or.inl ⟨e, ⟨Es, c2, c3, by rw [e12]; exact c4, c5⟩, p2, by rw [e12]; exact p3, by rw [e12]; exact p4, fun i hi => ?_, ?_, ⟨g, w, RW_y h87 o1 hx' p7⟩, p8, by rw [t2]; exact p9, t1, by rw [e18]; exact p11⟩
    · obtain ⟨y1, y2, y3⟩ := p5 i hi
      obtain ⟨z1, z2⟩ := LQ_fr (X := X) (c0 := c0) (k0 := k0) (n0 := A.2.1) (js := A.2.2.2.1) (os := A.2.2.2.2) (qk i (by omega))
      exact ⟨z1 y1, z2 y2, y3⟩
    · unfold QB at p6 ⊢
      have z0 : sI s (qA aQ A.2.2.1) = sI σ (qA aQ A.2.2.1) := qk _ (by omega) 0 (by decide)
      rw [z0, qk _ (by omega) 1 (by decide)]
      exact p6
  · have ln := p3.1
    obtain ⟨t1, t2⟩ := TV_y h87 o1 hx' p12
    refine Or.inr (Or.inl ⟨e, ⟨Es, c2, c3, by rw [e12]; exact c4, c5⟩, p2, p3, by rw [e12]; exact p4, by rw [e12]; exact p5, fun i hi => ?_, ?_, ⟨g, w, RW_y h87 o1 hx' p8⟩, p9, by rw [t2]; exact p10, by rw [t2]; exact p11, t1⟩)
    · obtain ⟨y1, y2, y3⟩ := p6 i hi
      obtain ⟨z1, z2⟩ := LQ_fr (X := X) (c0 := c0) (k0 := k0) (n0 := A.2.1) (js := A.2.2.2.1) (os := A.2.2.2.2) (qk i (by omega))
      exact ⟨z1 y1, z2 y2, y3⟩
    · exact (LQ_fr (qk _ (by omega))).1 p7
  · omega
  · omega
theorem MX_y {σ s : am_S} {X : sX} {ob nb n : Nat} {tr : Nat → Nat} (hx : XM σ s n) (hn : nb ≤ n) (h : MX σ X ob nb tr) : MX s X ob nb tr := by
  obtain ⟨_, f3, f8, f10, f11⟩ := hx
  have ri : ∀ x, x < 87 → ((32 ≤ x ∧ x ≤ 38) ∨ (51 ≤ x ∧ x ≤ 82)) → sI s x = sI σ x := fun x _ hr => f3 x hr
  obtain ⟨x1, x2, x3, x4, x5, x6, x7, x8, x9, x10, x11, x12, x13, x14⟩ := h
  have e41 : ∀ b, b < nb → sI s 41 b = sI σ 41 b := fun b hb => (f10 b (by omega)).1
  have e47 : ∀ b, b < nb → sI s 47 b = sI σ 47 b := fun b hb => (f10 b (by omega)).2
  have qv : QV s nb := fun b hb h6 => by
    rw [e41 b hb] at h6
    obtain ⟨q1, q2, q3⟩ := x10 b hb h6
    rw [e47 b hb]
    exact ⟨q1, q2, fun i hi => by rw [f11 (3 * b + i) (by omega)]; exact q3 i hi⟩
  have ew : ∀ k, wr s ob k = wr σ ob k := fun k => by
    unfold wr
    rw [e41 ob x8, e47 ob x8]
    by_cases e : sI σ 41 ob = 6
    · obtain ⟨q1, q2, q3⟩ := x10 ob x8 e
      have : k % (sI σ 47 ob).toNat < (sI σ 47 ob).toNat := Nat.mod_lt _ (by omega)
      rw [if_pos e, if_pos e, f11 _ (by omega)]
    · rw [if_neg e, if_neg e]
  refine ⟨x1, by rw [f8 2 (by omega)]; exact x2, by rw [f8 40 (by omega)]; exact x3, fun p hp a c h1 h2 => by rw [ri 52 (by decide) (by omega)]; exact x4 p hp a c h1 h2, fun p hp => ?_, fun f p => ?_, by rw [f8 36 (by omega)]; exact x7, x8, x9, qv, fun k => ?_, by rw [f8 4 (by omega)]; exact x12, ?_, by rw [f8 26 (by omega)]; exact x14⟩
  · rw [ri 51 (by decide) (by omega), ri 33 (by decide) (by omega), ri 34 (by decide) (by omega), ri 35 (by decide) (by omega)]
    exact x5 p hp
  · rw [ri 33 (by decide) (by omega), ri 34 (by decide) (by omega), ri 35 (by decide) (by omega)]
    exact x6 f p
  · rw [ew, e41 _ (wr_lt x10 x8)]
    exact x11 k
  · have : ownM s ob = ownM σ ob := by
      unfold ownM
      rw [e41 ob x8, e47 ob x8]
      by_cases e : sI σ 41 ob = 6
      · obtain ⟨q1, q2, q3⟩ := x10 ob x8 e
        rw [if_pos e, if_pos e]
        have hc : ∀ k, k ≤ (sI σ 47 ob).toNat → oqA (fun i => mo (sI s 41 (mmb s ob i))) 0 k = oqA (fun i => mo (sI σ 41 (mmb σ ob i))) 0 k := by
          intro k
          induction k with
          | zero => intro _; rfl
          | succ k ih =>
            intro hk
            have u1 : oqA (fun i => mo (sI s 41 (mmb s ob i))) 0 (k + 1) = if mo (sI s 41 (mmb s ob k)) ≤ oqA (fun i => mo (sI s 41 (mmb s ob i))) 0 k then oqA (fun i => mo (sI s 41 (mmb s ob i))) 0 k else mo (sI s 41 (mmb s ob k)) := rfl
            have u2 : oqA (fun i => mo (sI σ 41 (mmb σ ob i))) 0 (k + 1) = if mo (sI σ 41 (mmb σ ob k)) ≤ oqA (fun i => mo (sI σ 41 (mmb σ ob i))) 0 k then oqA (fun i => mo (sI σ 41 (mmb σ ob i))) 0 k else mo (sI σ 41 (mmb σ ob k)) := rfl
            have e3 : mmb s ob k = mmb σ ob k := by unfold mmb; rw [f11 _ (by omega)]
            have q4 := q3 k (by omega)
            have e4 : sI s 41 (mmb s ob k) = sI σ 41 (mmb σ ob k) := by rw [e3, e41 _ (by unfold mmb; omega)]
            rw [u1, u2, ih (by omega), e4]
        exact hc _ (Nat.le_refl _)
      · rw [if_neg e, if_neg e]
    rw [this]
    exact x13
theorem MS_y {σ s : am_S} {X : sX} {ob nb n k0 : Nat} {tr : Nat → Nat} {c0 : Nat → Int} {A : sA} (hx : XM σ s n) (hn : nb ≤ n) (h : MS σ X ob nb tr c0 k0 A) : MS s X ob nb tr c0 k0 A := by
  have hx' := hx
  obtain ⟨hF, f3, f8, f10, f11⟩ := hx
  have Zo : ∀ x, 53 ≤ x → x ≤ 73 → sI s x = sI σ x := fun x x1 x2 => f3 x (by omega)
  have mb : ∀ n0, MB σ 1 0 X ob nb tr c0 k0 n0 → MB s 1 0 X ob nb tr c0 k0 n0 := fun n0 ⟨hB1, hB2, hB3, hB4, hB5⟩ => ⟨hF, MX_y hx' hn hB2, fun j => by rw [Zo 64 (by decide) (by decide), Zo 65 (by decide) (by decide)]; exact hB3 j, by rw [f8 59 (by omega)]; exact hB4, hB5⟩
  rcases h with ⟨e, q1, q2, q3, q4, q5, q6, q7⟩ | ⟨e, q1, q2, q3, q4, q5, q6, q7, q8, q9, q10⟩
  · have xv := q1.2.1.1
    exact Or.inl ⟨e, mb _ q1, q2, by rw [f8 58 (by omega)]; exact q3, by rw [f8 57 (by omega)]; exact q4, ML_x xv Zo q5, LA_fr xv.2.1 (fun j _ _ => by rw [Zo 53 (by decide) (by decide)]) (by rw [Zo 54 (by decide) (by decide)]) (by rw [Zo 55 (by decide) (by decide)]) q6, by rw [f8 60 (by omega)]; exact q7⟩
  · have xv := q1.2.1.1
    exact Or.inr ⟨e, mb _ q1, q2, q3, by rw [f8 58 (by omega)]; exact q4, by rw [f8 57 (by omega)]; exact q5, ML_x xv Zo q6, LA_fr xv.2.1 (fun j _ _ => by rw [Zo 53 (by decide) (by decide)]) (by rw [Zo 54 (by decide) (by decide)]) (by rw [Zo 55 (by decide) (by decide)]) q7, LW_fr xv (by rw [Zo 59 (by decide) (by decide)]) (by rw [Zo 60 (by decide) (by decide)]) (by rw [Zo 61 (by decide) (by decide)]) (fun x x1 x2 q _ _ => by rw [Zo x (by omega) (by omega)]) q8, by rw [Zo 58 (by decide) (by decide)]; exact q9, by rw [f8 60 (by omega)]; exact q10⟩
