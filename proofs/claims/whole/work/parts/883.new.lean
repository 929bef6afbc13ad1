/-! a balance more -/
theorem INV_new {xs : Nat → Int} {σ t : am_S} {c : Nat} {own β μ κ ρ : Nat → Nat} {me : Nat → Nat → Nat} {n aH nH aL nL aY nY aS nS N l m T W : Nat} {kd : Int} {aR nR aV nV aI nI aQ nQ g w : Nat} (h : INVx xs σ c own β μ κ ρ me n aH nH aL nL aY nY aS nS N l m T W kd aR nR aV nV aI nI aQ nQ g w) (hc : c + 1 ≤ 600) (hn : n < 12) {a u k : Nat} {q : Nat → Nat} {p : Int}
    (na : sN σ ≤ a ∧ a < sN σ + 2 ∧ sN σ ≤ u ∧ u < sN σ + 2 ∧ a ≠ u) (nN : sN t = sN σ + 6) (nU : sU t ≤ sU σ + 100)
    (hI : ∀ x, x < sN σ → x ≠ 2 → x ≠ 31 → (x < 41 ∨ 47 < x ∨ x = 45) → sI t x = sI σ x) (h2 : ∀ j, j ≠ 5 → sI t 2 j = sI σ 2 j) (h25 : sI t 2 5 = (n : Int) + 1) (h31 : ∀ j, j ≠ 16 → sI t 31 j = sI σ 31 j) (h3116 : sI t 31 16 = (n : Int) + 1)
    (h41 : ∀ j, sI t 41 j = if j = n then p else sI σ 41 j) (h42 : ∀ j, sI t 42 j = if j = n then 0 else sI σ 42 j) (h43 : ∀ j, sI t 43 j = if j = n then 0 else sI σ 43 j) (h44 : ∀ j, sI t 44 j = if j = 2 * n ∨ j = 2 * n + 1 then -1 else sI σ 44 j) (h46 : ∀ i, i < 3 * n → sI t 46 i = sI σ 46 i) (h47 : ∀ i, i < n → sI t 47 i = sI σ 47 i)
    (hR : ∀ x, x < sN σ → x ≠ 9 → ∀ j, sR t x j = sR σ x j) (h9 : ∀ j, sR t 9 j = if j = n then some (a, 0, 9) else sR σ 9 j)
    (r1 : sR t a 1 = some (u, 22, k)) (r2 : sR t a 2 = some (10, 7, 3)) (r3 : sR t a 3 = some (sN σ + 2, 2, 2)) (r4 : sR t a 4 = some (sN σ + 4, 2, 2)) (r5 : sR t (sN σ + 2) 0 = some (sN σ + 3, 20, 20)) (r6 : sR t (sN σ + 4) 0 = some (sN σ + 5, 20, 20)) (r7 : ∀ i, i < k → sR t u i = some (β (q i), 0, 9))
    (i0 : sI t a 0 = p) (i5 : sI t a 5 = if p = 6 then mxQ σ β q k else mo p) (i6 : sI t a 6 = 0 ∧ sI t a 7 = 0 ∧ sI t a 8 = 0) (i1 : sI t (sN σ + 2) 1 = -1 ∧ sI t (sN σ + 4) 1 = -1) (i3 : ∀ j, sI t (sN σ + 3) j = 0 ∧ sI t (sN σ + 5) j = 0)
    (hp : 0 ≤ p ∧ p ≤ 6) (hk0 : p ≠ 6 → k = 0) (hk6 : p = 6 → 2 ≤ k ∧ k ≤ 3 ∧ sI t 47 n = k ∧ ∀ i, i < k → q i < n ∧ sI t 46 (3 * n + i) = q i ∧ sI σ (β (q i)) 0 ≠ 6) : INV xs t (c + 1) := by
  obtain ⟨⟨hF, hab, hxs⟩, it, il, ib, im, ij, sc, rz, is, ir, _⟩ := h
  obtain ⟨tr, ow, ti, kt, ks, ⟨w1, w2, w3, w4, w5, w6, w7, w8⟩, ll, lz, ⟨q1, q2, q3, q4⟩, h87⟩ := it
  have o1 := ow.1
  have ri : ∀ x, x < 87 → x ≠ 2 → x ≠ 31 → (x < 41 ∨ 47 < x ∨ x = 45) → sI t x = sI σ x := fun x hx a1 a2 a3 => hI x (by omega) a1 a2 a3
  have ro : ∀ x, x < sN σ → own x ≠ 2 → own x ≠ 31 → (own x < 41 ∨ 47 < own x ∨ own x = 45) → sI t x = sI σ x := fun x hx a1 a2 a3 => by
    by_cases h : x < 87
    · have := o1 x h
      exact ri x h (by omega) (by omega) (by omega)
    · exact hI x hx (by omega) (by omega) (by omega)
  have rr : ∀ x, x < 87 → x ≠ 9 → ∀ j, sR t x j = sR σ x j := fun x hx a1 j => hR x (by omega) a1 j
  have o9 := o1 9 (by decide)
  have rc : ∀ x, x < sN σ → own x ≠ 9 → ∀ j, sR t x j = sR σ x j := fun x hx hr j => hR x hx (fun e => by rw [e] at hr; omega) j
  obtain ⟨own', ho'⟩ : ∃ own' : Nat → Nat, own' = fun x => if x < sN σ then own x else if x = a then 1000 + 8 * n else if x = u then 1001 + 8 * n else 1002 + 8 * n + (x - (sN σ + 2)) := ⟨_, rfl⟩
  have ow' : ∀ x, x < sN σ → own' x = own x := fun x hx => by rw [ho']; exact if_pos hx
  obtain ⟨b1, b2, b3, b4, b5, b6, b7, b8, b9, b10⟩ := ib
  have n9 : sR σ 9 n = none := b9 n (Nat.le_refl _)
  have xf : XF σ t own own' n := by
    refine ⟨⟨by omega, ow'⟩, fun x hx hr => ro x hx (by omega) (by omega) (by omega), fun x hx hr h9' j => rc x hx h9' j, ⟨fun j hj => ?_, fun j _ => rr 26 (by decide) (by decide) j⟩, fun x g' hx hr => by rw [ro x hx (by omega) (by omega) (by omega)]; exact ⟨rfl, rfl⟩, by rw [ri 10 (by decide) (by omega) (by omega) (by omega)], fun j hj => h31 j (by omega), by rw [h31 38 (by decide)]; exact Int.le_refl _, fun b hb => ⟨by rw [h41, if_neg (by omega)], h47 b hb⟩, h46⟩
    rw [h9, if_neg]
    intro e
    rw [e] at hj
    exact hj n9
  obtain ⟨sc', zz⟩ := SC_x h87 o1 xf sc
  have z31 : ∀ j, j ≠ 16 → sI t 31 j = sI σ 31 j := h31
  obtain ⟨m1, m2, m3, m4, m5, m6⟩ := im
  obtain ⟨j1, j2, j3, j4, j5, j6, j7, j8, j9, j10, j11, j12, j13, j14, j15⟩ := ij
  obtain ⟨β', hβ⟩ : ∃ β' : Nat → Nat, β' = fun b => if b = n then a else β b := ⟨_, rfl⟩
  obtain ⟨μ', hμ⟩ : ∃ μ' : Nat → Nat, μ' = fun b => if b = n then u else μ b := ⟨_, rfl⟩
  obtain ⟨κ', hκ⟩ : ∃ κ' : Nat → Nat, κ' = fun b => if b = n then k else κ b := ⟨_, rfl⟩
  obtain ⟨ρ', hρ⟩ : ∃ ρ' : Nat → Nat, ρ' = fun b => if b = n then sN σ + 2 else ρ b := ⟨_, rfl⟩
  obtain ⟨me', hme⟩ : ∃ me' : Nat → Nat → Nat, me' = fun b => if b = n then q else me b := ⟨_, rfl⟩
  have eβ : β' n = a := by rw [hβ]; exact if_pos rfl
  have eμ : μ' n = u := by rw [hμ]; exact if_pos rfl
  have eκ : κ' n = k := by rw [hκ]; exact if_pos rfl
  have eρ : ρ' n = sN σ + 2 := by rw [hρ]; exact if_pos rfl
  have em : me' n = q := by rw [hme]; exact if_pos rfl
  have fβ : ∀ b, b < n → β' b = β b := fun b hb => by rw [hβ]; exact if_neg (by omega)
  have fμ : ∀ b, b < n → μ' b = μ b := fun b hb => by rw [hμ]; exact if_neg (by omega)
  have fκ : ∀ b, b < n → κ' b = κ b := fun b hb => by rw [hκ]; exact if_neg (by omega)
  have fρ : ∀ b, b < n → ρ' b = ρ b := fun b hb => by rw [hρ]; exact if_neg (by omega)
  have fm : ∀ b, b < n → me' b = me b := fun b hb => by rw [hme]; exact if_neg (by omega)
  have iβ : ∀ b, b < n → sI t (β b) = sI σ (β b) := fun b hb => ro _ (b3 b hb).1 (by have := (b2 b hb).1; omega) (by have := (b2 b hb).1; omega) (by have := (b2 b hb).1; omega)
  have iρ : ∀ b, b < n → ∀ k', k' < 4 → sI t (ρ b + k') = sI σ (ρ b + k') := fun b hb k' hk => ro _ (by have := b3 b hb; omega) (by have := (b2 b hb).2.2 k' hk; omega) (by have := (b2 b hb).2.2 k' hk; omega) (by have := (b2 b hb).2.2 k' hk; omega)
  have mq : ∀ (f : Nat → Nat) (z : Nat), (∀ i, i < z → f i < n) → mxQ t β' f z = mxQ σ β f z := fun f z hf => oqA_cg z (fun i hi => by
    show mo (sI t (β' (f i)) 0) = mo (sI σ (β (f i)) 0)
    rw [fβ _ (hf i hi), iβ _ (hf i hi)])
  have mlt : ∀ b, b < n → ∀ i, i < κ b → me b i < n := fun b hb i hi => by
    obtain ⟨-, -, -, -, -, -, -, z8, z9⟩ := b5 b hb
    by_cases e6 : sI σ (β b) 0 = 6
    · exact ((z9 e6).2.2.2.1 i hi).1
    · have := (z8 e6).1
      omega
  refine ⟨own', β', μ', κ', ρ', me', n + 1, aH, nH, aL, nL, aY, nY, aS, nS, N, l, m, T, W, kd, aR, nR, aV, nV, aI, nI, aQ, nQ, g, w, ⟨fun j => by rw [rr 31 (by decide) (by decide)]; exact hF j, ?_, by rw [ri 0 (by decide) (by omega) (by omega) (by omega)]; exact hxs⟩, ⟨?_, OW_f ow' h87 ⟨q1, q2, q3, q4⟩ ow, ?_, ?_, ?_, ?_, ll, lz, by omega, by omega⟩, ?_, ⟨?_, ?_, ?_, ⟨by omega, by rw [h25]; omega, by rw [h3116]; omega⟩, ?_, ?_, ?_, ?_, ?_, ?_⟩, ?_, ?_, sc', fun j => by rw [ri 64 (by decide) (by omega) (by omega) (by omega), ri 65 (by decide) (by omega) (by omega) (by omega)]; exact rz j, ISs_x h87 o1 xf (Nat.le_succ _) is, ?_, hc⟩
  · unfold AB at hab ⊢
    rw [ri 1 (by decide) (by omega) (by omega) (by omega)]
    exact hab
  · unfold TR at tr ⊢
    rw [rr 3 (by decide) (by decide), rr 3 (by decide) (by decide), rr 3 (by decide) (by decide), rr 3 (by decide) (by decide)]
    refine ⟨fun a j r hr => ?_, tr.2⟩
    have mem := crefF_mem _ a j r hr
    obtain ⟨z1, z2, z3, z4, z5, z6, z7, z8, z9⟩ := cref_dec _ mem
    have z1' : a < 31 := z1
    have z2' : a ≠ 9 := z6
    rw [rr a (by omega) z2']
    exact tr.1 a j r hr
  · unfold TI CT at ti ⊢
    rw [z31 2 (by decide), z31 3 (by decide), z31 5 (by decide), ri 32 (by decide) (by omega) (by omega) (by omega), ri 33 (by decide) (by omega) (by omega) (by omega), ri 34 (by decide) (by omega) (by omega) (by omega), ri 35 (by decide) (by omega) (by omega) (by omega)]
    exact ti
  · unfold KTt at kt ⊢
    rw [ro aH q1 (by have := ow.2.1; omega) (by have := ow.2.1; omega) (by have := ow.2.1; omega), ro aL q2 (by have := ow.2.2.1; omega) (by have := ow.2.2.1; omega) (by have := ow.2.2.1; omega)]
    exact kt
  · unfold KS at ks ⊢
    rw [ro aY q3 (by have := ow.2.2.2.1; omega) (by have := ow.2.2.2.1; omega) (by have := ow.2.2.2.1; omega), ro aS q4 (by have := ow.2.2.2.2; omega) (by have := ow.2.2.2.2; omega) (by have := ow.2.2.2.2; omega), ri 36 (by decide) (by omega) (by omega) (by omega), ri 37 (by decide) (by omega) (by omega) (by omega), ri 38 (by decide) (by omega) (by omega) (by omega)]
    exact ks
  · rw [ri 3 (by decide) (by omega) (by omega) (by omega), ri 37 (by decide) (by omega) (by omega) (by omega), z31 13 (by decide)]
    exact ⟨w1, w2, w3, w4, w5, w6, w7, w8⟩
  · intro x hx
    rw [ri 36 (by decide) (by omega) (by omega) (by omega), z31 4 (by decide)]
    exact il x hx
  · intro b hb
    by_cases e : b = n
    · rw [e, eβ, eμ, eκ, eρ, em]
      exact ⟨by rw [h9, if_pos rfl], r1, r2, r3, r4, r5, r6, fun i hi => by
        have h6 : p = 6 := by
          by_cases h6 : p = 6
          · exact h6
          · have := hk0 h6
            omega
        rw [fβ _ ((hk6 h6).2.2.2 i hi).1]
        exact r7 i hi⟩
    · have hb' : b < n := by omega
      obtain ⟨u1, u2, u3, u4, u5, u6, u7, u8⟩ := b1 b hb'
      obtain ⟨y1, y2, y3⟩ := b2 b hb'
      obtain ⟨x1, x2, x3⟩ := b3 b hb'
      have y30 := y3 0 (by decide)
      have y32 := y3 2 (by decide)
      rw [Nat.add_zero] at y30
      rw [fβ b hb', fμ b hb', fκ b hb', fρ b hb', fm b hb']
      exact ⟨by rw [h9, if_neg e]; exact u1, by rw [rc _ x1 (by omega)]; exact u2, by rw [rc _ x1 (by omega)]; exact u3, by rw [rc _ x1 (by omega)]; exact u4, by rw [rc _ x1 (by omega)]; exact u5, by rw [rc _ (by omega) (by omega)]; exact u6, by rw [rc _ (by omega) (by omega)]; exact u7, fun i hi => by
        rw [rc _ x2 (by omega), fβ _ (mlt b hb' i hi)]
        exact u8 i hi⟩
  · intro b hb
    by_cases e : b = n
    · rw [e, eβ, eμ, eρ, ho']
      refine ⟨?_, ?_, fun k' hk' => ?_⟩
      · show (if a < sN σ then own a else if a = a then 1000 + 8 * n else if a = u then 1001 + 8 * n else 1002 + 8 * n + (a - (sN σ + 2))) = _
        rw [if_neg (by omega), if_pos rfl]
      · show (if u < sN σ then own u else if u = a then 1000 + 8 * n else if u = u then 1001 + 8 * n else 1002 + 8 * n + (u - (sN σ + 2))) = _
        rw [if_neg (by omega), if_neg (by omega), if_pos rfl]
      · show (if sN σ + 2 + k' < sN σ then own (sN σ + 2 + k') else if sN σ + 2 + k' = a then 1000 + 8 * n else if sN σ + 2 + k' = u then 1001 + 8 * n else 1002 + 8 * n + (sN σ + 2 + k' - (sN σ + 2))) = _
        rw [if_neg (by omega), if_neg (by omega), if_neg (by omega)]
        omega
    · have hb' : b < n := by omega
      obtain ⟨y1, y2, y3⟩ := b2 b hb'
      obtain ⟨x1, x2, x3⟩ := b3 b hb'
      rw [fβ b hb', fμ b hb', fρ b hb']
      exact ⟨by rw [ow' _ x1]; exact y1, by rw [ow' _ x2]; exact y2, fun k' hk' => by rw [ow' _ (by omega)]; exact y3 k' hk'⟩
  · intro b hb
    by_cases e : b = n
    · rw [e, eβ, eμ, eρ]
      omega
    · have hb' : b < n := by omega
      have := b3 b hb'
      rw [fβ b hb', fμ b hb', fρ b hb']
      omega
  · intro b hb
    by_cases e : b = n
    · rw [e]
      have y41 : sI t 41 n = p := by rw [h41, if_pos rfl]
      have y42 : sI t 42 n = 0 := by rw [h42, if_pos rfl]
      have y43 : sI t 43 n = 0 := by rw [h43, if_pos rfl]
      have y44 : sI t 44 (2 * n) = -1 := by rw [h44, if_pos (Or.inl rfl)]
      have y45 : sI t 44 (2 * n + 1) = -1 := by rw [h44, if_pos (Or.inr rfl)]
      unfold BD PV
      rw [eβ, eκ, eρ, em, i0, i6.1, i6.2.1, i6.2.2, i1.1, show sN σ + 2 + 2 = sN σ + 4 from rfl, i1.2, show sN σ + 2 + 1 = sN σ + 3 from rfl, show sN σ + 2 + 3 = sN σ + 5 from rfl, y41, y42, y43, y44, y45, i5]
      refine ⟨hp, Or.inl rfl, by rw [if_pos rfl], ⟨rfl, by omega, by omega⟩, ⟨rfl, by omega, by omega⟩, ⟨⟨by omega, by omega⟩, fun i => by rw [(i3 i).1]; omega, fun i => by rw [(i3 i).2]; omega⟩, ⟨rfl, rfl, fun i hi => by omega, fun i hi => by omega⟩, fun h6 => ⟨hk0 h6, by rw [if_neg h6]⟩, fun h6 => ?_⟩
      obtain ⟨g1, g2, g3, g4⟩ := hk6 h6
      refine ⟨g1, g2, g3, fun i hi => ?_, by rw [if_pos h6, mq q k (fun i hi => (g4 i hi).1)]⟩
      obtain ⟨d1, d2, d3⟩ := g4 i hi
      exact ⟨by omega, d2, by rw [fβ _ d1, iβ _ d1]; exact d3⟩
    · have hb' : b < n := by omega
      obtain ⟨z1, z2, z3, z4, z5, z6, z7, z8, z9⟩ := b5 b hb'
      have e0 : sI t (ρ b) = sI σ (ρ b) := iρ b hb' 0 (by decide)
      have y41 : sI t 41 b = sI σ 41 b := by rw [h41, if_neg e]
      have y42 : sI t 42 b = sI σ 42 b := by rw [h42, if_neg e]
      have y43 : sI t 43 b = sI σ 43 b := by rw [h43, if_neg e]
      have y44 : sI t 44 (2 * b) = sI σ 44 (2 * b) := by rw [h44, if_neg (by omega)]
      have y45 : sI t 44 (2 * b + 1) = sI σ 44 (2 * b + 1) := by rw [h44, if_neg (by omega)]
      unfold BD PV
      unfold PV at z6
      rw [fβ b hb', fκ b hb', fρ b hb', fm b hb', iβ b hb', e0, iρ b hb' 1 (by decide), iρ b hb' 2 (by decide), iρ b hb' 3 (by decide), y41, y42, y43, y44, y45, ri 45 (by decide) (by omega) (by omega) (by omega), h47 b hb']
      refine ⟨z1, z2, z3, by omega, z5, z6, z7, z8, fun h6 => ?_⟩
      obtain ⟨g1, g2, g3, g4, g5⟩ := z9 h6
      refine ⟨g1, g2, g3, fun i hi => ?_, by rw [mq _ _ (fun i hi => (g4 i hi).1)]; exact g5⟩
      obtain ⟨d1, d2, d3⟩ := g4 i hi
      exact ⟨by omega, by rw [h46 _ (by omega)]; exact d2, by rw [fβ _ d1, iβ _ d1]; exact d3⟩
  · intro b hb
    rw [h41, if_neg (by omega)]
    exact b6 b (by omega)
  · intro j
    rw [h44]
    split
    · omega
    · exact b7 j
  · rw [ri 45 (by decide) (by omega) (by omega) (by omega)]
    exact b8
  · intro j hj
    rw [h9, if_neg (by omega)]
    exact b9 j (by omega)
  · intro j
    rw [h42]
    split
    · omega
    · exact b10 j
  · unfold IM
    rw [ri 10 (by decide) (by omega) (by omega) (by omega), ri 11 (by decide) (by omega) (by omega) (by omega), ri 48 (by decide) (by omega) (by omega) (by omega), z31 25 (by decide), z31 26 (by decide), h2 6 (by decide), z31 4 (by decide), h2 7 (by decide), z31 38 (by decide), h2 8 (by decide), z31 0 (by decide), h2 9 (by decide), z31 1 (by decide)]
    exact ⟨m1, m2, m3, m4, m5, by omega⟩
  · have jR := ro aV j6 (by omega) (by omega) (by omega)
    unfold IJ
    rw [rr 26 (by decide) (by decide), rr 26 (by decide) (by decide), ow' aR j5, ow' aV j6, jR, ri 85 (by decide) (by omega) (by omega) (by omega), ri 27 (by decide) (by omega) (by omega) (by omega), ri 28 (by decide) (by omega) (by omega) (by omega), ri 83 (by decide) (by omega) (by omega) (by omega), ri 84 (by decide) (by omega) (by omega) (by omega), ri 26 (by decide) (by omega) (by omega) (by omega), z31 83 (by decide), z31 84 (by decide), z31 85 (by decide), z31 86 (by decide)]
    exact ⟨j1, j2, j3, j4, by omega, by omega, j7, j8, j9, j10, j11, j12, j13, j14, j15⟩
  · unfold IR at ir ⊢
    rw [zz]
    omega
