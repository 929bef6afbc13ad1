/-! a weighing in both -/
noncomputable def w37' (σ : am_S) (k o : Int) (lf' rt W t : Nat) : Int := if sI σ 37 t < 0 ∧ jw σ k o lf' rt (sI σ 31 4) t = 0 then (W : Int) else sI σ 37 t
def wgS (σ st J : am_S) (own β : Nat → Nat) (b g : Nat) : Prop := st.2 = σ.2 ∧ (∀ x, x < 87 → x ≠ 3 → ¬ (4 ≤ x ∧ x ≤ 7) → sI st x = sI σ x) ∧ (∀ x, own x ≠ 1000 + 8 * b → own x ≠ 1000 + 8 * g → sI st x = sI J x) ∧ ∀ h, (h = b ∨ h = g) → ∀ j, sI st (β h) j = if j = 7 then sI σ (β h) 7 + 1 else sI σ (β h) j
theorem wgS_n {σ A J : am_S} {own β : Nat → Nat} {b g n : Nat} (o1 : ∀ a, a < 87 → own a = a) (J2 : J.2 = σ.2) (Jl : ∀ x, x < 87 → x ≠ 3 → ¬ (4 ≤ x ∧ x ≤ 7) → sI J x = sI σ x) (eA : A = putI J (β g) 7 (sI J (β g) 7 + 1)) (og : own (β g) = 1000 + 8 * g) (eb : g = b) (Jb : ∀ h, h < n → sI J (β h) = sI σ (β h)) (hg : g < n) : wgS σ A J own β b g := by
  have ng : ∀ x, own x ≠ 1000 + 8 * g → x ≠ β g := fun x hx e => hx (by rw [e, og])
  refine ⟨by rw [eA]; exact J2, fun x h1 h2 h3 => ?_, fun x _ h2 => by rw [eA, put_ne (ng x h2)], fun h hh j => ?_⟩
  · rw [eA, put_ne (ng x (by rw [o1 x h1]; omega)), Jl x h1 h2 h3]
  · have : h = g := by omega
    rw [this, eA, put_at, Jb g hg]
theorem wgS_q {σ A A2 J : am_S} {own β : Nat → Nat} {b g n : Nat} (o1 : ∀ a, a < 87 → own a = a) (J2 : J.2 = σ.2) (Jl : ∀ x, x < 87 → x ≠ 3 → ¬ (4 ≤ x ∧ x ≤ 7) → sI J x = sI σ x) (eA : A = putI J (β g) 7 (sI J (β g) 7 + 1)) (eA2 : A2 = putI A (β b) 7 (sI A (β b) 7 + 1)) (ob : own (β b) = 1000 + 8 * b) (og : own (β g) = 1000 + 8 * g) (ngb : g ≠ b) (Jb : ∀ h, h < n → sI J (β h) = sI σ (β h)) (hb : b < n) (hg : g < n) : wgS σ A2 J own β b g := by
  have ng : ∀ x, own x ≠ 1000 + 8 * g → x ≠ β g := fun x hx e => hx (by rw [e, og])
  have nb : ∀ x, own x ≠ 1000 + 8 * b → x ≠ β b := fun x hx e => hx (by rw [e, ob])
  have nbg : β b ≠ β g := own_ne ob og (by omega)
  refine ⟨by rw [eA2, eA]; exact J2, fun x h1 h2 h3 => ?_, fun x h1 h2 => by rw [eA2, put_ne (nb x h1), eA, put_ne (ng x h2)], fun h hh j => ?_⟩
  · rw [eA2, put_ne (nb x (by rw [o1 x h1]; omega)), eA, put_ne (ng x (by rw [o1 x h1]; omega)), Jl x h1 h2 h3]
  · rcases hh with e | e
    · rw [e, eA2, put_at, eA, put_ne nbg, Jb b hb]
    · rw [e, eA2, put_ne nbg.symm, eA, put_at, Jb g hg]
theorem wg_3 {σ : am_S} {aY aS T W lf' rt : Nat} {k o : Int} (w4 : sI σ 3 2 = lf (sI σ 37) T) (nY : aY ≠ 3) (nS : aS ≠ 3) : sI (JT σ aY aS k o lf' rt (sI σ 31 4) W T) 3 2 = lf (up (sI σ 37) (w37' σ k o lf' rt W) T) T := by
  rw [JT_3 nY nS, if_pos rfl, w4]
  unfold lf jN
  rw [← sm_sub]
  refine sm_congr T (fun t ht => ?_)
  show (if sI σ 37 t < 0 then (1 : Int) else 0) - (if sI σ 37 t < 0 ∧ jw σ k o lf' rt (sI σ 31 4) t = 0 then 1 else 0) = if up (sI σ 37) (w37' σ k o lf' rt W) T t < 0 then 1 else 0
  rw [show up (sI σ 37) (w37' σ k o lf' rt W) T t = w37' σ k o lf' rt W t from if_pos ht]
  unfold w37'
  by_cases q : sI σ 37 t < 0
  · by_cases q2 : jw σ k o lf' rt (sI σ 31 4) t = 0
    · have e : (if sI σ 37 t < 0 ∧ jw σ k o lf' rt (sI σ 31 4) t = 0 then (W : Int) else sI σ 37 t) = W := if_pos ⟨q, q2⟩
      have e2 : (if sI σ 37 t < 0 ∧ jw σ k o lf' rt (sI σ 31 4) t = 0 then (1 : Int) else 0) = 1 := if_pos ⟨q, q2⟩
      rw [e, e2, if_pos q, if_neg (by omega)]
      rfl
    · have e : (if sI σ 37 t < 0 ∧ jw σ k o lf' rt (sI σ 31 4) t = 0 then (W : Int) else sI σ 37 t) = sI σ 37 t := if_neg (fun p => q2 p.2)
      have e2 : (if sI σ 37 t < 0 ∧ jw σ k o lf' rt (sI σ 31 4) t = 0 then (1 : Int) else 0) = 0 := if_neg (fun p => q2 p.2)
      rw [e, e2, if_pos q]
      rfl
  · have e : (if sI σ 37 t < 0 ∧ jw σ k o lf' rt (sI σ 31 4) t = 0 then (W : Int) else sI σ 37 t) = sI σ 37 t := if_neg (fun p => q p.1)
    have e2 : (if sI σ 37 t < 0 ∧ jw σ k o lf' rt (sI σ 31 4) t = 0 then (1 : Int) else 0) = 0 := if_neg (fun p => q p.1)
    rw [e, e2, if_neg q]
    rfl
theorem a_or_0 {y : Nat} (hy : y < 2147483648) : a_or (y : Int) 0 = y := by
  have := @a_or_n y 0 hy (by decide)
  rw [Nat.or_zero] at this
  exact this
/-- one truth, a lie more -/
theorem weigh_1 {y W : Nat} (hW : W < 30) (hy : y < 2 ^ W) : ∃ z : Nat, a_or (y : Int) (a_shl 1 (W : Int)) = z ∧ z < 2 ^ (W + 1) ∧ pc z = pc y + 1 := by
  have hp30 : (2 : Nat) ^ W ≤ 2 ^ 30 := Nat.pow_le_pow_right (by decide) (by omega)
  have h30 : (2 : Nat) ^ 30 = 1073741824 := by decide
  have es : a_shl 1 (W : Int) = ((2 ^ W : Nat) : Int) := by
    have := @a_shl_n 1 W (by omega) (by rw [Nat.one_mul]; omega)
    rw [Nat.one_mul] at this
    exact this
  have h2 : (2 : Nat) ^ W < 2 ^ (W + 1) := Nat.pow_lt_pow_right (by decide) (by omega)
  refine ⟨y ||| 2 ^ W, by rw [es, a_or_n (by omega) (by omega)], Nat.or_lt_two_pow (by omega) h2, ?_⟩
  rw [pc_or (by omega)]
  have : bt y W = 0 := by
    unfold bt
    rw [Nat.div_eq_of_lt hy]
    rfl
  omega
theorem ft_2 {k x o had lies : Int} (h : ft k x o had lies = 2) : had < lies := by
  unfold ft at h
  split at h
  · omega
  · split at h
    · rename_i q
      exact q.2.2.2
    · omega
theorem weigh_fin {xs : Nat → Int} {σ : am_S} {c b g' : Nat} {p2 : Int} {own β μ κ ρ : Nat → Nat} {me : Nat → Nat → Nat} {n aH nH aL nL aY nY aS nS N l m T W : Nat} {kd : Int} {aR nR aV nV aI nI aQ nQ g w : Nat} (hx : INVx xs σ c own β μ κ ρ me n aH nH aL nL aY nY aS nS N l m T W kd aR nR aV nV aI nI aQ nQ g w) (hc : c + 1 ≤ 600) (hb : b < n) (hg : g' < n) (hW' : W < 30) (h2' : 0 ≤ sI σ 41 g') (z1 : ∀ c, (layQ2 σ g').1 c = bt (lfB σ ρ g') c - bt (rtB σ ρ g') c) (st : am_S) (x : Int) (U : am_S) (eU : U = putI (putR st 12 6 none) 12 13 0) (ex : x = lf (up (sI σ 37) (w37' σ (sI σ (β g') 0) p2 (lfB σ ρ g') (rtB σ ρ g') W) T) T) (hst : wgS σ st (JT σ aY aS (sI σ (β g') 0) p2 (lfB σ ρ g') (rtB σ ρ g') (sI σ 31 4) W T) own β b g') (M : am_S) (eM : M = mLay (putI U 31 28 (g' : Int)) g') : x = lf (up (sI M 37) (w37 M (sI σ 41 g') p2) T) T ∧ INV xs (mEnd (putI (putI (putI (wRows M (sI σ 41 g') p2 T) 31 13 (sI M 31 13 + 1)) 42 g' (sI M 42 g' + 1)) 42 b (sI (putI (wRows M (sI σ 41 g') p2 T) 42 g' (sI M 42 g' + 1)) 42 b + (if (g' : Int) = b then 0 else 1)))) (c + 1) := by
  have hx0 := hx
  obtain ⟨⟨hF, hab, hxs⟩, it, il, ib, im, ij, sc, rz, is, ir, hc6⟩ := hx
  obtain ⟨hR, ow, ti, kt, ks, ⟨w1, w2, w3, w4, w5, w6, w7, w8⟩, ⟨l1, l2, l3, l4⟩, lz, ⟨q1, q2, q3, q4⟩, h87⟩ := it
  have o1 := ow.1
  obtain ⟨o2, o3, o4, o5⟩ := ow.2
  have ib0 := ib
  obtain ⟨a1, a2, a3, ⟨n12, a4, a5⟩, bd, a6, a7, a8, a9, a10⟩ := ib
  obtain ⟨s2, sl, sj, sb⟩ := hst
  have nYS : aS ≠ aY := own_ne o5 o4 (by decide)
  have nY3 : aY ≠ 3 := own_ne o4 (o1 3 (by decide)) (by decide)
  have nS3 : aS ≠ 3 := own_ne o5 (o1 3 (by decide)) (by decide)
  obtain ⟨k, ek⟩ : ∃ k, k = sI σ (β g') 0 := ⟨_, rfl⟩
  obtain ⟨LF, eLF⟩ : ∃ LF, LF = lfB σ ρ g' := ⟨_, rfl⟩
  obtain ⟨RT, eRT⟩ : ∃ RT, RT = rtB σ ρ g' := ⟨_, rfl⟩
  have e41 : sI σ 41 g' = k := by
    obtain ⟨e1, e2, e3, _⟩ := bd g' hg
    rw [e3] at h2' ⊢
    by_cases t : sI σ (β g') 6 = 0
    · rw [if_pos t, ek]
    · rw [if_neg t] at h2'
      omega
  rw [← ek, ← eLF, ← eRT] at ex sj
  rw [← eLF, ← eRT] at z1
  rw [e41]
  have Ul : ∀ x', 31 ≤ x' → x' < 87 → sI U x' = sI σ x' := fun x' r1 r2 => by rw [eU, put_ne (by omega)]; exact sl x' r2 (by omega) (by omega)
  have qq1 : layQ U g' = layQ σ g' := by unfold layQ; rw [Ul 44 (by decide) (by decide), Ul 45 (by decide) (by decide)]
  have qq2 : layQ2 U g' = layQ2 σ g' := by unfold layQ2; rw [qq1, Ul 44 (by decide) (by decide), Ul 45 (by decide) (by decide)]
  obtain ⟨y1, y2, y3, y4, y5, y6⟩ := mLay_f (st := U) (g := g') (by rw [Ul 45 (by decide) (by decide)]; exact fun i => (a8 i).2)
  rw [← eM] at y1 y2 y3 y4 y5
  have Ml : ∀ x', 32 ≤ x' → x' < 87 → x' ≠ 50 → sI M x' = sI σ x' := fun x' r1 r2 r3 => by rw [y2 x' (by omega) r3, Ul x' (by omega) r2]
  have M31 : ∀ j, j ≠ 28 → j ≠ 30 → j ≠ 31 → j ≠ 32 → sI M 31 j = sI σ 31 j := fun j j1 j2 j3 j4 => by rw [y3 j j1 j2 j3 j4, Ul 31 (by decide) (by decide)]
  have m37 := Ml 37 (by decide) (by decide) (by decide)
  have m36 := Ml 36 (by decide) (by decide) (by decide)
  have m38 := Ml 38 (by decide) (by decide) (by decide)
  have m13 : sI M 31 13 = W := by rw [M31 13 (by decide) (by decide) (by decide) (by decide)]; exact w6
  have fvj : ∀ t, t < T → fv M k p2 t = jw σ k p2 LF RT (sI σ 31 4) t := fun t ht => fv_jw (TI_40 ti ht) (Ml 33 (by decide) (by decide) (by decide)) (Ml 34 (by decide) (by decide) (by decide)) (Ml 35 (by decide) (by decide) (by decide)) m36 (M31 4 (by decide) (by decide) (by decide) (by decide)) (fun c hc => by rw [y5 c hc, qq2]; exact z1 c)
  have e37 : ∀ t, t < T → w37 M k p2 t = w37' σ k p2 LF RT W t := fun t ht => by
    unfold w37 w37'
    rw [fvj t ht, m37, m13]
    by_cases q : sI σ 37 t < 0
    · rw [if_pos q]
      by_cases q' : jw σ k p2 LF RT (sI σ 31 4) t = 0
      · rw [if_pos q', if_pos ⟨q, q'⟩]
      · rw [if_neg q', if_neg (fun p => q' p.2)]
    · rw [if_neg q, if_neg (fun p => q p.1)]
  have elf : lf (up (sI σ 37) (w37' σ k p2 LF RT W) T) T = lf (up (sI M 37) (w37 M k p2) T) T := by
    unfold lf
    refine sm_congr T (fun t ht => ?_)
    show (if up (sI σ 37) (w37' σ k p2 LF RT W) T t < 0 then (1 : Int) else 0) = if up (sI M 37) (w37 M k p2) T t < 0 then 1 else 0
    rw [show up (sI σ 37) (w37' σ k p2 LF RT W) T t = w37' σ k p2 LF RT W t from if_pos ht, show up (sI M 37) (w37 M k p2) T t = w37 M k p2 t from if_pos ht, e37 t ht]
  refine ⟨by rw [ex]; exact elf, ?_⟩
  obtain ⟨F, eF⟩ : ∃ F, F = mEnd (putI (putI (putI (wRows M k p2 T) 31 13 (sI M 31 13 + 1)) 42 g' (sI M 42 g' + 1)) 42 b (sI (putI (wRows M k p2 T) 42 g' (sI M 42 g' + 1)) 42 b + (if (g' : Int) = b then 0 else 1))) := ⟨_, rfl⟩
  rw [← eF]
  obtain ⟨Z, eZ⟩ : ∃ Z : am_S, Z = (F.1, σ.2) := ⟨_, rfl⟩
  have F2 : F.2 = (putR σ 12 6 none).2 := by
    have e1 : F.2 = M.2 := by rw [eF]; rfl
    have e2 : U.2 = (putR st 12 6 none).2 := by rw [eU]; rfl
    have e3 : (putR st 12 6 none).2 = (putR σ 12 6 none).2 := by
      show ((fun x y => if x = 12 ∧ y = 6 then none else st.2.1 x y), st.2.2) = ((fun x y => if x = 12 ∧ y = 6 then none else σ.2.1 x y), σ.2.2)
      rw [s2]
    rw [e1, y1, e2, e3]
  have FZ : F = putR Z 12 6 none := by
    rw [eZ]
    show F = (F.1, (putR σ 12 6 none).2)
    rw [← F2]
  rw [FZ]
  have Z2 : Z.2 = σ.2 := by rw [eZ]
  have ZF : ∀ x', sI Z x' = sI F x' := fun x' => by rw [eZ]; rfl
  have Zo : ∀ x', x' ≠ 31 → x' ≠ 36 → x' ≠ 37 → x' ≠ 38 → x' ≠ 42 → sI Z x' = sI M x' := fun x' h1 h2 h3 h4 h5 => by
    rw [ZF, eF]
    unfold mEnd wRows rows3
    rw [put_ne h1, put_ne h1, put_ne h1, put_ne h1, put_ne h1, put_ne h1, put_ne h1, put_ne h1, put_ne h5, put_ne h5, put_ne h1, row_ne h4, row_ne h2, row_ne h3]
  have Z36 : ∀ t, t < T → sI Z 36 t = w36 M k p2 t := fun t ht => by
    rw [ZF, eF]
    unfold mEnd wRows rows3
    rw [put_ne (by decide), put_ne (by decide), put_ne (by decide), put_ne (by decide), put_ne (by decide), put_ne (by decide), put_ne (by decide), put_ne (by decide), put_ne (by decide), put_ne (by decide), put_ne (by decide), row_ne (by decide), row_at]
    exact if_pos ht
  have Z37 : ∀ t, t < T → sI Z 37 t = w37 M k p2 t := fun t ht => by
    rw [ZF, eF]
    unfold mEnd wRows rows3
    rw [put_ne (by decide), put_ne (by decide), put_ne (by decide), put_ne (by decide), put_ne (by decide), put_ne (by decide), put_ne (by decide), put_ne (by decide), put_ne (by decide), put_ne (by decide), put_ne (by decide), row_ne (by decide), row_ne (by decide), row_at]
    exact if_pos ht
  have Z38 : ∀ t, t < T → sI Z 38 t = w38 M k p2 t := fun t ht => by
    rw [ZF, eF]
    unfold mEnd wRows rows3
    rw [put_ne (by decide), put_ne (by decide), put_ne (by decide), put_ne (by decide), put_ne (by decide), put_ne (by decide), put_ne (by decide), put_ne (by decide), put_ne (by decide), put_ne (by decide), put_ne (by decide), row_at]
    exact if_pos ht
  have m42 := Ml 42 (by decide) (by decide) (by decide)
  have Z42 : ∀ j, sI Z 42 j = sI σ 42 j + (if j = b ∨ j = g' then 1 else 0) := fun j => by
    rw [ZF, eF]
    unfold mEnd wRows rows3
    rw [put_ne (by decide), put_ne (by decide), put_ne (by decide), put_ne (by decide), put_ne (by decide), put_ne (by decide), put_ne (by decide), put_ne (by decide), put_at, put_at, put_at, put_ne (by decide), row_ne (by decide), row_ne (by decide), row_ne (by decide), m42]
    by_cases e1 : j = b
    · rw [if_pos e1, if_pos (Or.inl e1), e1]
      by_cases e2 : b = g'
      · rw [if_pos e2, if_pos (by omega), e2]
        omega
      · rw [if_neg e2, if_neg (by omega)]
    · rw [if_neg e1]
      by_cases e2 : j = g'
      · rw [if_pos e2, if_pos (Or.inr e2), e2]
      · rw [if_neg e2, if_neg (by omega), Int.add_zero]
  have Z31 : ∀ j, sI Z 31 j = if j = 78 then 0 else if j = 77 then 0 else if j = 76 then 0 else if j = 73 then 0 else if j = 37 then 0 else if j = 35 then -1000 else if j = 34 then 0 else if j = 33 then 0 else if j = 13 then (W : Int) + 1 else sI M 31 j := fun j => by
    rw [ZF, eF]
    unfold mEnd wRows rows3
    rw [put_at, put_at, put_at, put_at, put_at, put_at, put_at, put_at, put_ne (by decide), put_ne (by decide), put_at, row_ne (by decide), row_ne (by decide), row_ne (by decide), m13]
  have z31 : ∀ j, j ≠ 13 → (j < 28 ∨ j = 29 ∨ 78 < j ∨ (37 < j ∧ j < 73)) → sI Z 31 j = sI σ 31 j := fun j h1 h2 => by rw [Z31, if_neg (by omega), if_neg (by omega), if_neg (by omega), if_neg (by omega), if_neg (by omega), if_neg (by omega), if_neg (by omega), if_neg (by omega), if_neg h1, M31 j (by omega) (by omega) (by omega) (by omega)]
  have ZS : ∀ x', x' ≠ 31 → x' ≠ 36 → x' ≠ 37 → x' ≠ 38 → x' ≠ 42 → x' ≠ 50 → x' ≠ 12 → sI Z x' = sI st x' := fun x' h1 h2 h3 h4 h5 h6 h7 => by
    rw [Zo x' h1 h2 h3 h4 h5, y2 x' h1 h6, eU, put_ne h7]
    rfl
  have Zf : ∀ x', x' < sN σ → own x' ≠ 31 → own x' ≠ 36 → own x' ≠ 37 → own x' ≠ 38 → own x' ≠ 42 → own x' ≠ 50 → own x' ≠ 12 → own x' ≠ 1000 + 8 * b → own x' ≠ 1000 + 8 * g' → sI Z x' = sI (JT σ aY aS k p2 LF RT (sI σ 31 4) W T) x' := fun x' hx' r1 r2 r3 r4 r5 r6 r7 r8 r9 => by
    rw [ZS x' (fun e => by rw [e, o1 31 (by decide)] at r1; omega) (fun e => by rw [e, o1 36 (by decide)] at r2; omega) (fun e => by rw [e, o1 37 (by decide)] at r3; omega) (fun e => by rw [e, o1 38 (by decide)] at r4; omega) (fun e => by rw [e, o1 42 (by decide)] at r5; omega) (fun e => by rw [e, o1 50 (by decide)] at r6; omega) (fun e => by rw [e, o1 12 (by decide)] at r7; omega)]
    exact sj x' r8 r9
  have Zg : ∀ x', x' < sN σ → own x' ≠ 31 → own x' ≠ 36 → own x' ≠ 37 → own x' ≠ 38 → own x' ≠ 42 → own x' ≠ 50 → own x' ≠ 12 → own x' ≠ 1000 + 8 * b → own x' ≠ 1000 + 8 * g' → own x' ≠ 3 → own x' ≠ 6 → own x' ≠ 7 → sI Z x' = sI σ x' := fun x' hx' r1 r2 r3 r4 r5 r6 r7 r8 r9 r10 r11 r12 => by
    rw [Zf x' hx' r1 r2 r3 r4 r5 r6 r7 r8 r9, JT_o (fun e => by rw [e] at r11; omega) (fun e => by rw [e] at r12; omega) (fun e => by rw [e, o1 3 (by decide)] at r10; omega)]
  have row : ∀ x', x' < 87 → x' ≠ 31 → x' ≠ 36 → x' ≠ 37 → x' ≠ 38 → x' ≠ 42 → x' ≠ 50 → x' ≠ 12 → x' ≠ 3 → ¬ (4 ≤ x' ∧ x' ≤ 7) → sI Z x' = sI σ x' := fun x' hx' h1 h2 h3 h4 h5 h6 h7 h8 h9 => by
    have e := o1 x' hx'
    exact Zg x' (by omega) (by omega) (by omega) (by omega) (by omega) (by omega) (by omega) (by omega) (by omega) (by omega) (by omega) (by omega) (by omega)
  have ZY : sI Z aY = sI (JT σ aY aS k p2 LF RT (sI σ 31 4) W T) aY := Zf aY q3 (by omega) (by omega) (by omega) (by omega) (by omega) (by omega) (by omega) (by omega) (by omega)
  have ZSs : sI Z aS = sI (JT σ aY aS k p2 LF RT (sI σ 31 4) W T) aS := Zf aS q4 (by omega) (by omega) (by omega) (by omega) (by omega) (by omega) (by omega) (by omega) (by omega)
  have o33 := o1 3 (by decide)
  have Z3 : sI Z 3 = sI (JT σ aY aS k p2 LF RT (sI σ 31 4) W T) 3 := Zf 3 (by omega) (by omega) (by omega) (by omega) (by omega) (by omega) (by omega) (by omega) (by omega) (by omega)
  have Zb : ∀ h, h < n → ∀ j, sI Z (β h) j = if j = 7 then sI σ (β h) 7 + (if h = b ∨ h = g' then 1 else 0) else sI σ (β h) j := fun h hh j => by
    have oh := (a2 h hh).1
    have nl : ∀ x', x' < 87 → β h ≠ x' := fun x' hx' e => by
      have := o1 x' hx'
      rw [← e, oh] at this
      omega
    by_cases e : h = b ∨ h = g'
    · rw [if_pos e, ZS (β h) (nl 31 (by decide)) (nl 36 (by decide)) (nl 37 (by decide)) (nl 38 (by decide)) (nl 42 (by decide)) (nl 50 (by decide)) (nl 12 (by decide))]
      exact sb h e j
    · rw [if_neg e, Zg (β h) (a3 h hh).1 (by omega) (by omega) (by omega) (by omega) (by omega) (by omega) (by omega) (by omega) (by omega) (by omega) (by omega) (by omega), Int.add_zero]
      split
      · rename_i e7
        rw [e7]
      · rfl
  obtain ⟨r1, r2, r3⟩ := R2 Z2
  have pw := p30 w1
  have hz31 : ∀ t, t < T → 0 ≤ sI σ 36 t := fun t ht => by
    obtain ⟨k1, k2, k3, k4, k5, k6, k7⟩ := ks t ht
    have := pc_bd (sI σ 38 t).toNat
    omega
  have itZ : IT Z own aH nH aL nL aY nY aS nS N l m T (W + 1) kd := by
    refine ⟨TR_2 Z2 hR, ow, ?_, ?_, fun t ht => ?_, ⟨by omega, ?_, ?_, ?_, ?_, ?_, ?_, ?_⟩, ⟨l1, l2, l3, l4⟩, lz, by omega, by omega⟩
    · unfold TI CT at ti ⊢
      rw [z31 2 (by decide) (by omega), z31 3 (by decide) (by omega), z31 5 (by decide) (by omega), row 32 (by decide) (by decide) (by decide) (by decide) (by decide) (by decide) (by decide) (by decide) (by decide) (by omega), row 33 (by decide) (by decide) (by decide) (by decide) (by decide) (by decide) (by decide) (by decide) (by decide) (by omega), row 34 (by decide) (by decide) (by decide) (by decide) (by decide) (by decide) (by decide) (by decide) (by decide) (by omega), row 35 (by decide) (by decide) (by decide) (by decide) (by decide) (by decide) (by decide) (by decide) (by decide) (by omega)]
      exact ti
    · unfold KTt at kt ⊢
      rw [Zg aH q1 (by omega) (by omega) (by omega) (by omega) (by omega) (by omega) (by omega) (by omega) (by omega) (by omega) (by omega) (by omega), Zg aL q2 (by omega) (by omega) (by omega) (by omega) (by omega) (by omega) (by omega) (by omega) (by omega) (by omega) (by omega) (by omega)]
      exact kt
    · obtain ⟨k1, k2, k3, k4, k5, k6, k7⟩ := ks t ht
      obtain ⟨y, ey⟩ : ∃ y : Nat, sI σ 38 t = y := ⟨(sI σ 38 t).toNat, by omega⟩
      have eP : ((2 ^ W : Nat) : Int) = 2 ^ W := by push_cast; rfl
      have eP1 : ((2 ^ (W + 1) : Nat) : Int) = 2 ^ (W + 1) := by push_cast; rfl
      have hp2 : (2 : Nat) ^ W ≤ 2 ^ (W + 1) := Nat.pow_le_pow_right (by decide) (by omega)
      have hp30 : (2 : Nat) ^ W ≤ 2 ^ 30 := Nat.pow_le_pow_right (by decide) (by omega)
      have h30 : (2 : Nat) ^ 30 = 1073741824 := by decide
      have hy : y < 2 ^ W := by omega
      obtain ⟨z, zz1, zz2, zz3⟩ := weigh_1 hW' hy
      rw [ey, Int.toNat_natCast] at k7
      have oy0 := a_or_0 (y := y) (by omega)
      rw [ZSs, ZY, JT_S nYS nS3, JT_Y nY3, show up (sI σ aS) (jS σ aS k p2 LF RT (sI σ 31 4) W) T t = jS σ aS k p2 LF RT (sI σ 31 4) W t from if_pos ht, show up (sI σ aY) (jY σ aY k p2 LF RT (sI σ 31 4) W) T t = jY σ aY k p2 LF RT (sI σ 31 4) W t from if_pos ht, Z36 t ht, Z37 t ht, Z38 t ht, e37 t ht]
      unfold jS jY w37' w38 w36
      rw [fvj t ht, m37, m38, m36, m13, k4, ey, k1]
      by_cases q : sI σ 37 t < 0
      · rw [if_pos q, if_pos q]
        by_cases j0 : jw σ k p2 LF RT (sI σ 31 4) t = 0
        · rw [if_pos ⟨q, j0⟩, if_pos ⟨q, j0⟩, if_neg (fun p => by omega), if_neg (by omega), if_neg (by omega), oy0, Int.toNat_natCast]
          omega
        · rw [if_neg (fun p => j0 p.2), if_neg (fun p => j0 p.2)]
          by_cases j2 : jw σ k p2 LF RT (sI σ 31 4) t = 2
          · rw [if_pos ⟨q, j2⟩, if_pos j2, if_pos j2, zz1, Int.toNat_natCast]
            omega
          · rw [if_neg (fun p => j2 p.2), if_neg j2, if_neg j2, oy0, Int.toNat_natCast]
            omega
      · rw [if_neg q, if_neg q, if_neg (fun p => q p.1), if_neg (fun p => q p.1), if_neg (fun p => q p.1), oy0, Int.toNat_natCast]
        omega
    · rw [Z3, JT_3 nY3 nS3]; exact w2
    · rw [Z3, JT_3 nY3 nS3]; exact w3
    · rw [Z3, wg_3 w4 nY3 nS3, elf]
      unfold lf
      refine sm_congr T (fun t ht => ?_)
      show (if up (sI M 37) (w37 M k p2) T t < 0 then (1 : Int) else 0) = if sI Z 37 t < 0 then 1 else 0
      rw [Z37 t ht, show up (sI M 37) (w37 M k p2) T t = w37 M k p2 t from if_pos ht]
    · rw [Z3, JT_3 nY3 nS3, if_neg (by decide), if_pos rfl]
      omega
    · rw [Z31, if_neg (by decide), if_neg (by decide), if_neg (by decide), if_neg (by decide), if_neg (by decide), if_neg (by decide), if_neg (by decide), if_neg (by decide), if_pos rfl]
      omega
    · rw [Z3, JT_3 nY3 nS3]; exact w7
    · rw [Z3, JT_3 nY3 nS3]; exact w8
  refine INV_off (INVp_g hx0 hc Z2 (row 0 (by decide) (by decide) (by decide) (by decide) (by decide) (by decide) (by decide) (by decide) (by decide) (by omega)) (row 1 (by decide) (by decide) (by decide) (by decide) (by decide) (by decide) (by decide) (by decide) (by decide) (by omega)) (row 64 (by decide) (by decide) (by decide) (by decide) (by decide) (by decide) (by decide) (by decide) (by decide) (by omega)) (row 65 (by decide) (by decide) (by decide) (by decide) (by decide) (by decide) (by decide) (by decide) (by decide) (by omega)) itZ ?_ ?_ (IM_K (row 10 (by decide) (by decide) (by decide) (by decide) (by decide) (by decide) (by decide) (by decide) (by decide) (by omega)) (row 11 (by decide) (by decide) (by decide) (by decide) (by decide) (by decide) (by decide) (by decide) (by decide) (by omega)) (row 48 (by decide) (by decide) (by decide) (by decide) (by decide) (by decide) (by decide) (by decide) (by decide) (by omega)) (fun j _ => by rw [row 2 (by decide) (by decide) (by decide) (by decide) (by decide) (by decide) (by decide) (by decide) (by decide) (by omega)]) (fun j hj => z31 j (by omega) (by omega)) im) (IJ_K Z2 (fun x hx' hr => Zg x hx' (by omega) (by omega) (by omega) (by omega) (by omega) (by omega) (by omega) (by omega) (by omega) (by omega) (by omega) (by omega)) o1 h87 (fun j hj => z31 j (by omega) (by omega)) ij)) ?_
  · intro t ht
    rw [Z36 t ht, z31 4 (by decide) (by omega)]
    have := il t ht
    unfold w36
    rw [fvj t ht, m37, m36]
    by_cases q : sI σ 37 t < 0
    · rw [if_pos q]
      by_cases j2 : jw σ k p2 LF RT (sI σ 31 4) t = 2
      · have := ft_2 j2
        rw [if_pos j2]
        omega
      · rw [if_neg j2]
        omega
    · rw [if_neg q]
      omega
  · refine ⟨BS_2 Z2 a1, a2, fun b' hb' => by have := a3 b' hb'; omega, by rw [row 2 (by decide) (by decide) (by decide) (by decide) (by decide) (by decide) (by decide) (by decide) (by decide) (by omega), z31 16 (by decide) (by omega)]; exact ⟨n12, a4, a5⟩, fun b' hb' => ?_, by rw [row 41 (by decide) (by decide) (by decide) (by decide) (by decide) (by decide) (by decide) (by decide) (by decide) (by omega)]; exact a6, by rw [row 44 (by decide) (by decide) (by decide) (by decide) (by decide) (by decide) (by decide) (by decide) (by decide) (by omega)]; exact a7, by rw [row 45 (by decide) (by decide) (by decide) (by decide) (by decide) (by decide) (by decide) (by decide) (by decide) (by omega)]; exact a8, fun j hj => by rw [r1]; exact a9 j hj, fun j => ?_⟩
    · have hρ : ∀ k, k < 4 → sI Z (ρ b' + k) = sI σ (ρ b' + k) := fun k hk => by
        have := (a2 b' hb').2.2 k hk
        exact Zg _ (by have := a3 b' hb'; omega) (by omega) (by omega) (by omega) (by omega) (by omega) (by omega) (by omega) (by omega) (by omega) (by omega) (by omega) (by omega)
      have e0 : sI Z (ρ b') = sI σ (ρ b') := hρ 0 (by decide)
      have e1 := hρ 1 (by decide)
      have e2 := hρ 2 (by decide)
      have e3 := hρ 3 (by decide)
      have y : ∀ h, h < n → ∀ j, j ≠ 7 → sI Z (β h) j = sI σ (β h) j := fun h hh j hj => by rw [Zb h hh, if_neg hj]
      obtain ⟨d1, d2, d3', d4, d5, d6, d7, d8, d9⟩ := bd b' hb'
      refine ⟨by rw [y b' hb' 0 (by decide)]; exact d1, by rw [y b' hb' 6 (by decide)]; exact d2, by rw [row 41 (by decide) (by decide) (by decide) (by decide) (by decide) (by decide) (by decide) (by decide) (by decide) (by omega), y b' hb' 6 (by decide), y b' hb' 0 (by decide)]; exact d3', ?_, by rw [y b' hb' 8 (by decide), row 43 (by decide) (by decide) (by decide) (by decide) (by decide) (by decide) (by decide) (by decide) (by decide) (by omega)]; exact d5, by unfold PV at d6 ⊢; rw [e0, e1, e2, e3]; exact d6, by rw [e0, e1, e2, e3, row 44 (by decide) (by decide) (by decide) (by decide) (by decide) (by decide) (by decide) (by decide) (by decide) (by omega), row 45 (by decide) (by decide) (by decide) (by decide) (by decide) (by decide) (by decide) (by decide) (by decide) (by omega)]; exact d7, by rw [y b' hb' 0 (by decide), y b' hb' 5 (by decide)]; exact d8, fun h6 => ?_⟩
      · rw [Zb b' hb', if_pos rfl, Z42]
        split <;> omega
      · rw [y b' hb' 0 (by decide)] at h6
        obtain ⟨v1, v2, v3, v4, v5⟩ := d9 h6
        refine ⟨v1, v2, by rw [row 47 (by decide) (by decide) (by decide) (by decide) (by decide) (by decide) (by decide) (by decide) (by decide) (by omega)]; exact v3, fun i hi => ?_, ?_⟩
        · obtain ⟨u1, u2, u3⟩ := v4 i hi
          exact ⟨u1, by rw [row 46 (by decide) (by decide) (by decide) (by decide) (by decide) (by decide) (by decide) (by decide) (by decide) (by omega)]; exact u2, by rw [y _ u1 0 (by decide)]; exact u3⟩
        · rw [y b' hb' 5 (by decide), v5]
          unfold mxQ
          refine oqA_cg _ (fun i hi => ?_)
          show mo (sI σ (β (me b' i)) 0) = mo (sI Z (β (me b' i)) 0)
          rw [y _ (v4 i hi).1 0 (by decide)]
    · rw [Z42]
      have := a10 j
      by_cases e : j = b ∨ j = g'
      · rw [if_pos e]
        have hj : j < n := by omega
        have := (bd j hj).2.2.2.1
        omega
      · rw [if_neg e]
        omega
  · refine ⟨?_, ?_, ?_, ?_, ?_, ?_, ?_, ?_, ?_⟩
    · rw [Zo 12 (by decide) (by decide) (by decide) (by decide) (by decide), y2 12 (by decide) (by decide), eU, put_at, if_pos rfl]
    all_goals (rw [Z31]; rfl)
