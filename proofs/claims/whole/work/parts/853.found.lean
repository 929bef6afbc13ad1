/-! what stays, what a finding changes -/
/-- ints change, none of the truths', none that a search sees -/
def KP (σ t : am_S) (own : Nat → Nat) (n : Nat) : Prop := t.2 = σ.2 ∧ (∀ x, x < sN σ → (own x ≤ 1 ∨ (3 ≤ own x ∧ own x ≤ 7) ∨ (12 ≤ own x ∧ own x ≤ 25) ∨ 2000 ≤ own x ∨ (32 ≤ own x ∧ own x ≤ 38) ∨ (51 ≤ own x ∧ own x ≤ 82)) → sI t x = sI σ x) ∧ (∀ x g, x < sN σ → own x = 1000 + 8 * g → sI t x 0 = sI σ x 0 ∧ sI t x 5 = sI σ x 5) ∧ sI t 10 2 = sI σ 10 2 ∧ (∀ j, (j = 2 ∨ j = 3 ∨ j = 4 ∨ j = 5 ∨ j = 13 ∨ j = 26 ∨ (33 ≤ j ∧ j ≤ 40 ∧ j ≠ 38) ∨ (57 ≤ j ∧ j ≤ 60) ∨ j = 73 ∨ j = 76 ∨ j = 77 ∨ j = 78) → sI t 31 j = sI σ 31 j) ∧ sI σ 31 38 ≤ sI t 31 38 ∧ (∀ b, b < n → sI t 41 b = sI σ 41 b ∧ sI t 47 b = sI σ 47 b) ∧ ∀ i, i < 3 * n → sI t 46 i = sI σ 46 i
theorem KP_XF {σ t : am_S} {own : Nat → Nat} {n : Nat} (h : KP σ t own n) : XF σ t own own n := by
  obtain ⟨h1, h2, h3, h4, h5, h6, h7, h8⟩ := h
  obtain ⟨r1, r2, r3⟩ := R2 h1
  exact ⟨⟨by omega, fun _ _ => rfl⟩, fun x hx hr => h2 x hx (by omega), fun x _ _ _ j => r1 x j, ⟨fun j _ => r1 9 j, fun j _ => r1 26 j⟩, h3, h4, h5, h6, h7, h8⟩
theorem IT_K {σ t : am_S} {own : Nat → Nat} {aH nH aL nL aY nY aS nS N l m T W n : Nat} {kd : Int} (k : KP σ t own n) (h : IT σ own aH nH aL nL aY nY aS nS N l m T W kd) : IT t own aH nH aL nL aY nY aS nS N l m T W kd := by
  obtain ⟨h1, h2, h3, h4, h5, h6, h7, h8⟩ := k
  obtain ⟨r1, r2, r3⟩ := R2 h1
  obtain ⟨hR, ow, ti, kt, ks, w, l', z, ⟨p1, p2, p3, p4⟩, h87⟩ := h
  have ow' := ow
  obtain ⟨o1, o2, o3, o4, o5⟩ := ow
  have ri : ∀ x, x < 87 → (x = 3 ∨ (32 ≤ x ∧ x ≤ 38)) → sI t x = sI σ x := fun x hx hr => h2 x (by omega) (by rw [o1 x hx]; omega)
  have eH := h2 aH p1 (by omega)
  have eL := h2 aL p2 (by omega)
  have eY := h2 aY p3 (by omega)
  have eS := h2 aS p4 (by omega)
  refine ⟨?_, ow', ?_, ?_, ?_, ?_, l', z, by omega, by omega⟩
  · unfold TR CF at hR ⊢
    refine ⟨fun a j r hr => by rw [r1]; exact hR.1 a j r hr, by rw [r1]; exact hR.2.1, by rw [r1]; exact hR.2.2.1, by rw [r1]; exact hR.2.2.2.1, by rw [r1]; exact hR.2.2.2.2⟩
  · unfold TI CT at ti ⊢
    rw [h5 2 (by omega), h5 3 (by omega), h5 5 (by omega), ri 32 (by decide) (by omega), ri 33 (by decide) (by omega), ri 34 (by decide) (by omega), ri 35 (by decide) (by omega)]
    exact ti
  · unfold KTt at kt ⊢
    rw [eH, eL]
    exact kt
  · unfold KS at ks ⊢
    rw [eY, eS, ri 36 (by decide) (by omega), ri 37 (by decide) (by omega), ri 38 (by decide) (by omega)]
    exact ks
  · rw [ri 3 (by decide) (by omega), h5 13 (by omega), ri 37 (by decide) (by omega)]
    exact w
theorem IM_K {σ t : am_S} {c : Nat} (h10 : sI t 10 = sI σ 10) (h11 : sI t 11 = sI σ 11) (h48 : sI t 48 = sI σ 48) (h2 : ∀ j, 6 ≤ j → sI t 2 j = sI σ 2 j) (h31 : ∀ j, (j = 25 ∨ j = 26 ∨ j = 4 ∨ j = 38 ∨ j = 0 ∨ j = 1) → sI t 31 j = sI σ 31 j) (h : IM σ c) : IM t (c + 1) := by
  unfold IM at h ⊢
  rw [h10, h11, h48, h2 6 (by omega), h2 7 (by omega), h2 8 (by omega), h2 9 (by omega), h31 25 (by omega), h31 26 (by omega), h31 4 (by omega), h31 38 (by omega), h31 0 (by omega), h31 1 (by omega)]
  obtain ⟨a1, a2, a3, a4, a5, a6⟩ := h
  exact ⟨a1, a2, a3, a4, a5, by omega⟩
theorem IJ_K {σ t : am_S} {own : Nat → Nat} {aR nR aV nV : Nat} (h2 : t.2 = σ.2) (hr : ∀ x, x < sN σ → ((26 ≤ own x ∧ own x ≤ 30) ∨ (83 ≤ own x ∧ own x ≤ 86)) → sI t x = sI σ x) (o1 : ∀ a, a < 87 → own a = a) (h87 : 87 ≤ sN σ) (h31 : ∀ j, (83 ≤ j ∧ j ≤ 86) → sI t 31 j = sI σ 31 j) (h : IJ σ own aR nR aV nV) : IJ t own aR nR aV nV := by
  obtain ⟨r1, r2, r3⟩ := R2 h2
  obtain ⟨a1, a2, a3, a4, a5, a6, a7, a8, a9, a10, a11, a12, a13, a14, a15⟩ := h
  have ri : ∀ x, x < 87 → ((26 ≤ x ∧ x ≤ 30) ∨ (83 ≤ x ∧ x ≤ 86)) → sI t x = sI σ x := fun x hx hr' => hr x (by omega) (by rw [o1 x hx]; omega)
  refine ⟨by rw [r1]; exact a1, by rw [r1]; exact a2, a3, a4, by omega, by omega, a7, a8, by rw [hr aV a6 (by omega)]; exact a9, by rw [ri 85 (by decide) (by omega)]; exact a10, ?_, ?_, ?_, ?_, ?_⟩
  · rw [ri 27 (by decide) (by omega), ri 28 (by decide) (by omega), ri 83 (by decide) (by omega), ri 84 (by decide) (by omega)]; exact a11
  · rw [ri 83 (by decide) (by omega), ri 84 (by decide) (by omega)]; exact a12
  · rw [ri 83 (by decide) (by omega), ri 84 (by decide) (by omega)]; exact a13
  · rw [ri 26 (by decide) (by omega), h31 83 (by omega)]; exact a14
  · rw [ri 26 (by decide) (by omega), h31 83 (by omega), h31 84 (by omega), h31 85 (by omega), h31 86 (by omega)]; exact a15
theorem BD_K {σ t : am_S} {β κ ρ : Nat → Nat} {me : Nat → Nat → Nat} {n c b : Nat} (hβ : ∀ g, g < n → sI t (β g) = sI σ (β g)) (hρ : ∀ k, k < 4 → sI t (ρ b + k) = sI σ (ρ b + k)) (hb : b < n) (h4 : ∀ x, 41 ≤ x → x ≤ 47 → sI t x = sI σ x) (h : BD σ β κ ρ me n c b) : BD t β κ ρ me n (c + 1) b := by
  have e0 : sI t (ρ b) = sI σ (ρ b) := hρ 0 (by decide)
  have e1 := hρ 1 (by decide)
  have e2 := hρ 2 (by decide)
  have e3 := hρ 3 (by decide)
  obtain ⟨a1, a2, a3, a4, a5, a6, a7, a8, a9⟩ := h
  refine ⟨by rw [hβ b hb]; exact a1, by rw [hβ b hb]; exact a2, by rw [h4 41 (by decide) (by decide), hβ b hb]; exact a3, by rw [hβ b hb, h4 42 (by decide) (by decide)]; omega, by rw [hβ b hb, h4 43 (by decide) (by decide)]; exact a5, by unfold PV at a6 ⊢; rw [e0, e1, e2, e3]; exact a6, by rw [e0, e1, e2, e3, h4 44 (by decide) (by decide), h4 45 (by decide) (by decide)]; exact a7, by rw [hβ b hb]; exact a8, fun h6 => ?_⟩
  rw [hβ b hb] at h6 ⊢
  obtain ⟨d1, d2, d3, d4, d5⟩ := a9 h6
  refine ⟨d1, d2, by rw [h4 47 (by decide) (by decide)]; exact d3, fun i hi => ?_, ?_⟩
  · obtain ⟨z1, z2, z3⟩ := d4 i hi
    exact ⟨z1, by rw [h4 46 (by decide) (by decide)]; exact z2, by rw [hβ _ z1]; exact z3⟩
  · have : mxQ t β (me b) (κ b) = mxQ σ β (me b) (κ b) := by
      have hc : ∀ k, k ≤ κ b → mxQ t β (me b) k = mxQ σ β (me b) k := by
        intro k
        induction k with
        | zero => intro _; rfl
        | succ k ih =>
          intro hk
          have u1 : mxQ t β (me b) (k + 1) = if mo (sI t (β (me b k)) 0) ≤ mxQ t β (me b) k then mxQ t β (me b) k else mo (sI t (β (me b k)) 0) := rfl
          have u2 : mxQ σ β (me b) (k + 1) = if mo (sI σ (β (me b k)) 0) ≤ mxQ σ β (me b) k then mxQ σ β (me b) k else mo (sI σ (β (me b k)) 0) := rfl
          rw [u1, u2, ih (by omega), hβ _ (d4 k (by omega)).1]
      exact hc _ (Nat.le_refl _)
    rw [this]
    exact d5
theorem IB_K {σ t : am_S} {own β μ κ ρ : Nat → Nat} {me : Nat → Nat → Nat} {n c : Nat} (h2 : t.2 = σ.2) (hr : ∀ x, x < sN σ → (1000 ≤ own x ∧ own x < 2000) → sI t x = sI σ x) (h4 : ∀ x, 41 ≤ x → x ≤ 47 → sI t x = sI σ x) (h25 : sI t 2 5 = sI σ 2 5) (h16 : sI t 31 16 = sI σ 31 16) (h : IB σ own β μ κ ρ me n c) : IB t own β μ κ ρ me n (c + 1) := by
  obtain ⟨r1, r2, r3⟩ := R2 h2
  obtain ⟨a1, a2, a3, a4, a5, a6, a7, a8, a9, a10⟩ := h
  have hβ : ∀ g, g < n → sI t (β g) = sI σ (β g) := fun g hg => hr _ (a3 g hg).1 (by rw [(a2 g hg).1]; omega)
  refine ⟨?_, a2, fun b hb => by have := a3 b hb; omega, by rw [h25, h16]; exact a4, fun b hb => BD_K hβ (fun k hk => hr _ (by have := a3 b hb; omega) (by rw [(a2 b hb).2.2 k hk]; omega)) hb h4 (a5 b hb), by rw [h4 41 (by decide) (by decide)]; exact a6, by rw [h4 44 (by decide) (by decide)]; exact a7, by rw [h4 45 (by decide) (by decide)]; exact a8, fun j hj => by rw [r1]; exact a9 j hj, by rw [h4 42 (by decide) (by decide)]; exact a10⟩
  unfold BS at a1 ⊢
  intro b hb
  obtain ⟨z1, z2, z3, z4, z5, z6, z7, z8⟩ := a1 b hb
  exact ⟨by rw [r1]; exact z1, by rw [r1]; exact z2, by rw [r1]; exact z3, by rw [r1]; exact z4, by rw [r1]; exact z5, by rw [r1]; exact z6, by rw [r1]; exact z7, fun i hi => by rw [r1]; exact z8 i hi⟩
/-- built again -/
theorem INV_mk {xs : Nat → Int} {σ t : am_S} {c : Nat} {own β μ κ ρ : Nat → Nat} {me : Nat → Nat → Nat} {n aH nH aL nL aY nY aS nS N l m T W : Nat} {kd : Int} {aR nR aV nV aI nI aQ nQ g w : Nat} (h : INVx xs σ c own β μ κ ρ me n aH nH aL nL aY nY aS nS N l m T W kd aR nR aV nV aI nI aQ nQ g w) (hc : c + 1 ≤ 600) (k : KP σ t own n) (B : IB t own β μ κ ρ me n (c + 1)) (M : IM t (c + 1)) (J : IJ t own aR nR aV nV) : INV xs t (c + 1) := by
  obtain ⟨⟨hF, hab, hxs⟩, it, il, ib, im, ij, sc, rz, is, ir, _⟩ := h
  have h2 := k.1
  obtain ⟨r1, r2, r3⟩ := R2 h2
  have o1 := it.2.1.1
  have h87 := it.2.2.2.2.2.2.2.2.2
  have k2 := k.2.1
  have k5 := k.2.2.2.2.1
  have ri : ∀ x, x < 87 → ((32 ≤ x ∧ x ≤ 38) ∨ (51 ≤ x ∧ x ≤ 82)) → sI t x = sI σ x := fun x hx hr => k2 x (by omega) (by rw [o1 x hx]; omega)
  obtain ⟨sc', zz⟩ := SC_x h87 o1 (KP_XF k) sc
  refine ⟨own, β, μ, κ, ρ, me, n, aH, nH, aL, nL, aY, nY, aS, nS, N, l, m, T, W, kd, aR, nR, aV, nV, aI, nI, aQ, nQ, g, w, ⟨fun j => by rw [r1]; exact hF j, ?_, ?_⟩, IT_K k it, ?_, B, M, J, sc', ?_, ISs_x h87 o1 (KP_XF k) (Nat.le_refl _) is, ?_, hc⟩
  · unfold AB at hab ⊢
    rw [k2 1 (by omega) (by rw [o1 1 (by decide)]; omega)]
    exact hab
  · rw [k2 0 (by omega) (by rw [o1 0 (by decide)]; omega)]
    exact hxs
  · intro x hx
    rw [ri 36 (by decide) (by omega), k5 4 (by omega)]
    exact il x hx
  · intro j
    rw [ri 64 (by decide) (by omega), ri 65 (by decide) (by omega)]
    exact rz j
  · unfold IR at ir ⊢
    rw [zz, r2, r3]
    omega
/-- the same state -/
theorem INV_s {xs : Nat → Int} {σ : am_S} {c : Nat} (h : INV xs σ c) (hc : c + 1 ≤ 600) : INV xs σ (c + 1) := by
  obtain ⟨own, β, μ, κ, ρ, me, n, aH, nH, aL, nL, aY, nY, aS, nS, N, l, m, T, W, kd, aR, nR, aV, nV, aI, nI, aQ, nQ, g, w, h⟩ := h
  have hx := h
  obtain ⟨hF, it, il, ib, im, ij, sc, rz, is, ir, _⟩ := h
  exact INV_mk hx hc ⟨rfl, fun _ _ _ => rfl, fun _ _ _ _ => ⟨rfl, rfl⟩, rfl, fun _ _ => rfl, Int.le_refl _, fun _ _ => ⟨rfl, rfl⟩, fun _ _ => rfl⟩ (IB_K rfl (fun _ _ _ => rfl) (fun _ _ _ => rfl) rfl rfl ib) (IM_K rfl rfl rfl (fun _ _ => rfl) (fun _ _ => rfl) im) ij
/-- a finding in the class -/
def fdC (σ : am_S) (β : Nat → Nat) (b : Nat) (f : Int) : am_S := if sI σ (β b) 6 = 0 then putI (putI (putI σ 2 8 f) 2 9 (sI σ 2 9 + 1)) (β b) 8 f else putI (putI σ 2 8 f) 2 9 (sI σ 2 9 + 1)
theorem v_C_found_0 (d : Nat) (β μ κ ρ : Nat → Nat) (me : Nat → Nat → Nat) (n : Nat) (p1 p2 : Int) (σ : am_S) (K : Int → am_S → Prop) (hC : CF σ) (hB : BS σ β μ κ ρ me n) (h :
  (-2147483648 ≤ (sI σ 2 9) + 1 ∧ (sI σ 2 9) + 1 < 2147483648 ∧ 0 ≤ p1 ∧ p1 < 12 ∧ (Int.toNat p1) < n) ∧
  (((sI (putI (putI σ 2 8 p2) 2 9 ((sI σ 2 9) + 1)) (β (Int.toNat p1)) 6) = 0 →
    (-2147483648 ≤ (-1010) - p2 ∧ (-1010) - p2 < 2147483648) ∧
    K ((-1010) - p2) (putI (putI (putI σ 2 8 p2) 2 9 ((sI σ 2 9) + 1)) (β (Int.toNat p1)) 8 p2)) ∧
  (¬ ((sI (putI (putI σ 2 8 p2) 2 9 ((sI σ 2 9) + 1)) (β (Int.toNat p1)) 6) = 0) →
    (-2147483648 ≤ (-1010) - p2 ∧ (-1010) - p2 < 2147483648) ∧
    K ((-1010) - p2) (putI (putI σ 2 8 p2) 2 9 ((sI σ 2 9) + 1))))) : am_Runs PP MLL d m_C_found 0 [some (qr (2, 11, 10)), some (qi p1), some (qi p2)] [] σ (kI K) := am_wEF_ok (orc [(10, 9, 22, 12), (12, β (Int.toNat p1), 0, 9), (16, 9, 22, 12), (18, β (Int.toNat p1), 0, 9)]) 200 (⟨rfl, ⟨rfl, ⟨⟨h.1.1, h.1.2.1⟩, ⟨rfl, ⟨⟨rfl, (hC 2 1 _ rfl)⟩, ⟨⟨rfl, h.1.2.2.1, h.1.2.2.2.1, (hB (Int.toNat p1) h.1.2.2.2.2).1⟩, ⟨rfl, ⟨fun c2 => ⟨⟨rfl, (hC 2 1 _ rfl)⟩, ⟨⟨rfl, h.1.2.2.1, h.1.2.2.2.1, (hB (Int.toNat p1) h.1.2.2.2.2).1⟩, ⟨rfl, ⟨⟨(h.2.1 c2).1.1, (h.2.1 c2).1.2⟩, (h.2.1 c2).2⟩⟩⟩⟩, fun c2 => ⟨⟨(h.2.2 c2).1.1, (h.2.2 c2).1.2⟩, (h.2.2 c2).2⟩⟩⟩⟩⟩⟩⟩⟩⟩)

theorem c_found (d : Nat) {β μ κ ρ : Nat → Nat} {me : Nat → Nat → Nat} {n b : Nat} {f : Int} {σ : am_S} {K : Int → am_S → Prop} (hC : CF σ) (hB : BS σ β μ κ ρ me n) (hn : n ≤ 12) (hb : b < n) (n2 : β b ≠ 2) (hf : 0 ≤ f ∧ f ≤ 10) (h1 : 0 ≤ sI σ 2 9 ∧ sI σ 2 9 < 1000000) (h : K (-1010 - f) (fdC σ β b f)) : am_Calls PP MLL (d + 1) m_C_found [qr (2, 11, 10), qi (b : Int), qi f] σ (kI K) := by
  refine v_C_found_0 d β μ κ ρ me n (b : Int) f σ K hC hB ?_
  rw [Int.toNat_natCast, put_ne n2, put_ne n2]
  unfold fdC at h
  refine ⟨by omega, fun e => ⟨by omega, ?_⟩, fun e => ⟨by omega, ?_⟩⟩
  · rw [if_pos e] at h
    exact h
  · rw [if_neg e] at h
    exact h
theorem fdC_2 {σ : am_S} {β : Nat → Nat} {b : Nat} {f : Int} : (fdC σ β b f).2 = σ.2 := by
  unfold fdC
  split <;> rfl
theorem fdC_o {σ : am_S} {β : Nat → Nat} {b : Nat} {f : Int} {x : Nat} (h2 : x ≠ 2) (hb : x ≠ β b) : sI (fdC σ β b f) x = sI σ x := by
  unfold fdC
  split
  · rw [put_ne hb, put_ne h2, put_ne h2]
  · rw [put_ne h2, put_ne h2]
theorem fdC_s {σ : am_S} {β : Nat → Nat} {b j : Nat} {f : Int} (n2 : β b ≠ 2) : sI (fdC σ β b f) 2 j = if j = 9 then sI σ 2 9 + 1 else if j = 8 then f else sI σ 2 j := by
  unfold fdC
  split
  · rw [put_ne n2.symm, put_at, put_at]
  · rw [put_at, put_at]
theorem fdC_b {σ : am_S} {β : Nat → Nat} {b j : Nat} {f : Int} (n2 : β b ≠ 2) : sI (fdC σ β b f) (β b) j = if j = 8 ∧ sI σ (β b) 6 = 0 then f else sI σ (β b) j := by
  unfold fdC
  by_cases e : sI σ (β b) 6 = 0
  · rw [if_pos e, put_at, put_ne n2, put_ne n2]
    by_cases e2 : j = 8
    · rw [if_pos e2, if_pos ⟨e2, e⟩]
    · rw [if_neg e2, if_neg (fun q => e2 q.1)]
  · rw [if_neg e, put_ne n2, put_ne n2, if_neg (fun q => e q.2)]
theorem mF_o {σ : am_S} {b : Nat} {f : Int} {x : Nat} (h1 : x ≠ 31) (h2 : x ≠ 43) : sI (mFinds σ b f) x = sI σ x := by
  unfold mFinds
  rw [put_ne h2, put_ne h1, put_ne h1]
theorem mF_31 {σ : am_S} {b j : Nat} {f : Int} : sI (mFinds σ b f) 31 j = if j = 1 then sI σ 31 1 + 1 else if j = 0 then f else sI σ 31 j := by
  unfold mFinds
  rw [put_ne (by decide), put_at, put_at]
theorem mF_43 {σ : am_S} {b j : Nat} {f : Int} : sI (mFinds σ b f) 43 j = if j = b then (if sI σ 41 b < 0 then sI σ 43 b else f) else sI σ 43 j := by
  unfold mFinds
  rw [put_at, put_ne (by decide), put_ne (by decide)]
/-- a finding in both -/
theorem INV_fd {xs : Nat → Int} {σ : am_S} {c b : Nat} {f : Int} {own β μ κ ρ : Nat → Nat} {me : Nat → Nat → Nat} {n aH nH aL nL aY nY aS nS N l m T W : Nat} {kd : Int} {aR nR aV nV aI nI aQ nQ g w : Nat} (h : INVx xs σ c own β μ κ ρ me n aH nH aL nL aY nY aS nS N l m T W kd aR nR aV nV aI nI aQ nQ g w) (hc : c + 1 ≤ 600) (hb : b < n) (hf : 0 ≤ f ∧ f ≤ 6) : INV xs (mFinds (fdC σ β b f) b f) (c + 1) := by
  have hx := h
  obtain ⟨hF, it, il, ib, im, ij, sc, rz, is, ir, _⟩ := h
  have o1 := it.2.1.1
  have h87 := it.2.2.2.2.2.2.2.2.2
  obtain ⟨a1, a2, a3, a4, a5, a6, a7, a8, a9, a10⟩ := ib
  have ob := (a2 b hb).1
  have n2 : β b ≠ 2 := fun e => by rw [e, o1 2 (by decide)] at ob; omega
  have nlo : ∀ x, x < 87 → x ≠ β b := fun x hx' e => by rw [← e, o1 x hx'] at ob; omega
  obtain ⟨Z, eZ⟩ : ∃ Z, Z = mFinds (fdC σ β b f) b f := ⟨_, rfl⟩
  rw [← eZ]
  have Z2 : Z.2 = σ.2 := by rw [eZ]; exact fdC_2
  have Zo : ∀ x, x ≠ 2 → x ≠ 31 → x ≠ 43 → x ≠ β b → sI Z x = sI σ x := fun x x1 x2 x3 x4 => by rw [eZ, mF_o x2 x3, fdC_o x1 x4]
  have Zb : ∀ j, sI Z (β b) j = if j = 8 ∧ sI σ (β b) 6 = 0 then f else sI σ (β b) j := fun j => by rw [eZ, mF_o (nlo 31 (by decide)).symm (nlo 43 (by decide)).symm, fdC_b n2]
  have Zs : ∀ j, sI Z 2 j = if j = 9 then sI σ 2 9 + 1 else if j = 8 then f else sI σ 2 j := fun j => by rw [eZ, mF_o (by decide) (by decide), fdC_s n2]
  have e31 : sI (fdC σ β b f) 31 = sI σ 31 := fdC_o (by decide) (nlo 31 (by decide))
  have e41 : sI (fdC σ β b f) 41 = sI σ 41 := fdC_o (by decide) (nlo 41 (by decide))
  have e43 : sI (fdC σ β b f) 43 = sI σ 43 := fdC_o (by decide) (nlo 43 (by decide))
  have Z31 : ∀ j, sI Z 31 j = if j = 1 then sI σ 31 1 + 1 else if j = 0 then f else sI σ 31 j := fun j => by rw [eZ, mF_31, e31]
  have Z43 : ∀ j, sI Z 43 j = if j = b then (if sI σ 41 b < 0 then sI σ 43 b else f) else sI σ 43 j := fun j => by rw [eZ, mF_43, e41, e43]
  have z31 : ∀ j, j ≠ 0 → j ≠ 1 → sI Z 31 j = sI σ 31 j := fun j j0 j1 => by rw [Z31, if_neg j1, if_neg j0]
  have Zf : ∀ x, x < sN σ → own x ≠ 2 → own x ≠ 31 → own x ≠ 43 → own x ≠ 1000 + 8 * b → sI Z x = sI σ x := fun x hx' r1 r2 r3 r4 => Zo x (fun e => by rw [e, o1 2 (by decide)] at r1; omega) (fun e => by rw [e, o1 31 (by decide)] at r2; omega) (fun e => by rw [e, o1 43 (by decide)] at r3; omega) (fun e => by rw [e, ob] at r4; omega)
  have Zg : ∀ g', g' < n → g' ≠ b → sI Z (β g') = sI σ (β g') := fun g' hg' ne => Zf _ (a3 g' hg').1 (by rw [(a2 g' hg').1]; omega) (by rw [(a2 g' hg').1]; omega) (by rw [(a2 g' hg').1]; omega) (by rw [(a2 g' hg').1]; omega)
  have Z05 : ∀ g', g' < n → ∀ j, j ≠ 8 → sI Z (β g') j = sI σ (β g') j := fun g' hg' j hj => by
    by_cases e : g' = b
    · rw [e, Zb, if_neg (fun q => hj q.1)]
    · rw [Zg g' hg' e]
  have kp : KP σ Z own n := by
    refine ⟨Z2, fun x hx' hr => Zf x hx' (by omega) (by omega) (by omega) (by omega), fun x g' hx' hr => ?_, by rw [Zo 10 (by decide) (by decide) (by decide) (nlo 10 (by decide))], fun j hj => z31 j (by omega) (by omega), by rw [z31 38 (by decide) (by decide)]; exact Int.le_refl _, fun b' _ => ?_, fun i _ => ?_⟩
    · by_cases e : x = β b
      · rw [e, Zb, Zb, if_neg (by omega), if_neg (by omega)]
        exact ⟨rfl, rfl⟩
      · rw [Zo x (fun q => by rw [q, o1 2 (by decide)] at hr; omega) (fun q => by rw [q, o1 31 (by decide)] at hr; omega) (fun q => by rw [q, o1 43 (by decide)] at hr; omega) e]
        exact ⟨rfl, rfl⟩
    · rw [Zo 41 (by decide) (by decide) (by decide) (nlo 41 (by decide)), Zo 47 (by decide) (by decide) (by decide) (nlo 47 (by decide))]
      exact ⟨rfl, rfl⟩
    · rw [Zo 46 (by decide) (by decide) (by decide) (nlo 46 (by decide))]
  have row : ∀ x, x < 87 → x ≠ 2 → x ≠ 31 → x ≠ 43 → sI Z x = sI σ x := fun x hx' x1 x2 x3 => Zo x x1 x2 x3 (nlo x hx')
  obtain ⟨m1, m2, m3, m4, m5, m6⟩ := im
  refine INV_mk hx hc kp ?_ ?_ (IJ_K Z2 (fun x hx' hr => Zf x hx' (by omega) (by omega) (by omega) (by omega)) o1 h87 (fun j hj => z31 j (by omega) (by omega)) ij)
  · obtain ⟨r1, r2, r3⟩ := R2 Z2
    refine ⟨?_, a2, fun b' hb' => by have := a3 b' hb'; omega, by rw [Zs, if_neg (by decide), if_neg (by decide), z31 16 (by decide) (by decide)]; exact a4, fun b' hb' => ?_, by rw [row 41 (by decide) (by decide) (by decide) (by decide)]; exact a6, by rw [row 44 (by decide) (by decide) (by decide) (by decide)]; exact a7, by rw [row 45 (by decide) (by decide) (by decide) (by decide)]; exact a8, fun j hj => by rw [r1]; exact a9 j hj, by rw [row 42 (by decide) (by decide) (by decide) (by decide)]; exact a10⟩
    · unfold BS at a1 ⊢
      intro b' hb'
      obtain ⟨z1, z2, z3, z4, z5, z6, z7, z8⟩ := a1 b' hb'
      exact ⟨by rw [r1]; exact z1, by rw [r1]; exact z2, by rw [r1]; exact z3, by rw [r1]; exact z4, by rw [r1]; exact z5, by rw [r1]; exact z6, by rw [r1]; exact z7, fun i hi => by rw [r1]; exact z8 i hi⟩
    · have hρ : ∀ k, k < 4 → sI Z (ρ b' + k) = sI σ (ρ b' + k) := fun k hk => Zf _ (by have := a3 b' hb'; omega) (by rw [(a2 b' hb').2.2 k hk]; omega) (by rw [(a2 b' hb').2.2 k hk]; omega) (by rw [(a2 b' hb').2.2 k hk]; omega) (by rw [(a2 b' hb').2.2 k hk]; omega)
      have e0 : sI Z (ρ b') = sI σ (ρ b') := hρ 0 (by decide)
      have e1 := hρ 1 (by decide)
      have e2 := hρ 2 (by decide)
      have e3 := hρ 3 (by decide)
      have r4 : ∀ x, 41 ≤ x → x ≤ 47 → x ≠ 43 → sI Z x = sI σ x := fun x x1 x2 x3 => row x (by omega) (by omega) (by omega) x3
      obtain ⟨d1, d2, d3, d4, d5, d6, d7, d8, d9⟩ := a5 b' hb'
      have y := Z05 b' hb'
      refine ⟨by rw [y 0 (by decide)]; exact d1, by rw [y 6 (by decide)]; exact d2, by rw [r4 41 (by decide) (by decide) (by decide), y 6 (by decide), y 0 (by decide)]; exact d3, by rw [y 7 (by decide), r4 42 (by decide) (by decide) (by decide)]; omega, ?_, by unfold PV at d6 ⊢; rw [e0, e1, e2, e3]; exact d6, by rw [e0, e1, e2, e3, r4 44 (by decide) (by decide) (by decide), r4 45 (by decide) (by decide) (by decide)]; exact d7, by rw [y 0 (by decide), y 5 (by decide)]; exact d8, fun h6 => ?_⟩
      · rw [Z43]
        by_cases e : b' = b
        · rw [if_pos e, e, Zb]
          rw [e] at d3 d2 d5 d1
          by_cases t6 : sI σ (β b) 6 = 0
          · rw [if_pos ⟨rfl, t6⟩]
            rw [if_pos t6] at d3
            rw [if_neg (by omega)]
            omega
          · rw [if_neg (fun q => t6 q.2)]
            rw [if_neg t6] at d3
            rw [if_pos (by omega)]
            exact d5
        · rw [if_neg e, Zg b' hb' e]
          exact d5
      · rw [y 0 (by decide)] at h6
        obtain ⟨v1, v2, v3, v4, v5⟩ := d9 h6
        refine ⟨v1, v2, by rw [r4 47 (by decide) (by decide) (by decide)]; exact v3, fun i hi => ?_, ?_⟩
        · obtain ⟨z1, z2, z3⟩ := v4 i hi
          exact ⟨z1, by rw [r4 46 (by decide) (by decide) (by decide)]; exact z2, by rw [Z05 _ z1 0 (by decide)]; exact z3⟩
        · rw [y 5 (by decide), v5]
          have hc' : ∀ k, k ≤ κ b' → mxQ Z β (me b') k = mxQ σ β (me b') k := by
            intro k
            induction k with
            | zero => intro _; rfl
            | succ k ih =>
              intro hk
              have u1 : mxQ Z β (me b') (k + 1) = if mo (sI Z (β (me b' k)) 0) ≤ mxQ Z β (me b') k then mxQ Z β (me b') k else mo (sI Z (β (me b' k)) 0) := rfl
              have u2 : mxQ σ β (me b') (k + 1) = if mo (sI σ (β (me b' k)) 0) ≤ mxQ σ β (me b') k then mxQ σ β (me b') k else mo (sI σ (β (me b' k)) 0) := rfl
              rw [u1, u2, ih (by omega), Z05 _ (v4 k (by omega)).1 0 (by decide)]
          exact (hc' _ (Nat.le_refl _)).symm
  · refine ⟨by rw [row 10 (by decide) (by decide) (by decide) (by decide), row 11 (by decide) (by decide) (by decide) (by decide), row 48 (by decide) (by decide) (by decide) (by decide), z31 25 (by decide) (by decide)]; exact m1, by rw [row 10 (by decide) (by decide) (by decide) (by decide), z31 26 (by decide) (by decide)]; exact m2, by rw [Zs, if_neg (by decide), if_neg (by decide), z31 4 (by decide) (by decide)]; exact m3, by rw [Zs, if_neg (by decide), if_neg (by decide), z31 38 (by decide) (by decide)]; exact m4, by rw [Zs, if_neg (by decide), if_pos rfl, Z31, if_neg (by decide), if_pos rfl], by rw [Zs, if_pos rfl, Z31, if_pos rfl]; omega⟩
