/-! the calls in pairs: wish -/
theorem trC_11 {σ : am_S} {L : List Int} {j : Nat} : sI (trC σ L) 11 j = if j < L.length ∧ j < 6 then L.getD j 0 else sI σ 11 j := by
  unfold trC
  rw [put_ne (by decide), row_at]
theorem trM_48 {σ : am_S} {L : List Int} {j : Nat} : sI (trM σ L) 48 j = if j < L.length ∧ j < 6 then L.getD j 0 else sI σ 48 j := by
  unfold trM
  rw [put_ne (by decide), row_at]
theorem w_c1 {σ : am_S} : putI (putI σ 10 1 0) 10 2 1 = trC (putI σ 10 2 1) [] := by
  rw [trC_nil]
  refine sto_ext (fun x j => ?_) rfl
  rw [sI_putI, sI_putI, sI_putI, sI_putI]
  (repeat' split) <;> first | rfl | omega
theorem w_m1 {σ : am_S} : putI (putI σ 31 25 0) 31 26 1 = trM (putI σ 31 26 1) [] := by
  rw [trM_nil]
  refine sto_ext (fun x j => ?_) rfl
  rw [sI_putI, sI_putI, sI_putI, sI_putI]
  (repeat' split) <;> first | rfl | omega
theorem w_c2 {σ : am_S} {L : List Int} (h : sI σ 10 2 = 0) : putI (trC (putI σ 10 2 1) L) 10 2 0 = trC σ L := by
  refine sto_ext (fun x j => ?_) rfl
  by_cases x10 : x = 10
  · rw [x10, put_at]
    by_cases j2 : j = 2
    · rw [if_pos j2, j2, trC_31 (by decide), h]
    · rw [if_neg j2]
      by_cases j1 : j = 1
      · rw [j1, trC_25, trC_25]
      · rw [trC_31 j1, trC_31 j1, put_at, if_neg j2]
  · rw [put_ne x10]
    by_cases x11 : x = 11
    · rw [x11, trC_11, trC_11, put_ne (by decide)]
    · rw [trC_o x10 x11, trC_o x10 x11, put_ne x10]
theorem w_m2 {σ : am_S} {L : List Int} (h : sI σ 31 26 = 0) : putI (trM (putI σ 31 26 1) L) 31 26 0 = trM σ L := by
  refine sto_ext (fun x j => ?_) rfl
  by_cases x10 : x = 31
  · rw [x10, put_at]
    by_cases j2 : j = 26
    · rw [if_pos j2, j2, trM_31 (by decide), h]
    · rw [if_neg j2]
      by_cases j1 : j = 25
      · rw [j1, trM_25, trM_25]
      · rw [trM_31 j1, trM_31 j1, put_at, if_neg j2]
  · rw [put_ne x10]
    by_cases x11 : x = 48
    · rw [x11, trM_48, trM_48, put_ne (by decide)]
    · rw [trM_o x10 x11, trM_o x10 x11, put_ne x10]
theorem tr_fd {s : am_S} {L : List Int} {β : Nat → Nat} {b : Nat} {f : Int} (n2 : β b ≠ 2) (n31 : β b ≠ 31) (n48 : β b ≠ 48) : trM (fdC s β b f) L = fdC (trM s L) β b f := by
  refine sto_ext (fun x j => ?_) ?_
  · by_cases x31 : x = 31
    · rw [x31, fdC_o (by decide) n31.symm]
      by_cases j1 : j = 25
      · rw [j1, trM_25, trM_25]
      · rw [trM_31 j1, trM_31 j1, fdC_o (by decide) n31.symm]
    · by_cases x48 : x = 48
      · rw [x48, fdC_o (by decide) n48.symm, trM_48, trM_48, fdC_o (by decide) n48.symm]
      · rw [trM_o x31 x48]
        by_cases x2 : x = 2
        · rw [x2, fdC_s n2, fdC_s n2, trM_o (by decide) (by decide)]
        · by_cases xb : x = β b
          · rw [xb, fdC_b n2, fdC_b n2, trM_o n31 n48]
          · rw [fdC_o x2 xb, fdC_o x2 xb, trM_o x31 x48]
  · show (fdC s β b f).2 = (fdC (trM s L) β b f).2
    rw [fdC_2, fdC_2]
    rfl
/-- a trace more -/
theorem INV_tr {xs : Nat → Int} {σ : am_S} {c : Nat} {own β μ κ ρ : Nat → Nat} {me : Nat → Nat → Nat} {n aH nH aL nL aY nY aS nS N l m T W : Nat} {kd : Int} {aR nR aV nV aI nI aQ nQ g w : Nat} (h : INVx xs σ c own β μ κ ρ me n aH nH aL nL aY nY aS nS N l m T W kd aR nR aV nV aI nI aQ nQ g w) (L : List Int) : INVx xs (trM (trC σ L) L) c own β μ κ ρ me n aH nH aL nL aY nY aS nS N l m T W kd aR nR aV nV aI nI aQ nQ g w := by
  obtain ⟨⟨hF, hab, hxs⟩, it, il, ib, im, ij, sc, rz, is, ir, hc6⟩ := h
  have it0 := it
  obtain ⟨tr, ow, ti, kt, ks, ⟨w1, w2, w3, w4, w5, w6, w7, w8⟩, ll, lz, ⟨q1, q2, q3, q4⟩, h87⟩ := it
  have o1 := ow.1
  obtain ⟨t, et⟩ : ∃ t, t = trM (trC σ L) L := ⟨_, rfl⟩
  rw [← et]
  have t2 : t.2 = σ.2 := by rw [et]; rfl
  have ri : ∀ x, x ≠ 10 → x ≠ 11 → x ≠ 31 → x ≠ 48 → sI t x = sI σ x := fun x y1 y2 y3 y4 => by rw [et, trM_o y3 y4, trC_o y1 y2]
  have r10 : ∀ j, j ≠ 1 → sI t 10 j = sI σ 10 j := fun j hj => by rw [et, trM_o (by decide) (by decide), trC_31 hj]
  have r31 : ∀ j, j ≠ 25 → sI t 31 j = sI σ 31 j := fun j hj => by rw [et, trM_31 hj, trC_o (by decide) (by decide)]
  have ro : ∀ x, own x ≠ 10 → own x ≠ 11 → own x ≠ 31 → own x ≠ 48 → sI t x = sI σ x := fun x y1 y2 y3 y4 => ri x (fun e => by rw [e] at y1; exact y1 (o1 10 (by decide))) (fun e => by rw [e] at y2; exact y2 (o1 11 (by decide))) (fun e => by rw [e] at y3; exact y3 (o1 31 (by decide))) (fun e => by rw [e] at y4; exact y4 (o1 48 (by decide)))
  have kp : KP σ t own n := ⟨t2, fun x _ hr => ro x (by omega) (by omega) (by omega) (by omega), fun x g' _ hr => by rw [ro x (by omega) (by omega) (by omega) (by omega)]; exact ⟨rfl, rfl⟩, r10 2 (by decide), fun j hj => r31 j (by omega), by rw [r31 38 (by decide)]; exact Int.le_refl _, fun b _ => by rw [ri 41 (by decide) (by decide) (by decide) (by decide), ri 47 (by decide) (by decide) (by decide) (by decide)]; exact ⟨rfl, rfl⟩, fun i _ => by rw [ri 46 (by decide) (by decide) (by decide) (by decide)]⟩
  have xf := KP_XF kp
  obtain ⟨rr, rn, ru⟩ := R2 t2
  obtain ⟨sc', zz⟩ := SC_x h87 o1 xf sc
  obtain ⟨a1, a2, a3, a4, a5, a6, a7, a8, a9, a10⟩ := ib
  obtain ⟨m1, m2, m3, m4, m5, m6⟩ := im
  have iβ : ∀ b, b < n → sI t (β b) = sI σ (β b) := fun b hb => ro _ (by have := (a2 b hb).1; omega) (by have := (a2 b hb).1; omega) (by have := (a2 b hb).1; omega) (by have := (a2 b hb).1; omega)
  have iρ : ∀ b, b < n → ∀ k, k < 4 → sI t (ρ b + k) = sI σ (ρ b + k) := fun b hb k hk => ro _ (by have := (a2 b hb).2.2 k hk; omega) (by have := (a2 b hb).2.2 k hk; omega) (by have := (a2 b hb).2.2 k hk; omega) (by have := (a2 b hb).2.2 k hk; omega)
  have r4 : ∀ x, 41 ≤ x → x ≤ 47 → sI t x = sI σ x := fun x y1 y2 => ri x (by omega) (by omega) (by omega) (by omega)
  refine ⟨⟨fun j => by rw [rr]; exact hF j, ?_, by rw [ri 0 (by decide) (by decide) (by decide) (by decide)]; exact hxs⟩, IT_K kp it0, ?_, ⟨?_, a2, fun b hb => by have := a3 b hb; omega, by rw [ri 2 (by decide) (by decide) (by decide) (by decide), r31 16 (by decide)]; exact a4, fun b hb => ?_, ?_, ?_, ?_, fun j hj => by rw [rr]; exact a9 j hj, ?_⟩, ?_, IJ_K t2 (fun x _ hr => ro x (by omega) (by omega) (by omega) (by omega)) o1 h87 (fun j hj => r31 j (by omega)) ij, sc', fun j => by rw [ri 64 (by decide) (by decide) (by decide) (by decide), ri 65 (by decide) (by decide) (by decide) (by decide)]; exact rz j, ISs_x h87 o1 xf (Nat.le_refl _) is, by unfold IR at ir ⊢; rw [zz, rn, ru]; exact ir, hc6⟩
  · unfold AB at hab ⊢
    rw [ri 1 (by decide) (by decide) (by decide) (by decide)]
    exact hab
  · intro x hx
    rw [ri 36 (by decide) (by decide) (by decide) (by decide), r31 4 (by decide)]
    exact il x hx
  · exact BS_2 t2 a1
  · obtain ⟨z1, z2, z3, z4, z5, z6, z7, z8, z9⟩ := a5 b hb
    have e0 : sI t (ρ b) = sI σ (ρ b) := iρ b hb 0 (by decide)
    unfold BD PV
    unfold PV at z6
    rw [iβ b hb, e0, iρ b hb 1 (by decide), iρ b hb 2 (by decide), iρ b hb 3 (by decide), r4 41 (by decide) (by decide), r4 42 (by decide) (by decide), r4 43 (by decide) (by decide), r4 44 (by decide) (by decide), r4 45 (by decide) (by decide), r4 46 (by decide) (by decide), r4 47 (by decide) (by decide)]
    refine ⟨z1, z2, z3, z4, z5, z6, z7, z8, fun h6 => ?_⟩
    obtain ⟨g1, g2, g3, g4, g5⟩ := z9 h6
    refine ⟨g1, g2, g3, fun i hi => ?_, ?_⟩
    · obtain ⟨d1, d2, d3⟩ := g4 i hi
      exact ⟨d1, d2, by rw [iβ _ d1]; exact d3⟩
    · have : mxQ t β (me b) (κ b) = mxQ σ β (me b) (κ b) := oqA_cg (κ b) (fun i hi => by
        show mo (sI t (β (me b i)) 0) = mo (sI σ (β (me b i)) 0)
        rw [iβ _ (g4 i hi).1])
      rw [this]
      exact g5
  · rw [r4 41 (by decide) (by decide)]
    exact a6
  · rw [r4 44 (by decide) (by decide)]
    exact a7
  · rw [r4 45 (by decide) (by decide)]
    exact a8
  · rw [r4 42 (by decide) (by decide)]
    exact a10
  · refine ⟨?_, by rw [r10 2 (by decide), r31 26 (by decide)]; exact m2, by rw [ri 2 (by decide) (by decide) (by decide) (by decide), r31 4 (by decide)]; exact m3, by rw [ri 2 (by decide) (by decide) (by decide) (by decide), r31 38 (by decide)]; exact m4, by rw [ri 2 (by decide) (by decide) (by decide) (by decide), r31 0 (by decide)]; exact m5, by rw [ri 2 (by decide) (by decide) (by decide) (by decide), r31 1 (by decide)]; exact m6⟩
    have y1 : sI t 10 1 = ((min L.length 6 : Nat) : Int) := by rw [et, trM_o (by decide) (by decide), trC_25]
    have y2 : sI t 31 25 = ((min L.length 6 : Nat) : Int) := by rw [et, trM_25]
    rw [y1, y2]
    refine ⟨rfl, by omega, by omega, fun i hi => ?_⟩
    rw [et, trM_o (by decide) (by decide), trC_11, trM_48, if_pos (by omega), if_pos (by omega)]
/-- the answer to a wish, in the class -/
def AWc (σ : am_S) (β κ ρ : Nat → Nat) (me : Nat → Nat → Nat) (b : Nat) (p2 p3 v : Int) (L : List Int) : Prop := (p2 = 0 ∧ v = tl (sI σ (β b) 0) p3 ∧ L = tlL (sI σ (β b) 0) p3) ∨ (p2 = 3 ∧ v = (if sI σ (β b) 0 = 5 then 0 else 1) ∧ L = [if sI σ (β b) 0 = 5 then 45 else 40]) ∨ (p2 = 4 ∧ v = sI σ (β b) 7 ∧ L = []) ∨ (p2 = 1 ∧ sI σ (β b) 0 ≠ 6 ∧ v = mo (sI σ (β b) 0) ∧ L = moL (sI σ (β b) 0)) ∨ (p2 = 2 ∧ sI σ (β b) 0 ≠ 6 ∧ v = coV (sI σ (β b) 0) (sI σ (β b) 7) (pld σ ρ b) ∧ L = coL (sI σ (β b) 0)) ∨ (p2 = 1 ∧ sI σ (β b) 0 = 6 ∧ ((∃ i, i < κ b ∧ (∀ j, j < i → sI σ (β (me b j)) 6 = 0) ∧ ¬ sI σ (β (me b i)) 6 = 0 ∧ v = -1000 ∧ L = [26] ++ oqL (fun i => moL (sI σ (β (me b i)) 0)) i) ∨ ((∀ j, j < κ b → sI σ (β (me b j)) 6 = 0) ∧ v = oqA (fun i => mo (sI σ (β (me b i)) 0)) 0 (κ b) ∧ L = [26] ++ oqL (fun i => moL (sI σ (β (me b i)) 0)) (κ b)))) ∨ (p2 = 2 ∧ sI σ (β b) 0 = 6 ∧ ((∃ i, i < κ b ∧ (∀ j, j < i → sI σ (β (me b j)) 6 = 0) ∧ ¬ sI σ (β (me b i)) 6 = 0 ∧ v = -1000 ∧ L = [36] ++ oqL (fun i => coL (sI σ (β (me b i)) 0)) i) ∨ ((∀ j, j < κ b → sI σ (β (me b j)) 6 = 0) ∧ v = oqA (fun i => coV (sI σ (β (me b i)) 0) (sI σ (β (me b i)) 7) (pld σ ρ (me b i))) 1 (κ b) ∧ L = [36] ++ oqL (fun i => coL (sI σ (β (me b i)) 0)) (κ b))))
/-- the answer to a wish, in the reference -/
def AWm (s : am_S) (b : Nat) (p2 p3 v : Int) (L : List Int) : Prop := (p2 = 0 ∧ v = tl (sI s 41 b) p3 ∧ L = tlL (sI s 41 b) p3) ∨ (p2 = 3 ∧ v = (if sI s 41 b = 5 then 0 else 1) ∧ L = [if sI s 41 b = 5 then 45 else 40]) ∨ (p2 = 4 ∧ v = sI s 42 b ∧ L = []) ∨ (p2 = 1 ∧ sI s 41 b ≠ 6 ∧ v = mo (sI s 41 b) ∧ L = moL (sI s 41 b)) ∨ (p2 = 2 ∧ sI s 41 b ≠ 6 ∧ v = mbV s 1 b ∧ L = coL (sI s 41 b)) ∨ (p2 = 1 ∧ sI s 41 b = 6 ∧ ((∃ i : Nat, (i : Int) < sI s 47 b ∧ (∀ j, j < i → 0 ≤ sI s 41 (mmb s b j)) ∧ sI s 41 (mmb s b i) < 0 ∧ v = -1000 ∧ L = [if (0 : Int) = 0 then 26 else 36] ++ oqL (fun i => mbL s 0 (mmb s b i)) i) ∨ ((∀ j : Nat, (j : Int) < sI s 47 b → 0 ≤ sI s 41 (mmb s b j)) ∧ v = oqA (fun i => mbV s 0 (mmb s b i)) 0 (sI s 47 b).toNat ∧ L = [if (0 : Int) = 0 then 26 else 36] ++ oqL (fun i => mbL s 0 (mmb s b i)) (sI s 47 b).toNat))) ∨ (p2 = 2 ∧ sI s 41 b = 6 ∧ ((∃ i : Nat, (i : Int) < sI s 47 b ∧ (∀ j, j < i → 0 ≤ sI s 41 (mmb s b j)) ∧ sI s 41 (mmb s b i) < 0 ∧ v = -1000 ∧ L = [if (1 : Int) = 0 then 26 else 36] ++ oqL (fun i => mbL s 1 (mmb s b i)) i) ∨ ((∀ j : Nat, (j : Int) < sI s 47 b → 0 ≤ sI s 41 (mmb s b j)) ∧ v = oqA (fun i => mbV s 1 (mmb s b i)) 1 (sI s 47 b).toNat ∧ L = [if (1 : Int) = 0 then 26 else 36] ++ oqL (fun i => mbL s 1 (mmb s b i)) (sI s 47 b).toNat)))
theorem AWm_e {s t : am_S} {b : Nat} {p2 p3 v : Int} {L : List Int} (h : ∀ x, 41 ≤ x → x ≤ 47 → sI t x = sI s x) (hw : AWm t b p2 p3 v L) : AWm s b p2 p3 v L := by
  unfold AWm mbV mbL mmb at hw ⊢
  rw [h 41 (by decide) (by decide), h 42 (by decide) (by decide), h 44 (by decide) (by decide), h 45 (by decide) (by decide), h 46 (by decide) (by decide), h 47 (by decide) (by decide)] at hw
  exact hw
theorem w_C (d : Nat) {β μ κ ρ : Nat → Nat} {me : Nat → Nat → Nat} {b n : Nat} {p2 p3 : Int} {σ : am_S} {K : Int → am_S → Prop} (hC : CF σ) (hB : BS σ β μ κ ρ me n) (hT : ¬ (sI σ 10 2 = 0)) (hb : b < n) (hp2 : 0 ≤ p2 ∧ p2 ≤ 4) (h0 : p2 = 0 → -3 ≤ p3 ∧ p3 ≤ 3) (nt : ∀ g, g < n → nT β ρ g) (hp : ∀ g, g < n → PV σ ρ g) (hu : ∀ g, g < n → 0 ≤ sI σ (β g) 7 ∧ sI σ (β g) 7 ≤ 1000) (hm : sI σ (β b) 0 = 6 → κ b ≤ 3 ∧ ∀ i, i < κ b → me b i < n) (h : ∀ v L, AWc σ β κ ρ me b p2 p3 v L → K v (trC σ L)) : am_Calls PP MLL (d + 7) m_Balance_answer [qr (β b, 0, 9), qi p2, qi p3] (trC σ []) (kI K) := by
  have G : ∀ L, CF (trC σ L) ∧ BS (trC σ L) β μ κ ρ me n := fun L => ⟨hC, hB⟩
  have nb := (nt b hb).1
  have q : ∀ L, sI (trC σ L) (β b) = sI σ (β b) := fun L => trC_o nb.1 nb.2
  refine v_Balance_answer_0 d β μ κ ρ me b n p2 p3 σ [] K hC hB hT ⟨fun e => ?_, fun e0 => ⟨fun e => ?_, fun e1 => ⟨fun e => ?_, fun e2 => ⟨fun e => ?_, fun e3 => ?_⟩⟩⟩⟩
  · exact c_tellsO (d + 2) hC hB hT hb nb.1 nb.2 (by have := h0 e; omega) ⟨G _, h _ _ (Or.inl (⟨e, rfl, rfl⟩))⟩
  · by_cases h6 : sI σ (β b) 0 = 6
    · exact c_mostQ d hC hB hT hb h6 nb (hm h6).1 (hm h6).2 (fun i hi => nt _ ((hm h6).2 i hi)) (fun i hi g1 g2 => ⟨G _, h _ _ (Or.inr (Or.inr (Or.inr (Or.inr (Or.inr (Or.inl (⟨e, h6, Or.inl ⟨i, hi, g1, g2, rfl, rfl⟩⟩)))))))⟩) (fun g1 => ⟨G _, h _ _ (Or.inr (Or.inr (Or.inr (Or.inr (Or.inr (Or.inl (⟨e, h6, Or.inr ⟨g1, rfl, rfl⟩⟩)))))))⟩)
    · refine v_Balance_most_0 d β μ κ ρ me b n σ [] _ hC hB hT ⟨fun c6 => absurd (by rw [← q []]; exact c6) h6, fun _ => ?_⟩
      exact c_mostAloneO d hC hB hT hb nb.1 nb.2 ⟨G _, G _, h _ _ (Or.inr (Or.inr (Or.inr (Or.inl (⟨e, h6, rfl, rfl⟩)))))⟩
  · by_cases h6 : sI σ (β b) 0 = 6
    · exact c_costQ (d + 1) hC hB hT hb h6 nb (hm h6).1 (hm h6).2 (fun i hi => nt _ ((hm h6).2 i hi)) (fun i hi => hp _ ((hm h6).2 i hi)) (fun i hi => hu _ ((hm h6).2 i hi)) (fun i hi g1 g2 => ⟨G _, h _ _ (Or.inr (Or.inr (Or.inr (Or.inr (Or.inr (Or.inr (⟨e, h6, Or.inl ⟨i, hi, g1, g2, rfl, rfl⟩⟩)))))))⟩) (fun g1 => ⟨G _, h _ _ (Or.inr (Or.inr (Or.inr (Or.inr (Or.inr (Or.inr (⟨e, h6, Or.inr ⟨g1, rfl, rfl⟩⟩)))))))⟩)
    · refine v_Balance_cost_0 (d + 1) β μ κ ρ me b n σ [] _ hC hB hT ⟨fun c6 => absurd (by rw [← q []]; exact c6) h6, fun _ => ?_⟩
      exact c_costAlone (d + 1) hC hB hT hb (nt b hb) (hp b hb) (hu b hb) ⟨G _, G _, h _ _ (Or.inr (Or.inr (Or.inr (Or.inr (Or.inl (⟨e, h6, rfl, rfl⟩))))))⟩
  · refine v_Balance_sure_0 (d + 4) β μ κ ρ me b n σ [] _ hC hB hT ⟨hb, ?_⟩
    simp only [q]
    exact ⟨G _, h _ _ (Or.inr (Or.inl (⟨e, rfl, rfl⟩)))⟩
  · rw [q]
    exact h _ _ (Or.inr (Or.inr (Or.inl (⟨by omega, rfl, rfl⟩))))
theorem w_Mb (d : Nat) {n : Nat} {p1 p2 p3 : Int} {s : am_S} {K : Int → am_S → Prop} (hF : MF s) (hn : sI s 31 16 = n) (n12 : n ≤ 12) (hb : p1 < 0 ∨ (n : Int) ≤ p1 ∨ p2 < 0 ∨ 4 < p2 ∨ (p2 = 0 ∧ (p3 < -3 ∨ 3 < p3))) (h : K (-1001) s) : am_Calls PP MLL (d + 4) m_M_wish [qr (31, 12, 89), qi p1, qi p2, qi p3] s (kI K) := by
  refine v_M_wish_0 d p1 p2 p3 s K hF ?_
  rw [hn]
  exact ⟨by omega, fun c1 => h, fun c1 => ⟨fun c2 => h, fun c2 => ⟨fun c3 => h, fun c3 => ⟨fun c4 => h, fun c4 => ⟨fun e => ⟨fun _ => h, fun c5 => ⟨fun _ => h, fun c6 => by omega⟩⟩, fun e => by omega⟩⟩⟩⟩⟩
theorem w_M (d : Nat) {b n : Nat} {p2 p3 : Int} {s : am_S} {K : Int → am_S → Prop} (hF : MF s) (hT : sI s 31 26 = 0) (hn : sI s 31 16 = n) (n12 : n ≤ 12) (hq : QV s n) (hp : ∀ k, sI s 44 k ≤ 20) (hu : ∀ j, 0 ≤ sI s 42 j ∧ sI s 42 j ≤ 1000) (hb : b < n) (g2 : 0 ≤ p2 ∧ p2 ≤ 4) (g3 : p2 = 0 → -3 ≤ p3 ∧ p3 ≤ 3)
    (k2 : sI s 41 b < 0 → am_Calls PP MLL (d + 3) m_M_finds [qr (31, 12, 89), qi (b : Int), qi 1] (trM s []) (kI fun x s => MF s ∧ K x s)) (k3 : 0 ≤ sI s 41 b → p2 = 0 → sI s 41 b = 6 → am_Calls PP MLL (d + 3) m_M_finds [qr (31, 12, 89), qi (b : Int), qi 4] (trM s []) (kI fun x s => MF s ∧ K x s)) (k4 : 0 ≤ sI s 41 b → ¬ (p2 = 0 ∧ sI s 41 b = 6) → ∀ v L, AWm s b p2 p3 v L → (v ≠ -1000 → K v (trM s L)) ∧ (v = -1000 → am_Calls PP MLL (d + 3) m_M_finds [qr (31, 12, 89), qi (b : Int), qi 1] (trM s L) (kI fun x s => MF s ∧ K x s))) : am_Calls PP MLL (d + 4) m_M_wish [qr (31, 12, 89), qi (b : Int), qi p2, qi p3] s (kI K) := by
  refine v_M_wish_0 d (b : Int) p2 p3 s K hF ?_
  rw [hn, Int.toNat_natCast, w_m1, ← trM_nil (σ := s)]
  obtain ⟨S, eS⟩ : ∃ S, S = putI s 31 26 1 := ⟨_, rfl⟩
  have e1 : ∀ x, 41 ≤ x → x ≤ 47 → sI S x = sI s x := fun x y1 y2 => by rw [eS, put_ne (by omega)]
  have hS : ¬ sI S 31 26 = 0 := by
    rw [eS, put_at, if_pos rfl]
    decide
  have hF1 : MF S := by
    rw [eS]
    exact hF
  have i6 : ∀ x : Int, ((if x = 6 then (1 : Int) else 0) = 0 → x ≠ 6) ∧ (¬ ((if x = 6 then (1 : Int) else 0) = 0) → x = 6) := fun x => by
    by_cases e : x = 6
    · rw [if_pos e]
      exact ⟨fun h => absurd h (by decide), fun _ => e⟩
    · rw [if_neg e]
      exact ⟨fun _ => e, fun h => absurd rfl h⟩
  have fin : 0 ≤ sI s 41 b → ¬ (p2 = 0 ∧ sI s 41 b = 6) → ∀ v L, AWm S b p2 p3 v L → MF (trM S L) ∧ ((v = -1000 → am_Calls PP MLL (d + 3) m_M_finds [qr (31, 12, 89), qi (b : Int), qi 1] (putI (trM S L) 31 26 0) (kI fun x s => MF s ∧ K x s)) ∧ (¬ (v = -1000) → K v (putI (trM S L) 31 26 0))) := fun y1 y2 v L hw => by
    have w := k4 y1 y2 v L (AWm_e e1 hw)
    refine ⟨hF1, ?_⟩
    rw [eS, w_m2 hT]
    exact ⟨w.2, w.1⟩
  have q41 : ∀ L, sI (trM S L) 41 = sI s 41 := fun L => by rw [trM_o (by decide) (by decide), e1 41 (by decide) (by decide)]
  have hq1 : QV S n := by
    unfold QV at hq ⊢
    rw [e1 41 (by decide) (by decide), e1 46 (by decide) (by decide), e1 47 (by decide) (by decide)]
    exact hq
  have hp1 : ∀ k, sI S 44 k ≤ 20 := by rw [e1 44 (by decide) (by decide)]; exact hp
  have hu1 : ∀ j, 0 ≤ sI S 42 j ∧ sI S 42 j ≤ 1000 := by rw [e1 42 (by decide) (by decide)]; exact hu
  have e41 : sI S 41 b = sI s 41 b := by rw [e1 41 (by decide) (by decide)]
  rw [← eS]
  refine ⟨by omega, fun c1 => by omega, fun c1 => ⟨fun c2 => by omega, fun c2 => ⟨fun c3 => by omega, fun c3 => ⟨fun c4 => by omega, fun c4 => ⟨fun e => ⟨fun c5 => by have := g3 e; omega, fun c5 => ⟨fun c6 => by have := g3 e; omega, fun c6 => ⟨by omega, fun u1 => ⟨fun u2 => by omega, fun u2 => ⟨fun u3 => ?_, fun u3 => k3 u1 e ((i6 _).2 u3)⟩⟩, fun u1 => k2 (by omega)⟩⟩⟩, fun e => ⟨by omega, fun u1 => ⟨fun u2 => ?_, fun u2 => ⟨fun u3 => ?_, fun u3 => ⟨fun u4 => ⟨fun u5 => ?_, fun u5 => ?_⟩, fun u4 => ?_⟩⟩⟩, fun u1 => k2 (by omega)⟩⟩⟩⟩⟩⟩
  · exact c_M_tellsO (d + 1) (L := []) hF1 hS (by have := g3 e; omega) (fin u1 (fun y => (i6 _).1 u3 y.2) _ _ (Or.inl (⟨e, by rw [e41], by rw [e41]; rfl⟩)))
  · refine (k4 u1 (fun y => e y.1) _ _ (Or.inr (Or.inr (Or.inl (⟨u2, rfl, rfl⟩))))).1 ?_
    have := hu b
    omega
  · refine c_M_begins (d + 2) (L := []) hF1 hS ?_
    rw [q41]
    exact fin u1 (fun y => e y.1) _ _ (Or.inr (Or.inl (⟨u3, by rw [e41], by rw [e41]; rfl⟩)))
  · exact c_M_mostOfO (d + 1) (L := []) hF1 hS (fin u1 (fun y => e y.1) _ _ (Or.inr (Or.inr (Or.inr (Or.inl (⟨u5, by rw [e41]; exact (i6 _).1 u4, by rw [e41], by rw [e41]; rfl⟩))))))
  · exact c_M_costOf (d + 1) (L := []) hF1 hS (by omega) hp1 hu1 (fin u1 (fun y => e y.1) _ _ (Or.inr (Or.inr (Or.inr (Or.inr (Or.inl (⟨by omega, by rw [e41]; exact (i6 _).1 u4, by unfold mbV; rw [if_neg (by decide)], rfl⟩)))))))
  · have h6 : sI S 41 b = 6 := by rw [e41]; exact (i6 _).2 u4
    by_cases p22 : p2 = 2
    · rw [if_pos p22]
      exact c_M_ofQueue d (L := []) hF1 hS (Or.inr rfl) n12 hb hq1 h6 hp1 hu1 (fun i hi y1 y2 => fin u1 (fun y => e y.1) _ _ (Or.inr (Or.inr (Or.inr (Or.inr (Or.inr (Or.inr (⟨p22, h6, Or.inl ⟨i, hi, y1, y2, rfl, rfl⟩⟩)))))))) (fun y1 => fin u1 (fun y => e y.1) _ _ (Or.inr (Or.inr (Or.inr (Or.inr (Or.inr (Or.inr (⟨p22, h6, Or.inr ⟨y1, rfl, rfl⟩⟩))))))))
    · rw [if_neg p22]
      exact c_M_ofQueue d (L := []) hF1 hS (Or.inl rfl) n12 hb hq1 h6 hp1 hu1 (fun i hi y1 y2 => fin u1 (fun y => e y.1) _ _ (Or.inr (Or.inr (Or.inr (Or.inr (Or.inr (Or.inl (⟨by omega, h6, Or.inl ⟨i, hi, y1, y2, rfl, rfl⟩⟩)))))))) (fun y1 => fin u1 (fun y => e y.1) _ _ (Or.inr (Or.inr (Or.inr (Or.inr (Or.inr (Or.inl (⟨by omega, h6, Or.inr ⟨y1, rfl, rfl⟩⟩))))))))
theorem oqL_cg {f g : Nat → List Int} : ∀ k, (∀ i, i < k → f i = g i) → oqL f k = oqL g k
  | 0, _ => rfl
  | k + 1, h => by
    unfold oqL
    rw [oqL_cg k (fun i hi => h i (by omega)), h k (by omega)]
theorem ldn_cg {f g : Nat → Int} {n : Int} (h : ∀ i : Nat, (i : Int) < n → f i = g i) : ldn f n = ldn g n := by
  unfold ldn
  refine sm_congr _ (fun i hi => ?_)
  show (if f i < 0 then (0 : Int) else 1) = if g i < 0 then 0 else 1
  rw [h i (by omega)]
theorem AW_eq {σ : am_S} {β κ ρ : Nat → Nat} {me : Nat → Nat → Nat} {n c b : Nat} {p2 p3 v v' : Int} {L L' : List Int} (bd : ∀ g, g < n → BD σ β κ ρ me n c g) (hb : b < n) (ht : sI σ (β b) 6 = 0) (h1 : AWc σ β κ ρ me b p2 p3 v L) (h2 : AWm σ b p2 p3 v' L') : v = v' ∧ L = L' := by
  have e41 : sI σ 41 b = sI σ (β b) 0 := by
    have y := (bd b hb).2.2.1
    rw [if_pos ht] at y
    exact y
  have pl : ∀ g, g < n → ldn (fun i => sI σ 45 (40 * g + i)) (sI σ 44 (2 * g)) + ldn (fun i => sI σ 45 (40 * g + 20 + i)) (sI σ 44 (2 * g + 1)) = pld σ ρ g := fun g hg => by
    obtain ⟨-, -, -, -, -, -, ⟨y1, y2, y3, y4⟩, -⟩ := bd g hg
    unfold pld
    rw [y1, y2]
    rw [ldn_cg (f := fun i => sI σ 45 (40 * g + i)) (g := sI σ (ρ g + 1)) (fun i hi => (y3 i hi).symm), ldn_cg (f := fun i => sI σ 45 (40 * g + 20 + i)) (g := sI σ (ρ g + 3)) (fun i hi => (y4 i hi).symm)]
  have qu : sI σ (β b) 0 = 6 → sI σ 47 b = κ b ∧ (∀ i, i < κ b → me b i < n) ∧ ∀ i, i < κ b → mmb σ b i = me b i := fun h6 => by
    obtain ⟨g1, g2, g3, g4, -⟩ := (bd b hb).2.2.2.2.2.2.2.2 h6
    exact ⟨g3, fun i hi => (g4 i hi).1, fun i hi => by unfold mmb; rw [(g4 i hi).2.1, Int.toNat_natCast]⟩
  have tg : ∀ g, g < n → (0 ≤ sI σ 41 g → sI σ (β g) 6 = 0) ∧ (sI σ (β g) 6 = 0 → 0 ≤ sI σ 41 g) ∧ (sI σ (β g) 6 = 0 → sI σ 41 g = sI σ (β g) 0) := fun g hg => by
    obtain ⟨y1, y2, y3, -⟩ := bd g hg
    by_cases e : sI σ (β g) 6 = 0
    · rw [if_pos e] at y3
      exact ⟨fun _ => e, fun _ => by omega, fun _ => y3⟩
    · rw [if_neg e] at y3
      exact ⟨fun y => by omega, fun y => absurd y e, fun y => absurd y e⟩
  unfold AWc at h1
  unfold AWm at h2
  rw [e41] at h2
  rcases h1 with ⟨x1, x2, x3⟩ | ⟨x1, x2, x3⟩ | ⟨x1, x2, x3⟩ | ⟨x1, x0, x2, x3⟩ | ⟨x1, x0, x2, x3⟩ | ⟨x1, x0, x3⟩ | ⟨x1, x0, x3⟩
  · rcases h2 with ⟨y1, y2, y3⟩ | ⟨y1, y2, y3⟩ | ⟨y1, y2, y3⟩ | ⟨y1, y0, y2, y3⟩ | ⟨y1, y0, y2, y3⟩ | ⟨y1, y0, y3⟩ | ⟨y1, y0, y3⟩
    · exact ⟨x2.trans y2.symm, x3.trans y3.symm⟩
    all_goals (exfalso; omega)
  · rcases h2 with ⟨y1, y2, y3⟩ | ⟨y1, y2, y3⟩ | ⟨y1, y2, y3⟩ | ⟨y1, y0, y2, y3⟩ | ⟨y1, y0, y2, y3⟩ | ⟨y1, y0, y3⟩ | ⟨y1, y0, y3⟩
    · exfalso; omega
    · exact ⟨x2.trans y2.symm, x3.trans y3.symm⟩
    all_goals (exfalso; omega)
  · rcases h2 with ⟨y1, y2, y3⟩ | ⟨y1, y2, y3⟩ | ⟨y1, y2, y3⟩ | ⟨y1, y0, y2, y3⟩ | ⟨y1, y0, y2, y3⟩ | ⟨y1, y0, y3⟩ | ⟨y1, y0, y3⟩
    · exfalso; omega
    · exfalso; omega
    · exact ⟨by rw [x2, y2]; exact (bd b hb).2.2.2.1.1, x3.trans y3.symm⟩
    all_goals (exfalso; omega)
  · rcases h2 with ⟨y1, y2, y3⟩ | ⟨y1, y2, y3⟩ | ⟨y1, y2, y3⟩ | ⟨y1, y0, y2, y3⟩ | ⟨y1, y0, y2, y3⟩ | ⟨y1, y0, y3⟩ | ⟨y1, y0, y3⟩
    · exfalso; omega
    · exfalso; omega
    · exfalso; omega
    · exact ⟨x2.trans y2.symm, x3.trans y3.symm⟩
    all_goals (exfalso; omega)
  · rcases h2 with ⟨y1, y2, y3⟩ | ⟨y1, y2, y3⟩ | ⟨y1, y2, y3⟩ | ⟨y1, y0, y2, y3⟩ | ⟨y1, y0, y2, y3⟩ | ⟨y1, y0, y3⟩ | ⟨y1, y0, y3⟩
    · exfalso; omega
    · exfalso; omega
    · exfalso; omega
    · exfalso; omega
    · refine ⟨?_, x3.trans y3.symm⟩
      rw [x2, y2]
      unfold mbV
      rw [if_neg (by decide), pl b hb, e41, (bd b hb).2.2.2.1.1]
    all_goals (exfalso; omega)
  · obtain ⟨k47, mn, mm⟩ := qu x0
    have th : ∀ i, i < κ b → (0 ≤ sI σ 41 (me b i) → sI σ (β (me b i)) 6 = 0) ∧ (sI σ (β (me b i)) 6 = 0 → 0 ≤ sI σ 41 (me b i)) ∧ (sI σ (β (me b i)) 6 = 0 → sI σ 41 (me b i) = sI σ (β (me b i)) 0) := fun i hi => tg _ (mn i hi)
    rcases h2 with ⟨y1, y2, y3⟩ | ⟨y1, y2, y3⟩ | ⟨y1, y2, y3⟩ | ⟨y1, y0, y2, y3⟩ | ⟨y1, y0, y2, y3⟩ | ⟨y1, y0, y3⟩ | ⟨y1, y0, y3⟩
    · exfalso; omega
    · exfalso; omega
    · exfalso; omega
    · exfalso; omega
    · exfalso; omega
    rotate_left
    · exfalso; omega
    rcases y3 with ⟨i, i1, i2, i3, i4, i5⟩ | ⟨i1, i4, i5⟩
    · rcases x3 with ⟨j, j1, j2, j3, j4, j5⟩ | ⟨j1, j4, j5⟩
      · rw [k47] at i1
        have eij : i = j := by
          rcases Nat.lt_trichotomy i j with hl | hl | hl
          · have y := (th i (by omega)).2.1 (j2 i hl)
            rw [mm i (by omega)] at i3
            omega
          · exact hl
          · have y := i2 j hl
            rw [mm j (by omega)] at y
            exact absurd ((th j (by omega)).1 y) j3
        refine ⟨by rw [j4, i4], ?_⟩
        rw [j5, i5, eij, if_pos rfl]
        congr 1
        refine oqL_cg j (fun r hr => ?_)
        show moL (sI σ (β (me b r)) 0) = mbL σ 0 (mmb σ b r)
        unfold mbL
        rw [if_pos rfl, mm r (by omega), (th r (by omega)).2.2 (j2 r hr)]
      · rw [k47] at i1
        rw [mm i (by omega)] at i3
        have y := (th i (by omega)).2.1 (j1 i (by omega))
        omega
    · rcases x3 with ⟨j, j1, j2, j3, j4, j5⟩ | ⟨j1, j4, j5⟩
      · have y := i1 j (by rw [k47]; omega)
        rw [mm j j1] at y
        exact absurd ((th j j1).1 y) j3
      · rw [k47, Int.toNat_natCast] at i4 i5
        refine ⟨?_, ?_⟩
        · rw [j4, i4]
          refine oqA_cg (κ b) (fun r hr => ?_)
          show mo (sI σ (β (me b r)) 0) = mbV σ 0 (mmb σ b r)
          unfold mbV
          rw [if_pos rfl, mm r hr, (th r hr).2.2 (j1 r hr)]
        · rw [j5, i5, if_pos rfl]
          congr 1
          refine oqL_cg (κ b) (fun r hr => ?_)
          show moL (sI σ (β (me b r)) 0) = mbL σ 0 (mmb σ b r)
          unfold mbL
          rw [if_pos rfl, mm r hr, (th r hr).2.2 (j1 r hr)]
  · obtain ⟨k47, mn, mm⟩ := qu x0
    have th : ∀ i, i < κ b → (0 ≤ sI σ 41 (me b i) → sI σ (β (me b i)) 6 = 0) ∧ (sI σ (β (me b i)) 6 = 0 → 0 ≤ sI σ 41 (me b i)) ∧ (sI σ (β (me b i)) 6 = 0 → sI σ 41 (me b i) = sI σ (β (me b i)) 0) := fun i hi => tg _ (mn i hi)
    rcases h2 with ⟨y1, y2, y3⟩ | ⟨y1, y2, y3⟩ | ⟨y1, y2, y3⟩ | ⟨y1, y0, y2, y3⟩ | ⟨y1, y0, y2, y3⟩ | ⟨y1, y0, y3⟩ | ⟨y1, y0, y3⟩
    · exfalso; omega
    · exfalso; omega
    · exfalso; omega
    · exfalso; omega
    · exfalso; omega
    · exfalso; omega
    rcases y3 with ⟨i, i1, i2, i3, i4, i5⟩ | ⟨i1, i4, i5⟩
    · rcases x3 with ⟨j, j1, j2, j3, j4, j5⟩ | ⟨j1, j4, j5⟩
      · rw [k47] at i1
        have eij : i = j := by
          rcases Nat.lt_trichotomy i j with hl | hl | hl
          · have y := (th i (by omega)).2.1 (j2 i hl)
            rw [mm i (by omega)] at i3
            omega
          · exact hl
          · have y := i2 j hl
            rw [mm j (by omega)] at y
            exact absurd ((th j (by omega)).1 y) j3
        refine ⟨by rw [j4, i4], ?_⟩
        rw [j5, i5, eij, if_neg (by decide)]
        congr 1
        refine oqL_cg j (fun r hr => ?_)
        show coL (sI σ (β (me b r)) 0) = mbL σ 1 (mmb σ b r)
        unfold mbL
        rw [if_neg (by decide), mm r (by omega), (th r (by omega)).2.2 (j2 r hr)]
      · rw [k47] at i1
        rw [mm i (by omega)] at i3
        have y := (th i (by omega)).2.1 (j1 i (by omega))
        omega
    · rcases x3 with ⟨j, j1, j2, j3, j4, j5⟩ | ⟨j1, j4, j5⟩
      · have y := i1 j (by rw [k47]; omega)
        rw [mm j j1] at y
        exact absurd ((th j j1).1 y) j3
      · rw [k47, Int.toNat_natCast] at i4 i5
        refine ⟨?_, ?_⟩
        · rw [j4, i4]
          refine oqA_cg (κ b) (fun r hr => ?_)
          show coV (sI σ (β (me b r)) 0) (sI σ (β (me b r)) 7) (pld σ ρ (me b r)) = mbV σ 1 (mmb σ b r)
          unfold mbV
          rw [if_neg (by decide), mm r hr, (th r hr).2.2 (j1 r hr), pl _ (mn r hr), (bd _ (mn r hr)).2.2.2.1.1]
        · rw [j5, i5, if_neg (by decide)]
          congr 1
          refine oqL_cg (κ b) (fun r hr => ?_)
          show coL (sI σ (β (me b r)) 0) = mbL σ 1 (mmb σ b r)
          unfold mbL
          rw [if_neg (by decide), mm r hr, (th r hr).2.2 (j1 r hr)]
