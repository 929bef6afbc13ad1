/-! the reference: a yes is kept -/
theorem rcq_le {X : sX} {c0 : Nat → Int} {k0 n0 : Nat} {js : Nat → Nat} {os : Nat → Int} : ∀ i, rcq X c0 k0 n0 js os i ≤ ndq X c0 k0 n0 js os i
  | 0 => Nat.le_refl _
  | i + 1 => by
    have := rcq_le (X := X) (c0 := c0) (k0 := k0) (n0 := n0) (js := js) (os := os) i
    show rcq X c0 k0 n0 js os i + tof _ _ _ _ _ _ ≤ ndq X c0 k0 n0 js os i + 1 + tof _ _ _ _ _ _
    omega
/-- records and the tree of a level: room enough -/
theorem rcq_6 {X : sX} (hX : XV X) {c0 : Nat → Int} {k0 n0 l : Nat} {js : Nat → Nat} {os : Nat → Int} (hc : CV X c0) (hn : n0 ≤ 6) (h : GL X c0 k0 n0 js os l) : rcq X c0 k0 n0 js os l + tsz X (n0 - l) (csq X c0 k0 js os l) (k0 + l) ≤ 5868 := by
  have h1 := ndq_bd hX hc l h
  have h2 := phi_bd hX (c := c0) (k := k0) hn
  have h3 := tsz_phi hX (n0 - l) (csq X c0 k0 js os l) (k0 + l) (csq_CV hX hc l)
  have h4 := rcq_le (X := X) (c0 := c0) (k0 := k0) (n0 := n0) (js := js) (os := os) l
  omega
/-- how many records there are ahead of keep -/
theorem YM_r {σ : am_S} {kp R f ob n k0 n0 l : Nat} {X : sX} {tr : Nat → Nat} {c0 : Nat → Int} {js : Nat → Nat} {os : Nat → Int} (h : YM σ kp R f X ob n tr c0 k0 n0 js os l) (hR : (kp = 1 → R = 0 ∧ f = 0) ∧ R < 6000) : ∃ r : Nat, sI σ 31 60 = r ∧ r < 6000 ∧ rkp kp R X c0 k0 n0 js os l ≤ r ∧ (kp = 0 → r = R) ∧ (kp = 1 → ¬ mn X (csq X c0 k0 js os l) ≤ 0 → r + 1 = rkp kp R X c0 k0 n0 js os l + tsz X (n0 - l) (csq X c0 k0 js os l) (k0 + l)) ∧ (kp = 1 → mn X (csq X c0 k0 js os l) ≤ 0 → r = rkp kp R X c0 k0 n0 js os l) := by
  obtain ⟨hB, hG, hc, h57, hML, hLA, hd⟩ := h
  obtain ⟨b1, b2, b3, b4, b5, b6, b7, b8, b9⟩ := hB
  have xv := b2.1
  have rb := rcq_6 xv b9 b7 hG
  rcases hd with ⟨m, e⟩ | ⟨m, ln, nb, jw, jy, lw, e, _⟩
  · refine ⟨_, e, ?_, Nat.le_refl _, fun k => ?_, fun k m0 => ?_, fun _ _ => rfl⟩
    · unfold rkp
      by_cases k : kp = 1
      · rw [if_pos k, (hR.1 k).1]
        omega
      · rw [if_neg k]
        have := hR.2
        omega
    · unfold rkp
      rw [if_neg (by omega)]
      rfl
    · rw [tsz_1 m0 m]
  · refine ⟨_, e, ?_, by omega, fun k => ?_, fun k m0 => ?_, fun k m0 => by omega⟩
    · by_cases k : kp = 1
      · have ts : tsz X (n0 - l) (csq X c0 k0 js os l) (k0 + l) = 1 + tof X (n0 - (l + 1)) (csq X c0 k0 js os l) (k0 + l) (wAt X (csq X c0 k0 js os l) (js l)) (oc X (k0 + l)) := by
          rw [show n0 - l = n0 - (l + 1) + 1 by omega, tsz_s m, ← jy]
        unfold rkp
        rw [if_pos k, if_pos k, (hR.1 k).1]
        omega
      · unfold rkp
        rw [if_neg k, if_neg k]
        have := hR.2
        omega
    · unfold rkp
      rw [if_neg (by omega), if_neg (by omega)]
      rfl
    · rw [if_pos k, show n0 - l = n0 - (l + 1) + 1 by omega, tsz_s m, ← jy]
      omega
