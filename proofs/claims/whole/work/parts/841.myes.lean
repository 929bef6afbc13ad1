/-! the reference: a yes goes up -/
/-- children of level l that are kept, the one at hand too -/
theorem yC {σ s : am_S} {kp R f ob n k0 n0 l r : Nat} {X : sX} {tr : Nat → Nat} {c0 : Nat → Int} {js : Nat → Nat} {os : Nat → Int} (h : YM σ kp R f X ob n tr c0 k0 n0 js os (l + 1)) (hr2 : sI σ 31 60 = r) (hle : rkp kp R X c0 k0 n0 js os (l + 1) ≤ r) (hr : kp = 1 → ¬ mn X (csq X c0 k0 js os (l + 1)) ≤ 0 → r + 1 = rkp kp R X c0 k0 n0 js os (l + 1) + tsz X (n0 - (l + 1)) (csq X c0 k0 js os (l + 1)) (k0 + (l + 1))) (hr0 : kp = 0 → r = R) (hr3 : kp = 1 → mn X (csq X c0 k0 js os (l + 1)) ≤ 0 → r = rkp kp R X c0 k0 n0 js os (l + 1)) (hk : KE σ s (f + (l + 1)) r X tr (csq X c0 k0 js os (l + 1)) (sdw X (csq X c0 k0 js os (l + 1)) (wAt X (csq X c0 k0 js os (l + 1)) (js (l + 1))))) :
    sI s 31 60 = (rkp kp R X c0 k0 n0 js os l + (if kp = 1 then tof X (n0 - (l + 1)) (csq X c0 k0 js os l) (k0 + l) (wAt X (csq X c0 k0 js os l) (js l)) (oi X (k0 + l) (os l) + 1) else 0) : Nat) ∧ (kp = 1 → ∀ u, u < oi X (k0 + l) (os l) + 1 → mn X (chd X (csq X c0 k0 js os l) (k0 + l) (wAt X (csq X c0 k0 js os l) (js l)) u) ≤ 0 ∨ RS s X tr (n0 - (l + 1)) (chd X (csq X c0 k0 js os l) (k0 + l) (wAt X (csq X c0 k0 js os l) (js l)) u) (k0 + l + 1) (f + l + 1) (-mo (xK X (k0 + l)) + (u : Int)) (rkp kp R X c0 k0 n0 js os l + tof X (n0 - (l + 1)) (csq X c0 k0 js os l) (k0 + l) (wAt X (csq X c0 k0 js os l) (js l)) u)) := by
  have hY := h
  obtain ⟨hB, hG, hc, h57, hML, hLA, hd⟩ := h
  obtain ⟨g1, g2, g3, g4, g5, g6, g7⟩ := hG l (by omega)
  obtain ⟨m1, m2, m3, m4, m5, m6⟩ := hML l (by omega)
  have o := KE_o hk
  have ecs : csq X c0 k0 js os (l + 1) = chd X (csq X c0 k0 js os l) (k0 + l) (wAt X (csq X c0 k0 js os l) (js l)) (oi X (k0 + l) (os l)) := csq_s g5.1
  by_cases k : kp = 1
  · have ers := rkp_s (R := R) (X := X) (c0 := c0) (k0 := k0) (n0 := n0) (js := js) (os := os) (i := l) k
    have yk := yK hY hr hr2 hk k
    have tf := tof_s X (n0 - (l + 1)) (csq X c0 k0 js os l) (k0 + l) (wAt X (csq X c0 k0 js os l) (js l)) (oi X (k0 + l) (os l))
    rw [if_pos k]
    refine ⟨?_, fun _ u hu => ?_⟩
    · rcases yk with w | ⟨w, _⟩
      · have e0 : s = σ := by
          rcases hk with ⟨_, q⟩ | ⟨_, q, _⟩
          · exact q
          · exact absurd w q
        have z := tsz_0 (n := n0 - (l + 1)) (k := k0 + l + 1) w
        rw [ecs] at z
        rw [e0, hr2, hr3 k w, ers]
        omega
      · rw [w, ers, ecs]
        have : k0 + (l + 1) = k0 + l + 1 := rfl
        rw [this]
        omega
    · by_cases c : u < oi X (k0 + l) (os l)
      · rcases m6 k u c with w | w
        · exact Or.inl w
        · by_cases mu : mn X (chd X (csq X c0 k0 js os l) (k0 + l) (wAt X (csq X c0 k0 js os l) (js l)) u) ≤ 0
          · exact Or.inl mu
          · refine Or.inr (RS_fr _ _ _ _ _ _ mu (fun x x1 x2 j j1 j2 => o.2.2.1 x x1 x2 j ?_) w)
            have z1 := tof_s X (n0 - (l + 1)) (csq X c0 k0 js os l) (k0 + l) (wAt X (csq X c0 k0 js os l) (js l)) u
            have z2 : tof X (n0 - (l + 1)) (csq X c0 k0 js os l) (k0 + l) (wAt X (csq X c0 k0 js os l) (js l)) (u + 1) ≤ tof X (n0 - (l + 1)) (csq X c0 k0 js os l) (k0 + l) (wAt X (csq X c0 k0 js os l) (js l)) (oi X (k0 + l) (os l)) := sN'_mono (by omega)
            omega
      · have eu : u = oi X (k0 + l) (os l) := by omega
        rcases yk with w | ⟨_, w⟩
        · rw [eu, ← ecs]
          exact Or.inl w
        · rw [eu, ← ecs]
          refine Or.inr ?_
          have eo : (if f + (l + 1) = 0 then (0 : Int) else sI σ 57 (f + (l + 1) - 1)) = -mo (xK X (k0 + l)) + ((oi X (k0 + l) (os l) : Nat) : Int) := by
            rw [if_neg (by omega), show f + (l + 1) - 1 = f + l by omega, m4]
            unfold oi
            omega
          rw [eo, ers] at w
          exact w
  · have k0' : kp = 0 := by have := hB.2.2.2.2.1; omega
    rw [if_neg k]
    refine ⟨?_, fun q => absurd q k⟩
    have e0 : s = σ := by
      rcases hk with ⟨_, q⟩ | ⟨q, _⟩
      · exact q
      · rw [hB.2.2.2.1, k0'] at q
        exact absurd q (by decide)
    rw [e0, hr2, hr0 k0']
    unfold rkp
    rw [if_neg k]
    rfl
