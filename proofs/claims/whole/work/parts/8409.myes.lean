/-! the reference: a yes is kept, its records -/
theorem KE_fr {σ s : am_S} {L r : Nat} {X : sX} {tr : Nat → Nat} {c f' : Nat → Int} (h : KE σ s L r X tr c f') (f : Nat) : MFr σ s f := by
  have o := KE_o h
  refine ⟨o.1, fun x x1 x2 => o.2.1 x (by omega) x2, fun j _ _ _ _ j5 => o.2.2.2 j j5, fun j _ => by rw [o.2.1 53 (by omega) (by decide)], fun x x1 x2 j _ => by rw [o.2.1 x (by omega) (by omega)], fun x x1 x2 j _ => by rw [o.2.1 x (by omega) (by omega)], fun e x x1 x2 => ?_⟩
  rcases h with ⟨_, q⟩ | ⟨q, _⟩
  · rw [q]
  · rw [e] at q
    exact absurd q (by decide)
/-- the records of level l behind keep -/
theorem yK {σ s : am_S} {kp R f ob n k0 n0 l r : Nat} {X : sX} {tr : Nat → Nat} {c0 : Nat → Int} {js : Nat → Nat} {os : Nat → Int} (h : YM σ kp R f X ob n tr c0 k0 n0 js os l) (hr : kp = 1 → ¬ mn X (csq X c0 k0 js os l) ≤ 0 → r + 1 = rkp kp R X c0 k0 n0 js os l + tsz X (n0 - l) (csq X c0 k0 js os l) (k0 + l)) (hr2 : sI σ 31 60 = r) (hk : KE σ s (f + l) r X tr (csq X c0 k0 js os l) (sdw X (csq X c0 k0 js os l) (wAt X (csq X c0 k0 js os l) (js l)))) (h1 : kp = 1) : mn X (csq X c0 k0 js os l) ≤ 0 ∨ (sI s 31 60 = (rkp kp R X c0 k0 n0 js os l + tsz X (n0 - l) (csq X c0 k0 js os l) (k0 + l) : Nat) ∧ RS s X tr (n0 - l) (csq X c0 k0 js os l) (k0 + l) (f + l) (if f + l = 0 then 0 else sI σ 57 (f + l - 1)) (rkp kp R X c0 k0 n0 js os l)) := by
  obtain ⟨hB, hG, hc, h57, hML, hLA, hd⟩ := h
  have h59 := hB.2.2.2.1
  rcases hk with ⟨q, _⟩ | ⟨_, m0, k1, k2, k3, k4, k5, k6, k7, k8, k9, k10, k11⟩
  · rcases q with q | q
    · rw [h59, h1] at q
      exact absurd q (by decide)
    · exact Or.inl q
  · have hr' := hr h1 m0
    refine Or.inr ⟨by rw [k5, hr'], ?_⟩
    rcases hd with ⟨m, e⟩ | ⟨m, ln, nb, jw, jy, lw, e, ch⟩
    · have m1 : mn X (csq X c0 k0 js os l) = 1 := by omega
      have er : r = rkp kp R X c0 k0 n0 js os l := by
        rw [tsz_1 m0 m] at hr'
        omega
      rw [if_pos m1] at k6 k8
      obtain ⟨y1, y2, y3, y4, y5⟩ := k7
      rw [if_pos m1] at y5
      have rc : RC s (rkp kp R X c0 k0 n0 js os l) X tr (csq X c0 k0 js os l) (0, fun _ => 0, fun _ => 0) (f + l) (if f + l = 0 then 0 else sI σ 57 (f + l - 1)) := by
        rw [← er]
        refine ⟨by rw [if_pos m1]; exact k6, ⟨y1, y2, y3, y4, ?_⟩, by rw [if_pos m1]; exact k8, k9, k10, k11⟩
        rw [if_pos m1]
        refine ⟨y5.1, y5.2.1, fun q => ⟨?_, ?_⟩⟩
        · rw [(y5.2.2 q).1, if_neg (by omega), if_neg (by omega)]
        · rw [(y5.2.2 q).2, if_neg (by omega), if_neg (by omega)]
      cases hh : n0 - l with
      | zero => exact rc
      | succ n' => exact Or.inl ⟨m, rc⟩
    · have m1 : ¬ mn X (csq X c0 k0 js os l) = 1 := by omega
      have en : n0 - l = n0 - (l + 1) + 1 := by omega
      have er : r = rkp kp R X c0 k0 n0 js os l + tof X (n0 - (l + 1)) (csq X c0 k0 js os l) (k0 + l) (wAt X (csq X c0 k0 js os l) (js l)) (oc X (k0 + l)) := by
        rw [en, tsz_s m, ← jy] at hr'
        omega
      rw [if_neg m1] at k6 k8
      rw [en]
      refine Or.inr ⟨m, fun u hu => ?_, ?_⟩
      · rw [← jy]
        rcases ch h1 u hu with w | w
        · exact Or.inl w
        · by_cases mu : mn X (chd X (csq X c0 k0 js os l) (k0 + l) (wAt X (csq X c0 k0 js os l) (js l)) u) ≤ 0
          · exact Or.inl mu
          · refine Or.inr (RS_fr _ _ _ _ _ _ mu (fun x x1 x2 j j1 j2 => k3 x x1 x2 j ?_) w)
            have z1 := tof_s X (n0 - (l + 1)) (csq X c0 k0 js os l) (k0 + l) (wAt X (csq X c0 k0 js os l) (js l)) u
            have z2 : tof X (n0 - (l + 1)) (csq X c0 k0 js os l) (k0 + l) (wAt X (csq X c0 k0 js os l) (js l)) (u + 1) ≤ tof X (n0 - (l + 1)) (csq X c0 k0 js os l) (k0 + l) (wAt X (csq X c0 k0 js os l) (js l)) (oc X (k0 + l)) := sN'_mono (by omega)
            omega
      · rw [← jy, ← er]
        refine ⟨?_, ?_, by rw [if_neg m1]; exact k8, k9, k10, k11⟩
        · rw [if_neg m1, k6]
          exact lw.2.2.1.1
        · exact k7
