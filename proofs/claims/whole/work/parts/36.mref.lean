/-! the reference: lay, weighFault -/
theorem c_M_lay (d : Nat) {b : Nat} {σ : am_S} {K : am_S → Prop} (hF : MF σ) (hb : b < 12) (hp : ∀ k, sI σ 44 k ≤ 20) (hpl : ∀ i, sI σ 45 i < 40) (h : K (mLay σ b)) : am_Calls PP MLL (d + 1) m_M_lay [qr (31, 12, 89), qi (b : Int)] σ (kV K) := by
  refine v_M_lay_0 d b σ K hF ?_
  have hL := layL_bd (fun i => sI σ 45 (40 * b + i))
  have hR := layR_bd ((layQ σ b).1, (layQ σ b).2.1) ⟨(hL _).1, (hL _).2.2.2⟩ (fun i => sI σ 45 (40 * b + 20 + i))
  have hp0 := hp (2 * b)
  have hp1 := hp (2 * b + 1)
  -- the right pan
  have r2 : ∀ i, i ≤ (sI σ 44 (2 * b + 1)).toNat → ∀ z4, am_Runs PP MLL d m_M_lay 28 [some (qr (31, 12, 89)), some (qi b), some (qi 1), some (qi i), z4] [] (layS σ (layR ((layQ σ b).1, (layQ σ b).2.1) (fun i => sI σ 45 (40 * b + 20 + i)) i).1 (layR ((layQ σ b).1, (layQ σ b).2.1) (fun i => sI σ 45 (40 * b + 20 + i)) i).2.1 (layQ σ b).2.2 (layR ((layQ σ b).1, (layQ σ b).2.1) (fun i => sI σ 45 (40 * b + 20 + i)) i).2.2) (kV K) := by
    refine lp ?_ ?_
    · intro z4
      have e2 : Int.toNat (2 * (b : Int) + 1) = 2 * b + 1 := by omega
      refine v_M_lay_28R d b _ z4 _ K hF ⟨by omega, fun _ => ?_, fun c => absurd ?_ c⟩
      · exact v_M_lay_23 d b 2 _ z4 _ K hF ⟨fun _ => h, fun c => absurd (by decide) c⟩
      · rw [e2]
        show sI σ 44 (2 * b + 1) ≤ _
        omega
    · intro i hi ih z4
      have e2 : Int.toNat (2 * (b : Int) + 1) = 2 * b + 1 := by omega
      have e3 : Int.toNat (20 * (2 * (b : Int) + 1) + (i : Int)) = 40 * b + 20 + i := by omega
      have hc := hpl (40 * b + 20 + i)
      have hRi := hR i
      have hLi := hL (sI σ 44 (2 * b)).toNat
      refine v_M_lay_28R d b _ z4 _ K hF ?_
      rw [e2, e3]
      refine ⟨by omega, fun c => absurd c ?_, fun _ => ⟨by omega, fun c => ⟨by omega, ?_⟩, fun c => ?_⟩⟩
      · show ¬ (sI σ 44 (2 * b + 1) ≤ _)
        omega
      · have ih := ih (some (qi (sI σ 45 (40 * b + 20 + i))))
        unfold layR at ih
        rw [if_pos (show (fun i => sI σ 45 (40 * b + 20 + i)) i < 0 from c)] at ih
        exact ih
      · have c : ¬ (sI σ 45 (40 * b + 20 + i) < 0) := c
        have ih := ih (some (qi (sI σ 45 (40 * b + 20 + i))))
        unfold layR at ih
        rw [if_neg (show ¬ ((fun i => sI σ 45 (40 * b + 20 + i)) i < 0) from c)] at ih
        dsimp only at ih
        have hcl : (sI σ 45 (40 * b + 20 + i)).toNat < 40 := by omega
        rw [← layS_step hcl] at ih
        have hlq : (layQ σ b).2.2 ≤ 20 := by
          show (layL (fun i => sI σ 45 (40 * b + i)) (sI σ 44 (2 * b)).toNat).2.2 ≤ 20
          omega
        have hlq0 : 0 ≤ (layQ σ b).2.2 := hLi.2.1
        have e50 : ∀ s tw l r c, c < 40 → sI (layS σ s tw l r) 50 c = s c := by
          intro s tw l r c hc
          show (if c < 40 then s c else sI σ 50 c) = s c
          rw [if_pos hc]
        refine ⟨fun t => ?_, fun t => ?_⟩
        · refine ⟨⟨by show 0 ≤ sI σ 45 (40 * b + 20 + i); omega, hc⟩, fun u => ?_, fun u => ?_⟩
          · have u := (e50 _ _ _ _ _ hcl).symm.trans u
            rw [if_pos ⟨t, u⟩] at ih
            refine ⟨?_, ?_, ?_⟩
            · show -2147483648 ≤ (layQ σ b).2.2 + 0 ∧ (layQ σ b).2.2 + 0 < 2147483648
              omega
            · show -2147483648 ≤ (layR _ _ i).2.2 + 1 ∧ (layR _ _ i).2.2 + 1 < 2147483648 ∧ _
              omega
            · exact (Int.add_zero (layQ σ b).2.2).symm ▸ ih
          · have u : ¬ (layR ((layQ σ b).1, (layQ σ b).2.1) (fun i => sI σ 45 (40 * b + 20 + i)) i).1 (sI σ 45 (40 * b + 20 + i)).toNat = 0 := fun v => u ((e50 _ _ _ _ _ hcl).trans v)
            rw [if_neg (fun w => u w.2)] at ih
            refine ⟨?_, ?_, ?_⟩
            · show -2147483648 ≤ (layQ σ b).2.2 + 0 ∧ (layQ σ b).2.2 + 0 < 2147483648
              omega
            · show -2147483648 ≤ (layR _ _ i).2.2 + 1 ∧ (layR _ _ i).2.2 + 1 < 2147483648 ∧ _
              omega
            · exact (Int.add_zero (layQ σ b).2.2).symm ▸ ih
        · rw [if_neg (fun w => t w.1)] at ih
          refine ⟨⟨by show 0 ≤ sI σ 45 (40 * b + 20 + i); omega, hc⟩, ?_, ?_, ?_⟩
          · show -2147483648 ≤ (layQ σ b).2.2 + 0 ∧ (layQ σ b).2.2 + 0 < 2147483648
            omega
          · show -2147483648 ≤ (layR _ _ i).2.2 + 1 ∧ (layR _ _ i).2.2 + 1 < 2147483648 ∧ _
            omega
          · exact (Int.add_zero (layQ σ b).2.2).symm ▸ ih
  -- the left pan
  have l2 : ∀ i, i ≤ (sI σ 44 (2 * b)).toNat → ∀ z4, am_Runs PP MLL d m_M_lay 28 [some (qr (31, 12, 89)), some (qi b), some (qi 0), some (qi i), z4] [] (layS σ (layL (fun i => sI σ 45 (40 * b + i)) i).1 (layL (fun i => sI σ 45 (40 * b + i)) i).2.1 (layL (fun i => sI σ 45 (40 * b + i)) i).2.2 0) (kV K) := by
    refine lp ?_ ?_
    · intro z4
      have e2 : Int.toNat (2 * (b : Int) + 0) = 2 * b := by omega
      refine v_M_lay_28L d b _ z4 _ K hF ⟨by omega, fun _ => ?_, fun c => absurd ?_ c⟩
      · exact v_M_lay_23 d b 1 _ z4 _ K hF ⟨fun c => absurd c (by decide), fun _ => r2 0 (Nat.zero_le _) z4⟩
      · rw [e2]
        show sI σ 44 (2 * b) ≤ _
        omega
    · intro i hi ih z4
      have e2 : Int.toNat (2 * (b : Int) + 0) = 2 * b := by omega
      have e3 : Int.toNat (20 * (2 * (b : Int) + 0) + (i : Int)) = 40 * b + i := by omega
      have hc := hpl (40 * b + i)
      have hLi := hL i
      refine v_M_lay_28L d b _ z4 _ K hF ?_
      rw [e2, e3]
      refine ⟨by omega, fun c => absurd c ?_, fun _ => ⟨by omega, fun c => ⟨by omega, ?_⟩, fun c => ?_⟩⟩
      · show ¬ (sI σ 44 (2 * b) ≤ _)
        omega
      · have ih := ih (some (qi (sI σ 45 (40 * b + i))))
        unfold layL at ih
        rw [if_pos (show (fun i => sI σ 45 (40 * b + i)) i < 0 from c)] at ih
        exact ih
      · have c : ¬ (sI σ 45 (40 * b + i) < 0) := c
        have ih := ih (some (qi (sI σ 45 (40 * b + i))))
        unfold layL at ih
        rw [if_neg (show ¬ ((fun i => sI σ 45 (40 * b + i)) i < 0) from c)] at ih
        dsimp only at ih
        have hcl : (sI σ 45 (40 * b + i)).toNat < 40 := by omega
        rw [← layS_step hcl] at ih
        have e50 : ∀ s tw l r c, c < 40 → sI (layS σ s tw l r) 50 c = s c := by
          intro s tw l r c hc
          show (if c < 40 then s c else sI σ 50 c) = s c
          rw [if_pos hc]
        refine ⟨fun t => ?_, fun t => ?_⟩
        · refine ⟨⟨by show 0 ≤ sI σ 45 (40 * b + i); omega, hc⟩, fun u => ?_, fun u => ?_⟩
          · have u := (e50 _ _ _ _ _ hcl).symm.trans u
            rw [if_pos ⟨t, u⟩] at ih
            refine ⟨?_, ?_, ?_⟩
            · show -2147483648 ≤ (layL _ i).2.2 + 1 ∧ (layL _ i).2.2 + 1 < 2147483648
              omega
            · show -2147483648 ≤ (0 : Int) + 0 ∧ (0 : Int) + 0 < 2147483648 ∧ _
              omega
            · exact ih
          · have u : ¬ (layL (fun i => sI σ 45 (40 * b + i)) i).1 (sI σ 45 (40 * b + i)).toNat = 0 := fun v => u ((e50 _ _ _ _ _ hcl).trans v)
            rw [if_neg (fun w => u w.2)] at ih
            refine ⟨?_, ?_, ?_⟩
            · show -2147483648 ≤ (layL _ i).2.2 + 1 ∧ (layL _ i).2.2 + 1 < 2147483648
              omega
            · show -2147483648 ≤ (0 : Int) + 0 ∧ (0 : Int) + 0 < 2147483648 ∧ _
              omega
            · exact ih
        · rw [if_neg (fun w => t w.1)] at ih
          refine ⟨⟨by show 0 ≤ sI σ 45 (40 * b + i); omega, hc⟩, ?_, ?_, ?_⟩
          · show -2147483648 ≤ (layL _ i).2.2 + 1 ∧ (layL _ i).2.2 + 1 < 2147483648
            omega
          · show -2147483648 ≤ (0 : Int) + 0 ∧ (0 : Int) + 0 < 2147483648 ∧ _
            omega
          · exact ih
  -- all sides to 0
  have cl : ∀ i : Nat, i ≤ 40 → ∀ z3 z4, am_Runs PP MLL d m_M_lay 2 [some (qr (31, 12, 89)), some (qi b), some (qi i), z3, z4] [] (rowI σ 50 (fun c => if c < i then 0 else sI σ 50 c)) (kV K) := by
    refine lp ?_ ?_
    · intro z3 z4
      refine v_M_lay_2 d b _ z3 z4 _ K hF ⟨fun _ => ?_, fun c => absurd (by decide) c⟩
      exact v_M_lay_23 d b 0 z3 z4 _ K hF ⟨fun c => absurd c (by decide), fun _ => l2 0 (Nat.zero_le _) z4⟩
    · intro i hi ih z3 z4
      refine v_M_lay_2 d b _ z3 z4 _ K hF ⟨fun c => absurd c (by omega), fun _ => ⟨by omega, ?_⟩⟩
      have ih := ih z3 z4
      rw [putI_rowI, Int.toNat_natCast]
      have e : (fun k => if k = i then 0 else if k < i then 0 else sI σ 50 k) = (fun c => if c < i + 1 then 0 else sI σ 50 c) := by
        funext k
        by_cases h1 : k = i
        · rw [if_pos h1, if_pos (by omega)]
        · rw [if_neg h1]
          by_cases h2 : k < i
          · rw [if_pos h2, if_pos (by omega)]
          · rw [if_neg h2, if_neg (by omega)]
      rw [e]
      exact ih
  have h0 := cl 0 (by omega) none none
  have e0 : rowI σ 50 (fun c => if c < 0 then 0 else sI σ 50 c) = σ := by
    have e : (fun c => if c < 0 then (0 : Int) else sI σ 50 c) = sI σ 50 := by
      funext c
      rw [if_neg (by omega)]
    rw [e, rowI_self]
  rw [e0] at h0
  exact h0
