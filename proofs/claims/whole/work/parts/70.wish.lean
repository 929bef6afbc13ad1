/-! the class: wishes of queues -/
theorem c_mostQ (d : Nat) {β μ κ ρ : Nat → Nat} {me : Nat → Nat → Nat} {b n : Nat} {σ : am_S} {L : List Int} {K : Int → am_S → Prop} (hC : CF σ) (hB : BS σ β μ κ ρ me n) (hT : ¬ (sI σ 10 2 = 0)) (hb : b < n) (h6 : sI σ (β b) 0 = 6) (n0 : β b ≠ 10 ∧ β b ≠ 11) (hk : κ b ≤ 3) (hm : ∀ i, i < κ b → me b i < n) (hn : ∀ i, i < κ b → nT β ρ (me b i))
    (hstop : ∀ i, i < κ b → (∀ j, j < i → sI σ (β (me b j)) 6 = 0) → ¬ sI σ (β (me b i)) 6 = 0 → K (-1000) (trC σ (L ++ [26] ++ oqL (fun i => moL (sI σ (β (me b i)) 0)) i)))
    (hend : (∀ j, j < κ b → sI σ (β (me b j)) 6 = 0) → K (oqA (fun i => mo (sI σ (β (me b i)) 0)) 0 (κ b)) (trC σ (L ++ [26] ++ oqL (fun i => moL (sI σ (β (me b i)) 0)) (κ b)))) :
    am_Calls PP MLL (d + 6) m_Balance_most [qr (β b, 0, 9)] (trC σ L) (kI K) := by
  obtain ⟨L1, hL1⟩ : ∃ x, x = L ++ [(26 : Int)] := ⟨_, rfl⟩
  rw [← hL1] at hstop hend
  have hS : ∀ i : Nat, i ≤ κ b → (∀ j, j < i → sI σ (β (me b j)) 6 = 0) → ∀ z0 z5, am_Runs PP MLL (d + 5) m_Balance_most 21 [z0, some (qi (oqA (fun i => mo (sI σ (β (me b i)) 0)) 0 i)), some (qr (μ b, 22, κ b)), some (qi ((κ b : Nat) : Int)), some (qi (i : Int)), z5] [] (trC σ (L1 ++ oqL (fun i => moL (sI σ (β (me b i)) 0)) i)) (kI K) := by
    refine lp ?_ ?_
    · intro hth z0 z5
      exact v_Balance_most_21 d β μ κ ρ me b n _ _ _ z0 z5 σ _ K hC hB hT ⟨fun _ => hend hth, fun c => absurd (Int.le_refl _) c⟩
    · intro i hi ih hth z0 z5
      refine v_Balance_most_21 d β μ κ ρ me b n _ _ _ z0 z5 σ _ K hC hB hT ⟨fun c => absurd c (by omega), fun _ => ?_⟩
      rw [Int.toNat_natCast, trC_o (hn i hi).1.1 (hn i hi).1.2]
      refine ⟨⟨by omega, by omega, hb, hi⟩, fun c1 => ?_, fun c1 => hstop i hi hth c1⟩
      · skip
        refine c_mostAloneO d hC hB hT (hm i hi) (hn i hi).1.1 (hn i hi).1.2 ⟨⟨hC, hB⟩, by omega, ?_⟩
        have ih := ih (fun j hj => by
          by_cases e : j = i
          · rw [e]; exact c1
          · exact hth j (by omega))
        unfold oqA oqL at ih
        rw [if_pos rfl, ← List.append_assoc] at ih
        have e5 : (if oqA (fun i => mo (sI σ (β (me b i)) 0)) 0 i < mo (sI σ (β (me b i)) 0) then (mo (sI σ (β (me b i)) 0) : Int) else oqA (fun i => mo (sI σ (β (me b i)) 0)) 0 i) = (if mo (sI σ (β (me b i)) 0) ≤ oqA (fun i => mo (sI σ (β (me b i)) 0)) 0 i then oqA (fun i => mo (sI σ (β (me b i)) 0)) 0 i else mo (sI σ (β (me b i)) 0)) := by
          (repeat' split) <;> omega
        rw [e5]
        exact ih _ _
  refine v_Balance_most_0 d β μ κ ρ me b n σ L K hC hB hT ?_
  rw [trC_o n0.1 n0.2]
  refine ⟨fun _ => ⟨hb, ?_⟩, fun c => absurd h6 c⟩
  have h0 := hS 0 (Nat.zero_le _) (fun j hj => absurd hj (Nat.not_lt_zero j)) (some (qr (β b, 0, 9))) none
  unfold oqL at h0
  rw [List.append_nil, hL1] at h0
  exact h0
theorem c_costQ (d : Nat) {β μ κ ρ : Nat → Nat} {me : Nat → Nat → Nat} {b n : Nat} {σ : am_S} {L : List Int} {K : Int → am_S → Prop} (hC : CF σ) (hB : BS σ β μ κ ρ me n) (hT : ¬ (sI σ 10 2 = 0)) (hb : b < n) (h6 : sI σ (β b) 0 = 6) (n0 : β b ≠ 10 ∧ β b ≠ 11) (hk : κ b ≤ 3) (hm : ∀ i, i < κ b → me b i < n) (hn : ∀ i, i < κ b → nT β ρ (me b i)) (hp : ∀ i, i < κ b → PV σ ρ (me b i)) (hu : ∀ i, i < κ b → 0 ≤ sI σ (β (me b i)) 7 ∧ sI σ (β (me b i)) 7 ≤ 1000)
    (hstop : ∀ i, i < κ b → (∀ j, j < i → sI σ (β (me b j)) 6 = 0) → ¬ sI σ (β (me b i)) 6 = 0 → K (-1000) (trC σ (L ++ [36] ++ oqL (fun i => coL (sI σ (β (me b i)) 0)) i)))
    (hend : (∀ j, j < κ b → sI σ (β (me b j)) 6 = 0) → K (oqA (fun i => coV (sI σ (β (me b i)) 0) (sI σ (β (me b i)) 7) (pld σ ρ (me b i))) 1 (κ b)) (trC σ (L ++ [36] ++ oqL (fun i => coL (sI σ (β (me b i)) 0)) (κ b)))) :
    am_Calls PP MLL (d + 5) m_Balance_cost [qr (β b, 0, 9)] (trC σ L) (kI K) := by
  obtain ⟨L1, hL1⟩ : ∃ x, x = L ++ [(36 : Int)] := ⟨_, rfl⟩
  rw [← hL1] at hstop hend
  have ob : ∀ i : Nat, i ≤ κ b → 0 ≤ oqA (fun i => coV (sI σ (β (me b i)) 0) (sI σ (β (me b i)) 7) (pld σ ρ (me b i))) 1 i ∧ oqA (fun i => coV (sI σ (β (me b i)) 0) (sI σ (β (me b i)) 7) (pld σ ρ (me b i))) 1 i ≤ 10000 * (i : Int) := by
    intro i
    induction i with
    | zero => intro _; exact ⟨by show (0 : Int) ≤ 0; omega, by show (0 : Int) ≤ 10000 * ((0 : Nat) : Int); omega⟩
    | succ i ih =>
      intro hi
      have ih := ih (by omega)
      have cb := coV_bd (k := sI σ (β (me b i)) 0) (hu i (by omega)) (pld_bd (hp i (by omega)))
      unfold oqA
      rw [if_neg (by decide)]
      omega
  have hS : ∀ i : Nat, i ≤ κ b → (∀ j, j < i → sI σ (β (me b j)) 6 = 0) → ∀ z0 z5, am_Runs PP MLL (d + 4) m_Balance_cost 21 [z0, some (qi (oqA (fun i => coV (sI σ (β (me b i)) 0) (sI σ (β (me b i)) 7) (pld σ ρ (me b i))) 1 i)), some (qr (μ b, 22, κ b)), some (qi ((κ b : Nat) : Int)), some (qi (i : Int)), z5] [] (trC σ (L1 ++ oqL (fun i => coL (sI σ (β (me b i)) 0)) i)) (kI K) := by
    refine lp ?_ ?_
    · intro hth z0 z5
      exact v_Balance_cost_21 d β μ κ ρ me b n _ _ _ z0 z5 σ _ K hC hB hT ⟨fun _ => hend hth, fun c => absurd (Int.le_refl _) c⟩
    · intro i hi ih hth z0 z5
      refine v_Balance_cost_21 d β μ κ ρ me b n _ _ _ z0 z5 σ _ K hC hB hT ⟨fun c => absurd c (by omega), fun _ => ?_⟩
      rw [Int.toNat_natCast, trC_o (hn i hi).1.1 (hn i hi).1.2]
      refine ⟨⟨by omega, by omega, hb, hi⟩, fun c1 => ?_, fun c1 => hstop i hi hth c1⟩
      · skip
        have cb := coV_bd (k := sI σ (β (me b i)) 0) (hu i hi) (pld_bd (hp i hi))
        have ob := ob i (by omega)
        refine c_costAlone d hC hB hT (hm i hi) (hn i hi) (hp i hi) (hu i hi) ⟨⟨hC, hB⟩, by omega, ?_⟩
        have ih := ih (fun j hj => by
          by_cases e : j = i
          · rw [e]; exact c1
          · exact hth j (by omega))
        unfold oqA oqL at ih
        rw [if_neg (by decide), ← List.append_assoc] at ih
        exact ih _ _
  refine v_Balance_cost_0 d β μ κ ρ me b n σ L K hC hB hT ?_
  rw [trC_o n0.1 n0.2]
  refine ⟨fun _ => ⟨hb, ?_⟩, fun c => absurd h6 c⟩
  have h0 := hS 0 (Nat.zero_le _) (fun j hj => absurd hj (Nat.not_lt_zero j)) (some (qr (β b, 0, 9))) none
  unfold oqL at h0
  rw [List.append_nil, hL1] at h0
  exact h0
