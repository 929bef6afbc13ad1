/-! the start: all holds -/
theorem ilf_set : ∀ q, q ∈ ILf → (q.1 = 3 ∨ q.1 = 31 ∨ q.1 = 37 ∨ q.1 = 41 ∨ q.1 = 44) := by decide +kernel
theorem ilf_31 : ∀ q, q ∈ ILf → q.1 = 31 → (q.2.1 = 3 ∨ q.2.1 = 5) := by decide +kernel
theorem ilf_3 : ∀ q, q ∈ ILf → q.1 = 3 → (q.2.1 = 1 ∨ q.2.1 = 2 ∨ q.2.1 = 5) := by decide +kernel
theorem ilf_41 : ∀ b, b < 12 → ilk ILf 41 b = -1 := by decide +kernel
theorem ilf_bd : ∀ q, q ∈ ILf → -1 ≤ q.2.2 ∧ q.2.2 ≤ 1 := by decide +kernel
theorem ilf_v : ilk ILf 31 3 = 1 ∧ ilk ILf 31 5 = 1 ∧ ilk ILf 3 1 = 1 ∧ ilk ILf 3 2 = 1 ∧ ilk ILf 3 5 = 1 ∧ ilk ILf 37 0 = -1 := by decide +kernel
theorem rlf_9 : ∀ q, q ∈ RLf → q.1 ≠ 9 := by decide +kernel
theorem rlf_c : ∀ q, q ∈ crefL → rlk RLf q.1 q.2.1 = some q.2.2 := by decide +kernel
theorem rlf_v : rlk RLf 3 6 = some (4, 21, 1) ∧ rlk RLf 3 7 = some (5, 21, 1) ∧ rlk RLf 3 8 = some (6, 20, 1) ∧ rlk RLf 3 9 = some (7, 20, 1) ∧ rlk RLf 12 6 = none ∧ rlk RLf 26 6 = some (29, 20, 0) ∧ rlk RLf 26 7 = some (30, 20, 0) ∧ rlk RLf 13 4 = some (16, 20, 0) ∧ rlk RLf 12 2 = some (17, 23, 0) ∧ rlk RLf 12 4 = some (20, 4, 3) ∧ rlk RLf 12 5 = some (23, 4, 3) ∧ rlk RLf 20 0 = some (21, 20, 0) ∧ rlk RLf 20 1 = some (22, 20, 0) ∧ rlk RLf 23 0 = some (24, 20, 0) ∧ rlk RLf 23 1 = some (25, 20, 0) ∧ rlk RLf 18 0 = some (19, 20, 0) := ⟨by decide +kernel, by decide +kernel, by decide +kernel, by decide +kernel, by decide +kernel, by decide +kernel, by decide +kernel, by decide +kernel, by decide +kernel, by decide +kernel, by decide +kernel, by decide +kernel, by decide +kernel, by decide +kernel, by decide +kernel, by decide +kernel⟩
theorem HB_00 {x y z w : Nat} {kd : Int} : HB 0 0 0 x y z w kd := by
  refine ⟨by decide, by decide, fun c => ⟨?_, ?_⟩⟩
  · rw [bt_0]
    unfold sig
    rw [if_neg (by omega), if_neg (by omega), if_neg (by omega)]
    rfl
  · rw [bt_0]
    rfl
theorem INV_ini {xs : Nat → Int} {σ : am_S} (h : ILP xs σ 87 358368 RLf ILf) : INV xs σ 0 := by
  have hF := MF_of h
  obtain ⟨⟨h1, h2, h3⟩, ⟨r1, r2⟩, hr, hi, h0, hA⟩ := h
  have zz : ∀ a, 2 ≤ a → a ≠ 3 → a ≠ 31 → a ≠ 37 → a ≠ 41 → a ≠ 44 → ∀ j, sI σ a j = 0 := fun a ha y1 y2 y3 y4 y5 j => by
    rw [hi a j ha, ilk_no]
    intro q m e
    have := ilf_set q m
    omega
  have z31 : ∀ j, j ≠ 3 → j ≠ 5 → sI σ 31 j = 0 := fun j y1 y2 => by
    rw [hi 31 j (by decide), ilk_no]
    intro q m e
    have := ilf_31 q m e.1.symm
    omega
  have z3 : ∀ j, j ≠ 1 → j ≠ 2 → j ≠ 5 → sI σ 3 j = 0 := fun j y1 y2 y3 => by
    rw [hi 3 j (by decide), ilk_no]
    intro q m e
    have := ilf_3 q m e.1.symm
    omega
  obtain ⟨v1, v2, v3, v4, v5, v6⟩ := ilf_v
  rw [← hi 31 3 (by decide)] at v1
  rw [← hi 31 5 (by decide)] at v2
  rw [← hi 3 1 (by decide)] at v3
  rw [← hi 3 2 (by decide)] at v4
  rw [← hi 3 5 (by decide)] at v5
  rw [← hi 37 0 (by decide)] at v6
  obtain ⟨k1, k2, k3, k4, k5, k6, k7, k8, k9, k10, k11, k12, k13, k14, k15, k16⟩ := rlf_v
  rw [← hr] at k1 k2 k3 k4 k5 k6 k7 k8 k9 k10 k11 k12 k13 k14 k15 k16
  have z0 : zl σ = 0 := by
    unfold zl
    rw [k12, k13, k14, k15, k16]
    rfl
  refine ⟨fun x => x, fun _ => 0, fun _ => 0, fun _ => 0, fun _ => 0, fun _ _ => 0, 0, 4, 1, 5, 1, 6, 1, 7, 1, 0, 0, 0, 1, 0, 1, 29, 0, 30, 0, 16, 0, 17, 0, 20, 23, ⟨hF, hA, h0⟩, ⟨⟨?_, k1, k2, k3, k4⟩, ⟨fun _ _ => rfl, rfl, rfl, rfl, rfl⟩, ?_, ?_, ?_, ?_, ⟨by decide, by decide, by decide, by decide⟩, ⟨by decide, by decide, by decide, by decide⟩, ⟨by omega, by omega, by omega, by omega⟩, by omega⟩, ?_, ?_, ?_, ?_, ?_, ?_, ?_, ?_, by decide⟩
  · intro a j r hq
    rw [hr]
    exact rlf_c _ (crefF_mem _ a j r hq)
  · refine ⟨by decide, Or.inl rfl, Nat.le_refl _, by decide, z31 2 (by decide) (by decide), v1, v2, by decide, by decide, fun k y1 y2 => ?_, fun t ht => ⟨0, 0, 0, 0, 0, ⟨by decide, by decide, by decide, fun e => by omega, fun e => by omega, fun e => by omega, fun _ => rfl, fun _ => rfl, fun _ => rfl, by decide⟩, ?_, ?_⟩⟩
    · have e : k = 0 := by omega
      rw [e, zz 32 (by decide) (by decide) (by decide) (by decide) (by decide) (by decide)]
      rfl
    · have e : t = 0 := by omega
      rw [e]
      decide
    · have e : t = 0 := by omega
      rw [e]
      exact ⟨zz 33 (by decide) (by decide) (by decide) (by decide) (by decide) (by decide) 0, fun i hi' => absurd hi' (Nat.not_lt_zero _)⟩
  · intro t ht
    have e : t = 0 := by omega
    rw [e, zz 4 (by decide) (by decide) (by decide) (by decide) (by decide) (by decide), zz 5 (by decide) (by decide) (by decide) (by decide) (by decide) (by decide)]
    refine ⟨Int.le_refl _, Int.le_refl _, fun f x y z w hv _ => ?_⟩
    have ef : f = 0 := by
      have := hv.2.1
      omega
    rw [ef]
    exact HB_00
  · intro t ht
    have e : t = 0 := by omega
    rw [e, zz 7 (by decide) (by decide) (by decide) (by decide) (by decide) (by decide), zz 6 (by decide) (by decide) (by decide) (by decide) (by decide) (by decide), zz 38 (by decide) (by decide) (by decide) (by decide) (by decide) (by decide), zz 36 (by decide) (by decide) (by decide) (by decide) (by decide) (by decide), v6]
    refine ⟨by decide, by decide, by decide, rfl, by decide, by decide, ?_⟩
    exact pc_0
  · refine ⟨by decide, z3 0 (by decide) (by decide) (by decide), v3, ?_, z3 3 (by decide) (by decide) (by decide), z31 13 (by decide) (by decide), z3 4 (by decide) (by decide) (by decide), v5⟩
    unfold lf
    rw [show sm (fun t => if sI σ 37 t < 0 then (1 : Int) else 0) 1 = (0 : Int) + (if sI σ 37 0 < 0 then (1 : Int) else 0) from rfl, v6, v4]
    decide
  · intro t _
    rw [zz 36 (by decide) (by decide) (by decide) (by decide) (by decide) (by decide), z31 4 (by decide) (by decide)]
    exact Int.le_refl _
  · refine ⟨fun b hb => absurd hb (Nat.not_lt_zero _), fun b hb => absurd hb (Nat.not_lt_zero _), fun b hb => absurd hb (Nat.not_lt_zero _), ⟨by decide, zz 2 (by decide) (by decide) (by decide) (by decide) (by decide) (by decide) 5, z31 16 (by decide) (by decide)⟩, fun b hb => absurd hb (Nat.not_lt_zero _), fun b _ => ?_, fun k => ?_, fun i => ?_, fun j _ => ?_, fun j => ?_⟩
    · by_cases hb : b < 12
      · exact Or.inl (by rw [hi 41 b (by decide)]; exact ilf_41 b hb)
      · exact Or.inr (by omega)
    · have := ilk_bd ILf 44 k ilf_bd
      rw [hi 44 k (by decide)]
      omega
    · rw [zz 45 (by decide) (by decide) (by decide) (by decide) (by decide) (by decide)]
      decide
    · rw [hr, rlk_no]
      intro q m e
      exact rlf_9 q m e.1.symm
    · rw [zz 42 (by decide) (by decide) (by decide) (by decide) (by decide) (by decide)]
      decide
  · refine ⟨⟨by rw [zz 10 (by decide) (by decide) (by decide) (by decide) (by decide) (by decide), z31 25 (by decide) (by decide)], by rw [z31 25 (by decide) (by decide)]; decide, by rw [z31 25 (by decide) (by decide)]; decide, fun i hi' => ?_⟩, ⟨zz 10 (by decide) (by decide) (by decide) (by decide) (by decide) (by decide) 2, z31 26 (by decide) (by decide)⟩, ⟨by rw [zz 2 (by decide) (by decide) (by decide) (by decide) (by decide) (by decide), z31 4 (by decide) (by decide)], by rw [z31 4 (by decide) (by decide)]; decide, by rw [z31 4 (by decide) (by decide)]; decide⟩, ⟨by rw [zz 2 (by decide) (by decide) (by decide) (by decide) (by decide) (by decide), z31 38 (by decide) (by decide)], by rw [z31 38 (by decide) (by decide)]; decide, by rw [z31 38 (by decide) (by decide)]; decide⟩, by rw [zz 2 (by decide) (by decide) (by decide) (by decide) (by decide) (by decide), z31 0 (by decide) (by decide)], ⟨by rw [zz 2 (by decide) (by decide) (by decide) (by decide) (by decide) (by decide), z31 1 (by decide) (by decide)], by rw [z31 1 (by decide) (by decide)]; decide, by rw [z31 1 (by decide) (by decide)]; decide⟩⟩
    rw [z31 25 (by decide) (by decide)] at hi'
    omega
  · refine ⟨k6, k7, rfl, rfl, by omega, by omega, by decide, by decide, zz 30 (by decide) (by decide) (by decide) (by decide) (by decide) (by decide), zz 85 (by decide) (by decide) (by decide) (by decide) (by decide) (by decide), fun k _ => by rw [zz 27 (by decide) (by decide) (by decide) (by decide) (by decide) (by decide), zz 28 (by decide) (by decide) (by decide) (by decide) (by decide) (by decide), zz 83 (by decide) (by decide) (by decide) (by decide) (by decide) (by decide), zz 84 (by decide) (by decide) (by decide) (by decide) (by decide) (by decide)]; exact ⟨rfl, rfl⟩, fun k => by rw [zz 83 (by decide) (by decide) (by decide) (by decide) (by decide) (by decide), zz 84 (by decide) (by decide) (by decide) (by decide) (by decide) (by decide)]; decide, fun k c => by rw [zz 83 (by decide) (by decide) (by decide) (by decide) (by decide) (by decide), zz 84 (by decide) (by decide) (by decide) (by decide) (by decide) (by decide)]; show bt 0 c * bt 0 c = 0; rw [bt_0]; rfl, ⟨by rw [zz 26 (by decide) (by decide) (by decide) (by decide) (by decide) (by decide), z31 83 (by decide) (by decide)], Or.inl (z31 83 (by decide) (by decide))⟩, fun e => ?_⟩
    rw [z31 83 (by decide) (by decide)] at e
    exact absurd e (by decide)
  · exact ⟨⟨k8, rfl, by omega, by decide⟩, ⟨k9, Or.inl rfl, fun e => absurd e (by decide)⟩, Or.inl ⟨rfl, rfl⟩, k10, k11, ⟨⟨21, 0, 22, 0, k12, k13, rfl, rfl, by omega, by omega, by decide, by decide, by decide, by decide⟩, rfl, rfl, rfl, by omega⟩, ⟨⟨24, 0, 25, 0, k14, k15, rfl, rfl, by omega, by omega, by decide, by decide, by decide, by decide⟩, rfl, rfl, rfl, by omega⟩, ⟨⟨19, 0, k16, rfl, by omega, by decide, by decide⟩, rfl, rfl, rfl, by omega⟩⟩
  · intro j
    rw [zz 64 (by decide) (by decide) (by decide) (by decide) (by decide) (by decide), zz 65 (by decide) (by decide) (by decide) (by decide) (by decide) (by decide)]
    decide
  · exact Or.inl ⟨k5, zz 12 (by decide) (by decide) (by decide) (by decide) (by decide) (by decide) 13, z31 33 (by decide) (by decide), z31 34 (by decide) (by decide), Or.inr (z31 35 (by decide) (by decide)), z31 37 (by decide) (by decide), z31 73 (by decide) (by decide), z31 76 (by decide) (by decide), z31 77 (by decide) (by decide), z31 78 (by decide) (by decide)⟩
  · unfold IR
    rw [h1, h2, z0]
    exact ⟨by decide, by decide⟩
