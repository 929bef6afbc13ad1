/-! sets and ways have one number each, and one picture -/
theorem sgw_nz (kd : Int) (f w i : Nat) : sgw kd f w i ≠ 0 := by
  unfold sgw
  (repeat' split) <;> decide
theorem sig_nz {f x y z w c : Nat} {kd : Int} : sig f x y z kd w c ≠ 0 ↔ ((0 < f ∧ c = x) ∨ (1 < f ∧ c = y) ∨ (2 < f ∧ c = z)) := by
  unfold sig
  by_cases h1 : 0 < f ∧ c = x
  · rw [if_pos h1]
    exact ⟨fun _ => Or.inl h1, fun _ => sgw_nz _ _ _ _⟩
  · rw [if_neg h1]
    by_cases h2 : 1 < f ∧ c = y
    · rw [if_pos h2]
      exact ⟨fun _ => Or.inr (Or.inl h2), fun _ => sgw_nz _ _ _ _⟩
    · rw [if_neg h2]
      by_cases h3 : 2 < f ∧ c = z
      · rw [if_pos h3]
        exact ⟨fun _ => Or.inr (Or.inr h3), fun _ => sgw_nz _ _ _ _⟩
      · rw [if_neg h3]
        exact ⟨fun h => absurd rfl h, fun h => by rcases h with h | h | h <;> contradiction⟩
theorem if_bt {u v : Int} (hu : 0 ≤ u ∧ u ≤ 1) (hv : 0 ≤ v ∧ v ≤ 1) (h : (if u = 0 then (1 : Int) else -1) = (if v = 0 then (1 : Int) else -1)) : u = v := by
  by_cases h1 : u = 0
  · by_cases h2 : v = 0
    · omega
    · rw [if_pos h1, if_neg h2] at h; omega
  · by_cases h2 : v = 0
    · rw [if_neg h1, if_pos h2] at h; omega
    · omega
theorem way_dec {f w w' : Nat} (hf : f ≤ 3) (hw : w < 2 ^ f) (hw' : w' < 2 ^ f) (h : ∀ i, i < f → (if bt w (f - 1 - i) = 0 then (1 : Int) else -1) = (if bt w' (f - 1 - i) = 0 then (1 : Int) else -1)) : w = w' := by
  rcases (show f = 0 ∨ f = 1 ∨ f = 2 ∨ f = 3 by omega) with rfl | rfl | rfl | rfl
  · omega
  · have h0 : bt w 0 = bt w' 0 := if_bt (bt_01 _ _) (bt_01 _ _) (h 0 (by omega))
    unfold bt at h0
    omega
  · have h0 : bt w 1 = bt w' 1 := if_bt (bt_01 _ _) (bt_01 _ _) (h 0 (by omega))
    have h1 : bt w 0 = bt w' 0 := if_bt (bt_01 _ _) (bt_01 _ _) (h 1 (by omega))
    unfold bt at h0 h1
    omega
  · have h0 : bt w 2 = bt w' 2 := if_bt (bt_01 _ _) (bt_01 _ _) (h 0 (by omega))
    have h1 : bt w 1 = bt w' 1 := if_bt (bt_01 _ _) (bt_01 _ _) (h 1 (by omega))
    have h2 : bt w 0 = bt w' 0 := if_bt (bt_01 _ _) (bt_01 _ _) (h 2 (by omega))
    unfold bt at h0 h1 h2
    omega
theorem way_inj {kd : Int} {f w w' : Nat} (hk : kd = 1 ∨ kd = 2 ∨ kd = 3) (hf : f ≤ 3) (hw : w < wy kd f) (hw' : w' < wy kd f) (h : ∀ i, i < f → sgw kd f w i = sgw kd f w' i) : w = w' := by
  have h8 := wy_le (kd := kd) hf
  rcases hk with rfl | rfl | rfl
  · have : wy 1 f = 1 := rfl
    omega
  · have : wy 2 f = 1 := rfl
    omega
  · exact way_dec hf hw hw' h
theorem sig_inj {n l m f x y z w f' x' y' z' w' : Nat} {kd : Int} (hk : kd = 1 ∨ kd = 2 ∨ kd = 3) (h : Vc n l m kd f x y z w) (h' : Vc n l m kd f' x' y' z' w') (he : ∀ c, sig f x y z kd w c = sig f' x' y' z' kd w' c) : f = f' ∧ x = x' ∧ y = y' ∧ z = z' ∧ w = w' := by
  obtain ⟨_, _, a3, a4, a5, a6, a7, a8, a9, a10⟩ := h
  obtain ⟨_, _, b3, b4, b5, b6, b7, b8, b9, b10⟩ := h'
  have k : ∀ c, ((0 < f ∧ c = x) ∨ (1 < f ∧ c = y) ∨ (2 < f ∧ c = z)) ↔ ((0 < f' ∧ c = x') ∨ (1 < f' ∧ c = y') ∨ (2 < f' ∧ c = z')) := by
    intro c
    rw [← sig_nz (kd := kd) (w := w), ← sig_nz (kd := kd) (w := w'), he c]
  have first : ∀ {f x f' x' y' z' : Nat}, (2 ≤ f' → x' < y') → (3 ≤ f' → y' < z') → (1 ≤ f → (0 < f' ∧ x = x') ∨ (1 < f' ∧ x = y') ∨ (2 < f' ∧ x = z')) → 1 ≤ f → 1 ≤ f' ∧ x' ≤ x := by
    intro f x f' x' y' z' o1 o2 hh h1
    rcases hh h1 with q | q | q <;> omega
  have sec : ∀ {x y f' x' y' z' : Nat}, x < y → x = x' → (3 ≤ f' → y' < z') → ((0 < f' ∧ y = x') ∨ (1 < f' ∧ y = y') ∨ (2 < f' ∧ y = z')) → 2 ≤ f' ∧ y' ≤ y := by
    intro x y f' x' y' z' o1 o2 o3 hh
    rcases hh with q | q | q <;> omega
  have e1 : 1 ≤ f → 1 ≤ f' ∧ x' ≤ x := fun q => first (fun u => (b5 u).1) (fun u => (b6 u).1) (fun u => (k x).mp (Or.inl ⟨u, rfl⟩)) q
  have e2 : 1 ≤ f' → 1 ≤ f ∧ x ≤ x' := fun q => first (fun u => (a5 u).1) (fun u => (a6 u).1) (fun u => (k x').mpr (Or.inl ⟨u, rfl⟩)) q
  have ex1 : x = x' := by
    by_cases q : 1 ≤ f
    · have := e1 q
      have := e2 this.1
      omega
    · by_cases q2 : 1 ≤ f'
      · have := e2 q2
        omega
      · have := a7 (by omega)
        have := b7 (by omega)
        omega
  have e3 : 2 ≤ f → 2 ≤ f' ∧ y' ≤ y := fun q => sec (a5 q).1 ex1 (fun u => (b6 u).1) ((k y).mp (Or.inr (Or.inl ⟨q, rfl⟩)))
  have e4 : 2 ≤ f' → 2 ≤ f ∧ y ≤ y' := fun q => sec (b5 q).1 ex1.symm (fun u => (a6 u).1) ((k y').mpr (Or.inr (Or.inl ⟨q, rfl⟩)))
  have ey1 : y = y' := by
    by_cases q : 2 ≤ f
    · have := e3 q
      have := e4 this.1
      omega
    · by_cases q2 : 2 ≤ f'
      · have := e4 q2
        omega
      · have := a8 (by omega)
        have := b8 (by omega)
        omega
  have e5 : 3 ≤ f → 3 ≤ f' ∧ z = z' := fun q => by
    have h5 := a5 (by omega)
    have h6 := a6 q
    rcases (k z).mp (Or.inr (Or.inr ⟨q, rfl⟩)) with u | u | u <;> omega
  have e6 : 3 ≤ f' → 3 ≤ f := fun q => by
    have h5 := b5 (by omega)
    have h6 := b6 q
    rcases (k z').mpr (Or.inr (Or.inr ⟨q, rfl⟩)) with u | u | u <;> omega
  have e : f = f' ∧ x = x' ∧ y = y' ∧ z = z' := by
    refine ⟨?_, ex1, ey1, ?_⟩
    · clear k first sec
      omega
    · by_cases q : 3 ≤ f
      · exact (e5 q).2
      · by_cases q2 : 3 ≤ f'
        · exact absurd (e6 q2) q
        · have := a9 (by omega)
          have := b9 (by omega)
          omega
  obtain ⟨rfl, rfl, rfl, rfl⟩ := e
  refine ⟨rfl, rfl, rfl, rfl, way_inj hk a3 a10 b10 (fun i hi => ?_)⟩
  rcases (show i = 0 ∨ i = 1 ∨ i = 2 by omega) with rfl | rfl | rfl
  · have := he x
    unfold sig at this
    rw [if_pos ⟨by omega, rfl⟩, if_pos ⟨by omega, rfl⟩] at this
    exact this
  · have := he y
    have h5 := a5 (by omega)
    unfold sig at this
    rw [if_neg (fun u => by omega), if_pos ⟨by omega, rfl⟩, if_neg (fun u => by omega), if_pos ⟨by omega, rfl⟩] at this
    exact this
  · have := he z
    have h5 := a5 (by omega)
    have h6 := a6 (by omega)
    unfold sig at this
    rw [if_neg (fun u => by omega), if_neg (fun u => by omega), if_pos ⟨by omega, rfl⟩, if_neg (fun u => by omega), if_neg (fun u => by omega), if_pos ⟨by omega, rfl⟩] at this
    exact this
theorem rk_inj {n f x y z x' y' z' : Nat} (hf : f ≤ 3) (h1 : 1 ≤ f → x < n) (h2 : 2 ≤ f → x < y ∧ y < n) (h3 : 3 ≤ f → y < z ∧ z < n) (h7 : f < 1 → x = 0) (h8 : f < 2 → y = 0) (h9 : f < 3 → z = 0) (h1' : 1 ≤ f → x' < n) (h2' : 2 ≤ f → x' < y' ∧ y' < n) (h3' : 3 ≤ f → y' < z' ∧ z' < n) (h7' : f < 1 → x' = 0) (h8' : f < 2 → y' = 0) (h9' : f < 3 → z' = 0) (he : rk n f x y z = rk n f x' y' z') : x = x' ∧ y = y' ∧ z = z' := by
  rcases (show f = 0 ∨ f = 1 ∨ f = 2 ∨ f = 3 by omega) with rfl | rfl | rfl | rfl
  · omega
  · have : x = x' := he
    omega
  · have h2 := h2 (by omega)
    have h2' := h2' (by omega)
    have he : C2 n - C2 (n - x) + (y - x - 1) = C2 n - C2 (n - x') + (y' - x' - 1) := he
    have a1 := C2_mono (show n - x ≤ n by omega)
    have a2 := C2_s (show n - x = n - (x + 1) + 1 by omega)
    have b1 := C2_mono (show n - x' ≤ n by omega)
    have b2 := C2_s (show n - x' = n - (x' + 1) + 1 by omega)
    have e : x = x' := by
      by_cases c : x < x'
      · have := C2_mono (show n - x' ≤ n - (x + 1) by omega)
        omega
      · by_cases c2 : x' < x
        · have := C2_mono (show n - x ≤ n - (x' + 1) by omega)
          omega
        · omega
    subst e
    omega
  · have h2 := h2 (by omega)
    have h2' := h2' (by omega)
    have h3 := h3 (by omega)
    have h3' := h3' (by omega)
    have he : C3 n - C3 (n - x) + (C2 (n - 1 - x) - C2 (n - y)) + (z - y - 1) = C3 n - C3 (n - x') + (C2 (n - 1 - x') - C2 (n - y')) + (z' - y' - 1) := he
    have a1 := C3_mono (show n - x ≤ n by omega)
    have a2 := C3_s (show n - x = n - 1 - x + 1 by omega)
    have a3 := C2_mono (show n - y ≤ n - 1 - x by omega)
    have a4 := C2_s (show n - y = n - (y + 1) + 1 by omega)
    have b1 := C3_mono (show n - x' ≤ n by omega)
    have b2 := C3_s (show n - x' = n - 1 - x' + 1 by omega)
    have b3 := C2_mono (show n - y' ≤ n - 1 - x' by omega)
    have b4 := C2_s (show n - y' = n - (y' + 1) + 1 by omega)
    have e : x = x' := by
      by_cases c : x < x'
      · have := C3_mono (show n - x' ≤ n - 1 - x by omega)
        omega
      · by_cases c2 : x' < x
        · have := C3_mono (show n - x ≤ n - 1 - x' by omega)
          omega
        · omega
    subst e
    have e : y = y' := by
      by_cases c : y < y'
      · have := C2_mono (show n - y' ≤ n - (y + 1) by omega)
        omega
      · by_cases c2 : y' < y
        · have := C2_mono (show n - y ≤ n - (y' + 1) by omega)
          omega
        · omega
    subst e
    omega
theorem Nm_inj {n l m f x y z w f' x' y' z' w' : Nat} {kd : Int} (h : Vc n l m kd f x y z w) (h' : Vc n l m kd f' x' y' z' w') (he : Nm n l kd f x y z w = Nm n l kd f' x' y' z' w') : f = f' ∧ x = x' ∧ y = y' ∧ z = z' ∧ w = w' := by
  obtain ⟨a1, a2, a3, a4, a5, a6, a7, a8, a9, a10⟩ := h
  obtain ⟨b1, b2, b3, b4, b5, b6, b7, b8, b9, b10⟩ := h'
  have up1 : ∀ f x y z w, l ≤ f → f ≤ 3 → (1 ≤ f → x < n) → (2 ≤ f → x < y ∧ y < n) → (3 ≤ f → y < z ∧ z < n) → w < wy kd f → bs n l kd f ≤ Nm n l kd f x y z w ∧ Nm n l kd f x y z w < bs n l kd (f + 1) := by
    intro f x y z w c1 c3 c4 c5 c6 c10
    have a := rk_lt c3 c4 c5 c6
    rw [bs_s c1]
    have c : (rk n f x y z + 1) * wy kd f ≤ ch n f * wy kd f := Nat.mul_le_mul_right _ a
    rw [Nat.add_mul, Nat.one_mul] at c
    unfold Nm
    omega
  have u := up1 f x y z w a1 a3 a4 a5 a6 a10
  have v := up1 f' x' y' z' w' b1 b3 b4 b5 b6 b10
  have e : f = f' := by
    by_cases c : f < f'
    · have := bs_mono (n := n) (kd := kd) (show l ≤ f + 1 by omega) (show f + 1 ≤ f' by omega)
      omega
    · by_cases c2 : f' < f
      · have := bs_mono (n := n) (kd := kd) (show l ≤ f' + 1 by omega) (show f' + 1 ≤ f by omega)
        omega
      · omega
  subst e
  have he : rk n f x y z * wy kd f + w = rk n f x' y' z' * wy kd f + w' := by
    unfold Nm at he
    omega
  have hp := wy_pos kd f
  have d1 : (rk n f x y z * wy kd f + w) / wy kd f = rk n f x y z := by
    rw [Nat.mul_comm, Nat.mul_add_div (by omega), Nat.div_eq_of_lt a10, Nat.add_zero]
  have d2 : (rk n f x' y' z' * wy kd f + w') / wy kd f = rk n f x' y' z' := by
    rw [Nat.mul_comm, Nat.mul_add_div (by omega), Nat.div_eq_of_lt b10, Nat.add_zero]
  have er : rk n f x y z = rk n f x' y' z' := by rw [← d1, ← d2, he]
  rw [er] at he
  have e2 := rk_inj a3 a4 a5 a6 a7 a8 a9 b4 b5 b6 b7 b8 b9 er
  exact ⟨rfl, e2.1, e2.2.1, e2.2.2, by omega⟩
