/-! the search, pure: the next weighing looks at the groups that there are, no further -/
theorem fl_cg {sz sz' L L' R R' : Nat → Int} {g : Nat} {wl wr : Int} : ∀ k, (∀ j, j < g + k → sz j = sz' j) → (fl sz L R g wl wr k).1 = (fl sz' L' R' g wl wr k).1 ∧ (fl sz L R g wl wr k).2.1 = (fl sz' L' R' g wl wr k).2.1 ∧ ∀ j, g ≤ j → j < g + k → (fl sz L R g wl wr k).2.2.1 j = (fl sz' L' R' g wl wr k).2.2.1 j ∧ (fl sz L R g wl wr k).2.2.2 j = (fl sz' L' R' g wl wr k).2.2.2 j
  | 0, _ => ⟨rfl, rfl, fun j a b => by omega⟩
  | k + 1, h => by
    obtain ⟨i1, i2, i3⟩ := fl_cg (sz := sz) (sz' := sz') (L := L) (L' := L') (R := R) (R' := R') (g := g) (wl := wl) (wr := wr) k (fun j hj => h j (by omega))
    have e := h (g + k) (by omega)
    have s1 : fl sz L R g wl wr (k + 1) = flS sz (g + k) (fl sz L R g wl wr k) := rfl
    have s2 : fl sz' L' R' g wl wr (k + 1) = flS sz' (g + k) (fl sz' L' R' g wl wr k) := rfl
    rw [s1, s2]
    unfold flS
    simp only [e, i1, i2]
    refine ⟨trivial, trivial, fun j a b => ?_⟩
    unfold ud
    by_cases c : j = g + k
    · rw [if_pos c, if_pos c, if_pos c, if_pos c]
      exact ⟨rfl, rfl⟩
    · rw [if_neg c, if_neg c, if_neg c, if_neg c]
      exact i3 j a (by omega)
/-- as functions of the groups below n -/
def eqW (n : Nat) (v v' : sW) : Prop := v.1 = v'.1 ∧ ∀ g, g < n → v.2.1 g = v'.2.1 g ∧ v.2.2 g = v'.2.2 g
theorem fl_cn {sz sz' L L' R R' : Nat → Int} {g n : Nat} {wl wr : Int} (hz : ∀ j, j < n → sz j = sz' j) (hL : ∀ j, j < g → L j = L' j ∧ R j = R' j) (hg : g ≤ n) : ∀ j, j < n → (fl sz L R g wl wr (n - g)).2.2.1 j = (fl sz' L' R' g wl wr (n - g)).2.2.1 j ∧ (fl sz L R g wl wr (n - g)).2.2.2 j = (fl sz' L' R' g wl wr (n - g)).2.2.2 j := by
  intro j hj
  by_cases c : j < g
  · have a := fl_o (sz := sz) (L := L) (R := R) (g := g) (wl := wl) (wr := wr) (n - g) j (Or.inl c)
    have b := fl_o (sz := sz') (L := L') (R := R') (g := g) (wl := wl) (wr := wr) (n - g) j (Or.inl c)
    rw [a.1, a.2, b.1, b.2]
    exact hL j c
  · exact (fl_cg (n - g) (fun q hq => hz q (by omega))).2.2 j (by omega) (by omega)
theorem lsn_cg {sz sz' L L' R R' : Nat → Int} {n : Nat} (hz : ∀ j, j < n → sz j = sz' j) (hL : ∀ j, j < n → L j = L' j ∧ R j = R' j) : ∀ (g : Nat) (room wl wr : Int), g ≤ n → (lsn sz L R n g room wl wr = none ∧ lsn sz' L' R' n g room wl wr = none) ∨ ∃ q q', lsn sz L R n g room wl wr = some q ∧ lsn sz' L' R' n g room wl wr = some q' ∧ ∀ j, j < n → q.1 j = q'.1 j ∧ q.2 j = q'.2 j
  | 0, _, _, _, _ => Or.inl ⟨rfl, rfl⟩
  | g + 1, room, wl, wr, hg => by
    have ez := hz g (by omega)
    obtain ⟨eL, eR⟩ := hL g (by omega)
    have u1 : lsn sz L R n (g + 1) room wl wr = if 0 < R g ∧ wl + wr < room then some (fl sz L (ud R g (R g - 1)) (g + 1) wl (wr + 1) (n - (g + 1))).2.2 else if 0 < L g ∧ wl + 1 + (wr + R g) - mi (sz g - L g + 1) (wr + R g) ≤ room then some (fl sz (ud L g (L g - 1)) (ud R g (mi (sz g - L g + 1) (wr + R g))) (g + 1) (wl + 1) (wr + R g - mi (sz g - L g + 1) (wr + R g)) (n - (g + 1))).2.2 else lsn sz L R n g (room + sz g) (wl + L g) (wr + R g) := rfl
    have u2 : lsn sz' L' R' n (g + 1) room wl wr = if 0 < R' g ∧ wl + wr < room then some (fl sz' L' (ud R' g (R' g - 1)) (g + 1) wl (wr + 1) (n - (g + 1))).2.2 else if 0 < L' g ∧ wl + 1 + (wr + R' g) - mi (sz' g - L' g + 1) (wr + R' g) ≤ room then some (fl sz' (ud L' g (L' g - 1)) (ud R' g (mi (sz' g - L' g + 1) (wr + R' g))) (g + 1) (wl + 1) (wr + R' g - mi (sz' g - L' g + 1) (wr + R' g)) (n - (g + 1))).2.2 else lsn sz' L' R' n g (room + sz' g) (wl + L' g) (wr + R' g) := rfl
    rw [u1, u2, ← ez, ← eL, ← eR]
    have udc : ∀ (f f' : Nat → Int) (v : Int), (∀ j, j < n → f j = f' j) → ∀ j, j < n → ud f g v j = ud f' g v j := by
      intro f f' v h j hj
      unfold ud
      by_cases c : j = g
      · rw [if_pos c, if_pos c]
      · rw [if_neg c, if_neg c]
        exact h j hj
    have hL1 : ∀ j, j < n → L j = L' j := fun j hj => (hL j hj).1
    have hR1 : ∀ j, j < n → R j = R' j := fun j hj => (hL j hj).2
    by_cases c1 : 0 < R g ∧ wl + wr < room
    · rw [if_pos c1, if_pos c1]
      exact Or.inr ⟨_, _, rfl, rfl, fl_cn hz (fun j hj => ⟨hL1 j (by omega), udc _ _ _ hR1 j (by omega)⟩) hg⟩
    · rw [if_neg c1, if_neg c1]
      by_cases c2 : 0 < L g ∧ wl + 1 + (wr + R g) - mi (sz g - L g + 1) (wr + R g) ≤ room
      · rw [if_pos c2, if_pos c2]
        exact Or.inr ⟨_, _, rfl, rfl, fl_cn hz (fun j hj => ⟨udc _ _ _ hL1 j (by omega), udc _ _ _ hR1 j (by omega)⟩) hg⟩
      · rw [if_neg c2, if_neg c2]
        exact lsn_cg hz hL g _ _ _ (by omega)
theorem nx_cg {sz sz' : Nat → Int} {n N : Nat} {w w' : sW} (hz : ∀ j, j < n → sz j = sz' j) (h : (w.1 = 0 ∧ w'.1 = 0) ∨ eqW n w w') : (nx sz n N w = none ∧ nx sz' n N w' = none) ∨ ∃ v v', nx sz n N w = some v ∧ nx sz' n N w' = some v' ∧ eqW n v v' := by
  have e1 : w.1 = w'.1 := by
    rcases h with h | h
    · omega
    · exact h.1
  have key : (nxL sz n w = none ∧ nxL sz' n w' = none) ∨ ∃ q q', nxL sz n w = some q ∧ nxL sz' n w' = some q' ∧ ∀ j, j < n → q.1 j = q'.1 j ∧ q.2 j = q'.2 j := by
    unfold nxL
    by_cases c : w.1 = 0
    · rw [if_pos c, if_pos (by omega)]
      exact Or.inl ⟨rfl, rfl⟩
    · rw [if_neg c, if_neg (by omega)]
      rcases h with h | h
      · exact absurd h.1 c
      · exact lsn_cg hz h.2 n _ _ _ (Nat.le_refl _)
  unfold nx
  rcases key with ⟨k1, k2⟩ | ⟨q, q', k1, k2, k3⟩
  · rw [k1, k2, ← e1]
    simp only []
    by_cases c : (N : Int) < 2 * (w.1 + 1)
    · rw [if_pos c, if_pos c]
      exact Or.inl ⟨rfl, rfl⟩
    · rw [if_neg c, if_neg c]
      refine Or.inr ⟨_, _, rfl, rfl, rfl, ?_⟩
      have := fl_cn (L := w.2.1) (L' := w'.2.1) (R := w.2.2) (R' := w'.2.2) (g := 0) (wl := w.1 + 1) (wr := w.1 + 1) hz (fun j hj => by omega) (Nat.zero_le n)
      exact this
  · rw [k1, k2]
    exact Or.inr ⟨_, _, rfl, rfl, e1, k3⟩
theorem WV_cg {sz sz' : Nat → Int} {n N : Nat} {w w' : sW} (hz : ∀ j, j < n → sz j = sz' j) (h : eqW n w w') (hv : WV sz n N w) : WV sz' n N w' := by
  obtain ⟨h1, h2⟩ := h
  obtain ⟨v1, v2, v3, v4⟩ := hv
  refine ⟨by rw [← h1]; exact v1, fun g hg => ?_, ?_, ?_⟩
  · rw [← (h2 g hg).1, ← (h2 g hg).2, ← hz g hg]
    exact v2 g hg
  · rw [← h1, ← v3]
    exact (sm_congr n (fun i hi => (h2 i hi).1)).symm
  · rw [← h1, ← v4]
    exact (sm_congr n (fun i hi => (h2 i hi).2)).symm
theorem SB_cg {G : Nat → Nat} {L L' R R' : Nat → Int} {n N l r : Nat} (hG : ∀ c, c < N → G c < n) (h : ∀ g, g < n → L g = L' g ∧ R g = R' g) (hs : SB G L R N l r) : SB G L' R' N l r := by
  obtain ⟨h1, h2, h3, h4⟩ := hs
  refine ⟨h1, h2, fun c => ?_, fun c => ?_⟩
  · rw [h3 c]
    by_cases q : c < N
    · rw [(h _ (hG c q)).1]
    · rw [if_neg (fun w => q w.1), if_neg (fun w => q w.1)]
  · rw [h4 c]
    by_cases q : c < N
    · rw [(h _ (hG c q)).1, (h _ (hG c q)).2]
    · rw [if_neg (fun w => q w.1), if_neg (fun w => q w.1)]
