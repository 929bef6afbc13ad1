/-! the search, pure: a link to a new node -/
theorem cl_is {X : sX} {k nd : Nat} {o : Int} (h : -mo (xK X k) ≤ o ∧ o ≤ mo (xK X k)) : (12 * (nd : Int) + 8 + o).toNat = cl X k nd (oi X k o) := by
  unfold cl oi
  rcases oc_37 X k with ⟨a, b⟩ | ⟨a, b⟩ <;> (rw [b] at h ⊢; omega)
theorem ndq_mono {X : sX} {c0 : Nat → Int} {k0 n0 : Nat} {js : Nat → Nat} {os : Nat → Int} {i : Nat} : ∀ j, i ≤ j → ndq X c0 k0 n0 js os i ≤ ndq X c0 k0 n0 js os j
  | 0, h => by
    have : i = 0 := by omega
    rw [this]
    exact Nat.le_refl _
  | j + 1, h => by
    by_cases e : i = j + 1
    · rw [e]
      exact Nat.le_refl _
    · have h1 := ndq_mono (X := X) (c0 := c0) (k0 := k0) (n0 := n0) (js := js) (os := os) j (by omega : i ≤ j)
      have h2 := ndq_lt (X := X) (c0 := c0) (k0 := k0) (n0 := n0) (js := js) (os := os) (i := j)
      omega
theorem ND_link {X : sX} {tr : Nat → Nat} {f g : Nat → Int} {c0 : Nat → Int} {k0 n0 : Nat} {js : Nat → Nat} {os : Nat → Int} {i u : Nat} {lk lk' : Int} (hu : u < oc X (k0 + i)) (h : ∀ j, j < 12 * (ndq X c0 k0 n0 js os i + 1 + tof X (n0 - (i + 1)) (csq X c0 k0 js os i) (k0 + i) (wAt X (csq X c0 k0 js os i) (js i)) u) → j ≠ cl X (k0 + i) (ndq X c0 k0 n0 js os i) u → g j = f j) (hg : g (cl X (k0 + i) (ndq X c0 k0 n0 js os i) u) = lk') (q : ND X tr f c0 k0 n0 js os i u lk) : ND X tr g c0 k0 n0 js os i u lk' := by
  unfold ND at q ⊢
  generalize ndq X c0 k0 n0 js os i = d at *
  generalize csq X c0 k0 js os i = c at *
  generalize wAt X c (js i) = w at *
  obtain ⟨q1, q2, q3, q4, q5, q6⟩ := q
  obtain ⟨b1, b2, b3⟩ := cl_bd (X := X) (k := k0 + i) (i := d) hu
  refine ⟨NH_congr (fun j a b => h j (by omega) (by omega)) q1, NB_congr (fun j a b => h j (by omega) (by omega)) q2, fun v hv => ?_, fun v v1 v2 => ?_, fun _ => hg, fun v v1 v2 => ?_⟩
  · obtain ⟨a1, a2, _⟩ := cl_bd (X := X) (k := k0 + i) (i := d) (u := v) (by omega)
    have ne : cl X (k0 + i) d v ≠ cl X (k0 + i) d u := fun e => by have := b3 v (by omega) e; omega
    rcases q3 v hv with ⟨y1, y2⟩ | ⟨y1, y2, y3⟩
    · exact Or.inl ⟨y1, by rw [h _ (by omega) ne, y2]⟩
    · refine Or.inr ⟨y1, by rw [h _ (by omega) ne, y2], TC_congr _ _ _ _ _ y1 (fun j z1 z2 => h j ?_ (by omega)) y3⟩
      have m1 := tof_s X (n0 - (i + 1)) c (k0 + i) w v
      have m2 : tof X (n0 - (i + 1)) c (k0 + i) w (v + 1) ≤ tof X (n0 - (i + 1)) c (k0 + i) w u := sN'_mono (by omega)
      omega
  · obtain ⟨a1, a2, _⟩ := cl_bd (X := X) (k := k0 + i) (i := d) v2
    rw [h _ (by omega) (fun e => by have := b3 v v2 e; omega)]
    exact q4 v v1 v2
  · rw [h _ (by omega) (fun e => v2 u hu e.symm)]
    exact q6 v v1 v2
/-- asking: nothing left, no node -/
theorem T0_0 {X : sX} {tr : Nat → Nat} {f : Nat → Int} {c0 : Nat → Int} {k0 n0 : Nat} {js : Nat → Nat} {os : Nat → Int} {l : Nat} (hm : mn X (csq X c0 k0 js os l) ≤ 0) (h : T0' X tr f c0 k0 n0 js os l) : TL X tr f c0 k0 n0 js os l := by
  intro i hi
  have q := h i hi
  by_cases e : i + 1 = l
  · rw [if_pos e] at q
    unfold LK
    rw [e, if_pos hm]
    exact q
  · rw [if_neg e] at q
    exact q
/-- asking: a node is linked -/
theorem T0_1 {X : sX} {tr : Nat → Nat} {f g : Nat → Int} {c0 : Nat → Int} {k0 n0 : Nat} {js : Nat → Nat} {os : Nat → Int} {l : Nat} (hG : GL X c0 k0 n0 js os l) (hm : ¬ mn X (csq X c0 k0 js os l) ≤ 0) (h : T0' X tr f c0 k0 n0 js os l) (hf : ∀ j, j < 12 * ndq X c0 k0 n0 js os l → (∀ l', l = l' + 1 → j ≠ cl X (k0 + l') (ndq X c0 k0 n0 js os l') (oi X (k0 + l') (os l'))) → g j = f j) (hg : ∀ l', l = l' + 1 → g (cl X (k0 + l') (ndq X c0 k0 n0 js os l') (oi X (k0 + l') (os l'))) = (ndq X c0 k0 n0 js os l : Int)) : TL X tr g c0 k0 n0 js os l := by
  intro i hi
  have q := h i hi
  obtain ⟨g1, g2, g3, g4, g5, g6, g7⟩ := hG i hi
  have hu := oi_lt g5
  have en : ndq X c0 k0 n0 js os (i + 1) = ndq X c0 k0 n0 js os i + 1 + tof X (n0 - (i + 1)) (csq X c0 k0 js os i) (k0 + i) (wAt X (csq X c0 k0 js os i) (js i)) (oi X (k0 + i) (os i)) := rfl
  by_cases e : i + 1 = l
  · rw [if_pos e] at q
    refine ND_link hu (fun j a b => hf j ?_ (fun l' e2 => ?_)) ?_ q
    · rw [← e, en]; exact a
    · have : l' = i := by omega
      rw [this]; exact b
    · unfold LK
      rw [e, if_neg hm]
      exact hg i e.symm
  · rw [if_neg e] at q
    refine ND_congr (by omega) (fun j a => hf j ?_ (fun l' e2 => ?_)) q
    · have := ndq_mono (X := X) (c0 := c0) (k0 := k0) (n0 := n0) (js := js) (os := os) l (by omega : i + 1 ≤ l)
      omega
    · have m := ndq_mono (X := X) (c0 := c0) (k0 := k0) (n0 := n0) (js := js) (os := os) l' (by omega : i + 1 ≤ l')
      obtain ⟨b1, _, _⟩ := cl_bd (X := X) (k := k0 + l') (i := ndq X c0 k0 n0 js os l') (oi_lt (hG l' (by omega)).2.2.2.2.1)
      omega
