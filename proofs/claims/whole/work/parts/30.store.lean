/-! the store: what a change leaves; small numbers -/
theorem w32_id {x : Int} (h1 : -2147483648 ≤ x) (h2 : x < 2147483648) : w32 x = x := by unfold w32; omega
theorem w64_id {x : Int} (h1 : -9223372036854775808 ≤ x) (h2 : x < 9223372036854775808) : w64 x = x := by unfold w64; omega
theorem rg_some (r : am_R) : rg (some r) = r := rfl
theorem sR_putI {σ : am_S} {a j : Nat} {v : Int} : sR (putI σ a j v) = sR σ := rfl
theorem sR_rowI {σ : am_S} {a : Nat} {f : Nat → Int} : sR (rowI σ a f) = sR σ := rfl
theorem sI_putR {σ : am_S} {a j : Nat} {v : Option am_R} : sI (putR σ a j v) = sI σ := rfl
theorem sI_putI {σ : am_S} {a j b k : Nat} {v : Int} : sI (putI σ a j v) b k = if b = a ∧ k = j then v else sI σ b k := rfl
theorem sI_rowI {σ : am_S} {a b : Nat} {f : Nat → Int} : sI (rowI σ a f) b = if b = a then f else sI σ b := by
  funext y
  show (if b = a then f y else sI σ b y) = _
  split <;> rfl
theorem rowI_self {σ : am_S} {a : Nat} : rowI σ a (sI σ a) = σ := by
  unfold rowI
  have e : (fun x y => if x = a then sI σ a y else σ.1 x y) = σ.1 := by
    funext x y
    split
    · rename_i h; rw [h]; rfl
    · rfl
  rw [e]
theorem rowI_rowI {σ : am_S} {a : Nat} {f g : Nat → Int} : rowI (rowI σ a f) a g = rowI σ a g := by
  unfold rowI
  have e : (fun x y => if x = a then g y else (if x = a then f y else σ.1 x y)) = (fun x y => if x = a then g y else σ.1 x y) := by
    funext x y
    split <;> rfl
  show ((fun x y => if x = a then g y else (if x = a then f y else σ.1 x y)), σ.2) = _
  rw [e]
theorem putI_row {σ : am_S} {a j : Nat} {v : Int} : putI σ a j v = rowI σ a (fun k => if k = j then v else sI σ a k) := by
  unfold putI rowI
  have e : (fun x y => if x = a ∧ y = j then v else σ.1 x y) = (fun x y => if x = a then (if y = j then v else sI σ a y) else σ.1 x y) := by
    funext x y
    by_cases h : x = a
    · subst h
      by_cases h2 : y = j
      · rw [if_pos ⟨rfl, h2⟩, if_pos rfl, if_pos h2]
      · rw [if_neg (fun q => h2 q.2), if_pos rfl, if_neg h2]; rfl
    · rw [if_neg (fun q => h q.1), if_neg h]
  rw [e]
theorem putI_rowI {σ : am_S} {a j : Nat} {v : Int} {f : Nat → Int} : putI (rowI σ a f) a j v = rowI σ a (fun k => if k = j then v else f k) := by
  rw [putI_row, rowI_rowI, sI_rowI, if_pos rfl]
/-! the JDK's small methods -/
