/-! what an instruction of mine that goes on says -/
theorem sel_nx {i : Nat} {ls : am_L} {st : List am_V} {σ : am_S} {o : am_O} (h : am_sel (am_nx i ls st σ) = some o) : o = .inl (i, ls, st, σ) := by
  unfold am_nx am_sel at h
  dsimp only at h
  split at h
  · exact (Option.some.inj h).symm
  · cases h
theorem sel_gd {g : Prop} {i : Nat} {ls : am_L} {st : List am_V} {σ : am_S} {o : am_O} (h : am_sel (am_gd g i ls st σ) = some o) : g ∧ o = .inl (i, ls, st, σ) := by
  unfold am_gd am_sel at h
  dsimp only at h
  split at h
  · rename_i hg; exact ⟨hg, (Option.some.inj h).symm⟩
  · cases h
theorem sel_br {c : Prop} {i j : Nat} {ls : am_L} {st : List am_V} {σ : am_S} {o : am_O} (h : am_sel (am_br c i j ls st σ) = some o) : (c ∧ o = .inl (i, ls, st, σ)) ∨ (¬ c ∧ o = .inl (j, ls, st, σ)) := by
  unfold am_br am_sel at h
  dsimp only at h
  split at h
  · have e := (Option.some.inj h).symm
    unfold am_pick at e
    by_cases hc : c
    · rw [if_pos hc] at e; exact Or.inl ⟨hc, e⟩
    · rw [if_neg hc] at e; exact Or.inr ⟨hc, e⟩
  · cases h
theorem sel_none {o : am_O} (h : am_sel none = some o) : False := by cases h
theorem sel_i1 {st : List am_V} {f : Int → List am_V → Option am_Q} {o : am_O} (h : am_sel (am_i1 st f) = some o) : ∃ a t, st = qi a :: t ∧ am_sel (f a t) = some o := by
  unfold am_i1 at h
  split at h
  · exact ⟨_, _, rfl, h⟩
  · cases h
theorem sel_i2 {st : List am_V} {f : Int → Int → List am_V → Option am_Q} {o : am_O} (h : am_sel (am_i2 st f) = some o) : ∃ a b t, st = qi b :: qi a :: t ∧ am_sel (f a b t) = some o := by
  unfold am_i2 at h
  split at h
  · exact ⟨_, _, _, rfl, h⟩
  · cases h
theorem sel_l1 {st : List am_V} {f : Int → List am_V → Option am_Q} {o : am_O} (h : am_sel (am_l1 st f) = some o) : ∃ a t, st = ql a :: t ∧ am_sel (f a t) = some o := by
  unfold am_l1 at h
  split at h
  · exact ⟨_, _, rfl, h⟩
  · cases h
theorem sel_l2 {st : List am_V} {f : Int → Int → List am_V → Option am_Q} {o : am_O} (h : am_sel (am_l2 st f) = some o) : ∃ a b t, st = ql b :: ql a :: t ∧ am_sel (f a b t) = some o := by
  unfold am_l2 at h
  split at h
  · exact ⟨_, _, _, rfl, h⟩
  · cases h
theorem sel_li {st : List am_V} {f : Int → Int → List am_V → Option am_Q} {o : am_O} (h : am_sel (am_li st f) = some o) : ∃ a b t, st = qi b :: ql a :: t ∧ am_sel (f a b t) = some o := by
  unfold am_li at h
  split at h
  · exact ⟨_, _, _, rfl, h⟩
  · cases h
theorem sel_o1 {st : List am_V} {f : Option am_R → List am_V → Option am_Q} {o : am_O} (h : am_sel (am_o1 st f) = some o) : ∃ a t, st = qo a :: t ∧ am_sel (f a t) = some o := by
  unfold am_o1 at h
  split at h
  · exact ⟨_, _, rfl, h⟩
  · cases h
theorem sel_oi {st : List am_V} {f : Option am_R → Int → List am_V → Option am_Q} {o : am_O} (h : am_sel (am_oi st f) = some o) : ∃ a j t, st = qi j :: qo a :: t ∧ am_sel (f a j t) = some o := by
  unfold am_oi at h
  split at h
  · exact ⟨_, _, _, rfl, h⟩
  · cases h
theorem sel_rt {t : List am_V} {q : Option am_Q} {o : am_O} (h : am_sel (am_rt t q) = some o) : t = [] ∧ am_sel q = some o := by
  cases t with
  | nil => exact ⟨rfl, h⟩
  | cons a t => cases h
theorem sw_pick {a : Int} {ls : am_L} {t : List am_V} {τ : am_S} {d : am_O} : ∀ (ts : List Nat) (lo : Int), (∃ j x, ts[j]? = some x ∧ a = lo + (j : Nat) ∧ am_pick (am_sw a ls t τ lo ts) d = .inl (x, ls, t, τ)) ∨ ((∀ j : Nat, j < ts.length → a ≠ lo + (j : Nat)) ∧ am_pick (am_sw a ls t τ lo ts) d = d)
  | [], lo => Or.inr ⟨fun j h => (by cases h), rfl⟩
  | x :: ts, lo => by
    by_cases h : a = lo
    · refine Or.inl ⟨0, x, rfl, by simp [h], ?_⟩
      show @ite _ (a = lo) (Classical.propDecidable _) _ _ = _
      rw [if_pos h]
    · have e : am_pick (am_sw a ls t τ lo (x :: ts)) d = am_pick (am_sw a ls t τ (lo + 1) ts) d := by
        show @ite _ (a = lo) (Classical.propDecidable _) _ _ = _
        rw [if_neg h]
      rw [e]
      rcases sw_pick (a := a) (ls := ls) (t := t) (τ := τ) (d := d) ts (lo + 1) with ⟨j, y, h1, h2, h3⟩ | ⟨h1, h2⟩
      · exact Or.inl ⟨j + 1, y, h1, by omega, h3⟩
      · refine Or.inr ⟨fun j hj => ?_, h2⟩
        match j, hj with
        | 0, _ => simpa using h
        | j + 1, hj =>
          have := h1 j (by simpa using hj)
          omega
theorem lk_any {a : Int} {ls : am_L} {t : List am_V} {τ : am_S} {x1 : Nat} : ∀ (ps : List (Int × Int)) (ts : List Nat), ∃ x, am_pick (am_lk a ls t τ ps ts) (.inl (x1, ls, t, τ)) = .inl (x, ls, t, τ)
  | [], ts => ⟨x1, by cases ts <;> rfl⟩
  | q :: ps, [] => ⟨x1, rfl⟩
  | q :: ps, x :: ts => by
    by_cases h : a = q.1
    · exact ⟨x, by show @ite _ (a = q.1) (Classical.propDecidable _) _ _ = _; rw [if_pos h]⟩
    · obtain ⟨y, hy⟩ := lk_any (a := a) (ls := ls) (t := t) (τ := τ) (x1 := x1) ps ts
      exact ⟨y, by rw [← hy]; show @ite _ (a = q.1) (Classical.propDecidable _) _ _ = _; rw [if_neg h]⟩
theorem call_no (g : Option Prop) (x : am_I) (i : Nat) (ls : am_L) (st : List am_V) {q : Nat × am_L × List am_V × am_S} : ¬ am_sel (am_call g x i ls st) = some (.inl q) := by
  intro h
  unfold am_call at h
  split at h
  · unfold am_sel at h
    dsimp only at h
    split at h <;> cases h
  · cases h
