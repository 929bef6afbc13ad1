/-! goals with less in them (flavour F): references at known places by an oracle O, whole numbers without overflow -/
/-- the reference's final rows -/
def mrefL : List (Option am_R) := [none, none, none, none, none, none, some (32, 20, 4), some (33, 20, 10000), some (34, 20, 30000), some (35, 20, 30000), some (36, 20, 10000), some (37, 20, 10000), some (38, 20, 10000), none, some (39, 20, 3), some (40, 20, 3), none, some (41, 20, 12), some (42, 20, 12), some (43, 20, 12), some (44, 20, 24), some (45, 20, 480), some (46, 20, 36), some (47, 20, 12), some (48, 20, 40), none, none, some (49, 20, 20), none, some (50, 20, 40), none, none, none, none, none, none, none, none, none, none, none, some (51, 20, 60), some (52, 20, 8640), some (53, 20, 840), some (54, 20, 14), some (55, 20, 14), some (56, 20, 14), some (57, 20, 14), some (58, 20, 14), some (59, 20, 14), some (60, 20, 14), some (61, 20, 14), some (62, 20, 168), some (63, 20, 168), some (64, 20, 168), some (65, 20, 168), some (66, 20, 168), none, none, none, none, some (67, 20, 6000), some (68, 20, 6000), some (69, 20, 6000), some (70, 20, 6000), some (71, 20, 6000), some (72, 20, 6000), some (73, 20, 6000), some (74, 20, 6000), some (75, 20, 6000), some (76, 20, 6000), some (77, 20, 42000), some (78, 20, 6000), none, some (79, 20, 10000), some (80, 20, 8), none, none, none, some (81, 20, 600), some (82, 20, 600), some (83, 21, 6), some (84, 21, 6), none, none, none, none, some (85, 20, 117649), some (86, 20, 10000)]
def mref (j : Nat) : Option am_R := mrefL.getD j none
def MF (σ : am_S) : Prop := ∀ j, sR σ 31 j = mref j

def am_stepF (O : Nat → Option am_R) (e : am_I) (i : Nat) (ls : am_L) (st : List am_V) (σ : am_S) : Option am_Q := match e.1 with
  | .getfield _ => match e.2.2.2.2.1 with
    | 3 => match O i with
      | some r => am_o1 st fun o t => am_gd ((rg o).2.1 = e.2.2.1 ∧ sR σ (rg o).1 e.2.2.2.1 = some r) (i + 1) ls (qr r :: t) σ
      | none => am_step e i ls st σ
    | _ => am_step e i ls st σ
  | .aaload => match O i with
    | some r => am_oi st fun o j t => am_gd ((rg o).2.1 = e.2.2.1 ∧ 0 ≤ j ∧ j < (rg o).2.2 ∧ sR σ (rg o).1 j.toNat = some r) (i + 1) ls (qr r :: t) σ
    | none => am_step e i ls st σ
  | .iadd => am_i2 st fun a b t => am_gd (-2147483648 ≤ a + b ∧ a + b < 2147483648) (i + 1) ls (qi (a + b) :: t) σ
  | .isub => am_i2 st fun a b t => am_gd (-2147483648 ≤ a - b ∧ a - b < 2147483648) (i + 1) ls (qi (a - b) :: t) σ
  | .imul => am_i2 st fun a b t => am_gd (-2147483648 ≤ a * b ∧ a * b < 2147483648) (i + 1) ls (qi (a * b) :: t) σ
  | .ineg => am_i1 st fun a t => am_gd (-2147483648 ≤ -a ∧ -a < 2147483648) (i + 1) ls (qi (-a) :: t) σ
  | .idiv => am_i2 st fun a b t => am_gd (b ≠ 0 ∧ -2147483648 ≤ a.tdiv b ∧ a.tdiv b < 2147483648) (i + 1) ls (qi (a.tdiv b) :: t) σ
  | .iinc k n => match am_get ls k with
    | some (.inl x) => am_gd (-2147483648 ≤ x + n ∧ x + n < 2147483648) (i + 1) (am_st1 ls k (qi (x + n))) st σ
    | _ => none
  | _ => am_step e i ls st σ
theorem i2_ok {st : List am_V} {f g : Int → Int → List am_V → Option am_Q} {q : am_Q} (hf : am_i2 st f = some q) (hg : am_gp q.1) (h : ∀ a b t, f a b t = some q → ∃ z, g a b t = some (z, q.2.1, q.2.2) ∧ am_gp z) : ∃ z, am_i2 st g = some (z, q.2.1, q.2.2) ∧ am_gp z := by
  unfold am_i2 at hf ⊢
  split at hf
  · exact h _ _ _ hf
  · cases hf
theorem stepF_ok {O : Nat → Option am_R} {e : am_I} {i : Nat} {ls : am_L} {st : List am_V} {σ : am_S} {q : am_Q} (h : am_stepF O e i ls st σ = some q) (hg : am_gp q.1) : ∃ g, am_step e i ls st σ = some (g, q.2.1, q.2.2) ∧ am_gp g := by
  obtain ⟨ins, pc, x1, x2, x3, k, ts, cut⟩ := e
  cases ins with
  | getfield n =>
    unfold am_stepF at h
    dsimp only at h
    split at h
    · split at h
      · rename_i r hr
        unfold am_o1 at h
        split at h
        · rename_i o t
          unfold am_gd at h
          cases h
          have hg : (rg o).2.1 = x1 ∧ sR σ (rg o).1 x2 = some r := hg
          refine ⟨some ((rg o).2.1 = x1), ?_, hg.1⟩
          show some (some _, [], Sum.inl (i + 1, ls, qo (sR σ (rg o).1 x2) :: t, σ)) = _
          rw [hg.2]
        · cases h
      · exact ⟨q.1, h, hg⟩
    · exact ⟨q.1, h, hg⟩
  | aaload =>
    unfold am_stepF at h
    dsimp only at h
    split at h
    · rename_i r hr
      unfold am_oi at h
      split at h
      · rename_i j o t
        unfold am_gd at h
        cases h
        have hg : (rg o).2.1 = x1 ∧ 0 ≤ j ∧ j < (rg o).2.2 ∧ sR σ (rg o).1 j.toNat = some r := hg
        refine ⟨some ((rg o).2.1 = x1 ∧ 0 ≤ j ∧ j < (rg o).2.2), ?_, ⟨hg.1, hg.2.1, hg.2.2.1⟩⟩
        show some (some _, [], Sum.inl (i + 1, ls, qo (sR σ (rg o).1 j.toNat) :: t, σ)) = _
        rw [hg.2.2.2]
      · cases h
    · exact ⟨q.1, h, hg⟩
  | iadd =>
    refine i2_ok h hg fun a b t hh => ?_
    unfold am_gd at hh
    cases hh
    refine ⟨none, ?_, trivial⟩
    show some (none, [], Sum.inl (i + 1, ls, qi (w32 (a + b)) :: t, σ)) = _
    rw [w32_id hg.1 hg.2]
  | isub =>
    refine i2_ok h hg fun a b t hh => ?_
    unfold am_gd at hh
    cases hh
    refine ⟨none, ?_, trivial⟩
    show some (none, [], Sum.inl (i + 1, ls, qi (w32 (a - b)) :: t, σ)) = _
    rw [w32_id hg.1 hg.2]
  | imul =>
    refine i2_ok h hg fun a b t hh => ?_
    unfold am_gd at hh
    cases hh
    refine ⟨none, ?_, trivial⟩
    show some (none, [], Sum.inl (i + 1, ls, qi (w32 (a * b)) :: t, σ)) = _
    rw [w32_id hg.1 hg.2]
  | idiv =>
    refine i2_ok h hg fun a b t hh => ?_
    unfold am_gd at hh
    cases hh
    refine ⟨some (b ≠ 0), ?_, hg.1⟩
    show some (some _, [], Sum.inl (i + 1, ls, qi (w32 (a.tdiv b)) :: t, σ)) = _
    rw [w32_id hg.2.1 hg.2.2]
  | ineg =>
    unfold am_stepF am_i1 at h
    dsimp only at h
    split at h
    · rename_i a t
      unfold am_gd at h
      cases h
      refine ⟨none, ?_, trivial⟩
      show some (none, [], Sum.inl (i + 1, ls, qi (w32 (-a)) :: t, σ)) = _
      rw [w32_id hg.1 hg.2]
    · cases h
  | iinc kk n =>
    unfold am_stepF at h
    unfold am_step
    dsimp only at h ⊢
    split at h
    · rename_i x hx
      rw [hx]
      unfold am_gd at h
      cases h
      refine ⟨none, ?_, trivial⟩
      show some (none, [], Sum.inl (i + 1, am_st1 ls kk (qi (w32 (x + n))), st, σ)) = _
      rw [w32_id hg.1 hg.2]
    · cases h
  | _ => exact ⟨q.1, h, hg⟩
def am_wpF (O : Nat → Option am_R) (P : am_P) (ML : Nat → Nat) (d m : Nat) (K : am_K) : Nat → Nat → am_L → List am_V → am_S → Prop
  | 0, i, ls, st, σ => am_Runs P ML d m i ls st σ K
  | n + 1, i, ls, st, σ => match P m i with
    | none => False
    | some e => match e.2.2.2.2.2.2.2 with
      | true => am_Runs P ML d m i ls st σ K
      | false => am_wq P ML d (am_wpF O P ML d m K n) K σ (am_stepF O e i ls st σ)
def am_wEF (O : Nat → Option am_R) (P : am_P) (ML : Nat → Nat) (d m : Nat) (K : am_K) (n i : Nat) (ls : am_L) (st : List am_V) (σ : am_S) : Prop := match P m i with
  | none => False
  | some e => am_wq P ML d (am_wpF O P ML d m K n) K σ (am_stepF O e i ls st σ)
theorem am_wqF_ok {O : Nat → Option am_R} {P : am_P} {ML : Nat → Nat} {d m i : Nat} {ls : am_L} {st : List am_V} {σ : am_S} {K : am_K} {W : Nat → am_L → List am_V → am_S → Prop} (hW : ∀ i ls st σ, W i ls st σ → am_Runs P ML d m i ls st σ K) {e : am_I} (he : P m i = some e)
    (h : am_wq P ML d W K σ (am_stepF O e i ls st σ)) : am_Runs P ML d m i ls st σ K := by
  cases hq : am_stepF O e i ls st σ with
  | none => rw [hq] at h; exact absurd h id
  | some q =>
    rw [hq] at h
    obtain ⟨g, l, o⟩ := q
    have hg : am_gp g ∧ am_l (am_wo P ML d W K σ) l o := by
      cases g with
      | none => exact ⟨trivial, h⟩
      | some g => exact h
    obtain ⟨g', hs, hg'⟩ := stepF_ok hq hg.1
    refine am_wq_ok hW he ?_
    rw [hs]
    cases g' with
    | none => exact hg.2
    | some g' => exact ⟨hg', hg.2⟩
theorem am_wpF_ok {O : Nat → Option am_R} {P : am_P} {ML : Nat → Nat} {d m : Nat} {K : am_K} : ∀ (n i : Nat) (ls : am_L) (st : List am_V) (σ : am_S), am_wpF O P ML d m K n i ls st σ → am_Runs P ML d m i ls st σ K := by
  intro n
  induction n with
  | zero => intro i ls st σ h; exact h
  | succ n ih =>
    intro i ls st σ h
    unfold am_wpF at h
    cases he : P m i with
    | none => rw [he] at h; exact absurd h id
    | some e =>
      rw [he] at h
      dsimp only at h
      split at h
      · exact h
      · exact am_wqF_ok ih he h
theorem am_wEF_ok (O : Nat → Option am_R) {P : am_P} {ML : Nat → Nat} {d m : Nat} {K : am_K} (n : Nat) {i : Nat} {ls : am_L} {st : List am_V} {σ : am_S} (h : am_wEF O P ML d m K n i ls st σ) : am_Runs P ML d m i ls st σ K := by
  unfold am_wEF at h
  cases he : P m i with
  | none => rw [he] at h; exact absurd h id
  | some e =>
    rw [he] at h
    exact am_wqF_ok (am_wpF_ok n) he h
/-- an oracle as a list -/
def orc : List (Nat × am_R) → Nat → Option am_R
  | [], _ => none
  | q :: t, i => match Nat.beq q.1 i with
    | true => some q.2
    | false => orc t i
