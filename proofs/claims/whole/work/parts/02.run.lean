/-! runs, calls, and what must be shown -/
abbrev am_P : Type := Nat → Nat → Option am_I
def am_args : List am_V → am_L
  | [] => []
  | .inr (.inl x) :: t => some (ql x) :: none :: am_args t
  | v :: t => some v :: am_args t
def am_ent (n : Nat) (vs : List am_V) : am_L := am_args vs ++ List.replicate (n - (am_args vs).length) none
def am_gp : Option Prop → Prop
  | none => True
  | some g => g
noncomputable def am_pick : List (Prop × am_O) → am_O → am_O
  | [], o => o
  | q :: t, o => @ite _ q.1 (Classical.propDecidable q.1) q.2 (am_pick t o)
noncomputable def am_sel : Option am_Q → Option am_O
  | none => none
  | some q => @ite _ (am_gp q.1) (Classical.propDecidable _) (some (am_pick q.2.1 q.2.2)) none
def am_at (P : am_P) (m i : Nat) (ls : am_L) (st : List am_V) (σ : am_S) : Option am_Q := match P m i with
  | none => none
  | some e => am_step e i ls st σ
noncomputable def am_run (P : am_P) (ML : Nat → Nat) : Nat → Nat → Nat → Nat → am_L → List am_V → am_S → Option (Option am_V × am_S)
  | 0, _, _, _, _, _, _ => none
  | n + 1, d, m, i, ls, st, σ => match am_sel (am_at P m i ls st σ) with
    | none => none
    | some (.inl q) => am_run P ML n d m q.1 q.2.1 q.2.2.1 q.2.2.2
    | some (.inr (.inl rv)) => some (rv, σ)
    | some (.inr (.inr q)) => match d with
      | 0 => none
      | d' + 1 => match Nat.ble (am_args q.2.1).length (ML q.1) with
        | false => none
        | true => match am_run P ML n d' q.1 0 (am_ent (ML q.1) q.2.1) [] σ with
          | none => none
          | some r => am_run P ML n (d' + 1) m q.2.2.2.1 q.2.2.2.2.1 (r.1.toList ++ q.2.2.2.2.2) r.2
abbrev am_K : Type := Option am_V → am_S → Prop
def am_Runs (P : am_P) (ML : Nat → Nat) (d m i : Nat) (ls : am_L) (st : List am_V) (σ : am_S) (K : am_K) : Prop := ∃ n r, am_run P ML n d m i ls st σ = some r ∧ K r.1 r.2
def am_Calls (P : am_P) (ML : Nat → Nat) (d m : Nat) (vs : List am_V) (σ : am_S) (K : am_K) : Prop := match d with
  | 0 => False
  | d' + 1 => match Nat.ble (am_args vs).length (ML m) with
    | false => False
    | true => am_Runs P ML d' m 0 (am_ent (ML m) vs) [] σ K
def kV (f : am_S → Prop) : am_K := fun rv σ => match rv with
  | none => f σ
  | _ => False
def kI (f : Int → am_S → Prop) : am_K := fun rv σ => match rv with
  | some (.inl x) => f x σ
  | _ => False
def kL (f : Int → am_S → Prop) : am_K := fun rv σ => match rv with
  | some (.inr (.inl x)) => f x σ
  | _ => False
def kO (f : Option am_R → am_S → Prop) : am_K := fun rv σ => match rv with
  | some (.inr (.inr x)) => f x σ
  | _ => False
def am_g : Option Prop → Prop → Prop
  | none, X => X
  | some g, X => g ∧ X
def am_l (W : am_O → Prop) : List (Prop × am_O) → am_O → Prop
  | [], o => W o
  | q :: t, o => (q.1 → W q.2) ∧ (¬ q.1 → am_l W t o)
def am_kk (rk : Nat) (W : List am_V → am_S → Prop) (rest : List am_V) : am_K := match rk with
  | 0 => kV fun σ => W rest σ
  | 1 => kI fun x σ => W (qi x :: rest) σ
  | 2 => kL fun x σ => W (ql x :: rest) σ
  | _ => kO fun x σ => W (qo x :: rest) σ
def am_wo (P : am_P) (ML : Nat → Nat) (d : Nat) (W : Nat → am_L → List am_V → am_S → Prop) (K : am_K) (σ : am_S) : am_O → Prop
  | .inl q => W q.1 q.2.1 q.2.2.1 q.2.2.2
  | .inr (.inl rv) => K rv σ
  | .inr (.inr q) => am_Calls P ML d q.1 q.2.1 σ (am_kk q.2.2.1 (fun st σ => W q.2.2.2.1 q.2.2.2.2.1 st σ) q.2.2.2.2.2)
def am_wq (P : am_P) (ML : Nat → Nat) (d : Nat) (W : Nat → am_L → List am_V → am_S → Prop) (K : am_K) (σ : am_S) : Option am_Q → Prop
  | none => False
  | some q => am_g q.1 (am_l (am_wo P ML d W K σ) q.2.1 q.2.2)
def am_wp (P : am_P) (ML : Nat → Nat) (d m : Nat) (K : am_K) : Nat → Nat → am_L → List am_V → am_S → Prop
  | 0, i, ls, st, σ => am_Runs P ML d m i ls st σ K
  | n + 1, i, ls, st, σ => match P m i with
    | none => False
    | some e => match e.2.2.2.2.2.2.2 with
      | true => am_Runs P ML d m i ls st σ K
      | false => am_wq P ML d (am_wp P ML d m K n) K σ (am_step e i ls st σ)
def am_wE (P : am_P) (ML : Nat → Nat) (d m : Nat) (K : am_K) (n i : Nat) (ls : am_L) (st : List am_V) (σ : am_S) : Prop := match P m i with
  | none => False
  | some e => am_wq P ML d (am_wp P ML d m K n) K σ (am_step e i ls st σ)
theorem am_run_more (P : am_P) (ML : Nat → Nat) : ∀ (n d m i : Nat) (ls : am_L) (st : List am_V) (σ : am_S) (r : Option am_V × am_S), am_run P ML n d m i ls st σ = some r → am_run P ML (n + 1) d m i ls st σ = some r := by
  intro n
  induction n with
  | zero => intro d m i ls st σ r h; cases h
  | succ n ih =>
    intro d m i ls st σ r h
    unfold am_run at h ⊢
    cases hs : am_sel (am_at P m i ls st σ) with
    | none => rw [hs] at h; cases h
    | some o =>
      rw [hs] at h
      rcases o with q | rv | q
      · exact ih _ _ _ _ _ _ _ h
      · exact h
      · cases d with
        | zero => cases h
        | succ d' =>
          dsimp only at h ⊢
          cases hb : Nat.ble (am_args q.2.1).length (ML q.1) with
          | false => rw [hb] at h; cases h
          | true =>
            rw [hb] at h
            dsimp only at h ⊢
            cases hc : am_run P ML n d' q.1 0 (am_ent (ML q.1) q.2.1) [] σ with
            | none => rw [hc] at h; cases h
            | some r1 =>
              rw [hc] at h
              rw [ih _ _ _ _ _ _ _ hc]
              exact ih _ _ _ _ _ _ _ h
theorem am_run_le (P : am_P) (ML : Nat → Nat) {n k d m i : Nat} {ls : am_L} {st : List am_V} {σ : am_S} {r : Option am_V × am_S} (hk : n ≤ k) (h : am_run P ML n d m i ls st σ = some r) : am_run P ML k d m i ls st σ = some r := by
  obtain ⟨j, rfl⟩ := Nat.le.dest hk
  induction j with
  | zero => exact h
  | succ j ih => exact am_run_more P ML _ _ _ _ _ _ _ _ (ih (Nat.le_add_right _ _))
theorem am_Runs_mono {P : am_P} {ML : Nat → Nat} {d m i : Nat} {ls : am_L} {st : List am_V} {σ : am_S} {K K' : am_K} (h : am_Runs P ML d m i ls st σ K) (hk : ∀ v τ, K v τ → K' v τ) : am_Runs P ML d m i ls st σ K' := by
  obtain ⟨n, r, h1, h2⟩ := h
  exact ⟨n, r, h1, hk _ _ h2⟩
theorem am_wo_ok {P : am_P} {ML : Nat → Nat} {d m i : Nat} {ls : am_L} {st : List am_V} {σ : am_S} {K : am_K} {W : Nat → am_L → List am_V → am_S → Prop} (hW : ∀ i ls st σ, W i ls st σ → am_Runs P ML d m i ls st σ K) {o : am_O}
    (hs : am_sel (am_at P m i ls st σ) = some o) (h : am_wo P ML d W K σ o) : am_Runs P ML d m i ls st σ K := by
  rcases o with q | rv | q
  · obtain ⟨n, r, h1, h2⟩ := hW _ _ _ _ h
    exact ⟨n + 1, r, by unfold am_run; rw [hs]; exact h1, h2⟩
  · exact ⟨1, (rv, σ), by unfold am_run; rw [hs], h⟩
  · cases d with
    | zero => exact absurd h id
    | succ d' =>
      have hb : Nat.ble (am_args q.2.1).length (ML q.1) = true ∧ am_Runs P ML d' q.1 0 (am_ent (ML q.1) q.2.1) [] σ (am_kk q.2.2.1 (fun st σ => W q.2.2.2.1 q.2.2.2.2.1 st σ) q.2.2.2.2.2) := by
        have h : am_Calls P ML (d' + 1) q.1 q.2.1 σ _ := h
        unfold am_Calls at h
        dsimp only at h
        split at h
        · exact absurd h id
        · rename_i hb; exact ⟨hb, h⟩
      obtain ⟨hb, n1, r1, h1, h2⟩ := hb
      have h3 : W q.2.2.2.1 q.2.2.2.2.1 (r1.1.toList ++ q.2.2.2.2.2) r1.2 := by
        clear h1 h hs hb
        obtain ⟨y, vs, rk, i', ls', rest⟩ := q
        obtain ⟨v, τ⟩ := r1
        rcases rk with _ | _ | _ | rk
        · rcases v with _ | v
          · exact h2
          · exact absurd h2 id
        · rcases v with _ | x | x | x
          · exact absurd h2 id
          · exact h2
          · exact absurd h2 id
          · exact absurd h2 id
        · rcases v with _ | x | x | x
          · exact absurd h2 id
          · exact absurd h2 id
          · exact h2
          · exact absurd h2 id
        · rcases v with _ | x | x | x
          · exact absurd h2 id
          · exact absurd h2 id
          · exact absurd h2 id
          · exact h2
      obtain ⟨n2, r2, h4, h5⟩ := hW _ _ _ _ h3
      refine ⟨max n1 n2 + 1, r2, ?_, h5⟩
      unfold am_run
      rw [hs]
      dsimp only
      rw [hb]
      dsimp only
      rw [am_run_le P ML (Nat.le_max_left n1 n2) h1]
      exact am_run_le P ML (Nat.le_max_right n1 n2) h4
theorem am_l_ok {W : am_O → Prop} : ∀ (l : List (Prop × am_O)) (o : am_O), am_l W l o → W (am_pick l o)
  | [], _, h => h
  | q :: t, o, h => by
    unfold am_pick
    by_cases hq : q.1
    · rw [if_pos hq]; exact h.1 hq
    · rw [if_neg hq]; exact am_l_ok t o (h.2 hq)
theorem am_wq_ok {P : am_P} {ML : Nat → Nat} {d m i : Nat} {ls : am_L} {st : List am_V} {σ : am_S} {K : am_K} {W : Nat → am_L → List am_V → am_S → Prop} (hW : ∀ i ls st σ, W i ls st σ → am_Runs P ML d m i ls st σ K) {e : am_I} (he : P m i = some e)
    (h : am_wq P ML d W K σ (am_step e i ls st σ)) : am_Runs P ML d m i ls st σ K := by
  have ha : am_at P m i ls st σ = am_step e i ls st σ := by unfold am_at; rw [he]
  cases hq : am_step e i ls st σ with
  | none => rw [hq] at h; exact absurd h id
  | some q =>
    rw [hq] at h
    obtain ⟨g, l, o⟩ := q
    have hg : am_gp g ∧ am_l (am_wo P ML d W K σ) l o := by
      cases g with
      | none => exact ⟨trivial, h⟩
      | some g => exact h
    refine am_wo_ok hW (o := am_pick l o) ?_ (am_l_ok l o hg.2)
    rw [ha, hq]
    exact if_pos hg.1
theorem am_wp_ok {P : am_P} {ML : Nat → Nat} {d m : Nat} {K : am_K} : ∀ (n i : Nat) (ls : am_L) (st : List am_V) (σ : am_S), am_wp P ML d m K n i ls st σ → am_Runs P ML d m i ls st σ K := by
  intro n
  induction n with
  | zero => intro i ls st σ h; exact h
  | succ n ih =>
    intro i ls st σ h
    unfold am_wp at h
    cases he : P m i with
    | none => rw [he] at h; exact absurd h id
    | some e =>
      rw [he] at h
      dsimp only at h
      split at h
      · exact h
      · exact am_wq_ok ih he h
theorem am_wE_ok {P : am_P} {ML : Nat → Nat} {d m : Nat} {K : am_K} (n : Nat) {i : Nat} {ls : am_L} {st : List am_V} {σ : am_S} (h : am_wE P ML d m K n i ls st σ) : am_Runs P ML d m i ls st σ K := by
  unfold am_wE at h
  cases he : P m i with
  | none => rw [he] at h; exact absurd h id
  | some e =>
    rw [he] at h
    exact am_wq_ok (am_wp_ok n) he h
theorem am_Calls_mono {P : am_P} {ML : Nat → Nat} {d m : Nat} {vs : List am_V} {σ : am_S} {K K' : am_K} (h : am_Calls P ML d m vs σ K) (hk : ∀ v τ, K v τ → K' v τ) : am_Calls P ML d m vs σ K' := by
  cases d with
  | zero => exact absurd h id
  | succ d =>
    unfold am_Calls at h ⊢
    dsimp only at h ⊢
    split at h
    · exact absurd h id
    · rename_i hb
      exact am_Runs_mono (P := P) (ML := ML) h hk
