/-! the reference's object: its rows stand at known places; what its methods do keeps every reference -/
def okM (x : am_I) : Bool := match x.1 with
  | .new _ => false
  | .newarray _ => false
  | .anewarray _ => false
  | .aastore => false
  | .putfield _ => match x.2.2.2.2.1 with
    | 3 => false
    | _ => true
  | _ => true
def SK (τ : am_S) (q : Option am_Q) : Prop := ∀ r, am_sel q = some (.inl r) → sR r.2.2.2 = sR τ
theorem sk_none {τ : am_S} : SK τ none := fun r h => by cases h
theorem sk_nx {τ σ : am_S} {i : Nat} {ls : am_L} {st : List am_V} (h : sR σ = sR τ) : SK τ (am_nx i ls st σ) := fun r hr => by cases sel_nx hr; exact h
theorem sk_gd {τ σ : am_S} {g : Prop} {i : Nat} {ls : am_L} {st : List am_V} (h : sR σ = sR τ) : SK τ (am_gd g i ls st σ) := fun r hr => by
  have e := (sel_gd hr).2
  cases e
  exact h
theorem sk_br {τ : am_S} {g : Prop} {i j : Nat} {ls : am_L} {st : List am_V} : SK τ (am_br g i j ls st τ) := fun r hr => by
  rcases sel_br hr with ⟨_, e⟩ | ⟨_, e⟩ <;> (cases e; exact rfl)
theorem sk_i1 {τ : am_S} {st : List am_V} {f : Int → List am_V → Option am_Q} (h : ∀ a t, SK τ (f a t)) : SK τ (am_i1 st f) := fun r hr => by
  obtain ⟨a, t, -, h1⟩ := sel_i1 hr
  exact h a t r h1
theorem sk_i2 {τ : am_S} {st : List am_V} {f : Int → Int → List am_V → Option am_Q} (h : ∀ a b t, SK τ (f a b t)) : SK τ (am_i2 st f) := fun r hr => by
  obtain ⟨a, b, t, -, h1⟩ := sel_i2 hr
  exact h a b t r h1
theorem sk_l1 {τ : am_S} {st : List am_V} {f : Int → List am_V → Option am_Q} (h : ∀ a t, SK τ (f a t)) : SK τ (am_l1 st f) := fun r hr => by
  obtain ⟨a, t, -, h1⟩ := sel_l1 hr
  exact h a t r h1
theorem sk_l2 {τ : am_S} {st : List am_V} {f : Int → Int → List am_V → Option am_Q} (h : ∀ a b t, SK τ (f a b t)) : SK τ (am_l2 st f) := fun r hr => by
  obtain ⟨a, b, t, -, h1⟩ := sel_l2 hr
  exact h a b t r h1
theorem sk_li {τ : am_S} {st : List am_V} {f : Int → Int → List am_V → Option am_Q} (h : ∀ a b t, SK τ (f a b t)) : SK τ (am_li st f) := fun r hr => by
  obtain ⟨a, b, t, -, h1⟩ := sel_li hr
  exact h a b t r h1
theorem sk_o1 {τ : am_S} {st : List am_V} {f : Option am_R → List am_V → Option am_Q} (h : ∀ a t, SK τ (f a t)) : SK τ (am_o1 st f) := fun r hr => by
  obtain ⟨a, t, -, h1⟩ := sel_o1 hr
  exact h a t r h1
theorem sk_oi {τ : am_S} {st : List am_V} {f : Option am_R → Int → List am_V → Option am_Q} (h : ∀ a b t, SK τ (f a b t)) : SK τ (am_oi st f) := fun r hr => by
  obtain ⟨a, b, t, -, h1⟩ := sel_oi hr
  exact h a b t r h1
theorem sk_if {τ : am_S} {i j : Nat} {k : Jvm.ClassFile.Cond} {a b : Int} {ls : am_L} {st : List am_V} : SK τ (am_if i j k a b ls st τ) := by
  cases k <;> exact sk_br
theorem sk_call {τ : am_S} {g : Option Prop} {x : am_I} {i : Nat} {ls : am_L} {st : List am_V} : SK τ (am_call g x i ls st) := fun r hr => absurd hr (call_no _ _ _ _ _)
theorem sk_ret {τ : am_S} {g : Option Prop} {v : Option am_V} : SK τ (some (g, [], .inr (.inl v))) := fun r hr => by
  unfold am_sel at hr
  dsimp only at hr
  split at hr <;> cases hr
theorem sk_rt {τ : am_S} {t : List am_V} {q : Option am_Q} (h : SK τ q) : SK τ (am_rt t q) := fun r hr => h r (sel_rt hr).2
theorem sk_sw {τ : am_S} {a lo : Int} {ls : am_L} {t : List am_V} {ts : List Nat} {x1 : Nat} : SK τ (some (none, am_sw a ls t τ lo ts, .inl (x1, ls, t, τ))) := fun r hr => by
  unfold am_sel at hr
  dsimp only at hr
  rw [if_pos (show am_gp none from trivial)] at hr
  have e := Option.some.inj hr
  rcases sw_pick (a := a) (ls := ls) (t := t) (τ := τ) (d := .inl (x1, ls, t, τ)) ts lo with ⟨j, x, _, _, h⟩ | ⟨_, h⟩
  · rw [h] at e; cases e; exact rfl
  · rw [h] at e; cases e; exact rfl
theorem sk_lk {τ : am_S} {a : Int} {ls : am_L} {t : List am_V} {ps : List (Int × Int)} {ts : List Nat} {x1 : Nat} : SK τ (some (none, am_lk a ls t τ ps ts, .inl (x1, ls, t, τ))) := fun r hr => by
  unfold am_sel at hr
  dsimp only at hr
  rw [if_pos (show am_gp none from trivial)] at hr
  have e := Option.some.inj hr
  obtain ⟨x, h⟩ := lk_any (a := a) (ls := ls) (t := t) (τ := τ) (x1 := x1) ps ts
  rw [h] at e
  cases e
  exact rfl
theorem sk_put {τ : am_S} {x : am_I} {i : Nat} {ls : am_L} {st : List am_V} (hx : x.2.2.2.2.1 ≠ 3) : SK τ (am_put x i ls st τ) := by
  obtain ⟨ins, pc, x1, x2, x3, k, ts, cut⟩ := x
  unfold am_put
  dsimp only at hx ⊢
  split
  · exact sk_gd rfl
  · exact sk_gd rfl
  · exact absurd rfl hx
  · exact sk_none
theorem sk_copy {τ : am_S} {i : Nat} {ls : am_L} {st : List am_V} : SK τ (am_copy i ls st τ) := by
  unfold am_copy
  split
  · split
    · exact sk_gd rfl
    · exact sk_none
  · exact sk_none
theorem sk_objI {τ : am_S} {i : Nat} {ls : am_L} {st : List am_V} : SK τ (am_objI i ls st τ) := by
  unfold am_objI
  split
  · split
    · exact sk_nx rfl
    · exact sk_none
  · exact sk_none
set_option maxHeartbeats 4000000 in
theorem sk_step {τ : am_S} {x : am_I} {i : Nat} {ls : am_L} {st : List am_V} (hx : okM x = true) : SK τ (am_step x i ls st τ) := by
  obtain ⟨ins, pc, x1, x2, x3, k, ts, cut⟩ := x
  cases ins with
  | iload j => unfold am_step am_ild; dsimp only; split; exact sk_nx rfl; exact sk_none
  | iload_n j => unfold am_step am_ild; dsimp only; split; exact sk_nx rfl; exact sk_none
  | lload j => unfold am_step am_lld; dsimp only; split; exact sk_nx rfl; exact sk_none
  | lload_n j => unfold am_step am_lld; dsimp only; split; exact sk_nx rfl; exact sk_none
  | aload j => unfold am_step am_ald; dsimp only; split; exact sk_nx rfl; exact sk_none
  | aload_n j => unfold am_step am_ald; dsimp only; split; exact sk_nx rfl; exact sk_none
  | iinc j w =>
    unfold am_step
    dsimp only
    split
    · exact sk_nx rfl
    · exact sk_none
  | dup => unfold am_step am_dup; dsimp only; split; exact sk_none; exact sk_nx rfl; exact sk_none
  | dup2 => unfold am_step am_dup2; dsimp only; split; exact sk_nx rfl; exact sk_nx rfl; exact sk_nx rfl; exact sk_none
  | putfield n => exact sk_put (by intro h; subst h; cases hx)
  | ifCond kc o => exact sk_i1 fun _ _ => sk_if
  | if_icmp kc o => exact sk_i2 fun _ _ _ => sk_if
  | ifnull o => exact sk_o1 fun _ _ => sk_br
  | tableswitch dd lo hi offs => exact sk_i1 fun _ _ => sk_sw
  | lookupswitch dd ps => exact sk_i1 fun _ _ => sk_lk
  | ireturn =>
    refine sk_i1 fun _ _ => sk_rt ?_
    dsimp only
    split
    · exact sk_ret
    · exact sk_ret
  | lreturn => exact sk_l1 fun _ _ => sk_rt sk_ret
  | areturn => exact sk_o1 fun _ _ => sk_rt sk_ret
  | return_ => exact sk_rt sk_ret
  | invokestatic n =>
    unfold am_step
    dsimp only
    split
    · exact sk_copy
    · exact sk_call
  | invokespecial n =>
    unfold am_step
    dsimp only
    split
    · exact sk_objI
    · exact sk_call
  | invokevirtual n => exact sk_call
  | new n => cases hx
  | newarray t => cases hx
  | anewarray n => cases hx
  | iastore => exact sk_i1 fun _ _ => sk_oi fun _ _ _ => sk_gd rfl
  | lastore => exact sk_l1 fun _ _ => sk_oi fun _ _ _ => sk_gd rfl
  | aastore => cases hx
  | _ => first | exact sk_none | exact sk_nx rfl | exact sk_i1 fun _ _ => sk_nx rfl | exact sk_i2 fun _ _ _ => sk_nx rfl | exact sk_i2 fun _ _ _ => sk_gd rfl | exact sk_l1 fun _ _ => sk_nx rfl | exact sk_l2 fun _ _ _ => sk_nx rfl | exact sk_li fun _ _ _ => sk_nx rfl | exact sk_o1 fun _ _ => sk_nx rfl | exact sk_o1 fun _ _ => sk_gd rfl | exact sk_oi fun _ _ _ => sk_gd rfl
/-- the reference's final rows -/
def mrefL : List (Option am_R) := [none, none, none, none, none, none, some (32, 20, 4), some (33, 20, 10000), some (34, 20, 30000), some (35, 20, 30000), some (36, 20, 10000), some (37, 20, 10000), some (38, 20, 10000), none, some (39, 20, 3), some (40, 20, 3), none, some (41, 20, 12), some (42, 20, 12), some (43, 20, 12), some (44, 20, 24), some (45, 20, 480), some (46, 20, 36), some (47, 20, 12), some (48, 20, 40), none, none, some (49, 20, 20), none, some (50, 20, 40), none, none, none, none, none, none, none, none, none, none, none, some (51, 20, 60), some (52, 20, 8640), some (53, 20, 840), some (54, 20, 14), some (55, 20, 14), some (56, 20, 14), some (57, 20, 14), some (58, 20, 14), some (59, 20, 14), some (60, 20, 14), some (61, 20, 14), some (62, 20, 168), some (63, 20, 168), some (64, 20, 168), some (65, 20, 168), some (66, 20, 168), none, none, none, none, some (67, 20, 6000), some (68, 20, 6000), some (69, 20, 6000), some (70, 20, 6000), some (71, 20, 6000), some (72, 20, 6000), some (73, 20, 6000), some (74, 20, 6000), some (75, 20, 6000), some (76, 20, 6000), some (77, 20, 42000), some (78, 20, 6000), none, some (79, 20, 10000), some (80, 20, 8), none, none, none, some (81, 20, 600), some (82, 20, 600), some (83, 21, 6), some (84, 21, 6), none, none, none, none, some (85, 20, 117649), some (86, 20, 10000)]
def mref (j : Nat) : Option am_R := mrefL.getD j none
def MF (σ : am_S) : Prop := ∀ j, sR σ 31 j = mref j
/-- an instruction of a method of the reference -/
def am_stepM (e : am_I) (i : Nat) (ls : am_L) (st : List am_V) (σ : am_S) : Option am_Q := match okM e with
  | false => none
  | true => match e.1 with
    | .getfield _ => match e.2.2.2.2.1 with
      | 3 => match e.2.2.1 with
        | 12 => am_o1 st fun o t => am_gd (o = some (31, 12, 89)) (i + 1) ls (qo (mref e.2.2.2.1) :: t) σ
        | _ => none
      | _ => am_step e i ls st σ
    | _ => am_step e i ls st σ
theorem stepM_ok {e : am_I} {i : Nat} {ls : am_L} {st : List am_V} {σ : am_S} (hF : MF σ) {q : am_Q} (h : am_stepM e i ls st σ = some q) (hg : am_gp q.1) : okM e = true ∧ ∃ g, am_step e i ls st σ = some (g, q.2.1, q.2.2) ∧ am_gp g := by
  unfold am_stepM at h
  split at h
  · cases h
  · rename_i hk
    refine ⟨hk, ?_⟩
    split at h
    · rename_i n hn
      split at h
      · rename_i h3
        split at h
        · rename_i h12
          obtain ⟨ins, pc, x1, x2, x3, k, ts, cut⟩ := e
          dsimp only at hn h3 h12
          subst hn; subst h3; subst h12
          unfold am_o1 at h
          split at h
          · rename_i o t
            unfold am_gd at h
            cases h
            have ho : o = some (31, 12, 89) := hg
            subst ho
            refine ⟨some (12 = 12), ?_, rfl⟩
            show some (some _, [], Sum.inl (i + 1, ls, qo (sR σ 31 x2) :: t, σ)) = _
            rw [hF x2]
            rfl
          · cases h
        · cases h
      · exact ⟨q.1, h, hg⟩
    · exact ⟨q.1, h, hg⟩
def am_woM (P : am_P) (ML : Nat → Nat) (d : Nat) (W : Nat → am_L → List am_V → am_S → Prop) (K : am_K) (σ : am_S) : am_O → Prop
  | .inl q => W q.1 q.2.1 q.2.2.1 q.2.2.2
  | .inr (.inl rv) => K rv σ
  | .inr (.inr q) => am_Calls P ML d q.1 q.2.1 σ (am_kk q.2.2.1 (fun st σ => MF σ ∧ W q.2.2.2.1 q.2.2.2.2.1 st σ) q.2.2.2.2.2)
def am_wqM (P : am_P) (ML : Nat → Nat) (d : Nat) (W : Nat → am_L → List am_V → am_S → Prop) (K : am_K) (σ : am_S) : Option am_Q → Prop
  | none => False
  | some q => am_g q.1 (am_l (am_woM P ML d W K σ) q.2.1 q.2.2)
def am_wpM (P : am_P) (ML : Nat → Nat) (d m : Nat) (K : am_K) : Nat → Nat → am_L → List am_V → am_S → Prop
  | 0, i, ls, st, σ => am_Runs P ML d m i ls st σ K
  | n + 1, i, ls, st, σ => match P m i with
    | none => False
    | some e => match e.2.2.2.2.2.2.2 with
      | true => am_Runs P ML d m i ls st σ K
      | false => am_wqM P ML d (am_wpM P ML d m K n) K σ (am_stepM e i ls st σ)
def am_wEM (P : am_P) (ML : Nat → Nat) (d m : Nat) (K : am_K) (n i : Nat) (ls : am_L) (st : List am_V) (σ : am_S) : Prop := match P m i with
  | none => False
  | some e => am_wqM P ML d (am_wpM P ML d m K n) K σ (am_stepM e i ls st σ)
theorem am_kk_mono {rk : Nat} {W W' : List am_V → am_S → Prop} {rest : List am_V} (h : ∀ st τ, W st τ → W' st τ) : ∀ v τ, am_kk rk W rest v τ → am_kk rk W' rest v τ := by
  intro v τ hv
  rcases rk with _ | _ | _ | rk
  · rcases v with _ | v
    · exact h _ _ hv
    · exact absurd hv id
  · rcases v with _ | x | x | x
    · exact absurd hv id
    · exact h _ _ hv
    · exact absurd hv id
    · exact absurd hv id
  · rcases v with _ | x | x | x
    · exact absurd hv id
    · exact absurd hv id
    · exact h _ _ hv
    · exact absurd hv id
  · rcases v with _ | x | x | x
    · exact absurd hv id
    · exact absurd hv id
    · exact absurd hv id
    · exact h _ _ hv
theorem am_wqM_ok {P : am_P} {ML : Nat → Nat} {d m i : Nat} {ls : am_L} {st : List am_V} {σ : am_S} {K : am_K} {W : Nat → am_L → List am_V → am_S → Prop} (hW : ∀ i ls st σ, MF σ → W i ls st σ → am_Runs P ML d m i ls st σ K) {e : am_I} (he : P m i = some e) (hF : MF σ)
    (h : am_wqM P ML d W K σ (am_stepM e i ls st σ)) : am_Runs P ML d m i ls st σ K := by
  cases hq : am_stepM e i ls st σ with
  | none => rw [hq] at h; exact absurd h id
  | some q =>
    rw [hq] at h
    obtain ⟨g, l, o⟩ := q
    have hg : am_gp g ∧ am_l (am_woM P ML d W K σ) l o := by
      cases g with
      | none => exact ⟨trivial, h⟩
      | some g => exact h
    obtain ⟨hk, g', hs, hg'⟩ := stepM_ok hF hq hg.1
    have hsel : am_sel (am_at P m i ls st σ) = some (am_pick l o) := by
      unfold am_at
      rw [he]
      dsimp only
      rw [hs]
      exact if_pos hg'
    have hw := am_l_ok l o hg.2
    refine am_wo_ok (W := fun i ls st τ => MF τ ∧ W i ls st τ) (fun i ls st τ h => hW i ls st τ h.1 h.2) hsel ?_
    cases hp : am_pick l o with
    | inl r =>
      rw [hp] at hw hsel
      refine ⟨?_, hw⟩
      unfold am_at at hsel
      rw [he] at hsel
      have e1 := sk_step hk r hsel
      intro j
      rw [e1]
      exact hF j
    | inr r =>
      rw [hp] at hw
      cases r with
      | inl rv => exact hw
      | inr r => exact hw
theorem am_wpM_ok {P : am_P} {ML : Nat → Nat} {d m : Nat} {K : am_K} : ∀ (n i : Nat) (ls : am_L) (st : List am_V) (σ : am_S), MF σ → am_wpM P ML d m K n i ls st σ → am_Runs P ML d m i ls st σ K := by
  intro n
  induction n with
  | zero => intro i ls st σ _ h; exact h
  | succ n ih =>
    intro i ls st σ hF h
    unfold am_wpM at h
    cases he : P m i with
    | none => rw [he] at h; exact absurd h id
    | some e =>
      rw [he] at h
      dsimp only at h
      split at h
      · exact h
      · exact am_wqM_ok ih he hF h
theorem am_wEM_ok {P : am_P} {ML : Nat → Nat} {d m : Nat} {K : am_K} (n : Nat) {i : Nat} {ls : am_L} {st : List am_V} {σ : am_S} (hF : MF σ) (h : am_wEM P ML d m K n i ls st σ) : am_Runs P ML d m i ls st σ K := by
  unfold am_wEM at h
  cases he : P m i with
  | none => rw [he] at h; exact absurd h id
  | some e =>
    rw [he] at h
    exact am_wqM_ok (am_wpM_ok n) he hF h
