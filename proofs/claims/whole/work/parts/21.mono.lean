/-! a run only adds cells -/
def moS (τ τ' : am_S) : Prop := sN τ ≤ sN τ' ∧ sU τ ≤ sU τ' ∧ ∀ a, a < sN τ → sT τ' a = sT τ a
theorem moS.rf {τ : am_S} : moS τ τ := ⟨Nat.le_refl _, Nat.le_refl _, fun _ _ => rfl⟩
theorem moS.tr {a b c : am_S} (h1 : moS a b) (h2 : moS b c) : moS a c := ⟨Nat.le_trans h1.1 h2.1, Nat.le_trans h1.2.1 h2.2.1, fun x hx => (h2.2.2 x (Nat.lt_of_lt_of_le hx h1.1)).trans (h1.2.2 x hx)⟩
theorem moS.pt {τ τ' : am_S} (h : τ'.2.2 = τ.2.2) : moS τ τ' := by
  refine ⟨?_, ?_, fun a _ => ?_⟩
  · unfold sN; rw [h]; exact Nat.le_refl _
  · unfold sU; rw [h]; exact Nat.le_refl _
  · unfold sT; rw [h]
theorem moS.nw {τ : am_S} {t n : Nat} : moS τ (newC τ t n) := ⟨Nat.le_succ _, Nat.le_add_right _ _, fun a ha => by
  show (if a = sN τ then (t, n) else sT τ a) = sT τ a
  rw [if_neg (Nat.ne_of_lt ha)]⟩
theorem moS.ok {τ τ' : am_S} (h : moS τ τ') {v : am_V} (hv : okV τ v) : okV τ' v := by
  rcases v with x | x | o
  · exact hv
  · exact hv
  · intro r hr
    obtain ⟨h1, h2⟩ := hv r hr
    exact ⟨Nat.lt_of_lt_of_le h1 h.1, (h.2.2 _ h1).trans h2⟩
def MO (τ : am_S) (q : Option am_Q) : Prop := ∀ r, am_sel q = some (.inl r) → moS τ r.2.2.2
theorem mo_none {τ : am_S} : MO τ none := fun r h => by cases h
theorem mo_nx {τ σ : am_S} {i : Nat} {ls : am_L} {st : List am_V} (h : moS τ σ) : MO τ (am_nx i ls st σ) := fun r hr => by cases sel_nx hr; exact h
theorem mo_gd {τ σ : am_S} {g : Prop} {i : Nat} {ls : am_L} {st : List am_V} (h : moS τ σ) : MO τ (am_gd g i ls st σ) := fun r hr => by
  have e := (sel_gd hr).2
  cases e
  exact h
theorem mo_br {τ : am_S} {g : Prop} {i j : Nat} {ls : am_L} {st : List am_V} : MO τ (am_br g i j ls st τ) := fun r hr => by
  rcases sel_br hr with ⟨_, e⟩ | ⟨_, e⟩ <;> (cases e; exact moS.rf)
theorem mo_i1 {τ : am_S} {st : List am_V} {f : Int → List am_V → Option am_Q} (h : ∀ a t, MO τ (f a t)) : MO τ (am_i1 st f) := fun r hr => by
  obtain ⟨a, t, -, h1⟩ := sel_i1 hr
  exact h a t r h1
theorem mo_i2 {τ : am_S} {st : List am_V} {f : Int → Int → List am_V → Option am_Q} (h : ∀ a b t, MO τ (f a b t)) : MO τ (am_i2 st f) := fun r hr => by
  obtain ⟨a, b, t, -, h1⟩ := sel_i2 hr
  exact h a b t r h1
theorem mo_l1 {τ : am_S} {st : List am_V} {f : Int → List am_V → Option am_Q} (h : ∀ a t, MO τ (f a t)) : MO τ (am_l1 st f) := fun r hr => by
  obtain ⟨a, t, -, h1⟩ := sel_l1 hr
  exact h a t r h1
theorem mo_l2 {τ : am_S} {st : List am_V} {f : Int → Int → List am_V → Option am_Q} (h : ∀ a b t, MO τ (f a b t)) : MO τ (am_l2 st f) := fun r hr => by
  obtain ⟨a, b, t, -, h1⟩ := sel_l2 hr
  exact h a b t r h1
theorem mo_li {τ : am_S} {st : List am_V} {f : Int → Int → List am_V → Option am_Q} (h : ∀ a b t, MO τ (f a b t)) : MO τ (am_li st f) := fun r hr => by
  obtain ⟨a, b, t, -, h1⟩ := sel_li hr
  exact h a b t r h1
theorem mo_o1 {τ : am_S} {st : List am_V} {f : Option am_R → List am_V → Option am_Q} (h : ∀ a t, MO τ (f a t)) : MO τ (am_o1 st f) := fun r hr => by
  obtain ⟨a, t, -, h1⟩ := sel_o1 hr
  exact h a t r h1
theorem mo_oi {τ : am_S} {st : List am_V} {f : Option am_R → Int → List am_V → Option am_Q} (h : ∀ a b t, MO τ (f a b t)) : MO τ (am_oi st f) := fun r hr => by
  obtain ⟨a, b, t, -, h1⟩ := sel_oi hr
  exact h a b t r h1
theorem mo_if {τ : am_S} {i j : Nat} {k : Jvm.ClassFile.Cond} {a b : Int} {ls : am_L} {st : List am_V} : MO τ (am_if i j k a b ls st τ) := by
  cases k <;> exact mo_br
theorem mo_call {τ : am_S} {g : Option Prop} {x : am_I} {i : Nat} {ls : am_L} {st : List am_V} : MO τ (am_call g x i ls st) := fun r hr => absurd hr (call_no _ _ _ _ _)
theorem mo_ret {τ : am_S} {g : Option Prop} {v : Option am_V} : MO τ (some (g, [], .inr (.inl v))) := fun r hr => by
  unfold am_sel at hr
  dsimp only at hr
  split at hr <;> cases hr
theorem mo_rt {τ : am_S} {t : List am_V} {q : Option am_Q} (h : MO τ q) : MO τ (am_rt t q) := fun r hr => h r (sel_rt hr).2
theorem mo_sw {τ : am_S} {a lo : Int} {ls : am_L} {t : List am_V} {ts : List Nat} {x1 : Nat} : MO τ (some (none, am_sw a ls t τ lo ts, .inl (x1, ls, t, τ))) := fun r hr => by
  unfold am_sel at hr
  dsimp only at hr
  rw [if_pos (show am_gp none from trivial)] at hr
  have e := Option.some.inj hr
  rcases sw_pick (a := a) (ls := ls) (t := t) (τ := τ) (d := .inl (x1, ls, t, τ)) ts lo with ⟨j, x, _, _, h⟩ | ⟨_, h⟩
  · rw [h] at e; cases e; exact moS.rf
  · rw [h] at e; cases e; exact moS.rf
theorem mo_lk {τ : am_S} {a : Int} {ls : am_L} {t : List am_V} {ps : List (Int × Int)} {ts : List Nat} {x1 : Nat} : MO τ (some (none, am_lk a ls t τ ps ts, .inl (x1, ls, t, τ))) := fun r hr => by
  unfold am_sel at hr
  dsimp only at hr
  rw [if_pos (show am_gp none from trivial)] at hr
  have e := Option.some.inj hr
  obtain ⟨x, h⟩ := lk_any (a := a) (ls := ls) (t := t) (τ := τ) (x1 := x1) ps ts
  rw [h] at e
  cases e
  exact moS.rf
theorem mo_put {τ : am_S} {x : am_I} {i : Nat} {ls : am_L} {st : List am_V} : MO τ (am_put x i ls st τ) := by
  unfold am_put
  split
  · exact mo_gd (moS.pt rfl)
  · exact mo_gd (moS.pt rfl)
  · exact mo_gd (moS.pt rfl)
  · exact mo_none
theorem mo_copy {τ : am_S} {i : Nat} {ls : am_L} {st : List am_V} : MO τ (am_copy i ls st τ) := by
  unfold am_copy
  split
  · split
    · exact mo_gd (moS.pt rfl)
    · exact mo_none
  · exact mo_none
theorem mo_objI {τ : am_S} {i : Nat} {ls : am_L} {st : List am_V} : MO τ (am_objI i ls st τ) := by
  unfold am_objI
  split
  · split
    · exact mo_nx moS.rf
    · exact mo_none
  · exact mo_none
set_option maxHeartbeats 4000000 in
theorem mo_step {τ : am_S} {x : am_I} {i : Nat} {ls : am_L} {st : List am_V} : MO τ (am_step x i ls st τ) := by
  obtain ⟨ins, pc, x1, x2, x3, k, ts, cut⟩ := x
  cases ins with
  | iload j => unfold am_step am_ild; dsimp only; split; exact mo_nx moS.rf; exact mo_none
  | iload_n j => unfold am_step am_ild; dsimp only; split; exact mo_nx moS.rf; exact mo_none
  | lload j => unfold am_step am_lld; dsimp only; split; exact mo_nx moS.rf; exact mo_none
  | lload_n j => unfold am_step am_lld; dsimp only; split; exact mo_nx moS.rf; exact mo_none
  | aload j => unfold am_step am_ald; dsimp only; split; exact mo_nx moS.rf; exact mo_none
  | aload_n j => unfold am_step am_ald; dsimp only; split; exact mo_nx moS.rf; exact mo_none
  | iinc j w =>
    unfold am_step
    dsimp only
    split
    · exact mo_nx moS.rf
    · exact mo_none
  | dup => unfold am_step am_dup; dsimp only; split; exact mo_none; exact mo_nx moS.rf; exact mo_none
  | dup2 => unfold am_step am_dup2; dsimp only; split; exact mo_nx moS.rf; exact mo_nx moS.rf; exact mo_nx moS.rf; exact mo_none
  | putfield n => exact mo_put
  | ifCond kc o => exact mo_i1 fun _ _ => mo_if
  | if_icmp kc o => exact mo_i2 fun _ _ _ => mo_if
  | ifnull o => exact mo_o1 fun _ _ => mo_br
  | tableswitch dd lo hi offs => exact mo_i1 fun _ _ => mo_sw
  | lookupswitch dd ps => exact mo_i1 fun _ _ => mo_lk
  | ireturn =>
    refine mo_i1 fun _ _ => mo_rt ?_
    dsimp only
    split
    · exact mo_ret
    · exact mo_ret
  | lreturn => exact mo_l1 fun _ _ => mo_rt mo_ret
  | areturn => exact mo_o1 fun _ _ => mo_rt mo_ret
  | return_ => exact mo_rt mo_ret
  | invokestatic n =>
    unfold am_step
    dsimp only
    split
    · exact mo_copy
    · exact mo_call
  | invokespecial n =>
    unfold am_step
    dsimp only
    split
    · exact mo_objI
    · exact mo_call
  | invokevirtual n => exact mo_call
  | new n => exact mo_nx moS.nw
  | newarray t => exact mo_i1 fun _ _ => mo_gd moS.nw
  | anewarray n => exact mo_i1 fun _ _ => mo_gd moS.nw
  | iastore => exact mo_i1 fun _ _ => mo_oi fun _ _ _ => mo_gd (moS.pt rfl)
  | lastore => exact mo_l1 fun _ _ => mo_oi fun _ _ _ => mo_gd (moS.pt rfl)
  | aastore => exact mo_o1 fun _ _ => mo_oi fun _ _ _ => mo_gd (moS.pt rfl)
  | _ => first | exact mo_none | exact mo_nx moS.rf | exact mo_i1 fun _ _ => mo_nx moS.rf | exact mo_i2 fun _ _ _ => mo_nx moS.rf | exact mo_i2 fun _ _ _ => mo_gd moS.rf | exact mo_l1 fun _ _ => mo_nx moS.rf | exact mo_l2 fun _ _ _ => mo_nx moS.rf | exact mo_li fun _ _ _ => mo_nx moS.rf | exact mo_o1 fun _ _ => mo_nx moS.rf | exact mo_o1 fun _ _ => mo_gd moS.rf | exact mo_oi fun _ _ _ => mo_gd moS.rf
theorem run_mono (P : am_P) (ML : Nat → Nat) : ∀ (n d m i : Nat) (ls : am_L) (st : List am_V) (σ : am_S) (r : Option am_V × am_S), am_run P ML n d m i ls st σ = some r → moS σ r.2 := by
  intro n
  induction n with
  | zero => intro d m i ls st σ r h; cases h
  | succ n ih =>
    intro d m i ls st σ r h
    unfold am_run at h
    cases hs : am_sel (am_at P m i ls st σ) with
    | none => rw [hs] at h; cases h
    | some o =>
      rw [hs] at h
      rcases o with q | rv | q
      · refine moS.tr ?_ (ih _ _ _ _ _ _ _ h)
        unfold am_at at hs
        split at hs
        · cases hs
        · exact mo_step q hs
      · cases h; exact moS.rf
      · cases d with
        | zero => cases h
        | succ d' =>
          dsimp only at h
          cases hb : Nat.ble (am_args q.2.1).length (ML q.1) with
          | false => rw [hb] at h; cases h
          | true =>
            rw [hb] at h
            dsimp only at h
            cases hc : am_run P ML n d' q.1 0 (am_ent (ML q.1) q.2.1) [] σ with
            | none => rw [hc] at h; cases h
            | some r1 =>
              rw [hc] at h
              exact moS.tr (ih _ _ _ _ _ _ _ hc) (ih _ _ _ _ _ _ _ h)
