/-! whole runs; every method's contract -/
theorem pc0 : ∀ y ∈ List.range 279, pcA y 0 = 0 := by decide +kernel
def NR (q : Option am_Q) : Prop := ∀ r, ¬ am_sel q = some (.inr (.inl r))
theorem nr_none : NR none := fun r h => by cases h
theorem nr_nx {σ : am_S} {i : Nat} {ls : am_L} {st : List am_V} : NR (am_nx i ls st σ) := fun r hr => by cases sel_nx hr
theorem nr_gd {σ : am_S} {g : Prop} {i : Nat} {ls : am_L} {st : List am_V} : NR (am_gd g i ls st σ) := fun r hr => by cases (sel_gd hr).2
theorem nr_br {σ : am_S} {g : Prop} {i j : Nat} {ls : am_L} {st : List am_V} : NR (am_br g i j ls st σ) := fun r hr => by
  rcases sel_br hr with ⟨_, e⟩ | ⟨_, e⟩ <;> cases e
theorem nr_i1 {st : List am_V} {f : Int → List am_V → Option am_Q} (h : ∀ a t, NR (f a t)) : NR (am_i1 st f) := fun r hr => by
  obtain ⟨a, t, -, h1⟩ := sel_i1 hr
  exact h a t r h1
theorem nr_i2 {st : List am_V} {f : Int → Int → List am_V → Option am_Q} (h : ∀ a b t, NR (f a b t)) : NR (am_i2 st f) := fun r hr => by
  obtain ⟨a, b, t, -, h1⟩ := sel_i2 hr
  exact h a b t r h1
theorem nr_l1 {st : List am_V} {f : Int → List am_V → Option am_Q} (h : ∀ a t, NR (f a t)) : NR (am_l1 st f) := fun r hr => by
  obtain ⟨a, t, -, h1⟩ := sel_l1 hr
  exact h a t r h1
theorem nr_l2 {st : List am_V} {f : Int → Int → List am_V → Option am_Q} (h : ∀ a b t, NR (f a b t)) : NR (am_l2 st f) := fun r hr => by
  obtain ⟨a, b, t, -, h1⟩ := sel_l2 hr
  exact h a b t r h1
theorem nr_li {st : List am_V} {f : Int → Int → List am_V → Option am_Q} (h : ∀ a b t, NR (f a b t)) : NR (am_li st f) := fun r hr => by
  obtain ⟨a, b, t, -, h1⟩ := sel_li hr
  exact h a b t r h1
theorem nr_o1 {st : List am_V} {f : Option am_R → List am_V → Option am_Q} (h : ∀ a t, NR (f a t)) : NR (am_o1 st f) := fun r hr => by
  obtain ⟨a, t, -, h1⟩ := sel_o1 hr
  exact h a t r h1
theorem nr_oi {st : List am_V} {f : Option am_R → Int → List am_V → Option am_Q} (h : ∀ a b t, NR (f a b t)) : NR (am_oi st f) := fun r hr => by
  obtain ⟨a, b, t, -, h1⟩ := sel_oi hr
  exact h a b t r h1
theorem nr_if {τ : am_S} {i j : Nat} {k : Jvm.ClassFile.Cond} {a b : Int} {ls : am_L} {st : List am_V} : NR (am_if i j k a b ls st τ) := by
  cases k <;> exact nr_br
theorem nr_call {g : Option Prop} {x : am_I} {i : Nat} {ls : am_L} {st : List am_V} : NR (am_call g x i ls st) := fun r h => by
  unfold am_call at h
  split at h
  · unfold am_sel at h
    dsimp only at h
    split at h
    · have e := Option.some.inj h
      unfold am_pick at e
      cases e
    · cases h
  · cases h
theorem nr_sw {τ : am_S} {a lo : Int} {ls : am_L} {t : List am_V} {ts : List Nat} {x1 : Nat} : NR (some (none, am_sw a ls t τ lo ts, .inl (x1, ls, t, τ))) := fun r hr => by
  unfold am_sel at hr
  dsimp only at hr
  rw [if_pos (show am_gp none from trivial)] at hr
  have e := Option.some.inj hr
  rcases sw_pick (a := a) (ls := ls) (t := t) (τ := τ) (d := .inl (x1, ls, t, τ)) ts lo with ⟨j, x, _, _, h⟩ | ⟨_, h⟩
  · rw [h] at e; cases e
  · rw [h] at e; cases e
theorem nr_lk {τ : am_S} {a : Int} {ls : am_L} {t : List am_V} {ps : List (Int × Int)} {ts : List Nat} {x1 : Nat} : NR (some (none, am_lk a ls t τ ps ts, .inl (x1, ls, t, τ))) := fun r hr => by
  unfold am_sel at hr
  dsimp only at hr
  rw [if_pos (show am_gp none from trivial)] at hr
  have e := Option.some.inj hr
  obtain ⟨x, h⟩ := lk_any (a := a) (ls := ls) (t := t) (τ := τ) (x1 := x1) ps ts
  rw [h] at e
  cases e
theorem nr_put {τ : am_S} {x : am_I} {i : Nat} {ls : am_L} {st : List am_V} : NR (am_put x i ls st τ) := by
  unfold am_put
  split
  · exact nr_gd
  · exact nr_gd
  · exact nr_gd
  · exact nr_none
def RT : Instr → Prop
  | .ireturn => True
  | .lreturn => True
  | .areturn => True
  | .return_ => True
  | _ => False
set_option maxHeartbeats 4000000 in
theorem nr_step {τ : am_S} {x : am_I} {i : Nat} {ls : am_L} {st : List am_V} (hx : ¬ RT x.1) : NR (am_step x i ls st τ) := by
  obtain ⟨ins, pc, x1, x2, x3, k, ts, cut⟩ := x
  cases ins with
  | iload j => unfold am_step am_ild; dsimp only; split; exact nr_nx; exact nr_none
  | iload_n j => unfold am_step am_ild; dsimp only; split; exact nr_nx; exact nr_none
  | lload j => unfold am_step am_lld; dsimp only; split; exact nr_nx; exact nr_none
  | lload_n j => unfold am_step am_lld; dsimp only; split; exact nr_nx; exact nr_none
  | aload j => unfold am_step am_ald; dsimp only; split; exact nr_nx; exact nr_none
  | aload_n j => unfold am_step am_ald; dsimp only; split; exact nr_nx; exact nr_none
  | iinc j w =>
    unfold am_step
    dsimp only
    split
    · exact nr_nx
    · exact nr_none
  | dup => unfold am_step am_dup; dsimp only; split; exact nr_none; exact nr_nx; exact nr_none
  | dup2 => unfold am_step am_dup2; dsimp only; split; exact nr_nx; exact nr_nx; exact nr_nx; exact nr_none
  | putfield n => exact nr_put
  | ifCond kc o => exact nr_i1 fun _ _ => nr_if
  | if_icmp kc o => exact nr_i2 fun _ _ _ => nr_if
  | ifnull o => exact nr_o1 fun _ _ => nr_br
  | tableswitch dd lo hi offs => exact nr_i1 fun _ _ => nr_sw
  | lookupswitch dd ps => exact nr_i1 fun _ _ => nr_lk
  | ireturn => exact absurd trivial hx
  | lreturn => exact absurd trivial hx
  | areturn => exact absurd trivial hx
  | return_ => exact absurd trivial hx
  | invokestatic n =>
    unfold am_step
    dsimp only
    split
    · unfold am_copy
      split
      · split
        · exact nr_gd
        · exact nr_none
      · exact nr_none
    · exact nr_call
  | invokespecial n =>
    unfold am_step
    dsimp only
    split
    · unfold am_objI
      split
      · split
        · exact nr_nx
        · exact nr_none
      · exact nr_none
    · exact nr_call
  | invokevirtual n => exact nr_call
  | iastore => exact nr_i1 fun _ _ => nr_oi fun _ _ _ => nr_gd
  | lastore => exact nr_l1 fun _ _ => nr_oi fun _ _ _ => nr_gd
  | aastore => exact nr_o1 fun _ _ => nr_oi fun _ _ _ => nr_gd
  | _ => first | exact nr_none | exact nr_nx | exact nr_i1 fun _ _ => nr_nx | exact nr_i1 fun _ _ => nr_gd | exact nr_i2 fun _ _ _ => nr_nx | exact nr_i2 fun _ _ _ => nr_gd | exact nr_l1 fun _ _ => nr_nx | exact nr_l2 fun _ _ _ => nr_nx | exact nr_li fun _ _ _ => nr_nx | exact nr_o1 fun _ _ => nr_nx | exact nr_o1 fun _ _ => nr_gd | exact nr_oi fun _ _ _ => nr_gd
theorem ret_int {x : am_I} {i : Nat} {ls : am_L} {st : List am_V} {σ : am_S} {rv : Option am_V} (h : am_sel (am_step x i ls st σ) = some (.inr (.inl rv))) :
    (∃ v, x.1 = .ireturn ∧ st = [qi v] ∧ rv = some (qi v) ∧ (x.2.2.1 = 1 → v = 0 ∨ v = 1)) ∨ (∃ v, x.1 = .lreturn ∧ st = [ql v] ∧ rv = some (ql v)) ∨ (∃ v, x.1 = .areturn ∧ st = [qo v] ∧ rv = some (qo v)) ∨ (x.1 = .return_ ∧ st = [] ∧ rv = none) := by
  have key : ∀ (g : Option Prop) (v w : Option am_V), am_sel (some (g, [], .inr (.inl v))) = some (.inr (.inl w)) → am_gp g ∧ w = v := by
    intro g v w h
    unfold am_sel at h
    dsimp only at h
    split at h
    · rename_i hg
      have e := Option.some.inj h
      unfold am_pick at e
      cases e
      exact ⟨hg, rfl⟩
    · cases h
  obtain ⟨ins, pc, x1, x2, x3, k, ts, cut⟩ := x
  by_cases hr : RT ins
  · cases ins with
    | ireturn =>
      obtain ⟨v, t, rfl, h1⟩ := sel_i1 h
      obtain ⟨rfl, h2⟩ := sel_rt h1
      refine Or.inl ⟨v, rfl, rfl, ?_⟩
      dsimp only at h2
      split at h2
      · obtain ⟨hg, rfl⟩ := key _ _ _ h2
        exact ⟨rfl, fun _ => hg⟩
      · rename_i hne
        obtain ⟨-, rfl⟩ := key _ _ _ h2
        exact ⟨rfl, fun h => absurd h hne⟩
    | lreturn =>
      obtain ⟨v, t, rfl, h1⟩ := sel_l1 h
      obtain ⟨rfl, h2⟩ := sel_rt h1
      exact Or.inr (Or.inl ⟨v, rfl, rfl, (key _ _ _ h2).2⟩)
    | areturn =>
      obtain ⟨v, t, rfl, h1⟩ := sel_o1 h
      obtain ⟨rfl, h2⟩ := sel_rt h1
      exact Or.inr (Or.inr (Or.inl ⟨v, rfl, rfl, (key _ _ _ h2).2⟩))
    | return_ =>
      obtain ⟨rfl, h2⟩ := sel_rt h
      exact Or.inr (Or.inr (Or.inr ⟨rfl, rfl, (key _ _ _ h2).2⟩))
    | _ => exact absurd hr id
  · exact absurd h (nr_step hr _)
section SIM
variable {p : Program} {l : Launch} {e : Env} {R : Room} {s : State} {m : MethodId} {args : Array Value} {below : List Frame} {meth : Method} {c : Code} {Q : State → Prop}
variable {G : tG} {D : va_G} {cA : Nat → ClassId} {M : Nat} {σ' : am_S} {rv : Option am_V}
theorem am_sim {d CE SE : Nat} (C : Cx p s m args meth c G D cA M) (hmet : ∀ d', d' < d → METS l G D cA d') (hfr : d + 1 ≤ R.frames) (hlo : 60 * (d + 1) ≤ R.locals) (hCE : CE ≤ R.cells) (hSE : SE ≤ R.slots)
    (hret : ∀ (i : Nat) (x : am_I) (ls : am_L) (st : List am_V) (H : Heap) (lsC : Array Slot) (locs : List Loc), PP M i = some x → am_sel (am_step x i ls st σ') = some (.inr (.inl rv)) → Iv G D cA M s σ' H ls st lsC locs CE → W p l e R s m args below meth c H locs CE SE Q (F0 m (pcA M i) lsC (st.map (tV G)))) :
    ∀ (n i : Nat) (ls : am_L) (st : List am_V) (τ : am_S) (H : Heap) (lsC : Array Slot) (locs : List Loc) (cells slots : Nat), am_run PP MLL n d M i ls st τ = some (rv, σ') → Iv G D cA M s τ H ls st lsC locs cells → cells + (sN σ' - sN τ) = CE → slots + (sU σ' - sU τ) = SE → W p l e R s m args below meth c H locs cells slots Q (F0 m (pcA M i) lsC (st.map (tV G))) := by
  intro n
  induction n with
  | zero => intro i ls st τ H lsC locs cells slots h; cases h
  | succ n ih =>
    intro i ls st τ H lsC locs cells slots h I hc hs
    have hmo := run_mono _ _ _ _ _ _ _ _ _ _ h
    unfold am_run at h
    cases hx : PP M i with
    | none =>
      have e : am_at PP M i ls st τ = none := by unfold am_at; rw [hx]
      rw [e] at h
      cases h
    | some x =>
      have e : am_at PP M i ls st τ = am_step x i ls st τ := by unfold am_at; rw [hx]
      rw [e] at h
      cases hsel : am_sel (am_step x i ls st τ) with
      | none => rw [hsel] at h; cases h
      | some o =>
        rw [hsel] at h
        rcases o with q | rv' | q
        · obtain ⟨i2, ls2, st2, τ2⟩ := q
          dsimp only at h
          have hm1 := mo_step _ hsel
          have hm2 := run_mono _ _ _ _ _ _ _ _ _ _ h
          have a1 := hm1.1
          have a2 := hm1.2.1
          have b1 := hm2.1
          have b2 := hm2.2.1
          dsimp only at a1 a2 b1 b2
          exact am_sound_step C hx hsel I (by omega) (by omega) (by omega) (by omega) (fun H' lsC' locs' I' => ih _ _ _ _ _ _ _ _ _ h I' (by omega) (by omega))
        · cases h
          rw [Nat.sub_self, Nat.add_zero] at hc hs
          subst hc
          subst hs
          exact hret i x ls st H lsC locs hx hsel I
        · cases d with
          | zero => cases h
          | succ d' =>
            dsimp only at h
            cases hb : Nat.ble (am_args q.2.1).length (MLL q.1) with
            | false => rw [hb] at h; cases h
            | true =>
              rw [hb] at h
              dsimp only at h
              cases hr : am_run PP MLL n d' q.1 0 (am_ent (MLL q.1) q.2.1) [] τ with
              | none => rw [hr] at h; cases h
              | some r1 =>
                rw [hr] at h
                obtain ⟨rv1, σ1⟩ := r1
                dsimp only at h
                have hm1 := run_mono _ _ _ _ _ _ _ _ _ _ hr
                have hm2 := run_mono _ _ _ _ _ _ _ _ _ _ h
                have a1 := hm1.1
                have a2 := hm1.2.1
                have b1 := hm2.1
                have b2 := hm2.2.1
                dsimp only at a1 a2 b1 b2
                exact am_sound_call C hx hsel I (Nat.le_of_ble_eq_true hb) hr (hmet d' (Nat.lt_succ_self _)) (by omega) (by omega) (by omega) (by omega) (fun H' locs' I' => ih _ _ _ _ _ _ _ _ _ h I' (by omega) (by omega))
end SIM
