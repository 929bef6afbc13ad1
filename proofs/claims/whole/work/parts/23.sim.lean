/-! a call; a method's end; whole runs -/
theorem inis_ret : ∀ y ∈ m_inis, m_ret y = none := by decide +kernel
def NC (q : Option am_Q) : Prop := ∀ r, ¬ am_sel q = some (.inr (.inr r))
theorem nc_none : NC none := fun r h => by cases h
theorem nc_nx {σ : am_S} {i : Nat} {ls : am_L} {st : List am_V} : NC (am_nx i ls st σ) := fun r hr => by cases sel_nx hr
theorem nc_gd {σ : am_S} {g : Prop} {i : Nat} {ls : am_L} {st : List am_V} : NC (am_gd g i ls st σ) := fun r hr => by cases (sel_gd hr).2
theorem nc_br {σ : am_S} {g : Prop} {i j : Nat} {ls : am_L} {st : List am_V} : NC (am_br g i j ls st σ) := fun r hr => by
  rcases sel_br hr with ⟨_, e⟩ | ⟨_, e⟩ <;> cases e
theorem nc_i1 {st : List am_V} {f : Int → List am_V → Option am_Q} (h : ∀ a t, NC (f a t)) : NC (am_i1 st f) := fun r hr => by
  obtain ⟨a, t, -, h1⟩ := sel_i1 hr
  exact h a t r h1
theorem nc_i2 {st : List am_V} {f : Int → Int → List am_V → Option am_Q} (h : ∀ a b t, NC (f a b t)) : NC (am_i2 st f) := fun r hr => by
  obtain ⟨a, b, t, -, h1⟩ := sel_i2 hr
  exact h a b t r h1
theorem nc_l1 {st : List am_V} {f : Int → List am_V → Option am_Q} (h : ∀ a t, NC (f a t)) : NC (am_l1 st f) := fun r hr => by
  obtain ⟨a, t, -, h1⟩ := sel_l1 hr
  exact h a t r h1
theorem nc_l2 {st : List am_V} {f : Int → Int → List am_V → Option am_Q} (h : ∀ a b t, NC (f a b t)) : NC (am_l2 st f) := fun r hr => by
  obtain ⟨a, b, t, -, h1⟩ := sel_l2 hr
  exact h a b t r h1
theorem nc_li {st : List am_V} {f : Int → Int → List am_V → Option am_Q} (h : ∀ a b t, NC (f a b t)) : NC (am_li st f) := fun r hr => by
  obtain ⟨a, b, t, -, h1⟩ := sel_li hr
  exact h a b t r h1
theorem nc_o1 {st : List am_V} {f : Option am_R → List am_V → Option am_Q} (h : ∀ a t, NC (f a t)) : NC (am_o1 st f) := fun r hr => by
  obtain ⟨a, t, -, h1⟩ := sel_o1 hr
  exact h a t r h1
theorem nc_oi {st : List am_V} {f : Option am_R → Int → List am_V → Option am_Q} (h : ∀ a b t, NC (f a b t)) : NC (am_oi st f) := fun r hr => by
  obtain ⟨a, b, t, -, h1⟩ := sel_oi hr
  exact h a b t r h1
theorem nc_if {τ : am_S} {i j : Nat} {k : Jvm.ClassFile.Cond} {a b : Int} {ls : am_L} {st : List am_V} : NC (am_if i j k a b ls st τ) := by
  cases k <;> exact nc_br
theorem nc_ret {g : Option Prop} {v : Option am_V} : NC (some (g, [], .inr (.inl v))) := fun r hr => by
  unfold am_sel at hr
  dsimp only at hr
  split at hr
  · have e := Option.some.inj hr
    unfold am_pick at e
    cases e
  · cases hr
theorem nc_rt {t : List am_V} {q : Option am_Q} (h : NC q) : NC (am_rt t q) := fun r hr => h r (sel_rt hr).2
theorem nc_sw {τ : am_S} {a lo : Int} {ls : am_L} {t : List am_V} {ts : List Nat} {x1 : Nat} : NC (some (none, am_sw a ls t τ lo ts, .inl (x1, ls, t, τ))) := fun r hr => by
  unfold am_sel at hr
  dsimp only at hr
  rw [if_pos (show am_gp none from trivial)] at hr
  have e := Option.some.inj hr
  rcases sw_pick (a := a) (ls := ls) (t := t) (τ := τ) (d := .inl (x1, ls, t, τ)) ts lo with ⟨j, x, _, _, h⟩ | ⟨_, h⟩
  · rw [h] at e; cases e
  · rw [h] at e; cases e
theorem nc_lk {τ : am_S} {a : Int} {ls : am_L} {t : List am_V} {ps : List (Int × Int)} {ts : List Nat} {x1 : Nat} : NC (some (none, am_lk a ls t τ ps ts, .inl (x1, ls, t, τ))) := fun r hr => by
  unfold am_sel at hr
  dsimp only at hr
  rw [if_pos (show am_gp none from trivial)] at hr
  have e := Option.some.inj hr
  obtain ⟨x, h⟩ := lk_any (a := a) (ls := ls) (t := t) (τ := τ) (x1 := x1) ps ts
  rw [h] at e
  cases e
theorem nc_put {τ : am_S} {x : am_I} {i : Nat} {ls : am_L} {st : List am_V} : NC (am_put x i ls st τ) := by
  unfold am_put
  split
  · exact nc_gd
  · exact nc_gd
  · exact nc_gd
  · exact nc_none
def isInv : Instr → Bool
  | .invokestatic _ => true
  | .invokespecial _ => true
  | .invokevirtual _ => true
  | _ => false
set_option maxHeartbeats 4000000 in
theorem nc_step {τ : am_S} {x : am_I} {i : Nat} {ls : am_L} {st : List am_V} (hx : isInv x.1 = false) : NC (am_step x i ls st τ) := by
  obtain ⟨ins, pc, x1, x2, x3, k, ts, cut⟩ := x
  cases ins with
  | iload j => unfold am_step am_ild; dsimp only; split; exact nc_nx; exact nc_none
  | iload_n j => unfold am_step am_ild; dsimp only; split; exact nc_nx; exact nc_none
  | lload j => unfold am_step am_lld; dsimp only; split; exact nc_nx; exact nc_none
  | lload_n j => unfold am_step am_lld; dsimp only; split; exact nc_nx; exact nc_none
  | aload j => unfold am_step am_ald; dsimp only; split; exact nc_nx; exact nc_none
  | aload_n j => unfold am_step am_ald; dsimp only; split; exact nc_nx; exact nc_none
  | iinc j w =>
    unfold am_step
    dsimp only
    split
    · exact nc_nx
    · exact nc_none
  | dup => unfold am_step am_dup; dsimp only; split; exact nc_none; exact nc_nx; exact nc_none
  | dup2 => unfold am_step am_dup2; dsimp only; split; exact nc_nx; exact nc_nx; exact nc_nx; exact nc_none
  | putfield n => exact nc_put
  | ifCond kc o => exact nc_i1 fun _ _ => nc_if
  | if_icmp kc o => exact nc_i2 fun _ _ _ => nc_if
  | ifnull o => exact nc_o1 fun _ _ => nc_br
  | tableswitch dd lo hi offs => exact nc_i1 fun _ _ => nc_sw
  | lookupswitch dd ps => exact nc_i1 fun _ _ => nc_lk
  | ireturn =>
    refine nc_i1 fun _ _ => nc_rt ?_
    dsimp only
    split
    · exact nc_ret
    · exact nc_ret
  | lreturn => exact nc_l1 fun _ _ => nc_rt nc_ret
  | areturn => exact nc_o1 fun _ _ => nc_rt nc_ret
  | return_ => exact nc_rt nc_ret
  | invokestatic n => cases hx
  | invokespecial n => cases hx
  | invokevirtual n => cases hx
  | iastore => exact nc_i1 fun _ _ => nc_oi fun _ _ _ => nc_gd
  | lastore => exact nc_l1 fun _ _ => nc_oi fun _ _ _ => nc_gd
  | aastore => exact nc_o1 fun _ _ => nc_oi fun _ _ _ => nc_gd
  | _ => first | exact nc_none | exact nc_nx | exact nc_i1 fun _ _ => nc_nx | exact nc_i1 fun _ _ => nc_gd | exact nc_i2 fun _ _ _ => nc_nx | exact nc_i2 fun _ _ _ => nc_gd | exact nc_l1 fun _ _ => nc_nx | exact nc_l2 fun _ _ _ => nc_nx | exact nc_li fun _ _ _ => nc_nx | exact nc_o1 fun _ _ => nc_nx | exact nc_o1 fun _ _ => nc_gd | exact nc_oi fun _ _ _ => nc_gd
section SIM
variable {p : Program} {l : Launch} {e : Env} {R : Room} {s : State} {m : MethodId} {args : Array Value} {below : List Frame} {meth : Method} {c : Code} {H : Heap} {locs : List Loc} {cells slots : Nat} {Q : State → Prop}
variable {G : tG} {D : va_G} {cA : Nat → ClassId} {M i pc : Nat} {ls : am_L} {st : List am_V} {τ σ1 : am_S} {lsC : Array Slot} {rv : Option am_V} {x : am_I}
theorem split_st (n : Nat) : st.map (tV G) = ((st.take n).reverse.map (tV G)).reverse ++ (st.drop n).map (tV G) := by
  rw [← List.map_reverse, List.reverse_reverse, ← List.map_append, List.take_append_drop]
theorem Iv.drop (I : Iv G D cA M s τ H ls st lsC locs cells) (n : Nat) : Iv G D cA M s τ H ls (st.drop n) lsC locs cells := I.stk fun v hv => I.2.2.2.2.1 v (List.mem_of_mem_drop hv)
theorem c_static {x1 x2 n : Nat} {d' nn : Nat} (C : Cx p s m args meth c G D cA M) (hd : decode (m_bytes M) pc = .ok (.invokestatic n, 3)) (hn : pcA M (i + 1) = pc + 3) (hy : x1 < 278) (hx2 : x2 = m_n x1) (hst : x1 ∈ m_stats) (hlink : Cond.methodLink (oN (m_o M)) n (m_y x1) ∈ GW ∨ (∃ q ∈ TLs, q.1 = m_o M ∧ q.2.1 = n ∧ q.2.2.1 = x1))
    (h8 : am_cats (st.drop x2) ≤ 8) (hlen : x2 ≤ st.length) (I : Iv G D cA M s τ H ls st lsC locs cells) (hb : (am_args (st.take x2).reverse).length ≤ MLL x1) (hrun : am_run PP MLL nn d' x1 0 (am_ent (MLL x1) (st.take x2).reverse) [] τ = some (rv, σ1)) (hmet : METS l G D cA d') (hc : cells + (sN σ1 - sN τ) ≤ R.cells) (hs : slots + (sU σ1 - sU τ) ≤ R.slots) (hfr : d' + 2 ≤ R.frames) (hlo : 60 * (d' + 2) ≤ R.locals)
    (K : ∀ (H' : Heap) (locs' : List Loc), Iv G D cA M s σ1 H' ls (rv.toList ++ st.drop x2) lsC locs' (cells + (sN σ1 - sN τ)) → W p l e R s m args below meth c H' locs' (cells + (sN σ1 - sN τ)) (slots + (sU σ1 - sU τ)) Q (F0 m (pcA M (i + 1)) lsC ((rv.toList ++ st.drop x2).map (tV G)))) : W p l e R s m args below meth c H locs cells slots Q (F0 m pc lsC (st.map (tV G))) := by
  refine W_bound (fun hbd => ?_)
  have hM := hmet x1 nn (st.take x2).reverse τ rv σ1 hy hb (fun v hv => I.2.2.2.2.1 v (List.mem_of_mem_take (List.mem_reverse.mp hv))) hrun
  have hmo := run_mono _ _ _ _ _ _ _ _ _ _ hrun
  obtain ⟨hx, hbc, hml, hown, hts, hSf, -, -⟩ := id C
  have hyr : x1 ∈ List.range 278 := List.mem_range.mpr hy
  have hm := ml_41 x1 (List.mem_range.mpr (by omega))
  have hR : (rmD d' (sN σ1 - sN τ) (sU σ1 - sU τ)).frames + 1 ≤ R.frames ∧ 8 + (MLL x1 + 11) + (rmD d' (sN σ1 - sN τ) (sU σ1 - sU τ)).locals ≤ R.locals := ⟨by show d' + 1 + 1 ≤ _; omega, by show 8 + (MLL x1 + 11) + 60 * (d' + 1) ≤ _; omega⟩
  have hini := hts _ (GW_of (tb_ini x1 hyr) rfl)
  have hstat := hts _ (GW_of (tb_stat x1 hst) rfl)
  have hAs : ((st.take x2).reverse.map (tV G)).length = m_n x1 := by rw [List.length_map, List.length_reverse, List.length_take, hx2]; omega
  rcases hlink with hl | ⟨q, hq, e1, e2, e3⟩
  · exact call_core hn (va_runS (As := (st.take x2).reverse.map (tV G)) ⟨hx, hbc, hml, hown, hts⟩ hM ⟨callB_of (m_n x1) hts (good_wsM hy) rfl rfl rfl hini (hts _ hl) (desc_of hy) hR, hstat⟩ ⟨Pc_blind, pre_at C I hbd⟩ rfl hAs I.2.2.2.2.2.2.1 (split_st x2) (room8 h8) hd ⟨hc, hs⟩) hmo hSf (I.drop x2) K
  · have hl : va_Nw (.methodLinkNest (oN (m_o M)) n (m_y x1) "WeighCourt") s := by
      have h := hSf.2.2.2.1 q hq
      rw [e1, e2, e3] at h
      exact h
    exact call_core hn (va_runSN (As := (st.take x2).reverse.map (tV G)) ⟨hx, hbc, hml, hown, hts⟩ hM ⟨va_cnB (m_n x1) hts (good_wsM hy) rfl rfl rfl hl hini (desc_of hy) hR, hstat, trivial⟩ ⟨Pc_blind, pre_at C I hbd⟩ rfl hAs I.2.2.2.2.2.2.1 (split_st x2) (room8 h8) hd ⟨hc, hs⟩) hmo hSf (I.drop x2) K
/-- the receiver and the rest -/
theorem recv_st {n t : Nat} (I : Iv G D cA M s τ H ls st lsC locs cells) (hg : (rg (am_recv (n + 1) st)).2.1 = t) (ht : t < 13) : ∃ k nn, k + 2 < sN τ ∧ sT τ (k + 2) = (t, nn) ∧ (st.take (n + 1)).reverse = qr (k + 2, t, nn) :: (st.take n).reverse ∧ st.map (tV G) = ((st.take n).reverse.map (tV G)).reverse ++ .ref (G.1 + k) :: (st.drop (n + 1)).map (tV G) := by
  have hd : ∃ o r, st.drop n = qo o :: r ∧ am_recv (n + 1) st = o := by
    unfold am_recv at hg ⊢
    rw [Nat.add_sub_cancel] at hg ⊢
    split at hg
    · rename_i o r heq
      exact ⟨o, r, heq, rfl⟩
    · exact absurd hg (by show ¬ 99 = t; omega)
  obtain ⟨o, r, hdr, ho⟩ := hd
  rw [ho] at hg
  have hmem : qo o ∈ st := List.mem_of_mem_drop (by rw [hdr]; exact List.mem_cons_self)
  obtain ⟨k, nn, rfl, hk, hT⟩ := ref_of I.1 (I.2.2.2.2.1 _ hmem) hg (by omega) (by omega)
  have hst : st = st.take n ++ qr (k + 2, t, nn) :: r := by rw [← hdr, List.take_append_drop]
  have hln : n < st.length := by
    have h := congrArg List.length hdr
    rw [List.length_drop, List.length_cons] at h
    omega
  have h1 : st.drop (n + 1) = r := by
    have h := congrArg (List.drop 1) hdr
    rw [List.drop_drop] at h
    exact h
  have h2 : st.take (n + 1) = st.take n ++ [qr (k + 2, t, nn)] := by
    rw [List.take_add_one, ← List.head?_drop, hdr]
    rfl
  refine ⟨k, nn, hk, hT, by rw [h2, List.reverse_append]; rfl, ?_⟩
  rw [h1, ← List.map_reverse, List.reverse_reverse]
  conv => lhs; rw [hst]
  rw [List.map_append, List.map_cons]
  rfl
theorem c_virt {x1 x2 n : Nat} {d' nn : Nat} (C : Cx p s m args meth c G D cA M) (hd : decode (m_bytes M) pc = .ok (.invokevirtual n, 3)) (hn : pcA M (i + 1) = pc + 3) (hy : x1 < 278) (hx2 : x2 = m_n x1 + 1) (hi : x1 ∈ m_insts) (hps : x1 ∈ m_pubs ∨ x1 ∈ m_prvs) (h13 : m_o x1 < 13) (hlink : Cond.methodLink (oN (m_o M)) n (m_y x1) ∈ GW)
    (hg : (rg (am_recv x2 st)).2.1 = m_o x1)
    (h8 : am_cats (st.drop x2) ≤ 8) (hlen : x2 ≤ st.length) (I : Iv G D cA M s τ H ls st lsC locs cells) (hb : (am_args (st.take x2).reverse).length ≤ MLL x1) (hrun : am_run PP MLL nn d' x1 0 (am_ent (MLL x1) (st.take x2).reverse) [] τ = some (rv, σ1)) (hmet : METS l G D cA d') (hc : cells + (sN σ1 - sN τ) ≤ R.cells) (hs : slots + (sU σ1 - sU τ) ≤ R.slots) (hfr : d' + 2 ≤ R.frames) (hlo : 60 * (d' + 2) ≤ R.locals)
    (K : ∀ (H' : Heap) (locs' : List Loc), Iv G D cA M s σ1 H' ls (rv.toList ++ st.drop x2) lsC locs' (cells + (sN σ1 - sN τ)) → W p l e R s m args below meth c H' locs' (cells + (sN σ1 - sN τ)) (slots + (sU σ1 - sU τ)) Q (F0 m (pcA M (i + 1)) lsC ((rv.toList ++ st.drop x2).map (tV G)))) : W p l e R s m args below meth c H locs cells slots Q (F0 m pc lsC (st.map (tV G))) := by
  refine W_bound (fun hbd => ?_)
  have hM := hmet x1 nn (st.take x2).reverse τ rv σ1 hy hb (fun v hv => I.2.2.2.2.1 v (List.mem_of_mem_take (List.mem_reverse.mp hv))) hrun
  have hmo := run_mono _ _ _ _ _ _ _ _ _ _ hrun
  obtain ⟨hx, hbc, hml, hown, hts, hSf, -, -⟩ := id C
  have hyr : x1 ∈ List.range 278 := List.mem_range.mpr hy
  have hm := ml_41 x1 (List.mem_range.mpr (by omega))
  have hR : (rmD d' (sN σ1 - sN τ) (sU σ1 - sU τ)).frames + 1 ≤ R.frames ∧ 8 + (MLL x1 + 11) + (rmD d' (sN σ1 - sN τ) (sU σ1 - sU τ)).locals ≤ R.locals := ⟨by show d' + 1 + 1 ≤ _; omega, by show 8 + (MLL x1 + 11) + 60 * (d' + 1) ≤ _; omega⟩
  have hini := hts _ (GW_of (tb_ini x1 hyr) rfl)
  have hinst := hts _ (GW_of (tb_inst x1 hi) rfl)
  have hselw : (Cond.selects (m_y x1).cls (m_y x1) (m_y x1)).before args s = true := by
    rcases hps with h | h
    · exact hts _ (GW_of (tb_sel x1 h) rfl)
    · exact hts _ (GW_of2 (tb_prv x1 h) rfl)
  subst hx2
  obtain ⟨k, nn2, hk, hT, hvs, hstk⟩ := recv_st I hg h13
  have hAs : ((st.take (m_n x1)).reverse.map (tV G)).length = m_n x1 := by rw [List.length_map, List.length_reverse, List.length_take]; omega
  have hrecv : ∃ cellB : Cell, H[G.1 + k]? = some cellB ∧ cellB.vm.isStatics = false ∧ s.vm.findClass (m_y x1).cls = some cellB.cls := by
    have h := va_recv hSf.1 I.1.2.1 (vw_at h13) (he := by rw [wsA_at hk, ent_obj hT h13])
    rw [← own_cls (show x1 < 279 by omega), own_cR _ h13]
    exact h
  have hpre := pre_at (vs := (st.take (m_n x1 + 1)).reverse) C I hbd
  rw [hvs] at hpre hM
  exact call_core hn (va_runV (As := (st.take (m_n x1)).reverse.map (tV G)) ⟨hx, hbc, hml, hown, hts⟩ hM ⟨callB_of (m_n x1) hts (good_wsM hy) rfl rfl rfl hini (hts _ hlink) (desc_of hy) hR, hinst, hselw⟩ ⟨Pc_blind, hrecv, hpre⟩ rfl hAs I.2.2.2.2.2.2.1 hstk (room8 h8) hd ⟨hc, hs⟩) hmo hSf (I.drop _) K
theorem c_spec {x1 x2 n : Nat} {d' nn : Nat} (C : Cx p s m args meth c G D cA M) (hd : decode (m_bytes M) pc = .ok (.invokespecial n, 3)) (hn : pcA M (i + 1) = pc + 3) (hy : x1 < 278) (hx2 : x2 = m_n x1 + 1) (hi : x1 ∈ m_insts) (hin : x1 ∈ m_inis) (h13 : m_o x1 < 13) (hlink : Cond.methodLink (oN (m_o M)) n (m_y x1) ∈ GW)
    (hg : (rg (am_recv x2 st)).2.1 = m_o x1)
    (h8 : am_cats (st.drop x2) ≤ 8) (hlen : x2 ≤ st.length) (I : Iv G D cA M s τ H ls st lsC locs cells) (hb : (am_args (st.take x2).reverse).length ≤ MLL x1) (hrun : am_run PP MLL nn d' x1 0 (am_ent (MLL x1) (st.take x2).reverse) [] τ = some (rv, σ1)) (hmet : METS l G D cA d') (hc : cells + (sN σ1 - sN τ) ≤ R.cells) (hs : slots + (sU σ1 - sU τ) ≤ R.slots) (hfr : d' + 2 ≤ R.frames) (hlo : 60 * (d' + 2) ≤ R.locals)
    (K : ∀ (H' : Heap) (locs' : List Loc), Iv G D cA M s σ1 H' ls (rv.toList ++ st.drop x2) lsC locs' (cells + (sN σ1 - sN τ)) → W p l e R s m args below meth c H' locs' (cells + (sN σ1 - sN τ)) (slots + (sU σ1 - sU τ)) Q (F0 m (pcA M (i + 1)) lsC ((rv.toList ++ st.drop x2).map (tV G)))) : W p l e R s m args below meth c H locs cells slots Q (F0 m pc lsC (st.map (tV G))) := by
  refine W_bound (fun hbd => ?_)
  have hM := hmet x1 nn (st.take x2).reverse τ rv σ1 hy hb (fun v hv => I.2.2.2.2.1 v (List.mem_of_mem_take (List.mem_reverse.mp hv))) hrun
  have hmo := run_mono _ _ _ _ _ _ _ _ _ _ hrun
  obtain ⟨hx, hbc, hml, hown, hts, hSf, -, -⟩ := id C
  have hyr : x1 ∈ List.range 278 := List.mem_range.mpr hy
  have hm := ml_41 x1 (List.mem_range.mpr (by omega))
  have hR : (rmD d' (sN σ1 - sN τ) (sU σ1 - sU τ)).frames + 1 ≤ R.frames ∧ 8 + (MLL x1 + 11) + (rmD d' (sN σ1 - sN τ) (sU σ1 - sU τ)).locals ≤ R.locals := ⟨by show d' + 1 + 1 ≤ _; omega, by show 8 + (MLL x1 + 11) + 60 * (d' + 1) ≤ _; omega⟩
  have hini := hts _ (GW_of (tb_ini x1 hyr) rfl)
  have hinst := hts _ (GW_of (tb_inst x1 hi) rfl)
  subst hx2
  obtain ⟨k, nn2, hk, hT, hvs, hstk⟩ := recv_st I hg h13
  have hAs : ((st.take (m_n x1)).reverse.map (tV G)).length = m_n x1 := by rw [List.length_map, List.length_reverse, List.length_take]; omega
  have hpre := pre_at (vs := (st.take (m_n x1 + 1)).reverse) C I hbd
  rw [hvs] at hpre hM
  have hw : wsM x1 = Cond.code (m_y x1) (m_bytes x1) (MLL x1) none :: GW := by unfold wsM; rw [inis_ret x1 hin]
  exact call_core hn (va_runI (b := G.1 + k) (As := (st.take (m_n x1)).reverse.map (tV G)) ⟨hx, hbc, hml, hown, hts⟩ hM ⟨callB_of (m_n x1) hts (good_wsM hy) hw rfl rfl hini (hts _ hlink) (desc_of hy) hR, tb_init x1 hin, hinst⟩ ⟨Pc_blind, hpre⟩ rfl hAs I.2.2.2.2.2.2.1 hstk (room8 h8) hd ⟨hc, hs⟩) hmo hSf (I.drop _) K
set_option maxHeartbeats 4000000 in
theorem am_sound_call {q : Nat × List am_V × Nat × Nat × am_L × List am_V} {d' nn : Nat} (C : Cx p s m args meth c G D cA M) (he : PP M i = some x) (hsel : am_sel (am_step x i ls st τ) = some (.inr (.inr q))) (I : Iv G D cA M s τ H ls st lsC locs cells) (hb : (am_args q.2.1).length ≤ MLL q.1) (hrun : am_run PP MLL nn d' q.1 0 (am_ent (MLL q.1) q.2.1) [] τ = some (rv, σ1)) (hmet : METS l G D cA d') (hc : cells + (sN σ1 - sN τ) ≤ R.cells) (hs : slots + (sU σ1 - sU τ) ≤ R.slots) (hfr : d' + 2 ≤ R.frames) (hlo : 60 * (d' + 2) ≤ R.locals)
    (K : ∀ (H' : Heap) (locs' : List Loc), Iv G D cA M s σ1 H' q.2.2.2.2.1 (rv.toList ++ q.2.2.2.2.2) lsC locs' (cells + (sN σ1 - sN τ)) → W p l e R s m args below meth c H' locs' (cells + (sN σ1 - sN τ)) (slots + (sU σ1 - sU τ)) Q (F0 m (pcA M q.2.2.2.1) lsC ((rv.toList ++ q.2.2.2.2.2).map (tV G)))) : W p l e R s m args below meth c H locs cells slots Q (F0 m (pcA M i) lsC (st.map (tV G))) := by
  have hM : M < 279 := C.2.2.2.2.2.2.2
  have hd0 := tf_dec hM he
  have hk0 := tf_chk hM he
  rw [tf_pc he]
  clear he
  obtain ⟨ins, pc, x1, x2, x3, k, ts, cut⟩ := x
  dsimp only at hd0 hk0 ⊢
  cases ins with
  | invokestatic n =>
    have hd := hd0 (by intro h; cases h)
    obtain ⟨hJ, hW⟩ := hk0 (by intro h; cases h)
    have hW : ((decide (k = 1) && PLs.any (fun q => Nat.beq q.1 (m_o M) && Nat.beq q.2.1 n)) || (decide (k = 0) && Nat.blt x1 278 && Nat.beq x2 (m_n x1) && m_stats.contains x1 && (SLs.any (fun q => Nat.beq q.1 (m_o M) && Nat.beq q.2.1 n && Nat.beq q.2.2.1 x1) || TLs.any (fun q => Nat.beq q.1 (m_o M) && Nat.beq q.2.1 n && Nat.beq q.2.2.1 x1)))) = true := hW
    rw [Bool.or_eq_true] at hW
    rcases hW with hW | hW
    · exfalso
      rw [Bool.and_eq_true] at hW
      have w1 := of_decide_eq_true hW.1
      subst w1
      have h : am_sel (am_copy i ls st τ) = some (.inr (.inr q)) := hsel
      unfold am_copy at h
      split at h
      · split at h
        · cases (sel_gd h).2
        · cases h
      · cases h
    · simp only [Bool.and_eq_true, Bool.or_eq_true] at hW
      obtain ⟨⟨⟨⟨w1, w2⟩, w3⟩, w4⟩, w5⟩ := hW
      have w1 := of_decide_eq_true w1
      subst w1
      obtain ⟨-, h8, hlen, rfl⟩ := call_sel (show am_sel (am_call none (.invokestatic n, pc, x1, x2, x3, 0, ts, cut) i ls st) = some (.inr (.inr q)) from hsel)
      exact c_static C hd (of_decide_eq_true hJ) (Nat.le_of_ble_eq_true w2) (Nat.eq_of_beq_eq_true w3) (List.contains_iff_mem.mp w4) (w5.imp SL_of any3) h8 hlen I hb hrun hmet hc hs hfr hlo K
  | invokespecial n =>
    have hd := hd0 (by intro h; cases h)
    obtain ⟨hJ, hW⟩ := hk0 (by intro h; cases h)
    have hW : ((decide (k = 1) && OLs.any (fun q => Nat.beq q.1 (m_o M) && Nat.beq q.2.1 n)) || (decide (k = 100 + (m_o x1 : Nat)) && Nat.blt (m_o x1) 13 && Nat.blt x1 278 && Nat.beq x2 (m_n x1 + 1) && m_insts.contains x1 && m_inis.contains x1 && ILs.any (fun q => Nat.beq q.1 (m_o M) && Nat.beq q.2.1 n && Nat.beq q.2.2.1 x1))) = true := hW
    rw [Bool.or_eq_true] at hW
    rcases hW with hW | hW
    · exfalso
      rw [Bool.and_eq_true] at hW
      have w1 := of_decide_eq_true hW.1
      subst w1
      have h : am_sel (am_objI i ls st τ) = some (.inr (.inr q)) := hsel
      unfold am_objI at h
      split at h
      · split at h
        · cases sel_nx h
        · cases h
      · cases h
    · simp only [Bool.and_eq_true] at hW
      obtain ⟨⟨⟨⟨⟨⟨w1, w2⟩, w3⟩, w4⟩, w5⟩, w6⟩, w7⟩ := hW
      have w1 := of_decide_eq_true w1
      have hne : k ≠ 1 := by omega
      have e1 : am_step (.invokespecial n, pc, x1, x2, x3, k, ts, cut) i ls st τ = am_call (some ((rg (am_recv x2 st)).2.1 = k.toNat - 100)) (.invokespecial n, pc, x1, x2, x3, k, ts, cut) i ls st := by
        unfold am_step
        dsimp only
        split
        · exact absurd rfl hne
        · rfl
      rw [e1] at hsel
      obtain ⟨hg, h8, hlen, rfl⟩ := call_sel hsel
      have hg : (rg (am_recv x2 st)).2.1 = k.toNat - 100 := hg
      exact c_spec C hd (of_decide_eq_true hJ) (Nat.le_of_ble_eq_true w3) (Nat.eq_of_beq_eq_true w4) (List.contains_iff_mem.mp w5) (List.contains_iff_mem.mp w6) (Nat.le_of_ble_eq_true w2) (IL_of w7) (by rw [hg]; omega) h8 hlen I hb hrun hmet hc hs hfr hlo K
  | invokevirtual n =>
    have hd := hd0 (by intro h; cases h)
    obtain ⟨hJ, hW⟩ := hk0 (by intro h; cases h)
    have hW : (decide (k = (m_o x1 : Nat)) && Nat.blt (m_o x1) 13 && Nat.blt x1 278 && Nat.beq x2 (m_n x1 + 1) && m_insts.contains x1 && (m_pubs.contains x1 || m_prvs.contains x1) && VLs.any (fun q => Nat.beq q.1 (m_o M) && Nat.beq q.2.1 n && Nat.beq q.2.2.1 x1)) = true := hW
    simp only [Bool.and_eq_true, Bool.or_eq_true] at hW
    obtain ⟨⟨⟨⟨⟨⟨w1, w2⟩, w3⟩, w4⟩, w5⟩, w6⟩, w7⟩ := hW
    have w1 := of_decide_eq_true w1
    obtain ⟨hg, h8, hlen, rfl⟩ := call_sel (show am_sel (am_call (some ((rg (am_recv x2 st)).2.1 = k.toNat)) (.invokevirtual n, pc, x1, x2, x3, k, ts, cut) i ls st) = some (.inr (.inr q)) from hsel)
    have hg : (rg (am_recv x2 st)).2.1 = k.toNat := hg
    exact c_virt C hd (of_decide_eq_true hJ) (Nat.le_of_ble_eq_true w3) (Nat.eq_of_beq_eq_true w4) (List.contains_iff_mem.mp w5) (w6.imp List.contains_iff_mem.mp List.contains_iff_mem.mp) (Nat.le_of_ble_eq_true w2) (VL_of w7) (by rw [hg]; omega) h8 hlen I hb hrun hmet hc hs hfr hlo K
  | _ => exact absurd hsel (nc_step rfl _)
end SIM
