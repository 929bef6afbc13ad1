/-! what the last part needs -/
theorem spec_no {n pc x1 x2 x3 : Nat} {k : Int} {ts : List Nat} {cut : Bool} (hk : k ≠ 1) (i : Nat) (ls : am_L) (st : List am_V) (τ : am_S) {q : Nat × am_L × List am_V × am_S} : ¬ am_sel (am_step (.invokespecial n, pc, x1, x2, x3, k, ts, cut) i ls st τ) = some (.inl q) := by
  intro h
  have e : am_step (.invokespecial n, pc, x1, x2, x3, k, ts, cut) i ls st τ = am_call (some ((rg (am_recv x2 st)).2.1 = k.toNat - 100)) (.invokespecial n, pc, x1, x2, x3, k, ts, cut) i ls st := by
    unfold am_step
    dsimp only
    split
    · exact absurd rfl hk
    · rfl
  rw [e] at h
  exact call_no _ _ _ _ _ h
section SIM
variable {p : Program} {l : Launch} {e : Env} {R : Room} {s : State} {m : MethodId} {args : Array Value} {below : List Frame} {meth : Method} {c : Code} {H : Heap} {locs : List Loc} {cells slots : Nat} {Q : State → Prop}
variable {G : tG} {D : va_G} {cA : Nat → ClassId} {M i i' pc n k : Nat} {ls ls' : am_L} {st st' : List am_V} {τ τ' : am_S} {lsC : Array Slot}
theorem s_lcmp0 {a b : Int} {rest : List Value} (C : Cx p s m args meth c G D cA M) (hd : decode (m_bytes M) pc = .ok (.lcmp, 1)) (ha : inL a) (hb : inL b) (kk : W p l e R s m args below meth c H locs cells slots Q (F0 m (pc + 1) lsC (.int (Int32.ofInt (a_cmp a b)) :: rest))) : W p l e R s m args below meth c H locs cells slots Q (F0 m pc lsC (.long (Int64.ofInt b) :: .long (Int64.ofInt a) :: rest)) := by
  refine W.lcmp C.1 C.2.1 hd ?_
  have e1 : lg_cmp (Int64.ofInt a) (Int64.ofInt b) = Int32.ofInt (a_cmp a b) := by
    unfold lg_cmp a_cmp
    simp only [l_lt ha hb, l_lt hb ha, l_eq ha hb]
    rcases Int.lt_trichotomy a b with h | h | h
    · simp [h, Int.not_lt.mpr (Int.le_of_lt h), Int.ne_of_lt h]
    · subst h; simp
    · simp [h, Int.not_lt.mpr (Int.le_of_lt h), (Int.ne_of_lt h).symm]
  rw [e1]
  exact kk
theorem s_gets {x : Nat} (C : Cx p s m args meth c G D cA M) (hd : decode (m_bytes M) pc = .ok (.getstatic x, 3)) (hn : pcA M (i + 1) = pc + 3) (h0 : m_o M = 0) (h43 : x = 43)
    (hsel : am_sel (am_nx (i + 1) ls (qr (1, 24, 7) :: st) τ) = some (.inl (i', ls', st', τ'))) (I : Iv G D cA M s τ H ls st lsC locs cells) (K : KT p l e R s m args below meth c Q G D cA M cells slots τ i' ls' st' τ') : W p l e R s m args below meth c H locs cells slots Q (F0 m pc lsC (st.map (tV G))) := by
  subst h43
  obtain ⟨hx, hb, -, hown, hts, hSf, -, -⟩ := id C
  rw [h0] at hown
  have hN : (Cond.fieldLinkNest "WeighCourt$Balance" 43 "WeighCourt" "ABOVE" "[I" "WeighCourt").before args s = true := va_Nw.use rfl hSf.2.2.2.2.1
  refine va_getsN (own := "WeighCourt$Balance") (v := .ref G.2.2) hx hb hSf.2.2.2.2.2.1 I.2.2.1 hown hN (fun _ h => h) hd ?_
  refine s_push (v := qr (1, 24, 7)) hn hsel (fun r hr => ?_) I K
  cases hr
  exact ⟨by have := I.1.1; show 1 < sN τ; omega, I.1.2.2.2.2.2.2⟩
theorem s_putall {x x1 x2 x3 : Nat} {kk : Int} {ts : List Nat} {cut : Bool} (C : Cx p s m args meth c G D cA M) (hd : decode (m_bytes M) pc = .ok (.putfield x, 3)) (hn : pcA M (i + 1) = pc + 3) (hF : Cond.fieldLink (oN (m_o M)) x (cT x1 x2).1 (cT x1 x2).2.1 (cT x1 x2).2.2.1 ∈ GW) (h13 : x1 < 13) (hj : x2 < cF x1) (hty : tyc (cY x1 x2) = x3)
    (hfin : (cT x1 x2).2.2.2 = false ∨ ((cT x1 x2).2.2.2 = true ∧ M ∈ m_inis ∧ m_o M = x1))
    (hsel : am_sel (am_put (.putfield x, pc, x1, x2, x3, kk, ts, cut) i ls st τ) = some (.inl (i', ls', st', τ'))) (I : Iv G D cA M s τ H ls st lsC locs cells) (K : KT p l e R s m args below meth c Q G D cA M cells slots τ i' ls' st' τ') : W p l e R s m args below meth c H locs cells slots Q (F0 m pc lsC (st.map (tV G))) := by
  have hok := okTys x1 h13 x2 hj
  unfold am_put at hsel
  dsimp only at hsel
  split at hsel
  · refine s_putfI C hd hn hF h13 hj (by rw [hty]; decide) hfin id (fun _ => ?_) hsel I K
    generalize cY x1 x2 = ty at hok hty
    cases ty with
    | int => exact ⟨rfl, rfl⟩
    | object _ => simp [tyc] at hty
    | array _ => simp [tyc] at hty
    | boolean => exact absurd hty (by decide)
    | _ => exact absurd hok (by decide)
  · refine s_putfI C hd hn hF h13 hj (by rw [hty]; decide) hfin (fun h => h.1) (fun h => ?_) hsel I K
    generalize cY x1 x2 = ty at hok hty
    cases ty with
    | boolean =>
      rcases h.2 with rfl | rfl
      · exact ⟨rfl, rfl⟩
      · exact ⟨rfl, rfl⟩
    | int => exact absurd hty (by decide)
    | object _ => simp [tyc] at hty
    | array _ => simp [tyc] at hty
    | _ => exact absurd hok (by decide)
  · exact s_putfR C hd hn hF h13 hj hty hfin hsel I K
  · cases hsel
end SIM
/-! one instruction, whichever it is -/
section SIM
variable {p : Program} {l : Launch} {e : Env} {R : Room} {s : State} {m : MethodId} {args : Array Value} {below : List Frame} {meth : Method} {c : Code} {H : Heap} {locs : List Loc} {cells slots : Nat} {Q : State → Prop}
variable {G : tG} {D : va_G} {cA : Nat → ClassId} {M i i' : Nat} {ls ls' : am_L} {st st' : List am_V} {τ τ' : am_S} {lsC : Array Slot} {x : am_I}
set_option maxHeartbeats 4000000 in
theorem am_sound_step (C : Cx p s m args meth c G D cA M) (he : PP M i = some x) (hsel : am_sel (am_step x i ls st τ) = some (.inl (i', ls', st', τ'))) (I : Iv G D cA M s τ H ls st lsC locs cells) (hc : cells + (sN τ' - sN τ) ≤ R.cells) (hs : slots + (sU τ' - sU τ) ≤ R.slots) (hfr : 1 ≤ R.frames) (hlo : 60 ≤ R.locals)
    (K : KT p l e R s m args below meth c Q G D cA M cells slots τ i' ls' st' τ') : W p l e R s m args below meth c H locs cells slots Q (F0 m (pcA M i) lsC (st.map (tV G))) := by
  have hM : M < 279 := C.2.2.2.2.2.2.2
  have hd0 := tf_dec hM he
  have hk0 := tf_chk hM he
  rw [tf_pc he]
  clear he
  obtain ⟨ins, pc, x1, x2, x3, k, ts, cut⟩ := x
  dsimp only at hd0 hk0 ⊢
  cases ins with
  | iadd =>
    have hd := hd0 (by intro h; cases h)
    obtain ⟨hJ, hW⟩ := hk0 (by intro h; cases h)
    clear hd0 hk0
    exact s_bin (fun x y r kk => lv_iadd C.1 C.2.1 hd kk) (fun a b ha hb => n_add a b) (fun a b ha hb => inI_w _) (of_decide_eq_true hJ) hsel I K
  | isub =>
    have hd := hd0 (by intro h; cases h)
    obtain ⟨hJ, hW⟩ := hk0 (by intro h; cases h)
    clear hd0 hk0
    exact s_bin (fun x y r kk => lv_isub C.1 C.2.1 hd kk) (fun a b ha hb => n_sub a b) (fun a b ha hb => inI_w _) (of_decide_eq_true hJ) hsel I K
  | imul =>
    have hd := hd0 (by intro h; cases h)
    obtain ⟨hJ, hW⟩ := hk0 (by intro h; cases h)
    clear hd0 hk0
    exact s_bin (fun x y r kk => lv_imul C.1 C.2.1 hd kk) (fun a b ha hb => n_mul a b) (fun a b ha hb => inI_w _) (of_decide_eq_true hJ) hsel I K
  | iand =>
    have hd := hd0 (by intro h; cases h)
    obtain ⟨hJ, hW⟩ := hk0 (by intro h; cases h)
    clear hd0 hk0
    exact s_bin (fun x y r kk => lv_iand C.1 C.2.1 hd kk) (fun a b ha hb => (n_o _).symm) (fun a b ha hb => n_r _) (of_decide_eq_true hJ) hsel I K
  | ior =>
    have hd := hd0 (by intro h; cases h)
    obtain ⟨hJ, hW⟩ := hk0 (by intro h; cases h)
    clear hd0 hk0
    exact s_bin (fun x y r kk => lv_ior C.1 C.2.1 hd kk) (fun a b ha hb => (n_o _).symm) (fun a b ha hb => n_r _) (of_decide_eq_true hJ) hsel I K
  | ixor =>
    have hd := hd0 (by intro h; cases h)
    obtain ⟨hJ, hW⟩ := hk0 (by intro h; cases h)
    clear hd0 hk0
    exact s_bin (fun x y r kk => lv_ixor C.1 C.2.1 hd kk) (fun a b ha hb => (n_o _).symm) (fun a b ha hb => n_r _) (of_decide_eq_true hJ) hsel I K
  | ishl =>
    have hd := hd0 (by intro h; cases h)
    obtain ⟨hJ, hW⟩ := hk0 (by intro h; cases h)
    clear hd0 hk0
    exact s_bin (fun x y r kk => lv_ishl C.1 C.2.1 hd kk) (fun a b ha hb => (n_o _).symm) (fun a b ha hb => n_r _) (of_decide_eq_true hJ) hsel I K
  | ishr =>
    have hd := hd0 (by intro h; cases h)
    obtain ⟨hJ, hW⟩ := hk0 (by intro h; cases h)
    clear hd0 hk0
    exact s_bin (fun x y r kk => lv_ishr C.1 C.2.1 hd kk) (fun a b ha hb => (n_o _).symm) (fun a b ha hb => n_r _) (of_decide_eq_true hJ) hsel I K
  | iushr =>
    have hd := hd0 (by intro h; cases h)
    obtain ⟨hJ, hW⟩ := hk0 (by intro h; cases h)
    clear hd0 hk0
    exact s_bin (fun x y r kk => lv_iushr C.1 C.2.1 hd rfl kk) (fun a b ha hb => (n_o _).symm) (fun a b ha hb => n_r _) (of_decide_eq_true hJ) hsel I K
  | ladd =>
    have hd := hd0 (by intro h; cases h)
    obtain ⟨hJ, hW⟩ := hk0 (by intro h; cases h)
    clear hd0 hk0
    exact s_lbin (fun x y r kk => lv_ladd C.1 C.2.1 hd kk) (fun a b ha hb => l_add a b) (fun a b ha hb => inL_w _) (of_decide_eq_true hJ) hsel I K
  | lsub =>
    have hd := hd0 (by intro h; cases h)
    obtain ⟨hJ, hW⟩ := hk0 (by intro h; cases h)
    clear hd0 hk0
    exact s_lbin (fun x y r kk => lv_lsub C.1 C.2.1 hd kk) (fun a b ha hb => l_sub a b) (fun a b ha hb => inL_w _) (of_decide_eq_true hJ) hsel I K
  | lmul =>
    have hd := hd0 (by intro h; cases h)
    obtain ⟨hJ, hW⟩ := hk0 (by intro h; cases h)
    clear hd0 hk0
    exact s_lbin (fun x y r kk => lv_lmul C.1 C.2.1 hd kk) (fun a b ha hb => l_mul a b) (fun a b ha hb => inL_w _) (of_decide_eq_true hJ) hsel I K
  | land =>
    have hd := hd0 (by intro h; cases h)
    obtain ⟨hJ, hW⟩ := hk0 (by intro h; cases h)
    clear hd0 hk0
    exact s_lbin (fun x y r kk => lv_land C.1 C.2.1 hd kk) (fun a b ha hb => (l_o _).symm) (fun a b ha hb => l_r _) (of_decide_eq_true hJ) hsel I K
  | lor =>
    have hd := hd0 (by intro h; cases h)
    obtain ⟨hJ, hW⟩ := hk0 (by intro h; cases h)
    clear hd0 hk0
    exact s_lbin (fun x y r kk => lv_lor C.1 C.2.1 hd kk) (fun a b ha hb => (l_o _).symm) (fun a b ha hb => l_r _) (of_decide_eq_true hJ) hsel I K
  | lxor =>
    have hd := hd0 (by intro h; cases h)
    obtain ⟨hJ, hW⟩ := hk0 (by intro h; cases h)
    clear hd0 hk0
    exact s_lbin (fun x y r kk => lv_lxor C.1 C.2.1 hd kk) (fun a b ha hb => (l_o _).symm) (fun a b ha hb => l_r _) (of_decide_eq_true hJ) hsel I K
  | lshl =>
    have hd := hd0 (by intro h; cases h)
    obtain ⟨hJ, hW⟩ := hk0 (by intro h; cases h)
    clear hd0 hk0
    exact s_lsh (fun x y r kk => lv_lshl C.1 C.2.1 hd rfl kk) (fun a b ha hb => (l_o _).symm) (fun a b ha hb => l_r _) (of_decide_eq_true hJ) hsel I K
  | lshr =>
    have hd := hd0 (by intro h; cases h)
    obtain ⟨hJ, hW⟩ := hk0 (by intro h; cases h)
    clear hd0 hk0
    exact s_lsh (fun x y r kk => lv_lshr C.1 C.2.1 hd rfl kk) (fun a b ha hb => (l_o _).symm) (fun a b ha hb => l_r _) (of_decide_eq_true hJ) hsel I K
  | lushr =>
    have hd := hd0 (by intro h; cases h)
    obtain ⟨hJ, hW⟩ := hk0 (by intro h; cases h)
    clear hd0 hk0
    exact s_lsh (fun x y r kk => lv_lushr C.1 C.2.1 hd rfl kk) (fun a b ha hb => (l_o _).symm) (fun a b ha hb => l_r _) (of_decide_eq_true hJ) hsel I K
  | idiv =>
    have hd := hd0 (by intro h; cases h)
    obtain ⟨hJ, hW⟩ := hk0 (by intro h; cases h)
    clear hd0 hk0
    exact s_bing (g0 := fun a b => b ≠ 0) (fun a b r ha hb hg kk => lv_idiv C.1 C.2.1 hd (fun h => hg ((n_0 hb).mp h)) kk) (fun a b ha hb => n_div ha hb) (fun a b ha hb _ => inI_w _) (of_decide_eq_true hJ) hsel I K
  | irem =>
    have hd := hd0 (by intro h; cases h)
    obtain ⟨hJ, hW⟩ := hk0 (by intro h; cases h)
    clear hd0 hk0
    exact s_bing (g0 := fun a b => b ≠ 0) (g := fun x y => x - x / y * y) (fun a b r ha hb hg kk => lv_irem C.1 C.2.1 hd (fun h => hg ((n_0 hb).mp h)) kk) (fun a b ha hb => n_rem ha hb) (fun a b ha hb hg => inI_tmod ha hg) (of_decide_eq_true hJ) hsel I K
  | ineg =>
    have hd := hd0 (by intro h; cases h)
    obtain ⟨hJ, hW⟩ := hk0 (by intro h; cases h)
    clear hd0 hk0
    exact s_un (f := fun a => w32 (-a)) (fun a r ha kk => lv_ineg C.1 C.2.1 hd (by rw [n_neg]; exact kk)) (fun a _ => inI_w _) (of_decide_eq_true hJ) hsel I K
  | i2l =>
    have hd := hd0 (by intro h; cases h)
    obtain ⟨hJ, hW⟩ := hk0 (by intro h; cases h)
    clear hd0 hk0
    exact s_i2l (fun a r ha kk => lv_i2l C.1 C.2.1 hd (n_i2l ha) kk) (of_decide_eq_true hJ) hsel I K
  | l2i =>
    have hd := hd0 (by intro h; cases h)
    obtain ⟨hJ, hW⟩ := hk0 (by intro h; cases h)
    clear hd0 hk0
    exact s_l2i (fun a r ha kk => lv_l2i C.1 C.2.1 hd (n_l2i ha) kk) (of_decide_eq_true hJ) hsel I K
  | lcmp =>
    have hd := hd0 (by intro h; cases h)
    obtain ⟨hJ, hW⟩ := hk0 (by intro h; cases h)
    clear hd0 hk0
    exact s_lcmp (fun a b r ha hb kk => s_lcmp0 C hd ha hb kk) (of_decide_eq_true hJ) hsel I K
  | iconst n =>
    have hd := hd0 (by intro h; cases h)
    obtain ⟨hJ, hW⟩ := hk0 (by intro h; cases h)
    clear hd0 hk0
    have hW : k = n ∧ -128 ≤ n ∧ n < 128 := of_decide_eq_true hW
    obtain ⟨rfl, h1, h2⟩ := hW
    refine lv_iconst C.1 C.2.1 hd rfl ?_
    exact s_push (v := qi k) (of_decide_eq_true hJ) hsel (by show inI k; unfold inI; omega) I K
  | bipush n =>
    have hd := hd0 (by intro h; cases h)
    obtain ⟨hJ, hW⟩ := hk0 (by intro h; cases h)
    clear hd0 hk0
    have hW : k = n ∧ -128 ≤ n ∧ n < 128 := of_decide_eq_true hW
    obtain ⟨rfl, h1, h2⟩ := hW
    refine lv_bipush C.1 C.2.1 hd (n_i8 ⟨h1, h2⟩) ?_
    exact s_push (v := qi k) (of_decide_eq_true hJ) hsel (by show inI k; unfold inI; omega) I K
  | sipush n =>
    have hd := hd0 (by intro h; cases h)
    obtain ⟨hJ, hW⟩ := hk0 (by intro h; cases h)
    clear hd0 hk0
    have hW : k = n ∧ -32768 ≤ n ∧ n < 32768 := of_decide_eq_true hW
    obtain ⟨rfl, h1, h2⟩ := hW
    refine lv_sipush C.1 C.2.1 hd (n_i16 ⟨h1, h2⟩) ?_
    exact s_push (v := qi k) (of_decide_eq_true hJ) hsel (by show inI k; unfold inI; omega) I K
  | lconst n =>
    have hd := hd0 (by intro h; cases h)
    obtain ⟨hJ, hW⟩ := hk0 (by intro h; cases h)
    clear hd0 hk0
    have hk : k = (n.val : Nat) := of_decide_eq_true hW
    refine lv_lconst (v := Int64.ofInt k) C.1 C.2.1 hd ?_ ?_
    · rw [hk]
      have h2 := n.isLt
      rcases (show n.val = 0 ∨ n.val = 1 by omega) with h | h <;> rw [h] <;> rfl
    · exact s_push (v := ql k) (of_decide_eq_true hJ) hsel (by show inL k; rw [hk]; have := n.isLt; unfold inL; omega) I K
  | ldc n =>
    have hd := hd0 (by intro h; cases h)
    obtain ⟨hJ, hW⟩ := hk0 (by intro h; cases h)
    clear hd0 hk0
    have hW : (KLs.any (fun q => Nat.beq q.1 (m_o M) && Nat.beq q.2.1 n && decide (q.2.2.1 = k)) && decide (-2147483648 ≤ k ∧ k < 2147483648)) = true := hW
    rw [Bool.and_eq_true] at hW
    refine lv_ldc C.1 C.2.1 C.2.2.2.1 (C.2.2.2.2.1 _ (KL_of hW.1)) hd ?_
    exact s_push (v := qi k) (of_decide_eq_true hJ) hsel (show inI k from (of_decide_eq_true hW.2 : -2147483648 ≤ k ∧ k < 2147483648)) I K
  | ldc_w n =>
    have hd := hd0 (by intro h; cases h)
    obtain ⟨hJ, hW⟩ := hk0 (by intro h; cases h)
    clear hd0 hk0
    have hW : (KLs.any (fun q => Nat.beq q.1 (m_o M) && Nat.beq q.2.1 n && decide (q.2.2.1 = k)) && decide (-2147483648 ≤ k ∧ k < 2147483648)) = true := hW
    rw [Bool.and_eq_true] at hW
    refine lv_ldcw C.1 C.2.1 C.2.2.2.1 (C.2.2.2.2.1 _ (KL_of hW.1)) hd ?_
    exact s_push (v := qi k) (of_decide_eq_true hJ) hsel (show inI k from (of_decide_eq_true hW.2 : -2147483648 ≤ k ∧ k < 2147483648)) I K
  | ldc2_w n =>
    have hd := hd0 (by intro h; cases h)
    obtain ⟨hJ, hW⟩ := hk0 (by intro h; cases h)
    clear hd0 hk0
    have hW : (JLs.any (fun q => Nat.beq q.1 (m_o M) && Nat.beq q.2.1 n && decide (q.2.2.1 = k)) && decide (-9223372036854775808 ≤ k ∧ k < 9223372036854775808)) = true := hW
    rw [Bool.and_eq_true] at hW
    refine lv_ldc2 C.1 C.2.1 C.2.2.2.1 (C.2.2.2.2.1 _ (JL_of hW.1)) hd ?_
    exact s_push (v := ql k) (of_decide_eq_true hJ) hsel (show inL k from (of_decide_eq_true hW.2 : -9223372036854775808 ≤ k ∧ k < 9223372036854775808)) I K
  | aconst_null =>
    have hd := hd0 (by intro h; cases h)
    obtain ⟨hJ, hW⟩ := hk0 (by intro h; cases h)
    clear hd0 hk0
    refine lv_null C.1 C.2.1 hd ?_
    exact s_push (v := qo none) (of_decide_eq_true hJ) hsel (fun r h => by cases h) I K
  | iload j =>
    have hd := hd0 (by intro h; cases h)
    obtain ⟨hJ, hW⟩ := hk0 (by intro h; cases h)
    clear hd0 hk0
    exact s_ild (x := (.iload j, pc, x1, x2, x3, k, ts, cut)) (n := 2) (of_decide_eq_true hJ) (fun v h kk => lv_iload C.1 C.2.1 hd h kk) hsel I K
  | iload_n j =>
    have hd := hd0 (by intro h; cases h)
    obtain ⟨hJ, hW⟩ := hk0 (by intro h; cases h)
    clear hd0 hk0
    exact s_ild (x := (.iload_n j, pc, x1, x2, x3, k, ts, cut)) (n := 1) (of_decide_eq_true hJ) (fun v h kk => lv_iload_n C.1 C.2.1 hd rfl h kk) hsel I K
  | lload j =>
    have hd := hd0 (by intro h; cases h)
    obtain ⟨hJ, hW⟩ := hk0 (by intro h; cases h)
    clear hd0 hk0
    exact s_lld (x := (.lload j, pc, x1, x2, x3, k, ts, cut)) (n := 2) (of_decide_eq_true hJ) (fun v h kk => lv_lload C.1 C.2.1 hd h kk) hsel I K
  | lload_n j =>
    have hd := hd0 (by intro h; cases h)
    obtain ⟨hJ, hW⟩ := hk0 (by intro h; cases h)
    clear hd0 hk0
    exact s_lld (x := (.lload_n j, pc, x1, x2, x3, k, ts, cut)) (n := 1) (of_decide_eq_true hJ) (fun v h kk => lv_lload_n C.1 C.2.1 hd rfl h kk) hsel I K
  | aload j =>
    have hd := hd0 (by intro h; cases h)
    obtain ⟨hJ, hW⟩ := hk0 (by intro h; cases h)
    clear hd0 hk0
    exact s_ald (x := (.aload j, pc, x1, x2, x3, k, ts, cut)) (n := 2) (of_decide_eq_true hJ) (fun h kk => lv_aloadN C.1 C.2.1 hd h kk) (fun v h kk => lv_aload C.1 C.2.1 hd h kk) hsel I K
  | aload_n j =>
    have hd := hd0 (by intro h; cases h)
    obtain ⟨hJ, hW⟩ := hk0 (by intro h; cases h)
    clear hd0 hk0
    exact s_ald (x := (.aload_n j, pc, x1, x2, x3, k, ts, cut)) (n := 1) (of_decide_eq_true hJ) (fun h kk => lv_aload_nN C.1 C.2.1 hd rfl h kk) (fun v h kk => lv_aload_n C.1 C.2.1 hd rfl h kk) hsel I K
  | istore j =>
    have hd := hd0 (by intro h; cases h)
    obtain ⟨hJ, hW⟩ := hk0 (by intro h; cases h)
    clear hd0 hk0
    obtain ⟨a, t, rfl, hs1⟩ := sel_i1 hsel
    exact s_st1 (n := 2) (v := qi a) rfl (extra := []) (fun q hq => by cases hq) (of_decide_eq_true hJ) I.top hs1 I.pop K (fun hh kk => lv_istore C.1 C.2.1 hd hh (Nat.le_of_ble_eq_true hW) rfl kk)
  | istore_n j =>
    have hd := hd0 (by intro h; cases h)
    obtain ⟨hJ, hW⟩ := hk0 (by intro h; cases h)
    clear hd0 hk0
    obtain ⟨a, t, rfl, hs1⟩ := sel_i1 hsel
    exact s_st1 (n := 1) (v := qi a) rfl (extra := []) (fun q hq => by cases hq) (of_decide_eq_true hJ) I.top hs1 I.pop K (fun hh kk => lv_istore_n C.1 C.2.1 hd rfl hh (Nat.le_of_ble_eq_true hW) rfl kk)
  | lstore j =>
    have hd := hd0 (by intro h; cases h)
    obtain ⟨hJ, hW⟩ := hk0 (by intro h; cases h)
    clear hd0 hk0
    obtain ⟨a, t, rfl, hs1⟩ := sel_l1 hsel
    exact s_st2 (n := 2) (v := ql a) rfl (of_decide_eq_true hJ) I.top hs1 I.pop K (fun hh kk => lv_lstore C.1 C.2.1 hd hh (Nat.le_of_ble_eq_true hW) rfl kk)
  | lstore_n j =>
    have hd := hd0 (by intro h; cases h)
    obtain ⟨hJ, hW⟩ := hk0 (by intro h; cases h)
    clear hd0 hk0
    obtain ⟨a, t, rfl, hs1⟩ := sel_l1 hsel
    exact s_st2 (n := 1) (v := ql a) rfl (of_decide_eq_true hJ) I.top hs1 I.pop K (fun hh kk => lv_lstore_n C.1 C.2.1 hd rfl hh (Nat.le_of_ble_eq_true hW) rfl kk)
  | astore j =>
    have hd := hd0 (by intro h; cases h)
    obtain ⟨hJ, hW⟩ := hk0 (by intro h; cases h)
    clear hd0 hk0
    obtain ⟨a, t, rfl, hs1⟩ := sel_o1 hsel
    cases a with
    | none => exact s_st1 (n := 2) (v := qo none) rfl (extra := []) (fun q hq => by cases hq) (of_decide_eq_true hJ) I.top hs1 I.pop K (fun hh kk => lv_astoreN C.1 C.2.1 hd hh (Nat.le_of_ble_eq_true hW) rfl kk)
    | some r => exact s_st1 (n := 2) (v := qo (some r)) rfl (extra := []) (fun q hq => by cases hq) (of_decide_eq_true hJ) I.top hs1 I.pop K (fun hh kk => lv_astore C.1 C.2.1 hd hh (Nat.le_of_ble_eq_true hW) rfl kk)
  | astore_n j =>
    have hd := hd0 (by intro h; cases h)
    obtain ⟨hJ, hW⟩ := hk0 (by intro h; cases h)
    clear hd0 hk0
    obtain ⟨a, t, rfl, hs1⟩ := sel_o1 hsel
    cases a with
    | none => exact s_st1 (n := 1) (v := qo none) rfl (extra := []) (fun q hq => by cases hq) (of_decide_eq_true hJ) I.top hs1 I.pop K (fun hh kk => lv_astore_nN C.1 C.2.1 hd rfl hh (Nat.le_of_ble_eq_true hW) rfl kk)
    | some r => exact s_st1 (n := 1) (v := qo (some r)) rfl (extra := []) (fun q hq => by cases hq) (of_decide_eq_true hJ) I.top hs1 I.pop K (fun hh kk => lv_astore_n C.1 C.2.1 hd rfl hh (Nat.le_of_ble_eq_true hW) rfl kk)
  | iinc j w =>
    have hd := hd0 (by intro h; cases h)
    obtain ⟨hJ, hW⟩ := hk0 (by intro h; cases h)
    clear hd0 hk0
    have hW : (Nat.blt j (MLL M) && decide (-32768 ≤ w ∧ w < 32768)) = true := hW
    rw [Bool.and_eq_true] at hW
    exact s_iinc C hd (of_decide_eq_true hJ) (Nat.le_of_ble_eq_true hW.1) hsel I K
  | dup =>
    have hd := hd0 (by intro h; cases h)
    obtain ⟨hJ, hW⟩ := hk0 (by intro h; cases h)
    clear hd0 hk0
    exact s_dup C hd (of_decide_eq_true hJ) hsel I K
  | dup2 =>
    have hd := hd0 (by intro h; cases h)
    obtain ⟨hJ, hW⟩ := hk0 (by intro h; cases h)
    clear hd0 hk0
    exact s_dup2 C hd (of_decide_eq_true hJ) hsel I K
  | goto o =>
    have hd := hd0 (by intro h; cases h)
    obtain ⟨hJ, hW⟩ := hk0 (by intro h; cases h)
    clear hd0 hk0
    cases sel_nx hsel
    exact lv_goto C.1 C.2.1 hd (of_decide_eq_true hJ) (s_same K I)
  | ifCond kc o =>
    have hd := hd0 (by intro h; cases h)
    obtain ⟨hJ, hW⟩ := hk0 (by intro h; cases h)
    clear hd0 hk0
    rw [show chkJ M i _ = (decide _ && decide _) from rfl, Bool.and_eq_true] at hJ
    exact s_if0 C hd (of_decide_eq_true hJ.1) (of_decide_eq_true hJ.2) hsel I K
  | if_icmp kc o =>
    have hd := hd0 (by intro h; cases h)
    obtain ⟨hJ, hW⟩ := hk0 (by intro h; cases h)
    clear hd0 hk0
    rw [show chkJ M i _ = (decide _ && decide _) from rfl, Bool.and_eq_true] at hJ
    exact s_if2 C hd (of_decide_eq_true hJ.1) (of_decide_eq_true hJ.2) hsel I K
  | ifnull o =>
    have hd := hd0 (by intro h; cases h)
    obtain ⟨hJ, hW⟩ := hk0 (by intro h; cases h)
    clear hd0 hk0
    rw [show chkJ M i _ = (decide _ && decide _) from rfl, Bool.and_eq_true] at hJ
    exact s_ifnull C hd (of_decide_eq_true hJ.1) (of_decide_eq_true hJ.2) hsel I K
  | tableswitch dd lo hi offs =>
    have hd := hd0 (by intro h; cases h)
    obtain ⟨hJ, hW⟩ := hk0 (by intro h; cases h)
    clear hd0 hk0
    have hJ : (decide ((pc : Int) + dd = (pcA M x1 : Nat)) && decide (hi = lo + (ts.length : Nat) - 1) && decide (offs.toList.map (fun o => (pc : Int) + o) = ts.map (fun t => ((pcA M t : Nat) : Int)))) = true := hJ
    simp only [Bool.and_eq_true, decide_eq_true_eq] at hJ
    exact s_table C hd hJ.1.1 hJ.1.2 hJ.2 hsel I K
  | lookupswitch dd ps =>
    have hd := hd0 (by intro h; cases h)
    obtain ⟨hJ, hW⟩ := hk0 (by intro h; cases h)
    clear hd0 hk0
    have hJ : (decide ((pc : Int) + dd = (pcA M x1 : Nat)) && decide (ps.toList.map (fun o => (pc : Int) + o.2) = ts.map (fun t => ((pcA M t : Nat) : Int))) && (ps.toList.zip (ps.toList.drop 1)).all (fun (a, next) => a.1 < next.1) && ps.toList.all (fun q => decide (-2147483648 ≤ q.1 ∧ q.1 < 2147483648))) = true := hJ
    rw [Bool.and_eq_true, Bool.and_eq_true, Bool.and_eq_true] at hJ
    exact s_lookup C hd (of_decide_eq_true hJ.1.1.1) (of_decide_eq_true hJ.1.1.2) hJ.1.2 hsel I K
  | getfield n =>
    have hd := hd0 (by intro h; cases h)
    obtain ⟨hJ, hW⟩ := hk0 (by intro h; cases h)
    clear hd0 hk0
    have hW : (FLs.any (fun q => Nat.beq q.1 (m_o M) && Nat.beq q.2.1 n && Nat.beq q.2.2.1 x1 && Nat.beq q.2.2.2.1 x2) && Nat.blt x1 13 && Nat.blt x2 (cF x1) && Nat.beq (tyc (cY x1 x2)) x3 && !(Nat.beq x3 2)) = true := hW
    simp only [Bool.and_eq_true] at hW
    obtain ⟨⟨⟨⟨w1, w2⟩, w3⟩, w4⟩, w5⟩ := hW
    exact s_getf C hd (of_decide_eq_true hJ) (FL_of w1) (Nat.le_of_ble_eq_true w2) (Nat.le_of_ble_eq_true w3) (Nat.eq_of_beq_eq_true w4) (fun h => by rw [h] at w5; cases w5) hsel I K
  | putfield n =>
    have hd := hd0 (by intro h; cases h)
    obtain ⟨hJ, hW⟩ := hk0 (by intro h; cases h)
    clear hd0 hk0
    have hW : (FLs.any (fun q => Nat.beq q.1 (m_o M) && Nat.beq q.2.1 n && Nat.beq q.2.2.1 x1 && Nat.beq q.2.2.2.1 x2) && Nat.blt x1 13 && Nat.blt x2 (cF x1) && Nat.beq (tyc (cY x1 x2)) x3 && (!(cT x1 x2).2.2.2 || (m_inis.contains M && Nat.beq (m_o M) x1))) = true := hW
    simp only [Bool.and_eq_true] at hW
    obtain ⟨⟨⟨⟨w1, w2⟩, w3⟩, w4⟩, w5⟩ := hW
    have w4 := Nat.eq_of_beq_eq_true w4
    have hfin : (cT x1 x2).2.2.2 = false ∨ ((cT x1 x2).2.2.2 = true ∧ M ∈ m_inis ∧ m_o M = x1) := by
      cases hb : (cT x1 x2).2.2.2 with
      | false => exact Or.inl rfl
      | true =>
        rw [hb] at w5
        simp only [Bool.not_true, Bool.false_or, Bool.and_eq_true] at w5
        exact Or.inr ⟨rfl, List.contains_iff_mem.mp w5.1, Nat.eq_of_beq_eq_true w5.2⟩
    have hsel : am_sel (am_put (.putfield n, pc, x1, x2, x3, k, ts, cut) i ls st τ) = some (.inl (i', ls', st', τ')) := hsel
    exact s_putall C hd (of_decide_eq_true hJ) (FL_of w1) (Nat.le_of_ble_eq_true w2) (Nat.le_of_ble_eq_true w3) w4 hfin hsel I K
  | getstatic n =>
    have hd := hd0 (by intro h; cases h)
    obtain ⟨hJ, hW⟩ := hk0 (by intro h; cases h)
    clear hd0 hk0
    have hW : (Nat.beq (m_o M) 0 && Nat.beq n 43) = true := hW
    rw [Bool.and_eq_true] at hW
    exact s_gets C hd (of_decide_eq_true hJ) (Nat.eq_of_beq_eq_true hW.1) (Nat.eq_of_beq_eq_true hW.2) hsel I K
  | new n =>
    have hd := hd0 (by intro h; cases h)
    obtain ⟨hJ, hW⟩ := hk0 (by intro h; cases h)
    clear hd0 hk0
    have hW : (NLs.any (fun q => Nat.beq q.1 (m_o M) && Nat.beq q.2.1 n && Nat.beq q.2.2.1 x1) && Nat.blt x1 13 && Nat.beq x2 (cF x1)) = true := hW
    rw [Bool.and_eq_true, Bool.and_eq_true] at hW
    exact s_new C hd (of_decide_eq_true hJ) (NL_of hW.1.1) (Nat.le_of_ble_eq_true hW.1.2) (Nat.eq_of_beq_eq_true hW.2) hc hs hsel I K
  | newarray t =>
    have hd := hd0 (by intro h; cases h)
    obtain ⟨hJ, hW⟩ := hk0 (by intro h; cases h)
    clear hd0 hk0
    have hx1 : (t = .int ∧ x1 = 20) ∨ (t = .long ∧ x1 = 21) := by
      cases t with
      | int => exact Or.inl ⟨rfl, Nat.eq_of_beq_eq_true hW⟩
      | long => exact Or.inr ⟨rfl, Nat.eq_of_beq_eq_true hW⟩
      | _ => cases hW
    exact s_newa C hd (of_decide_eq_true hJ) hx1 hc hs hsel I K
  | anewarray n =>
    have hd := hd0 (by intro h; cases h)
    obtain ⟨hJ, hW⟩ := hk0 (by intro h; cases h)
    clear hd0 hk0
    have hW : ((NLs.any (fun q => Nat.beq q.1 (m_o M) && Nat.beq q.2.1 n && Nat.beq q.2.2.1 0) && Nat.beq x1 22) || (NLs.any (fun q => Nat.beq q.1 (m_o M) && Nat.beq q.2.1 n && Nat.beq q.2.2.1 3) && Nat.beq x1 23)) = true := hW
    rw [Bool.or_eq_true, Bool.and_eq_true, Bool.and_eq_true] at hW
    exact s_newq C hd (of_decide_eq_true hJ) (hW.imp (fun h => ⟨NL_of h.1, Nat.eq_of_beq_eq_true h.2⟩) (fun h => ⟨NL_of h.1, Nat.eq_of_beq_eq_true h.2⟩)) hc hs hsel I K
  | arraylength =>
    have hd := hd0 (by intro h; cases h)
    obtain ⟨hJ, hW⟩ := hk0 (by intro h; cases h)
    clear hd0 hk0
    exact s_alen C hd (of_decide_eq_true hJ) hsel I K
  | iaload =>
    have hd := hd0 (by intro h; cases h)
    obtain ⟨hJ, hW⟩ := hk0 (by intro h; cases h)
    clear hd0 hk0
    have hW : (Nat.beq x1 20 || Nat.beq x1 24) = true := hW
    rw [Bool.or_eq_true] at hW
    exact s_iald C hd (of_decide_eq_true hJ) (hW.imp Nat.eq_of_beq_eq_true Nat.eq_of_beq_eq_true) hsel I K
  | laload =>
    have hd := hd0 (by intro h; cases h)
    obtain ⟨hJ, hW⟩ := hk0 (by intro h; cases h)
    clear hd0 hk0
    exact s_lald C hd (of_decide_eq_true hJ) hsel I K
  | aaload =>
    have hd := hd0 (by intro h; cases h)
    obtain ⟨hJ, hW⟩ := hk0 (by intro h; cases h)
    clear hd0 hk0
    have hW : (Nat.beq x1 22 || Nat.beq x1 23) = true := hW
    rw [Bool.or_eq_true] at hW
    exact s_aald C hd (of_decide_eq_true hJ) (hW.imp Nat.eq_of_beq_eq_true Nat.eq_of_beq_eq_true) hsel I K
  | iastore =>
    have hd := hd0 (by intro h; cases h)
    obtain ⟨hJ, hW⟩ := hk0 (by intro h; cases h)
    clear hd0 hk0
    exact s_iast C hd (of_decide_eq_true hJ) hsel I K
  | lastore =>
    have hd := hd0 (by intro h; cases h)
    obtain ⟨hJ, hW⟩ := hk0 (by intro h; cases h)
    clear hd0 hk0
    exact s_last C hd (of_decide_eq_true hJ) hsel I K
  | aastore =>
    have hd := hd0 (by intro h; cases h)
    obtain ⟨hJ, hW⟩ := hk0 (by intro h; cases h)
    clear hd0 hk0
    have hW : ((Nat.beq x1 22 && Nat.beq x2 0) || (Nat.beq x1 23 && Nat.beq x2 3)) = true := hW
    rw [Bool.or_eq_true, Bool.and_eq_true, Bool.and_eq_true] at hW
    exact s_aast C hd (of_decide_eq_true hJ) (hW.imp (fun h => ⟨Nat.eq_of_beq_eq_true h.1, Nat.eq_of_beq_eq_true h.2⟩) (fun h => ⟨Nat.eq_of_beq_eq_true h.1, Nat.eq_of_beq_eq_true h.2⟩)) hsel I K
  | ireturn =>
    have hd := hd0 (by intro h; cases h)
    obtain ⟨hJ, hW⟩ := hk0 (by intro h; cases h)
    clear hd0 hk0
    exfalso
    obtain ⟨a, t, rfl, hs0⟩ := sel_i1 hsel
    obtain ⟨-, hs1⟩ := sel_rt hs0
    dsimp only at hs1
    split at hs1
    · unfold am_sel at hs1
      dsimp only at hs1
      split at hs1 <;> cases hs1
    · unfold am_sel at hs1
      dsimp only at hs1
      split at hs1 <;> cases hs1
  | lreturn =>
    have hd := hd0 (by intro h; cases h)
    obtain ⟨hJ, hW⟩ := hk0 (by intro h; cases h)
    clear hd0 hk0
    exfalso
    obtain ⟨a, t, rfl, hs0⟩ := sel_l1 hsel
    obtain ⟨-, hs1⟩ := sel_rt hs0
    unfold am_sel at hs1
    dsimp only at hs1
    split at hs1 <;> cases hs1
  | areturn =>
    have hd := hd0 (by intro h; cases h)
    obtain ⟨hJ, hW⟩ := hk0 (by intro h; cases h)
    clear hd0 hk0
    exfalso
    obtain ⟨a, t, rfl, hs0⟩ := sel_o1 hsel
    obtain ⟨-, hs1⟩ := sel_rt hs0
    unfold am_sel at hs1
    dsimp only at hs1
    split at hs1 <;> cases hs1
  | return_ =>
    have hd := hd0 (by intro h; cases h)
    obtain ⟨hJ, hW⟩ := hk0 (by intro h; cases h)
    clear hd0 hk0
    exfalso
    obtain ⟨-, hs1⟩ := sel_rt hsel
    unfold am_sel at hs1
    dsimp only at hs1
    split at hs1 <;> cases hs1
  | invokestatic n =>
    have hd := hd0 (by intro h; cases h)
    obtain ⟨hJ, hW⟩ := hk0 (by intro h; cases h)
    clear hd0 hk0
    have hW : ((decide (k = 1) && PLs.any (fun q => Nat.beq q.1 (m_o M) && Nat.beq q.2.1 n)) || (decide (k = 0) && Nat.blt x1 278 && Nat.beq x2 (m_n x1) && m_stats.contains x1 && (SLs.any (fun q => Nat.beq q.1 (m_o M) && Nat.beq q.2.1 n && Nat.beq q.2.2.1 x1) || TLs.any (fun q => Nat.beq q.1 (m_o M) && Nat.beq q.2.1 n && Nat.beq q.2.2.1 x1)))) = true := hW
    rw [Bool.or_eq_true] at hW
    rcases hW with hW | hW
    · rw [Bool.and_eq_true] at hW
      obtain ⟨w1, w2⟩ := hW
      have w1 := of_decide_eq_true w1
      subst w1
      exact s_copy C hd (of_decide_eq_true hJ) (PL_of w2) hfr hlo hsel I K
    · simp only [Bool.and_eq_true] at hW
      have w1 := of_decide_eq_true hW.1.1.1.1
      subst w1
      exact absurd hsel (call_no none _ i ls st)
  | invokespecial n =>
    have hd := hd0 (by intro h; cases h)
    obtain ⟨hJ, hW⟩ := hk0 (by intro h; cases h)
    clear hd0 hk0
    have hW : ((decide (k = 1) && OLs.any (fun q => Nat.beq q.1 (m_o M) && Nat.beq q.2.1 n)) || (decide (k = 100 + (m_o x1 : Nat)) && Nat.blt (m_o x1) 13 && Nat.blt x1 278 && Nat.beq x2 (m_n x1 + 1) && m_insts.contains x1 && m_inis.contains x1 && ILs.any (fun q => Nat.beq q.1 (m_o M) && Nat.beq q.2.1 n && Nat.beq q.2.2.1 x1))) = true := hW
    rw [Bool.or_eq_true] at hW
    rcases hW with hW | hW
    · rw [Bool.and_eq_true] at hW
      obtain ⟨w1, w2⟩ := hW
      have w1 := of_decide_eq_true w1
      subst w1
      exact s_objI C hd (of_decide_eq_true hJ) (OL_of w2) hfr hlo hsel I K
    · simp only [Bool.and_eq_true] at hW
      have w1 := of_decide_eq_true hW.1.1.1.1.1.1
      have hne : k ≠ 1 := by omega
      exact absurd hsel (spec_no hne i ls st τ)
  | invokevirtual n =>
    have hd := hd0 (by intro h; cases h)
    obtain ⟨hJ, hW⟩ := hk0 (by intro h; cases h)
    clear hd0 hk0
    exact absurd hsel (call_no _ _ i ls st)
  | _ => exact absurd hsel (fun h => by cases h)
end SIM
