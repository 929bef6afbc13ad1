/-! arrays and new cells -/
theorem NL_of {own x t : Nat} (h : NLs.any (fun q => Nat.beq q.1 own && Nat.beq q.2.1 x && Nat.beq q.2.2.1 t) = true) : Cond.classLink (oN own) x (cR t) ∈ GW := by
  obtain ⟨q, hq, h1⟩ := List.any_eq_true.mp h
  simp only [Bool.and_eq_true] at h1
  obtain ⟨⟨e1, e2⟩, e3⟩ := h1
  have h2 := NLs_ok q hq
  rw [Nat.eq_of_beq_eq_true e1, Nat.eq_of_beq_eq_true e2, Nat.eq_of_beq_eq_true e3] at h2
  exact GW_of h2 rfl
section SIM
variable {p : Program} {l : Launch} {e : Env} {R : Room} {s : State} {m : MethodId} {args : Array Value} {below : List Frame} {meth : Method} {c : Code} {H : Heap} {locs : List Loc} {cells slots : Nat} {Q : State → Prop}
variable {G : tG} {D : va_G} {cA : Nat → ClassId} {M i i' pc n k : Nat} {ls ls' : am_L} {st st' : List am_V} {τ τ' : am_S} {lsC : Array Slot}
theorem s_iald {x1 : Nat} (C : Cx p s m args meth c G D cA M) (hd : decode (m_bytes M) pc = .ok (.iaload, 1)) (hn : pcA M (i + 1) = pc + 1) (hx1 : x1 = 20 ∨ x1 = 24)
    (hsel : am_sel (am_oi st fun o j t => am_gd ((rg o).2.1 = x1 ∧ 0 ≤ j ∧ j < (rg o).2.2) (i + 1) ls (qi (sI τ (rg o).1 j.toNat) :: t) τ) = some (.inl (i', ls', st', τ'))) (I : Iv G D cA M s τ H ls st lsC locs cells) (K : KT p l e R s m args below meth c Q G D cA M cells slots τ i' ls' st' τ') : W p l e R s m args below meth c H locs cells slots Q (F0 m pc lsC (st.map (tV G))) := by
  obtain ⟨o, j, t, rfl, hs2⟩ := sel_oi hsel
  obtain ⟨⟨hg, hj0, hj1⟩, hs3⟩ := sel_gd hs2
  have hj : inI j := I.top
  rcases hx1 with rfl | rfl
  · obtain ⟨k, n, rfl, hk, hT⟩ := ref_of I.1 I.top2 hg (by omega) (by omega)
    cases hs3
    have hj1 : j < (n : Int) := hj1
    refine va_iald (a := G.1 + k) C.1 C.2.1 C.2.2.2.2.2.1.1 I.1.2.1 k 0 (by rw [wsA_at hk, ent_20 hT]) rfl (n_in hj0 hj1 hj) hd ?_
    rw [n_cl hj0 hj, ← hn]
    exact s_same (st' := qi (sI τ (k + 2) j.toNat) :: t) K (I.pop.pop.push (Rp_int I.1 hT (by omega) _))
  · cases o with
    | none => exact absurd hg (by decide)
    | some r =>
      obtain ⟨a, t24, n⟩ := r
      have e24 : t24 = 24 := hg
      subst e24
      obtain ⟨q1, q2⟩ := I.top2 _ rfl
      dsimp only at q1 q2
      cases hs3
      have hj1 : j < (n : Int) := hj1
      have hSf := C.2.2.2.2.2.1
      match a, q1, q2 with
      | 0, q1, q2 =>
        have hO := I.2.1.1
        rw [q2] at hO
        refine va_sld (b := G.2.1) C.1 C.2.1 hO (Nat.lt_of_lt_of_le hSf.2.2.2.2.2.2.2.1 hSf.2.2.2.2.2.2.1) (Nat.not_le.mpr hSf.2.2.2.2.2.2.2.1) I.2.2.1 (n_in hj0 hj1 hj) hd ?_
        rw [n_cl hj0 hj, ← hn]
        exact s_same (st' := qi (sI τ 0 j.toNat) :: t) K (I.pop.pop.push (Rp_int I.1 q2 (by omega) _))
      | 1, q1, q2 =>
        have hO := I.2.1.2
        have e7 := I.1.2.2.2.2.2.2
        rw [q2] at e7
        have e7 : n = 7 := congrArg Prod.snd e7
        subst e7
        refine va_ti (t := G.2.2) C.1 C.2.1 hO I.2.2.1 (n_in hj0 hj1 hj) rfl hd ?_
        rw [n_cl hj0 hj, ← hn]
        exact s_same (st' := qi (sI τ 1 j.toNat) :: t) K (I.pop.pop.push (Rp_int I.1 q2 (by omega) _))
      | k + 2, q1, q2 =>
        exfalso
        have h := I.1.2.2.1 k q1
        rw [q2] at h
        rcases h with ⟨h, -⟩ | ⟨h, -⟩
        · dsimp only at h; omega
        · dsimp only at h; omega
theorem s_lald (C : Cx p s m args meth c G D cA M) (hd : decode (m_bytes M) pc = .ok (.laload, 1)) (hn : pcA M (i + 1) = pc + 1)
    (hsel : am_sel (am_oi st fun o j t => am_gd ((rg o).2.1 = 21 ∧ 0 ≤ j ∧ j < (rg o).2.2) (i + 1) ls (ql (sI τ (rg o).1 j.toNat) :: t) τ) = some (.inl (i', ls', st', τ'))) (I : Iv G D cA M s τ H ls st lsC locs cells) (K : KT p l e R s m args below meth c Q G D cA M cells slots τ i' ls' st' τ') : W p l e R s m args below meth c H locs cells slots Q (F0 m pc lsC (st.map (tV G))) := by
  obtain ⟨o, j, t, rfl, hs2⟩ := sel_oi hsel
  obtain ⟨⟨hg, hj0, hj1⟩, hs3⟩ := sel_gd hs2
  have hj : inI j := I.top
  obtain ⟨k, n, rfl, hk, hT⟩ := ref_of I.1 I.top2 hg (by omega) (by omega)
  cases hs3
  have hj1 : j < (n : Int) := hj1
  refine va_lald (a := G.1 + k) C.1 C.2.1 C.2.2.2.2.2.1.1 I.1.2.1 k 1 (by rw [wsA_at hk, ent_21 hT]) rfl (n_in hj0 hj1 hj) hd ?_
  rw [n_cl hj0 hj, ← hn]
  exact s_same (st' := ql (sI τ (k + 2) j.toNat) :: t) K (I.pop.pop.push (I.1.2.2.2.2.1 _ _).1)
theorem s_aald {x1 : Nat} (C : Cx p s m args meth c G D cA M) (hd : decode (m_bytes M) pc = .ok (.aaload, 1)) (hn : pcA M (i + 1) = pc + 1) (hx1 : x1 = 22 ∨ x1 = 23)
    (hsel : am_sel (am_oi st fun o j t => am_gd ((rg o).2.1 = x1 ∧ 0 ≤ j ∧ j < (rg o).2.2) (i + 1) ls (qo (sR τ (rg o).1 j.toNat) :: t) τ) = some (.inl (i', ls', st', τ'))) (I : Iv G D cA M s τ H ls st lsC locs cells) (K : KT p l e R s m args below meth c Q G D cA M cells slots τ i' ls' st' τ') : W p l e R s m args below meth c H locs cells slots Q (F0 m pc lsC (st.map (tV G))) := by
  obtain ⟨o, j, t, rfl, hs2⟩ := sel_oi hsel
  obtain ⟨⟨hg, hj0, hj1⟩, hs3⟩ := sel_gd hs2
  have hj : inI j := I.top
  obtain ⟨k, n, rfl, hk, hT⟩ := ref_of I.1 I.top2 hg (by omega) (by omega)
  cases hs3
  have hj1 : j < (n : Int) := hj1
  rcases hx1 with rfl | rfl
  · refine va_aldq (a := G.1 + k) (n := n) (f := fun j => tO G (sR τ (k + 2) j)) (C := "WeighCourt$Balance") C.1 C.2.1 C.2.2.2.2.2.1.1 I.1.2.1 k 2 (by rw [wsA_at hk, ent_22 hT]) rfl (n_in hj0 hj1 hj) hd ?_
    rw [n_cl hj0 hj, ← hn]
    exact s_same (st' := qo (sR τ (k + 2) j.toNat) :: t) K (I.pop.pop.push (I.1.2.2.2.1 _ _))
  · refine va_aldq (a := G.1 + k) (n := n) (f := fun j => tO G (sR τ (k + 2) j)) (C := "WeighCourt$Question") C.1 C.2.1 C.2.2.2.2.2.1.1 I.1.2.1 k 3 (by rw [wsA_at hk, ent_23 hT]) rfl (n_in hj0 hj1 hj) hd ?_
    rw [n_cl hj0 hj, ← hn]
    exact s_same (st' := qo (sR τ (k + 2) j.toNat) :: t) K (I.pop.pop.push (I.1.2.2.2.1 _ _))
theorem s_alen (C : Cx p s m args meth c G D cA M) (hd : decode (m_bytes M) pc = .ok (.arraylength, 1)) (hn : pcA M (i + 1) = pc + 1)
    (hsel : am_sel (am_o1 st fun o t => am_gd (20 ≤ (rg o).2.1 ∧ (rg o).2.1 < 25) (i + 1) ls (qi (rg o).2.2 :: t) τ) = some (.inl (i', ls', st', τ'))) (I : Iv G D cA M s τ H ls st lsC locs cells) (K : KT p l e R s m args below meth c Q G D cA M cells slots τ i' ls' st' τ') : W p l e R s m args below meth c H locs cells slots Q (F0 m pc lsC (st.map (tV G))) := by
  obtain ⟨o, t, rfl, hs2⟩ := sel_o1 hsel
  obtain ⟨hg, hs3⟩ := sel_gd hs2
  cases o with
  | none => exact absurd hg (by decide)
  | some r =>
    obtain ⟨a, tg, n⟩ := r
    have hg : 20 ≤ tg ∧ tg < 25 := hg
    obtain ⟨q1, q2⟩ := I.top _ rfl
    dsimp only at q1 q2
    cases hs3
    have hSf := C.2.2.2.2.2.1
    have go : n < 2147483648 → W p l e R s m args below meth c H locs cells slots Q (F0 m (pc + 1) lsC (.int (Int32.ofNat n) :: t.map (tV G))) := by
      intro hlt
      rw [← ofInt_nat hlt, ← hn]
      exact s_same (st' := qi (n : Int) :: t) K (I.pop.push (by show inI (n : Int); unfold inI; omega))
    match a, q1, q2 with
    | 0, q1, q2 =>
      have hO := I.2.1.1
      have h24 := I.1.2.2.2.2.2.1
      rw [q2] at hO h24
      exact va_slen (b := G.2.1) C.1 C.2.1 hO (Nat.lt_of_lt_of_le hSf.2.2.2.2.2.2.2.1 hSf.2.2.2.2.2.2.1) (Nat.not_le.mpr hSf.2.2.2.2.2.2.2.1) I.2.2.1 hd (go h24.2)
    | 1, q1, q2 =>
      have hO := I.2.1.2
      have e7 := I.1.2.2.2.2.2.2
      rw [q2] at e7
      have e7 : n = 7 := congrArg Prod.snd e7
      subst e7
      exact va_tlen (t := G.2.2) C.1 C.2.1 hO I.2.2.1 rfl hd (go (by omega))
    | k + 2, q1, q2 =>
      have h := I.1.2.2.1 k q1
      rw [q2] at h
      rcases h with ⟨h, hle⟩ | ⟨h, -⟩
      · dsimp only at h hle
        rcases h with rfl | rfl | rfl | rfl
        · exact va_alen (a := G.1 + k) C.1 C.2.1 hSf.1 I.1.2.1 k 0 (by rw [wsA_at q1, ent_20 q2]) rfl rfl hd (go (by omega))
        · exact va_alen (a := G.1 + k) C.1 C.2.1 hSf.1 I.1.2.1 k 1 (by rw [wsA_at q1, ent_21 q2]) rfl rfl hd (go (by omega))
        · exact va_alen (a := G.1 + k) C.1 C.2.1 hSf.1 I.1.2.1 k 2 (by rw [wsA_at q1, ent_22 q2]) rfl rfl hd (go (by omega))
        · exact va_alen (a := G.1 + k) C.1 C.2.1 hSf.1 I.1.2.1 k 3 (by rw [wsA_at q1, ent_23 q2]) rfl rfl hd (go (by omega))
      · dsimp only at h; omega
theorem s_iast (C : Cx p s m args meth c G D cA M) (hd : decode (m_bytes M) pc = .ok (.iastore, 1)) (hn : pcA M (i + 1) = pc + 1)
    (hsel : am_sel (am_i1 st fun v t => am_oi t fun o j t => am_gd ((rg o).2.1 = 20 ∧ 0 ≤ j ∧ j < (rg o).2.2) (i + 1) ls t (putI τ (rg o).1 j.toNat v)) = some (.inl (i', ls', st', τ'))) (I : Iv G D cA M s τ H ls st lsC locs cells) (K : KT p l e R s m args below meth c Q G D cA M cells slots τ i' ls' st' τ') : W p l e R s m args below meth c H locs cells slots Q (F0 m pc lsC (st.map (tV G))) := by
  obtain ⟨v, t0, rfl, hs1⟩ := sel_i1 hsel
  obtain ⟨o, j, t, rfl, hs2⟩ := sel_oi hs1
  obtain ⟨⟨hg, hj0, hj1⟩, hs3⟩ := sel_gd hs2
  have hv : inI v := I.top
  have hj : inI j := I.top2
  obtain ⟨k, n, rfl, hk, hT⟩ := ref_of I.1 I.top3 hg (by omega) (by omega)
  cases hs3
  have hj1 : j < (n : Int) := hj1
  refine va_iast (a := G.1 + k) C.1 C.2.1 C.2.2.2.2.2.1.1 I.1.2.1 wsA_D I.2.2.1 k 0 (by rw [wsA_at hk, ent_20 hT]) rfl (n_in hj0 hj1 hj) hd (fun H1 locs1 q1 _ q3 => ?_)
  rw [n_cl hj0 hj, wsA_set (σ' := putI τ (k + 2) j.toNat v) hk rfl ?_ (fun a ha => ent_congr rfl (fun y => by rw [putI_ne (v := 0) ha]) (fun y => rfl))] at q1
  · rw [← hn]
    exact s_put (τ := τ) (τ' := putI τ (k + 2) j.toNat v) (k := k) rfl (fun a ha => putI_ne (v := 0) ha) (fun a y => I.1.2.2.2.1 a y) (ranI I.1 (inI_L hv) (fun _ => hv)) q1 q3 I.pop.pop.pop K
  · rw [ent_20 (σ := putI τ (k + 2) j.toNat v) hT]
    refine congrArg (fun f => (Sum.inl (cA 20, n, Sum.inl f) : va_E)) (funext fun y => ?_)
    rw [putI_at]
    unfold upd
    split <;> rfl
theorem s_last (C : Cx p s m args meth c G D cA M) (hd : decode (m_bytes M) pc = .ok (.lastore, 1)) (hn : pcA M (i + 1) = pc + 1)
    (hsel : am_sel (am_l1 st fun v t => am_oi t fun o j t => am_gd ((rg o).2.1 = 21 ∧ 0 ≤ j ∧ j < (rg o).2.2) (i + 1) ls t (putI τ (rg o).1 j.toNat v)) = some (.inl (i', ls', st', τ'))) (I : Iv G D cA M s τ H ls st lsC locs cells) (K : KT p l e R s m args below meth c Q G D cA M cells slots τ i' ls' st' τ') : W p l e R s m args below meth c H locs cells slots Q (F0 m pc lsC (st.map (tV G))) := by
  obtain ⟨v, t0, rfl, hs1⟩ := sel_l1 hsel
  obtain ⟨o, j, t, rfl, hs2⟩ := sel_oi hs1
  obtain ⟨⟨hg, hj0, hj1⟩, hs3⟩ := sel_gd hs2
  have hv : inL v := I.top
  have hj : inI j := I.top2
  obtain ⟨k, n, rfl, hk, hT⟩ := ref_of I.1 I.top3 hg (by omega) (by omega)
  cases hs3
  have hj1 : j < (n : Int) := hj1
  refine va_last (a := G.1 + k) C.1 C.2.1 C.2.2.2.2.2.1.1 I.1.2.1 wsA_D I.2.2.1 k 1 (by rw [wsA_at hk, ent_21 hT]) rfl (n_in hj0 hj1 hj) hd (fun H1 locs1 q1 _ q3 => ?_)
  rw [n_cl hj0 hj, wsA_set (σ' := putI τ (k + 2) j.toNat v) hk rfl ?_ (fun a ha => ent_congr rfl (fun y => by rw [putI_ne (v := 0) ha]) (fun y => rfl))] at q1
  · rw [← hn]
    exact s_put (τ := τ) (τ' := putI τ (k + 2) j.toNat v) (k := k) rfl (fun a ha => putI_ne (v := 0) ha) (fun a y => I.1.2.2.2.1 a y) (ranI I.1 hv (fun h => absurd (by rw [hT]) h)) q1 q3 I.pop.pop.pop K
  · rw [ent_21 (σ := putI τ (k + 2) j.toNat v) hT]
    refine congrArg (fun f => (Sum.inl (cA 21, n, Sum.inr (Sum.inl f)) : va_E)) (funext fun y => ?_)
    rw [putI_at]
    unfold vp_updL
    split <;> rfl
theorem s_aast {x1 x2 : Nat} (C : Cx p s m args meth c G D cA M) (hd : decode (m_bytes M) pc = .ok (.aastore, 1)) (hn : pcA M (i + 1) = pc + 1) (hx1 : (x1 = 22 ∧ x2 = 0) ∨ (x1 = 23 ∧ x2 = 3))
    (hsel : am_sel (am_o1 st fun v t => am_oi t fun o j t => am_gd ((rg o).2.1 = x1 ∧ 0 ≤ j ∧ j < (rg o).2.2 ∧ (rg v).2.1 = x2) (i + 1) ls t (putR τ (rg o).1 j.toNat v)) = some (.inl (i', ls', st', τ'))) (I : Iv G D cA M s τ H ls st lsC locs cells) (K : KT p l e R s m args below meth c Q G D cA M cells slots τ i' ls' st' τ') : W p l e R s m args below meth c H locs cells slots Q (F0 m pc lsC (st.map (tV G))) := by
  obtain ⟨v, t0, rfl, hs1⟩ := sel_o1 hsel
  obtain ⟨o, j, t, rfl, hs2⟩ := sel_oi hs1
  obtain ⟨⟨hg, hj0, hj1, hgv⟩, hs3⟩ := sel_gd hs2
  have hvr : okR τ v := I.top
  have hj : inI j := I.top2
  obtain ⟨k, n, rfl, hk, hT⟩ := ref_of I.1 I.top3 hg (by omega) (by omega)
  obtain ⟨kv, nv, rfl, hkv, hTv⟩ := ref_of I.1 hvr hgv (by omega) (by omega)
  cases hs3
  have hj1 : j < (n : Int) := hj1
  rcases hx1 with ⟨rfl, rfl⟩ | ⟨rfl, rfl⟩
  · refine va_astq (a := G.1 + k) (n := n) (f := fun j => tO G (sR τ (k + 2) j)) (v := G.1 + kv) (r := (cR 0, cT 0, cF 0)) C.1 C.2.1 C.2.2.2.2.2.1.1 I.1.2.1 wsA_D I.2.2.1 k 2 kv 0 (by rw [wsA_at hk, ent_22 hT]) rfl (by rw [wsA_at hkv, ent_obj hTv (by omega)]) (vw_at (by omega)) (n_in hj0 hj1 hj) hd (fun H1 locs1 q1 _ q3 => ?_)
    rw [n_cl hj0 hj, wsA_set (σ' := putR τ (k + 2) j.toNat (some (kv + 2, 0, nv))) hk rfl ?_ (fun a ha => ent_congr rfl (fun y => rfl) (fun y => by rw [putR_ne ha]))] at q1
    · rw [← hn]
      exact s_put (τ := τ) (τ' := putR τ (k + 2) j.toNat (some (kv + 2, 0, nv))) (k := k) rfl (fun a _ => rfl) (refR I.1 hvr) (fun a y => I.1.2.2.2.2.1 a y) q1 q3 I.pop.pop.pop K
    · rw [ent_22 (σ := putR τ (k + 2) j.toNat (some (kv + 2, 0, nv))) hT]
      refine congrArg (fun f => (Sum.inl (cA 22, n, Sum.inr (Sum.inr (Sum.inr (Sum.inr f)))) : va_E)) (funext fun y => ?_)
      rw [putR_at]
      unfold va_up
      split <;> rfl
  · refine va_astq (a := G.1 + k) (n := n) (f := fun j => tO G (sR τ (k + 2) j)) (v := G.1 + kv) (r := (cR 3, cT 3, cF 3)) C.1 C.2.1 C.2.2.2.2.2.1.1 I.1.2.1 wsA_D I.2.2.1 k 3 kv 3 (by rw [wsA_at hk, ent_23 hT]) rfl (by rw [wsA_at hkv, ent_obj hTv (by omega)]) (vw_at (by omega)) (n_in hj0 hj1 hj) hd (fun H1 locs1 q1 _ q3 => ?_)
    rw [n_cl hj0 hj, wsA_set (σ' := putR τ (k + 2) j.toNat (some (kv + 2, 3, nv))) hk rfl ?_ (fun a ha => ent_congr rfl (fun y => rfl) (fun y => by rw [putR_ne ha]))] at q1
    · rw [← hn]
      exact s_put (τ := τ) (τ' := putR τ (k + 2) j.toNat (some (kv + 2, 3, nv))) (k := k) rfl (fun a _ => rfl) (refR I.1 hvr) (fun a y => I.1.2.2.2.2.1 a y) q1 q3 I.pop.pop.pop K
    · rw [ent_23 (σ := putR τ (k + 2) j.toNat (some (kv + 2, 3, nv))) hT]
      refine congrArg (fun f => (Sum.inl (cA 23, n, Sum.inr (Sum.inr (Sum.inr (Sum.inr f)))) : va_E)) (funext fun y => ?_)
      rw [putR_at]
      unfold va_up
      split <;> rfl
end SIM
