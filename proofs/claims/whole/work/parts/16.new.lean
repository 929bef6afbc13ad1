/-! new cells; a stretch of an array copied -/
section SIM
variable {p : Program} {l : Launch} {e : Env} {R : Room} {s : State} {m : MethodId} {args : Array Value} {below : List Frame} {meth : Method} {c : Code} {H : Heap} {locs : List Loc} {cells slots : Nat} {Q : State → Prop}
variable {G : tG} {D : va_G} {cA : Nat → ClassId} {M i i' pc n k : Nat} {ls ls' : am_L} {st st' : List am_V} {τ τ' : am_S} {lsC : Array Slot}
/-- on with a new cell -/
theorem s_newC {t nn q : Nat} {x : va_E} {H1 : Heap} (ht : okT (t, nn)) (hx : ent G cA (newC τ t nn) (sN τ) = x) (hP : va_P D vwCl (wsA G cA τ ++ [(q, x)]) H1) (hD : va_D (AA G) (wsA G cA τ ++ [(q, x)])) (hS : va_S (AA G) s.heap H1 locs)
    (I : Iv G D cA M s τ H ls st lsC locs cells) (K : KT p l e R s m args below meth c Q G D cA M cells slots τ i' ls (qr (sN τ, t, nn) :: st) (newC τ t nn)) : W p l e R s m args below meth c H1 locs (cells + 1) (slots + nn) Q (F0 m (pcA M i') lsC (.ref q :: st.map (tV G))) := by
  refine W_bound (fun hb => ?_)
  obtain ⟨h1, h2, h3, h4, h5, h6, h7⟩ := I
  have hq := new_addr h1.1 hP hD (by omega) h4
  subst hq
  rw [wsA_push (σ' := newC τ t nn) h1.1 rfl hx (fun a ha => ent_new ha)] at hP
  have eN : sN (newC τ t nn) - sN τ = 1 := by show sN τ + 1 - sN τ = 1; omega
  have eU : sU (newC τ t nn) - sU τ = nn := by show sU τ + nn - sU τ = nn; omega
  have eA : ad G (sN τ) = G.1 + (sN τ - 2) := by
    have h := h1.1
    match sN τ, h with
    | k + 2, _ => rfl
  have h := K H1 lsC locs ⟨Rp_new h1 ht hP, Ol_new h1.1 h2, hS, by rw [eN]; show _ = G.1 + (sN τ + 1); omega, fun v hv => ?_, fun v hv => okV_new (h6 v hv), h7⟩
  · rw [eN, eU] at h
    have e2 : (qr (sN τ, t, nn) :: st).map (tV G) = .ref (G.1 + (sN τ - 2)) :: st.map (tV G) := by
      rw [List.map_cons, ← eA]
      rfl
    rw [e2] at h
    exact h
  · rcases List.mem_cons.mp hv with rfl | hv
    · intro r hr
      cases hr
      exact ⟨Nat.lt_succ_self _, sT_new⟩
    · exact okV_new (h5 v hv)
theorem s_new {x x1 x2 : Nat} (C : Cx p s m args meth c G D cA M) (hd : decode (m_bytes M) pc = .ok (.new x, 3)) (hn : pcA M (i + 1) = pc + 3) (hN : Cond.classLink (oN (m_o M)) x (cR x1) ∈ GW) (h13 : x1 < 13) (hx2 : x2 = cF x1) (hc : cells + (sN τ' - sN τ) ≤ R.cells) (hs : slots + (sU τ' - sU τ) ≤ R.slots)
    (hsel : am_sel (am_nx (i + 1) ls (qr (sN τ, x1, x2) :: st) (newC τ x1 x2)) = some (.inl (i', ls', st', τ'))) (I : Iv G D cA M s τ H ls st lsC locs cells) (K : KT p l e R s m args below meth c Q G D cA M cells slots τ i' ls' st' τ') : W p l e R s m args below meth c H locs cells slots Q (F0 m pc lsC (st.map (tV G))) := by
  subst hx2
  cases sel_nx hsel
  have hc : cells + (sN τ + 1 - sN τ) ≤ R.cells := hc
  have hs : slots + (sU τ + cF x1 - sU τ) ≤ R.slots := hs
  obtain ⟨hx, hb, -, hown, hts, hSf, -, -⟩ := id C
  have hm : x1 ∈ List.range 13 := List.mem_range.mpr h13
  refine va_new (C := cR x1) (T := cT x1) (N := cF x1) (ci := x1) (fs := flds G (newC τ x1 (cF x1)) (sN τ) x1) hx hb hts (lay_good h13) (cY x1) (tyX_ok h13) hown (hts _ hN) (hts _ (GW_of (tb_ic x1 hm) rfl)) (hts _ (GW_of (tb_ii x1 hm) rfl)) hSf.1 I.1.2.1 wsA_D I.2.2.1 (fun q hq => Nat.le_trans hSf.2.2.2.2.2.2.1 hq) (vw_at h13) (fun j hj => ?_) (by omega) (by omega) hd (fun q H1 q1 q2 q3 => ?_)
  · have hok := okTys x1 h13 j hj
    have e1 : vp_V (flds G (newC τ x1 (cF x1)) (sN τ) x1) j = fldV G (newC τ x1 (cF x1)) (sN τ) x1 j := by
      unfold vp_V
      rw [List.getD_eq_getElem?_getD, flds_at hj]
      rfl
    rw [e1]
    unfold fldV
    rw [sI_new, sR_new]
    generalize cY x1 j = ty at hok
    cases ty with
    | object _ => rfl
    | array _ => rfl
    | int => rfl
    | boolean => rfl
    | _ => exact absurd hok (by decide)
  · rw [← hn]
    exact s_newC (Or.inr ⟨h13, rfl⟩) (ent_obj sT_new h13) q1 q2 q3 I K
theorem s_newa {x1 : Nat} {at0 : ArrayType} (C : Cx p s m args meth c G D cA M) (hd : decode (m_bytes M) pc = .ok (.newarray at0, 2)) (hn : pcA M (i + 1) = pc + 2) (hx1 : (at0 = .int ∧ x1 = 20) ∨ (at0 = .long ∧ x1 = 21)) (hc : cells + (sN τ' - sN τ) ≤ R.cells) (hs : slots + (sU τ' - sU τ) ≤ R.slots)
    (hsel : am_sel (am_i1 st fun n t => am_gd (0 ≤ n ∧ n ≤ 1000000) (i + 1) ls (qr (sN τ, x1, n.toNat) :: t) (newC τ x1 n.toNat)) = some (.inl (i', ls', st', τ'))) (I : Iv G D cA M s τ H ls st lsC locs cells) (K : KT p l e R s m args below meth c Q G D cA M cells slots τ i' ls' st' τ') : W p l e R s m args below meth c H locs cells slots Q (F0 m pc lsC (st.map (tV G))) := by
  obtain ⟨nn, t, rfl, hs1⟩ := sel_i1 hsel
  obtain ⟨⟨hg0, hg1⟩, hs2⟩ := sel_gd hs1
  have hnn : inI nn := I.top
  cases hs2
  have hc : cells + (sN τ + 1 - sN τ) ≤ R.cells := hc
  have hs : slots + (sU τ + nn.toNat - sU τ) ≤ R.slots := hs
  obtain ⟨hx, hb, -, hown, hts, hSf, -, -⟩ := id C
  have hA : ∀ q, s.heap.size ≤ q → AA G q := fun q hq => Nat.le_trans hSf.2.2.2.2.2.2.1 hq
  have hle : nn.toNat ≤ 1000000 := by omega
  have hcl := n_cl hg0 hnn
  have hwi : Cond.arrayClass .int ∈ GW := GW_of arrI rfl
  have hwl : Cond.arrayClass .long ∈ GW := GW_of arrL rfl
  rcases hx1 with ⟨rfl, rfl⟩ | ⟨rfl, rfl⟩
  · refine va_newa (atype := .int) (N' := nn.toNat) (ty := .int) (a0 := (nn.toNat, .inl (fun _ => 0))) hx hb (hts _ hwi) rfl hSf.1 I.1.2.1 wsA_D I.2.2.1 hA (fun cA => rfl) ((n_nn hnn).mpr hg0) hcl (by show nn.toNat * 4 ≤ _; omega) (by omega) (by omega) hd (fun q cN H1 qK q1 q2 q3 => ?_)
    have ecl : cN = cA 20 := by
      have h1 := (qK.2 4 (cN, .int) rfl).2
      have h2 := (hSf.1.2 0 (cA 20, .int) rfl).2
      exact Option.some.inj ((show s.vm.findClass _ = some cN from h1).symm.trans (show s.vm.findClass _ = some (cA 20) from h2))
    subst ecl
    rw [← hn]
    refine s_newC (Or.inl ⟨Or.inl rfl, hle⟩) ?_ q1 q2 q3 I.pop K
    rw [ent_20 sT_new]
    exact congrArg (fun f => (Sum.inl (cA 20, nn.toNat, Sum.inl f) : va_E)) (funext fun y => by rw [sI_new]; rfl)
  · refine va_newa (atype := .long) (N' := nn.toNat) (ty := .long) (a0 := (nn.toNat, .inr (.inl (fun _ => 0)))) hx hb (hts _ hwl) rfl hSf.1 I.1.2.1 wsA_D I.2.2.1 hA (fun cA => rfl) ((n_nn hnn).mpr hg0) hcl (by show nn.toNat * 8 ≤ _; omega) (by omega) (by omega) hd (fun q cN H1 qK q1 q2 q3 => ?_)
    have ecl : cN = cA 21 := by
      have h1 := (qK.2 4 (cN, .long) rfl).2
      have h2 := (hSf.1.2 1 (cA 21, .long) rfl).2
      exact Option.some.inj ((show s.vm.findClass _ = some cN from h1).symm.trans (show s.vm.findClass _ = some (cA 21) from h2))
    subst ecl
    rw [← hn]
    refine s_newC (Or.inl ⟨Or.inr (Or.inl rfl), hle⟩) ?_ q1 q2 q3 I.pop K
    rw [ent_21 sT_new]
    exact congrArg (fun f => (Sum.inl (cA 21, nn.toNat, Sum.inr (Sum.inl f)) : va_E)) (funext fun y => by rw [sI_new]; rfl)
theorem s_newq {x x1 : Nat} (C : Cx p s m args meth c G D cA M) (hd : decode (m_bytes M) pc = .ok (.anewarray x, 3)) (hn : pcA M (i + 1) = pc + 3) (hx1 : (Cond.classLink (oN (m_o M)) x (cR 0) ∈ GW ∧ x1 = 22) ∨ (Cond.classLink (oN (m_o M)) x (cR 3) ∈ GW ∧ x1 = 23)) (hc : cells + (sN τ' - sN τ) ≤ R.cells) (hs : slots + (sU τ' - sU τ) ≤ R.slots)
    (hsel : am_sel (am_i1 st fun n t => am_gd (0 ≤ n ∧ n ≤ 1000000) (i + 1) ls (qr (sN τ, x1, n.toNat) :: t) (newC τ x1 n.toNat)) = some (.inl (i', ls', st', τ'))) (I : Iv G D cA M s τ H ls st lsC locs cells) (K : KT p l e R s m args below meth c Q G D cA M cells slots τ i' ls' st' τ') : W p l e R s m args below meth c H locs cells slots Q (F0 m pc lsC (st.map (tV G))) := by
  obtain ⟨nn, t, rfl, hs1⟩ := sel_i1 hsel
  obtain ⟨⟨hg0, hg1⟩, hs2⟩ := sel_gd hs1
  have hnn : inI nn := I.top
  cases hs2
  have hc : cells + (sN τ + 1 - sN τ) ≤ R.cells := hc
  have hs : slots + (sU τ + nn.toNat - sU τ) ≤ R.slots := hs
  obtain ⟨hx, hb, -, hown, hts, hSf, -, -⟩ := id C
  have hA : ∀ q, s.heap.size ≤ q → AA G q := fun q hq => Nat.le_trans hSf.2.2.2.2.2.2.1 hq
  have hle : nn.toNat ≤ 1000000 := by omega
  have hcl := n_cl hg0 hnn
  rcases hx1 with ⟨hw, rfl⟩ | ⟨hw, rfl⟩
  · refine va_newq (C := cR 0) (N' := nn.toNat) hx hb hown (hts _ hw) hSf.2.1 hSf.1 I.1.2.1 wsA_D I.2.2.1 hA ((n_nn hnn).mpr hg0) hcl (by omega) (by omega) (by omega) hd (fun q cN H1 qK q1 q2 q3 => ?_)
    have ecl : cN = cA 22 := by
      obtain ⟨_, _, _, _, _, h1⟩ := (qK.2 4 (cN, .object (cR 0)) rfl).2
      obtain ⟨_, _, _, _, _, h2⟩ := (hSf.1.2 2 (cA 22, .object (cR 0)) rfl).2
      exact Option.some.inj (h1.symm.trans h2)
    subst ecl
    rw [← hn]
    refine s_newC (Or.inl ⟨Or.inr (Or.inr (Or.inl rfl)), hle⟩) ?_ q1 q2 q3 I.pop K
    rw [ent_22 sT_new]
    exact congrArg (fun f => (Sum.inl (cA 22, nn.toNat, Sum.inr (Sum.inr (Sum.inr (Sum.inr f)))) : va_E)) (funext fun y => by rw [sR_new]; rfl)
  · refine va_newq (C := cR 3) (N' := nn.toNat) hx hb hown (hts _ hw) hSf.2.2.1 hSf.1 I.1.2.1 wsA_D I.2.2.1 hA ((n_nn hnn).mpr hg0) hcl (by omega) (by omega) (by omega) hd (fun q cN H1 qK q1 q2 q3 => ?_)
    have ecl : cN = cA 23 := by
      obtain ⟨_, _, _, _, _, h1⟩ := (qK.2 4 (cN, .object (cR 3)) rfl).2
      obtain ⟨_, _, _, _, _, h2⟩ := (hSf.1.2 3 (cA 23, .object (cR 3)) rfl).2
      exact Option.some.inj (h1.symm.trans h2)
    subst ecl
    rw [← hn]
    refine s_newC (Or.inl ⟨Or.inr (Or.inr (Or.inr rfl)), hle⟩) ?_ q1 q2 q3 I.pop K
    rw [ent_23 sT_new]
    exact congrArg (fun f => (Sum.inl (cA 23, nn.toNat, Sum.inr (Sum.inr (Sum.inr (Sum.inr f)))) : va_E)) (funext fun y => by rw [sR_new]; rfl)
end SIM
