/-! fields, arrays, new cells -/
theorem FL_of {own x t j : Nat} (h : FLs.any (fun q => Nat.beq q.1 own && Nat.beq q.2.1 x && Nat.beq q.2.2.1 t && Nat.beq q.2.2.2.1 j) = true) : Cond.fieldLink (oN own) x (cT t j).1 (cT t j).2.1 (cT t j).2.2.1 ∈ GW := by
  obtain ⟨q, hq, h1⟩ := List.any_eq_true.mp h
  simp only [Bool.and_eq_true, Nat.beq_eq_true_eq] at h1
  obtain ⟨⟨⟨e1, e2⟩, e3⟩, e4⟩ := h1
  have h2 := FLs_ok q hq
  rw [Nat.eq_of_beq_eq_true e1, Nat.eq_of_beq_eq_true e2, Nat.eq_of_beq_eq_true e3, Nat.eq_of_beq_eq_true e4] at h2
  exact GW_of h2 rfl
theorem flds_at {G : tG} {τ : am_S} {a t j : Nat} (h : j < cF t) : (flds G τ a t)[j]? = some (fldV G τ a t j) := by
  unfold flds
  rw [List.getElem?_map, List.getElem?_range h]
  rfl
theorem flds_len {G : tG} {τ : am_S} {a t : Nat} : (flds G τ a t).length = cF t := by simp [flds]
theorem fld_tV {G : tG} {τ : am_S} {a x1 x2 x3 : Nat} (ins : Instr) (pc : Nat) (k : Int) (ts : List Nat) (cut : Bool) (h : tyc (cY x1 x2) = x3) (h2 : x3 ≠ 2) : tV G (am_fld (ins, pc, x1, x2, x3, k, ts, cut) τ a) = fldV G τ a x1 x2 := by
  unfold fldV
  rw [h]
  match x3, h2 with
  | 0, _ => rfl
  | 1, _ => rfl
  | 2, h2 => exact absurd rfl h2
  | 3, _ => rfl
  | n + 4, _ => rfl
theorem Rp_int {G : tG} {D : va_G} {cA : Nat → ClassId} {τ : am_S} {H : Heap} (hR : Rp G D cA τ H) {a t n : Nat} (hT : sT τ a = (t, n)) (ht : t ≠ 21) (j : Nat) : inI (sI τ a j) := (hR.2.2.2.2.1 a j).2 (by rw [hT]; exact ht)
theorem ofInt_nat {n : Nat} (h : n < 2147483648) : Int32.ofInt (n : Int) = Int32.ofNat n := by
  apply Int32.toInt_inj.mp
  rw [n_t (by unfold inI; omega)]
  exact (nI_toInt (n := n) (by omega)).symm
theorem new_addr {G : tG} {D : va_G} {cA : Nat → ClassId} {τ : am_S} {H1 : Heap} {q b : Nat} {x : va_E} (h2 : 2 ≤ sN τ) (hP : va_P D vwCl (wsA G cA τ ++ [(q, x)]) H1) (hD : va_D (AA G) (wsA G cA τ ++ [(q, x)])) (hb : H1.size ≤ b + 1) (hc : b + 2 = G.1 + sN τ) : q = G.1 + (sN τ - 2) := by
  have hl : (wsA G cA τ ++ [(q, x)])[sN τ - 2]? = some (q, x) := by
    rw [List.getElem?_append_right (by rw [wsA_len]; omega), wsA_len, Nat.sub_self]
    rfl
  have h1 : G.1 ≤ q := hD.2 _ _ hl
  have h3 : q < H1.size := (hP _ _ hl).lt
  rcases Nat.lt_or_ge (q - G.1) (sN τ - 2) with h | h
  · exfalso
    have hk : (wsA G cA τ ++ [(q, x)])[q - G.1]? = some (G.1 + (q - G.1), ent G cA τ (q - G.1 + 2)) := by
      rw [List.getElem?_append_left (by rw [wsA_len]; exact h), wsA_at (by omega)]
    have := hD.1 _ _ _ _ hk hl (by show G.1 + (q - G.1) = q; omega)
    omega
  · omega
theorem okV_new {τ : am_S} {t n : Nat} {v : am_V} (h : okV τ v) : okV (newC τ t n) v := by
  rcases v with x | x | o
  · exact h
  · exact h
  · intro r hr
    obtain ⟨h1, h2⟩ := h r hr
    refine ⟨Nat.lt_succ_of_lt h1, ?_⟩
    show (if r.1 = sN τ then (t, n) else sT τ r.1) = r.2
    rw [if_neg (Nat.ne_of_lt h1)]
    exact h2
theorem ent_new {G : tG} {cA : Nat → ClassId} {τ : am_S} {t n a : Nat} (h : a < sN τ) : ent G cA (newC τ t n) a = ent G cA τ a := by
  have hne : a ≠ sN τ := Nat.ne_of_lt h
  refine ent_congr ?_ (fun j => ?_) (fun j => ?_)
  · show (if a = sN τ then (t, n) else sT τ a) = sT τ a
    rw [if_neg hne]
  · show (if a = sN τ then 0 else sI τ a j) = sI τ a j
    rw [if_neg hne]
  · show (if a = sN τ then none else sR τ a j) = sR τ a j
    rw [if_neg hne]
theorem sT_new {τ : am_S} {t n : Nat} : sT (newC τ t n) (sN τ) = (t, n) := by
  show (if sN τ = sN τ then (t, n) else sT τ (sN τ)) = (t, n)
  rw [if_pos rfl]
theorem sT_new2 {τ : am_S} {t n a : Nat} (h : a < sN τ) : sT (newC τ t n) a = sT τ a := by
  show (if a = sN τ then (t, n) else sT τ a) = sT τ a
  rw [if_neg (Nat.ne_of_lt h)]
theorem sI_new {τ : am_S} {t n j : Nat} : sI (newC τ t n) (sN τ) j = 0 := by
  show (if sN τ = sN τ then (0 : Int) else sI τ (sN τ) j) = 0
  rw [if_pos rfl]
theorem sI_new2 {τ : am_S} {t n a j : Nat} (h : a ≠ sN τ) : sI (newC τ t n) a j = sI τ a j := by
  show (if a = sN τ then (0 : Int) else sI τ a j) = _
  rw [if_neg h]
theorem sR_new {τ : am_S} {t n j : Nat} : sR (newC τ t n) (sN τ) j = none := by
  show (if sN τ = sN τ then none else sR τ (sN τ) j) = none
  rw [if_pos rfl]
theorem sR_new2 {τ : am_S} {t n a j : Nat} (h : a ≠ sN τ) : sR (newC τ t n) a j = sR τ a j := by
  show (if a = sN τ then none else sR τ a j) = _
  rw [if_neg h]
theorem Rp_new {G : tG} {D : va_G} {cA : Nat → ClassId} {τ : am_S} {H H1 : Heap} {t n : Nat} (hR : Rp G D cA τ H) (ht : okT (t, n)) (hP : va_P D vwCl (wsA G cA (newC τ t n)) H1) : Rp G D cA (newC τ t n) H1 := by
  obtain ⟨h1, h2, h3, h4, h5, h6, h7⟩ := hR
  refine ⟨Nat.le_succ_of_le h1, hP, fun k hk => ?_, fun a j => ?_, fun a j => ?_, ?_, ?_⟩
  · by_cases hk2 : k + 2 = sN τ
    · rw [hk2, sT_new]; exact ht
    · have hk' : k + 2 < sN τ + 1 := hk
      have hk3 : k + 2 < sN τ := by omega
      rw [sT_new2 hk3]; exact h3 k hk3
  · by_cases ha : a = sN τ
    · subst ha; rw [sR_new]; intro r hr; cases hr
    · rw [sR_new2 ha]
      exact okV_new (v := qo (sR τ a j)) (h4 a j)
  · by_cases ha : a = sN τ
    · subst ha; rw [sI_new]; exact ⟨by unfold inL; omega, fun _ => by unfold inI; omega⟩
    · rw [sI_new2 ha]
      refine ⟨(h5 a j).1, fun h => (h5 a j).2 ?_⟩
      have e : sT (newC τ t n) a = sT τ a := by
        show (if a = sN τ then (t, n) else sT τ a) = sT τ a
        rw [if_neg ha]
      rw [e] at h
      exact h
  · rw [sT_new2 (by omega)]; exact h6
  · rw [sT_new2 (by omega)]; exact h7
theorem Ol_new {G : tG} {s : State} {τ : am_S} {t n : Nat} (h2 : 2 ≤ sN τ) (h : Ol G s τ) : Ol G s (newC τ t n) := by
  unfold Ol at h ⊢
  rw [sT_new2 (by omega)]
  have e0 : (fun j => Int32.ofInt (sI (newC τ t n) 0 j)) = fun j => Int32.ofInt (sI τ 0 j) := by funext j; rw [sI_new2 (by omega)]
  have e1 : (fun j => Value.int (Int32.ofInt (sI (newC τ t n) 1 j))) = fun j => Value.int (Int32.ofInt (sI τ 1 j)) := by funext j; rw [sI_new2 (by omega)]
  rw [e0, e1]
  exact h
/-- a store that differs in one cell -/
theorem Rp_put {G : tG} {D : va_G} {cA : Nat → ClassId} {τ τ' : am_S} {H H1 : Heap} (hR : Rp G D cA τ H) (hT : τ'.2.2 = τ.2.2) (hP : va_P D vwCl (wsA G cA τ') H1) (hr : ∀ a j, okR τ (sR τ' a j)) (hi : ∀ a j, inL (sI τ' a j) ∧ ((sT τ a).1 ≠ 21 → inI (sI τ' a j))) : Rp G D cA τ' H1 := by
  obtain ⟨h1, h2, h3, h4, h5, h6, h7⟩ := hR
  have eN : sN τ' = sN τ := by unfold sN; rw [hT]
  have eT : sT τ' = sT τ := by unfold sT; rw [hT]
  have eR : okR τ' = okR τ := by unfold okR; rw [eN, eT]
  exact ⟨by rw [eN]; exact h1, hP, by rw [eN, eT]; exact h3, by rw [eR]; exact hr, by rw [eT]; exact hi, by rw [eT]; exact h6, by rw [eT]; exact h7⟩
theorem okV_put {τ τ' : am_S} (hT : τ'.2.2 = τ.2.2) {v : am_V} (h : okV τ v) : okV τ' v := by
  have eN : sN τ' = sN τ := by unfold sN; rw [hT]
  have eT : sT τ' = sT τ := by unfold sT; rw [hT]
  rcases v with x | x | o
  · exact h
  · exact h
  · intro r hr
    rw [eN, eT]
    exact h r hr
theorem Ol_put {G : tG} {s : State} {τ τ' : am_S} {k : Nat} (hT : τ'.2.2 = τ.2.2) (ho : ∀ a, a ≠ k + 2 → sI τ' a = sI τ a) (h : Ol G s τ) : Ol G s τ' := by
  have eT : sT τ' = sT τ := by unfold sT; rw [hT]
  unfold Ol at h ⊢
  rw [eT, ho 0 (by omega), ho 1 (by omega)]
  exact h
section SIM
variable {p : Program} {l : Launch} {e : Env} {R : Room} {s : State} {m : MethodId} {args : Array Value} {below : List Frame} {meth : Method} {c : Code} {H : Heap} {locs : List Loc} {cells slots : Nat} {Q : State → Prop}
variable {G : tG} {D : va_G} {cA : Nat → ClassId} {M i i' pc n k : Nat} {ls ls' : am_L} {st st' : List am_V} {τ τ' : am_S} {lsC : Array Slot}
/-- on with a store that differs in one cell -/
theorem s_put {t : List am_V} {H1 : Heap} {locs1 : List Loc} (hT : τ'.2.2 = τ.2.2) (ho : ∀ a, a ≠ k + 2 → sI τ' a = sI τ a) (hr : ∀ a j, okR τ (sR τ' a j)) (hi : ∀ a j, inL (sI τ' a j) ∧ ((sT τ a).1 ≠ 21 → inI (sI τ' a j))) (hP : va_P D vwCl (wsA G cA τ') H1) (hS : va_S (AA G) s.heap H1 locs1)
    (I : Iv G D cA M s τ H ls t lsC locs cells) (K : KT p l e R s m args below meth c Q G D cA M cells slots τ i' ls t τ') : W p l e R s m args below meth c H1 locs1 cells slots Q (F0 m (pcA M i') lsC (t.map (tV G))) := by
  obtain ⟨h1, h2, h3, h4, h5, h6, h7⟩ := I
  have eN : sN τ' = sN τ := by unfold sN; rw [hT]
  have eU : sU τ' = sU τ := by unfold sU; rw [hT]
  have h := K H1 lsC locs1 ⟨Rp_put h1 hT hP hr hi, Ol_put hT ho h2, hS, by rw [eN, Nat.sub_self, Nat.add_zero]; exact h4, fun v hv => okV_put hT (h5 v hv), fun v hv => okV_put hT (h6 v hv), h7⟩
  rw [eN, eU, Nat.sub_self, Nat.sub_self, Nat.add_zero, Nat.add_zero] at h
  exact h
theorem put_core {x t j : Nat} {w : Value} {rest : List Value} (C : Cx p s m args meth c G D cA M) (hR : Rp G D cA τ H) (hS : va_S (AA G) s.heap H locs) (hk : k + 2 < sN τ) (hT : sT τ (k + 2) = (t, n)) (ht : t < 13) (hj : j < cF t) (hF : Cond.fieldLink (oN (m_o M)) x (cT t j).1 (cT t j).2.1 (cT t j).2.2.1 ∈ GW)
    (hfin : (cT t j).2.2.2 = false ∨ ((cT t j).2.2.2 = true ∧ M ∈ m_inis ∧ m_o M = t)) (hn : narrow (cY t j) w = w) (hfit : fits (cY t j) w = true) (hd : decode (m_bytes M) pc = .ok (.putfield x, 3))
    (kk : ∀ (H1 : Heap) (locs1 : List Loc), va_P D vwCl ((wsA G cA τ).set k (G.1 + k, .inr (t, (flds G τ (k + 2) t).set j w))) H1 → va_S (AA G) s.heap H1 locs1 → W p l e R s m args below meth c H1 locs1 cells slots Q (F0 m (pc + 3) lsC rest)) :
    W p l e R s m args below meth c H locs cells slots Q (F0 m pc lsC (w :: .ref (G.1 + k) :: rest)) := by
  obtain ⟨hx, hb, -, hown, hts, hSf, hini, -⟩ := C
  have he : (wsA G cA τ)[k]? = some (G.1 + k, .inr (t, flds G τ (k + 2) t)) := by rw [wsA_at hk, ent_obj hT ht]
  rcases hfin with hfin | ⟨hfin, h1, h2⟩
  · exact va_put (C := cR t) (T := cT t) (N := cF t) hx hb hts (lay_good ht) (cY t) (tyX_ok ht) (nmX ht) hown hSf.1 hR.2.1 wsA_D hS k he (vw_at ht) j hj (hts _ hF) (fun _ h => h) hfin (tyX_ok ht j hj) hn hfit (by rw [flds_len]; exact hj) hd (fun H1 locs1 q1 _ q3 => kk H1 locs1 q1 q3)
  · exact va_putF (C := cR t) (T := cT t) (N := cF t) hx hb hts (lay_good ht) (cY t) (tyX_ok ht) (nmX ht) hown hSf.1 hR.2.1 wsA_D hS k he (vw_at ht) j hj (hts _ hF) (fun _ h => h) hfin (hini h1) (by rw [tT_own ht j (List.mem_range.mpr hj), h2, own_cR t ht]) (tyX_ok ht j hj) hn hfit (by rw [flds_len]; exact hj) hd (fun H1 locs1 q1 _ q3 => kk H1 locs1 q1 q3)
theorem s_getf {x x1 x2 x3 : Nat} {kk : Int} {ts : List Nat} {cut : Bool} (C : Cx p s m args meth c G D cA M) (hd : decode (m_bytes M) pc = .ok (.getfield x, 3)) (hn : pcA M (i + 1) = pc + 3) (hF : Cond.fieldLink (oN (m_o M)) x (cT x1 x2).1 (cT x1 x2).2.1 (cT x1 x2).2.2.1 ∈ GW) (h13 : x1 < 13) (hj : x2 < cF x1) (hty : tyc (cY x1 x2) = x3) (h2 : x3 ≠ 2)
    (hsel : am_sel (am_o1 st fun o t => am_gd ((rg o).2.1 = x1) (i + 1) ls (am_fld (.getfield x, pc, x1, x2, x3, kk, ts, cut) τ (rg o).1 :: t) τ) = some (.inl (i', ls', st', τ'))) (I : Iv G D cA M s τ H ls st lsC locs cells) (K : KT p l e R s m args below meth c Q G D cA M cells slots τ i' ls' st' τ') : W p l e R s m args below meth c H locs cells slots Q (F0 m pc lsC (st.map (tV G))) := by
  obtain ⟨o, t, rfl, hsel⟩ := sel_o1 hsel
  obtain ⟨hg, hsel⟩ := sel_gd hsel
  obtain ⟨k, n, rfl, hk, hT⟩ := ref_of I.1 I.top hg (by omega) (by omega)
  cases hsel
  obtain ⟨hx, hb, -, hown, hts, hSf, -, -⟩ := id C
  refine va_get (C := cR x1) (T := cT x1) (N := cF x1) (v := fldV G τ (k + 2) x1 x2) (a := G.1 + k) hx hb hts (lay_good h13) hown hSf.1 I.1.2.1 k (by rw [wsA_at hk, ent_obj hT h13]) (vw_at h13) x2 hj (hts _ hF) (fun _ h => h) (flds_at hj) hd ?_
  rw [← fld_tV (.getfield x) pc kk ts cut hty h2, ← hn]
  refine s_same (st' := am_fld (.getfield x, pc, x1, x2, x3, kk, ts, cut) τ (k + 2) :: t) K (I.pop.push ?_)
  have hb := I.1
  match x3, h2 with
  | 0, _ => exact Rp_int hb hT (by omega) x2
  | 1, _ => exact Rp_int hb hT (by omega) x2
  | 2, h2 => exact absurd rfl h2
  | 3, _ => exact hb.2.2.2.1 (k + 2) x2
  | n4 + 4, _ => exact Rp_int hb hT (by omega) x2
theorem set_flds {t j a : Nat} {w : Value} (hw : fldV G τ' a t j = w) (ho : ∀ q, q ≠ j → fldV G τ' a t q = fldV G τ a t q) : flds G τ' a t = (flds G τ a t).set j w := by
  apply List.ext_getElem?
  intro q
  by_cases hq : q < cF t
  · rw [flds_at hq]
    by_cases e : q = j
    · subst e
      rw [List.getElem?_set_self (by rw [flds_len]; exact hq), hw]
    · rw [List.getElem?_set_ne (Ne.symm e), flds_at hq, ho q e]
  · rw [List.getElem?_eq_none (by rw [flds_len]; omega), List.getElem?_eq_none (by rw [List.length_set, flds_len]; omega)]
theorem putI_ne {a j v : Nat} {z : Int} {q : Nat} (h : q ≠ a) : sI (putI τ a j z) q = sI τ q := by
  funext y
  show (if q = a ∧ y = j then z else sI τ q y) = sI τ q y
  rw [if_neg (fun h2 => h h2.1)]
theorem putI_at {a j : Nat} {z : Int} {y : Nat} : sI (putI τ a j z) a y = if y = j then z else sI τ a y := by
  show (if a = a ∧ y = j then z else sI τ a y) = _
  simp
theorem putR_ne {a j : Nat} {z : Option am_R} {q : Nat} (h : q ≠ a) : sR (putR τ a j z) q = sR τ q := by
  funext y
  show (if q = a ∧ y = j then z else sR τ q y) = sR τ q y
  rw [if_neg (fun h2 => h h2.1)]
theorem putR_at {a j : Nat} {z : Option am_R} {y : Nat} : sR (putR τ a j z) a y = if y = j then z else sR τ a y := by
  show (if a = a ∧ y = j then z else sR τ a y) = _
  simp
theorem ranI {a j : Nat} {z : Int} (hR : Rp G D cA τ H) (hz : inL z) (hz2 : (sT τ a).1 ≠ 21 → inI z) : ∀ q y, inL (sI (putI τ a j z) q y) ∧ ((sT τ q).1 ≠ 21 → inI (sI (putI τ a j z) q y)) := by
  intro q y
  by_cases hq : q = a
  · subst hq
    rw [putI_at]
    split
    · exact ⟨hz, hz2⟩
    · exact hR.2.2.2.2.1 q y
  · rw [putI_ne (v := 0) hq]
    exact hR.2.2.2.2.1 q y
theorem refR {a j : Nat} {z : Option am_R} (hR : Rp G D cA τ H) (hz : okR τ z) : ∀ q y, okR τ (sR (putR τ a j z) q y) := by
  intro q y
  by_cases hq : q = a
  · subst hq
    rw [putR_at]
    split
    · exact hz
    · exact hR.2.2.2.1 q y
  · rw [putR_ne hq]
    exact hR.2.2.2.1 q y
theorem s_putfI {x x1 x2 : Nat} {gg : Prop} {v : Int} {o : Option am_R} {t : List am_V} (C : Cx p s m args meth c G D cA M) (hd : decode (m_bytes M) pc = .ok (.putfield x, 3)) (hn : pcA M (i + 1) = pc + 3) (hF : Cond.fieldLink (oN (m_o M)) x (cT x1 x2).1 (cT x1 x2).2.1 (cT x1 x2).2.2.1 ∈ GW) (h13 : x1 < 13) (hj : x2 < cF x1) (hty : tyc (cY x1 x2) ≠ 3)
    (hfin : (cT x1 x2).2.2.2 = false ∨ ((cT x1 x2).2.2.2 = true ∧ M ∈ m_inis ∧ m_o M = x1)) (hg : gg → (rg o).2.1 = x1) (hnw : gg → narrow (cY x1 x2) (.int (Int32.ofInt v)) = .int (Int32.ofInt v) ∧ fits (cY x1 x2) (.int (Int32.ofInt v)) = true)
    (hsel : am_sel (am_gd gg (i + 1) ls t (putI τ (rg o).1 x2 v)) = some (.inl (i', ls', st', τ'))) (I : Iv G D cA M s τ H ls (qi v :: qo o :: t) lsC locs cells) (K : KT p l e R s m args below meth c Q G D cA M cells slots τ i' ls' st' τ') : W p l e R s m args below meth c H locs cells slots Q (F0 m pc lsC ((qi v :: qo o :: t).map (tV G))) := by
  obtain ⟨hgg, hsel⟩ := sel_gd hsel
  obtain ⟨k, n, rfl, hk, hT⟩ := ref_of I.1 I.top2 (hg hgg) (by omega) (by omega)
  cases hsel
  obtain ⟨hnr, hfit⟩ := hnw hgg
  refine put_core C I.1 I.2.2.1 hk hT h13 hj hF hfin hnr hfit hd (fun H1 locs1 q1 q3 => ?_)
  rw [← hn]
  have hv : inI v := I.top
  have hfv : ∀ q a, fldV G (putI τ (k + 2) x2 v) a x1 q = if tyc (cY x1 q) = 3 then fldV G τ a x1 q else .int (Int32.ofInt (sI (putI τ (k + 2) x2 v) a q)) := by
    intro q a
    unfold fldV
    split
    · rename_i h3; rw [if_pos h3]; rfl
    · rename_i h3; rw [if_neg h3]
  have he : (wsA G cA τ).set k (G.1 + k, .inr (x1, (flds G τ (k + 2) x1).set x2 (.int (Int32.ofInt v)))) = wsA G cA (putI τ (k + 2) x2 v) := by
    refine wsA_set hk rfl ?_ (fun a ha => ent_congr rfl (fun j => by rw [putI_ne (v := 0) ha]) (fun j => rfl))
    rw [ent_obj (σ := putI τ (k + 2) x2 v) (t := x1) (n := n) hT h13, set_flds]
    · rw [hfv, if_neg hty, putI_at, if_pos rfl]
    · intro q hq
      rw [hfv]
      split
      · rfl
      · rename_i h3
        rw [putI_at, if_neg hq]
        unfold fldV
        split
        · rename_i h4; exact absurd h4 h3
        · rfl
  have q1 : va_P D vwCl ((wsA G cA τ).set k (G.1 + k, .inr (x1, (flds G τ (k + 2) x1).set x2 (.int (Int32.ofInt v))))) H1 := q1
  rw [he] at q1
  exact s_put (τ := τ) (τ' := putI τ (k + 2) x2 v) (k := k) rfl (fun a ha => putI_ne (v := 0) ha) (fun a j => I.1.2.2.2.1 a j) (ranI I.1 (inI_L hv) (fun _ => hv)) q1 q3 I.pop.pop K
theorem s_putfR {x x1 x2 : Nat} {v o : Option am_R} {t : List am_V} (C : Cx p s m args meth c G D cA M) (hd : decode (m_bytes M) pc = .ok (.putfield x, 3)) (hn : pcA M (i + 1) = pc + 3) (hF : Cond.fieldLink (oN (m_o M)) x (cT x1 x2).1 (cT x1 x2).2.1 (cT x1 x2).2.2.1 ∈ GW) (h13 : x1 < 13) (hj : x2 < cF x1) (hty : tyc (cY x1 x2) = 3)
    (hfin : (cT x1 x2).2.2.2 = false ∨ ((cT x1 x2).2.2.2 = true ∧ M ∈ m_inis ∧ m_o M = x1))
    (hsel : am_sel (am_gd ((rg o).2.1 = x1) (i + 1) ls t (putR τ (rg o).1 x2 v)) = some (.inl (i', ls', st', τ'))) (I : Iv G D cA M s τ H ls (qo v :: qo o :: t) lsC locs cells) (K : KT p l e R s m args below meth c Q G D cA M cells slots τ i' ls' st' τ') : W p l e R s m args below meth c H locs cells slots Q (F0 m pc lsC ((qo v :: qo o :: t).map (tV G))) := by
  obtain ⟨hgg, hsel⟩ := sel_gd hsel
  obtain ⟨k, n, rfl, hk, hT⟩ := ref_of I.1 I.top2 hgg (by omega) (by omega)
  cases hsel
  have hok := okTys x1 h13 x2 hj
  have hnf : narrow (cY x1 x2) (va_rf (tO G v)) = va_rf (tO G v) ∧ fits (cY x1 x2) (va_rf (tO G v)) = true := by
    generalize cY x1 x2 = ty at hok hty
    cases ty with
    | object _ => cases v <;> exact ⟨rfl, rfl⟩
    | array _ => cases v <;> exact ⟨rfl, rfl⟩
    | int => exact absurd hty (by decide)
    | boolean => exact absurd hty (by decide)
    | _ => exact absurd hok (by decide)
  refine put_core C I.1 I.2.2.1 hk hT h13 hj hF hfin hnf.1 hnf.2 hd (fun H1 locs1 q1 q3 => ?_)
  rw [← hn]
  have hv : okR τ v := I.top
  have hfv : ∀ q a, fldV G (putR τ (k + 2) x2 v) a x1 q = if tyc (cY x1 q) = 3 then va_rf (tO G (sR (putR τ (k + 2) x2 v) a q)) else fldV G τ a x1 q := by
    intro q a
    unfold fldV
    split
    · rename_i h3; rw [if_pos h3]
    · rename_i h3; rw [if_neg h3]; rfl
  have he : (wsA G cA τ).set k (G.1 + k, .inr (x1, (flds G τ (k + 2) x1).set x2 (va_rf (tO G v)))) = wsA G cA (putR τ (k + 2) x2 v) := by
    refine wsA_set hk rfl ?_ (fun a ha => ent_congr rfl (fun j => rfl) (fun j => by rw [putR_ne ha]))
    rw [ent_obj (σ := putR τ (k + 2) x2 v) (t := x1) (n := n) hT h13, set_flds]
    · rw [hfv, if_pos hty, putR_at, if_pos rfl]
    · intro q hq
      rw [hfv]
      split
      · rename_i h3
        rw [putR_at, if_neg hq]
        unfold fldV
        rw [h3]
        rfl
      · rfl
  have q1 : va_P D vwCl ((wsA G cA τ).set k (G.1 + k, .inr (x1, (flds G τ (k + 2) x1).set x2 (va_rf (tO G v))))) H1 := q1
  rw [he] at q1
  exact s_put (τ := τ) (τ' := putR τ (k + 2) x2 v) (k := k) rfl (fun a _ => rfl) (refR I.1 hv) (fun a j => I.1.2.2.2.2.1 a j) q1 q3 I.pop.pop K
end SIM
