/-! switches, copies -/
theorem lk_pick {a : Int} {ls : am_L} {t : List am_V} {τ : am_S} {d : am_O} {M pc x1 : Nat} {dd : Int} (hd : (pc : Int) + dd = ((pcA M x1 : Nat) : Int)) (hdd : d = .inl (x1, ls, t, τ)) : ∀ (ps : List (Int × Int)) (ts : List Nat), ps.map (fun o => (pc : Int) + o.2) = ts.map (fun t => ((pcA M t : Nat) : Int)) →
    ∃ x, am_pick (am_lk a ls t τ ps ts) d = .inl (x, ls, t, τ) ∧ (pc : Int) + Op.lookupswitch.offset ps dd a = ((pcA M x : Nat) : Int)
  | [], ts, h => by
    refine ⟨x1, ?_, ?_⟩
    · cases ts <;> exact hdd
    · exact hd
  | q :: ps, [], h => by simp at h
  | q :: ps, x :: ts, h => by
    simp only [List.map_cons, List.cons.injEq] at h
    obtain ⟨q1, q2⟩ := q
    by_cases hq : a = q1
    · refine ⟨x, ?_, ?_⟩
      · show @ite _ (a = q1) (Classical.propDecidable _) _ _ = _
        rw [if_pos hq]
      · rw [Op.lookupswitch.offset_cons, if_pos hq.symm]
        exact h.1
    · obtain ⟨y, h1, h2⟩ := lk_pick (a := a) (ls := ls) (t := t) (τ := τ) hd hdd ps ts h.2
      refine ⟨y, ?_, ?_⟩
      · rw [← h1]
        show @ite _ (a = q1) (Classical.propDecidable _) _ _ = _
        rw [if_neg hq]
      · rw [Op.lookupswitch.offset_cons, if_neg (fun h => hq h.symm)]
        exact h2
theorem cats_sum (G : tG) : ∀ st : List am_V, ((st.map (tV G)).map fun v => v.category).sum = am_cats st
  | [] => rfl
  | v :: t => by
    rw [List.map_cons, List.map_cons, List.sum_cons, cats_sum G t]
    congr 1
    rcases v with x | x | o
    · rfl
    · rfl
    · cases o <;> rfl
section SIM
variable {p : Program} {l : Launch} {e : Env} {R : Room} {s : State} {m : MethodId} {args : Array Value} {below : List Frame} {meth : Method} {c : Code} {H : Heap} {locs : List Loc} {cells slots : Nat} {Q : State → Prop}
variable {G : tG} {D : va_G} {cA : Nat → ClassId} {M i i' pc n k : Nat} {ls ls' : am_L} {st st' : List am_V} {τ τ' : am_S} {lsC : Array Slot}
theorem s_table {dd lo hi : Int} {offs : Array Int} {x1 len : Nat} {ts : List Nat} (C : Cx p s m args meth c G D cA M) (hd : decode (m_bytes M) pc = .ok (.tableswitch dd lo hi offs, len)) (h1 : (pc : Int) + dd = ((pcA M x1 : Nat) : Int)) (h2 : hi = lo + (ts.length : Nat) - 1) (h3 : offs.toList.map (fun o => (pc : Int) + o) = ts.map (fun t => ((pcA M t : Nat) : Int)))
    (hsel : am_sel (am_i1 st fun a t => some (none, am_sw a ls t τ lo ts, .inl (x1, ls, t, τ))) = some (.inl (i', ls', st', τ'))) (I : Iv G D cA M s τ H ls st lsC locs cells) (K : KT p l e R s m args below meth c Q G D cA M cells slots τ i' ls' st' τ') : W p l e R s m args below meth c H locs cells slots Q (F0 m pc lsC (st.map (tV G))) := by
  obtain ⟨a, t, rfl, hs1⟩ := sel_i1 hsel
  have ha : inI a := I.top
  have hp : am_pick (am_sw a ls t τ lo ts) (.inl (x1, ls, t, τ)) = .inl (i', ls', st', τ') := by
    have h := hs1
    unfold am_sel at h
    dsimp only at h
    rw [if_pos (show am_gp none from trivial)] at h
    exact Option.some.inj h
  rcases sw_pick (a := a) (ls := ls) (t := t) (τ := τ) (d := .inl (x1, ls, t, τ)) ts lo with ⟨j, x, q1, q2, q3⟩ | ⟨q1, q2⟩
  · rw [q3] at hp
    cases hp
    have hj : j < ts.length := (List.getElem?_eq_some_iff.mp q1).1
    have e := congrArg (fun l => l[j]?) h3
    simp only [List.getElem?_map, q1, Option.map_some] at e
    cases ho : offs.toList[j]? with
    | none => rw [ho] at e; cases e
    | some off =>
      rw [ho] at e
      refine lv_tableIn (off := off) C.1 C.2.1 hd (by rw [n_t ha]; omega) (by rw [n_t ha]; omega) ?_ (Option.some.inj e) (s_same K I.pop)
      rw [n_t ha, ← Array.getElem?_toList]
      rw [show (a - lo).toNat = j by omega]
      exact ho
  · rw [q2] at hp
    cases hp
    refine lv_tableOut C.1 C.2.1 hd ?_ h1 (s_same K I.pop)
    rw [n_t ha]
    rcases Int.lt_or_le a lo with h | h
    · exact Or.inl h
    · right
      have := q1 (a - lo).toNat
      omega
theorem s_lookup {dd : Int} {ps : Array (Int × Int)} {x1 len : Nat} {ts : List Nat} (C : Cx p s m args meth c G D cA M) (hd : decode (m_bytes M) pc = .ok (.lookupswitch dd ps, len)) (h1 : (pc : Int) + dd = ((pcA M x1 : Nat) : Int)) (h3 : ps.toList.map (fun o => (pc : Int) + o.2) = ts.map (fun t => ((pcA M t : Nat) : Int))) (h4 : (ps.toList.zip (ps.toList.drop 1)).all (fun (a, next) => a.1 < next.1) = true)
    (hsel : am_sel (am_i1 st fun a t => some (none, am_lk a ls t τ ps.toList ts, .inl (x1, ls, t, τ))) = some (.inl (i', ls', st', τ'))) (I : Iv G D cA M s τ H ls st lsC locs cells) (K : KT p l e R s m args below meth c Q G D cA M cells slots τ i' ls' st' τ') : W p l e R s m args below meth c H locs cells slots Q (F0 m pc lsC (st.map (tV G))) := by
  obtain ⟨a, t, rfl, hs1⟩ := sel_i1 hsel
  have ha : inI a := I.top
  have hp : am_pick (am_lk a ls t τ ps.toList ts) (.inl (x1, ls, t, τ)) = .inl (i', ls', st', τ') := by
    have h := hs1
    unfold am_sel at h
    dsimp only at h
    rw [if_pos (show am_gp none from trivial)] at h
    exact Option.some.inj h
  obtain ⟨x, q1, q2⟩ := lk_pick (a := a) (ls := ls) (t := t) (τ := τ) h1 rfl ps.toList ts h3
  rw [q1] at hp
  cases hp
  exact lv_lookup C.1 C.2.1 hd h4 rfl (by rw [n_t ha]; exact q2) (s_same K I.pop)
theorem s_objI {x : Nat} (C : Cx p s m args meth c G D cA M) (hd : decode (m_bytes M) pc = .ok (.invokespecial x, 3)) (hn : pcA M (i + 1) = pc + 3) (hO : Cond.methodLink (oN (m_o M)) x objectInit ∈ GW) (hfr : 1 ≤ R.frames) (hlo : 60 ≤ R.locals)
    (hsel : am_sel (am_objI i ls st τ) = some (.inl (i', ls', st', τ'))) (I : Iv G D cA M s τ H ls st lsC locs cells) (K : KT p l e R s m args below meth c Q G D cA M cells slots τ i' ls' st' τ') : W p l e R s m args below meth c H locs cells slots Q (F0 m pc lsC (st.map (tV G))) := by
  unfold am_objI at hsel
  split at hsel
  · rename_i r t
    split at hsel
    · rename_i hc
      have hc := Nat.le_of_ble_eq_true hc
      cases sel_nx hsel
      obtain ⟨hx, hb, hml, hown, hts, hSf, -, -⟩ := id C
      refine W.objInit (a := ad G r.1) hx hb hown (hts _ hO) (hts _ (GW_of obI rfl)) (hts _ (GW_of obC rfl)) rfl (by rw [hml]; exact I.2.2.2.2.2.2.1) rfl hd hfr ?_ ?_
      · show 2 * 0 + _ + 12 ≤ _
        rw [cats_sum]
        omega
      · show W p l e R s m args below meth c H locs cells slots Q (F0 m (pc + 3) lsC (st'.map (tV G)))
        rw [← hn]
        exact s_same K I.pop
    · cases hsel
  · cases hsel
end SIM
