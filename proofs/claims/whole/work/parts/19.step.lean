/-! one instruction that goes on -/
theorem n_i8 {x : Int} (h : -128 ≤ x ∧ x < 128) : (Int8.ofInt x).toInt32 = Int32.ofInt x := by
  apply Int32.toInt_inj.mp
  rw [Int8.toInt_toInt32, Int8.toInt_ofInt_of_le h.1 h.2, n_t (by unfold inI; omega)]
theorem n_i16 {x : Int} (h : -32768 ≤ x ∧ x < 32768) : (Int16.ofInt x).toInt32 = Int32.ofInt x := by
  apply Int32.toInt_inj.mp
  rw [Int16.toInt_toInt32, Int16.toInt_ofInt_of_le h.1 h.2, n_t (by unfold inI; omega)]
theorem any3 {L : List (Nat × Nat × Nat × Nat × Nat)} {a b c : Nat} (h : L.any (fun q => Nat.beq q.1 a && Nat.beq q.2.1 b && Nat.beq q.2.2.1 c) = true) : ∃ q ∈ L, q.1 = a ∧ q.2.1 = b ∧ q.2.2.1 = c := by
  obtain ⟨q, hq, h1⟩ := List.any_eq_true.mp h
  simp only [Bool.and_eq_true] at h1
  exact ⟨q, hq, Nat.eq_of_beq_eq_true h1.1.1, Nat.eq_of_beq_eq_true h1.1.2, Nat.eq_of_beq_eq_true h1.2⟩
theorem any2 {L : List (Nat × Nat × Nat × Nat)} {a b : Nat} (h : L.any (fun q => Nat.beq q.1 a && Nat.beq q.2.1 b) = true) : ∃ q ∈ L, q.1 = a ∧ q.2.1 = b := by
  obtain ⟨q, hq, h1⟩ := List.any_eq_true.mp h
  simp only [Bool.and_eq_true] at h1
  exact ⟨q, hq, Nat.eq_of_beq_eq_true h1.1, Nat.eq_of_beq_eq_true h1.2⟩
theorem anyK {L : List (Nat × Nat × Int × Nat × Nat)} {a b : Nat} {c : Int} (h : L.any (fun q => Nat.beq q.1 a && Nat.beq q.2.1 b && decide (q.2.2.1 = c)) = true) : ∃ q ∈ L, q.1 = a ∧ q.2.1 = b ∧ q.2.2.1 = c := by
  obtain ⟨q, hq, h1⟩ := List.any_eq_true.mp h
  simp only [Bool.and_eq_true, decide_eq_true_eq] at h1
  exact ⟨q, hq, Nat.eq_of_beq_eq_true h1.1.1, Nat.eq_of_beq_eq_true h1.1.2, h1.2⟩
theorem OL_of {own x : Nat} (h : OLs.any (fun q => Nat.beq q.1 own && Nat.beq q.2.1 x) = true) : Cond.methodLink (oN own) x objectInit ∈ GW := by
  obtain ⟨q, hq, e1, e2⟩ := any2 h
  have h2 := OLs_ok q hq
  rw [e1, e2] at h2
  exact GW_of h2 rfl
theorem PL_of {own x : Nat} (h : PLs.any (fun q => Nat.beq q.1 own && Nat.beq q.2.1 x) = true) : Cond.methodLink (oN own) x arraycopyName ∈ GW := by
  obtain ⟨q, hq, e1, e2⟩ := any2 h
  have h2 := PLs_ok q hq
  rw [e1, e2] at h2
  exact GW_of h2 rfl
theorem KL_of {own x : Nat} {k : Int} (h : KLs.any (fun q => Nat.beq q.1 own && Nat.beq q.2.1 x && decide (q.2.2.1 = k)) = true) : Cond.constant (oN own) x (Int32.ofInt k) ∈ GW := by
  obtain ⟨q, hq, e1, e2, e3⟩ := anyK h
  have h2 := KLs_ok q hq
  rw [e1, e2, e3] at h2
  exact GW_of h2 rfl
theorem JL_of {own x : Nat} {k : Int} (h : JLs.any (fun q => Nat.beq q.1 own && Nat.beq q.2.1 x && decide (q.2.2.1 = k)) = true) : Cond.constantLong (oN own) x (Int64.ofInt k) ∈ GW := by
  obtain ⟨q, hq, e1, e2, e3⟩ := anyK h
  have h2 := JLs_ok q hq
  rw [e1, e2, e3] at h2
  exact GW_of h2 rfl
section SIM
variable {p : Program} {l : Launch} {e : Env} {R : Room} {s : State} {m : MethodId} {args : Array Value} {below : List Frame} {meth : Method} {c : Code} {H : Heap} {locs : List Loc} {cells slots : Nat} {Q : State → Prop}
variable {G : tG} {D : va_G} {cA : Nat → ClassId} {M i i' pc n k : Nat} {ls ls' : am_L} {st st' : List am_V} {τ τ' : am_S} {lsC : Array Slot}
theorem s_ild {x : am_I} (hn : pcA M (i + 1) = pc + n) (row : ∀ (v : Int32), lsC[k]? = some (Slot.val (.int v)) → W p l e R s m args below meth c H locs cells slots Q (F0 m (pc + n) lsC (.int v :: st.map (tV G))) → W p l e R s m args below meth c H locs cells slots Q (F0 m pc lsC (st.map (tV G))))
    (hsel : am_sel (am_ild x i k ls st τ) = some (.inl (i', ls', st', τ'))) (I : Iv G D cA M s τ H ls st lsC locs cells) (K : KT p l e R s m args below meth c Q G D cA M cells slots τ i' ls' st' τ') : W p l e R s m args below meth c H locs cells slots Q (F0 m pc lsC (st.map (tV G))) := by
  unfold am_ild at hsel
  split at hsel
  · rename_i v hv
    obtain ⟨h1, h2⟩ := lr_get I hv
    exact row _ h1 (s_push (v := qi v) hn hsel h2 I K)
  · cases hsel
theorem s_lld {x : am_I} (hn : pcA M (i + 1) = pc + n) (row : ∀ (v : Int64), lsC[k]? = some (Slot.val (.long v)) → W p l e R s m args below meth c H locs cells slots Q (F0 m (pc + n) lsC (.long v :: st.map (tV G))) → W p l e R s m args below meth c H locs cells slots Q (F0 m pc lsC (st.map (tV G))))
    (hsel : am_sel (am_lld x i k ls st τ) = some (.inl (i', ls', st', τ'))) (I : Iv G D cA M s τ H ls st lsC locs cells) (K : KT p l e R s m args below meth c Q G D cA M cells slots τ i' ls' st' τ') : W p l e R s m args below meth c H locs cells slots Q (F0 m pc lsC (st.map (tV G))) := by
  unfold am_lld at hsel
  split at hsel
  · rename_i v hv
    obtain ⟨h1, h2⟩ := lr_get I hv
    exact row _ h1 (s_push (v := ql v) hn hsel h2 I K)
  · cases hsel
theorem s_ald {x : am_I} (hn : pcA M (i + 1) = pc + n) (rowN : lsC[k]? = some (Slot.val .null) → W p l e R s m args below meth c H locs cells slots Q (F0 m (pc + n) lsC (.null :: st.map (tV G))) → W p l e R s m args below meth c H locs cells slots Q (F0 m pc lsC (st.map (tV G))))
    (row : ∀ (v : Nat), lsC[k]? = some (Slot.val (.ref v)) → W p l e R s m args below meth c H locs cells slots Q (F0 m (pc + n) lsC (.ref v :: st.map (tV G))) → W p l e R s m args below meth c H locs cells slots Q (F0 m pc lsC (st.map (tV G))))
    (hsel : am_sel (am_ald x i k ls st τ) = some (.inl (i', ls', st', τ'))) (I : Iv G D cA M s τ H ls st lsC locs cells) (K : KT p l e R s m args below meth c Q G D cA M cells slots τ i' ls' st' τ') : W p l e R s m args below meth c H locs cells slots Q (F0 m pc lsC (st.map (tV G))) := by
  unfold am_ald at hsel
  split at hsel
  · rename_i o hv
    obtain ⟨h1, h2⟩ := lr_get I hv
    cases o with
    | none => exact rowN h1 (s_push (v := qo none) hn hsel h2 I K)
    | some r => exact row _ h1 (s_push (v := qo (some r)) hn hsel h2 I K)
  · cases hsel
theorem s_dup (C : Cx p s m args meth c G D cA M) (hd : decode (m_bytes M) pc = .ok (.dup, 1)) (hn : pcA M (i + 1) = pc + 1)
    (hsel : am_sel (am_dup i ls st τ) = some (.inl (i', ls', st', τ'))) (I : Iv G D cA M s τ H ls st lsC locs cells) (K : KT p l e R s m args below meth c Q G D cA M cells slots τ i' ls' st' τ') : W p l e R s m args below meth c H locs cells slots Q (F0 m pc lsC (st.map (tV G))) := by
  unfold am_dup at hsel
  split at hsel
  · cases hsel
  · rename_i v t hv
    have hc : (tV G v).category = 1 := by
      rcases lv_cat (tV G v) with h | h
      · exact h
      · exfalso
        have h2 := (cat_tV G v).mp h
        rcases v with x | x | x
        · cases h2
        · exact hv x rfl
        · cases h2
    refine lv_dup C.1 C.2.1 hd hc ?_
    exact s_push (v := v) (st := v :: t) hn hsel I.top I K
  · cases hsel
theorem s_dup2 (C : Cx p s m args meth c G D cA M) (hd : decode (m_bytes M) pc = .ok (.dup2, 1)) (hn : pcA M (i + 1) = pc + 1)
    (hsel : am_sel (am_dup2 i ls st τ) = some (.inl (i', ls', st', τ'))) (I : Iv G D cA M s τ H ls st lsC locs cells) (K : KT p l e R s m args below meth c Q G D cA M cells slots τ i' ls' st' τ') : W p l e R s m args below meth c H locs cells slots Q (F0 m pc lsC (st.map (tV G))) := by
  unfold am_dup2 at hsel
  split at hsel
  · refine lv_dup2_2 C.1 C.2.1 hd rfl ?_
    exact s_push (v := ql _) (st := ql _ :: _) hn hsel I.top I K
  · refine lv_dup2_11 C.1 C.2.1 hd rfl rfl ?_
    exact s_push (v := qi _) (st := qi _ :: qi _ :: qi _ :: _) hn hsel I.top (I.push I.top2) K
  · rename_i x y t
    have hc : (tV G (qo y)).category = 1 := by cases y <;> rfl
    refine lv_dup2_11 C.1 C.2.1 hd rfl hc ?_
    exact s_push (v := qi _) (st := qo _ :: qi _ :: qo _ :: _) hn hsel I.top (I.push I.top2) K
  · cases hsel
theorem s_iinc {w : Int} (C : Cx p s m args meth c G D cA M) (hd : decode (m_bytes M) pc = .ok (.iinc k w, 3)) (hn : pcA M (i + 1) = pc + 3) (hk : k < MLL M)
    (hsel : am_sel (match am_get ls k with | some (.inl x) => am_nx (i + 1) (am_st1 ls k (qi (w32 (x + w)))) st τ | _ => none) = some (.inl (i', ls', st', τ'))) (I : Iv G D cA M s τ H ls st lsC locs cells) (K : KT p l e R s m args below meth c Q G D cA M cells slots τ i' ls' st' τ') : W p l e R s m args below meth c H locs cells slots Q (F0 m pc lsC (st.map (tV G))) := by
  split at hsel
  · rename_i v hv
    obtain ⟨h1, h2⟩ := lr_get I hv
    have h2 : inI v := h2
    refine s_st1 (v := qi (w32 (v + w))) (w := .int (Int32.ofInt (w32 (v + w)))) rfl (extra := [(k, .int (Int32.ofInt v))]) (fun q hq => ?_) hn (inI_w _) hsel I K (fun hh kk => ?_)
    · rw [List.mem_singleton.mp hq]; exact h1
    · exact lv_iinc (k := 0) C.1 C.2.1 hd hh rfl (n_add v w) hk rfl kk
  · cases hsel
end SIM
