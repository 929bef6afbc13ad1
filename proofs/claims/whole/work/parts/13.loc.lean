/-! locals and branches -/
theorem cat_tV (G : tG) (w : am_V) : (tV G w).category = 2 ↔ am_isL (some w) = true := by
  rcases w with x | x | o
  · exact ⟨fun h => (by cases h), fun h => (by cases h)⟩
  · exact ⟨fun _ => rfl, fun _ => rfl⟩
  · cases o with
    | none => exact ⟨fun h => (by cases h), fun h => (by cases h)⟩
    | some r => exact ⟨fun h => (by cases h), fun h => (by cases h)⟩
theorem st1_get : ∀ (ls : am_L) (k : Nat) (v : am_V) (j : Nat) (w : am_V), (am_st1 ls k v)[j]? = some (some w) → (j = k ∧ w = v) ∨ (j ≠ k ∧ ls[j]? = some (some w) ∧ (j + 1 = k → am_isL (some w) = false))
  | [], _, _, _, _, h => by simp [am_st1] at h
  | x :: t, 0, v, 0, w, h => by
    simp [am_st1] at h
    exact Or.inl ⟨rfl, h.symm⟩
  | x :: t, 0, v, j + 1, w, h => by
    simp [am_st1] at h
    exact Or.inr ⟨by omega, by simpa using h, fun q => by omega⟩
  | x :: t, 1, v, 0, w, h => by
    simp [am_st1] at h
    refine Or.inr ⟨by omega, ?_, fun _ => ?_⟩
    · unfold am_cl at h
      split at h
      · cases h
      · simpa using h
    · unfold am_cl at h
      split at h
      · cases h
      · rename_i hx; rw [← h]; exact hx
  | x :: t, 1, v, j + 1, w, h => by
    simp only [am_st1, List.getElem?_cons_succ] at h
    rcases st1_get t 0 v j w h with ⟨q1, q2⟩ | ⟨q1, q2, q3⟩
    · exact Or.inl ⟨by omega, q2⟩
    · exact Or.inr ⟨by omega, by simpa using q2, fun q => by omega⟩
  | x :: t, k + 2, v, 0, w, h => by
    simp [am_st1] at h
    exact Or.inr ⟨by omega, by simpa using h, fun q => by omega⟩
  | x :: t, k + 2, v, j + 1, w, h => by
    simp only [am_st1, List.getElem?_cons_succ] at h
    rcases st1_get t (k + 1) v j w h with ⟨q1, q2⟩ | ⟨q1, q2, q3⟩
    · exact Or.inl ⟨by omega, q2⟩
    · exact Or.inr ⟨by omega, by simpa using q2, fun q => q3 (by omega)⟩
theorem st2_get : ∀ (ls : am_L) (k : Nat) (v : am_V) (j : Nat) (w : am_V), (am_st2 ls k v)[j]? = some (some w) → (j = k ∧ w = v) ∨ (j ≠ k ∧ j ≠ k + 1 ∧ ls[j]? = some (some w) ∧ (j + 1 = k → am_isL (some w) = false))
  | [], _, _, _, _, h => by simp [am_st2] at h
  | x :: t, 0, v, 0, w, h => by
    simp [am_st2] at h
    exact Or.inl ⟨rfl, h.symm⟩
  | x :: t, 0, v, 1, w, h => by
    exfalso
    simp only [am_st2, List.getElem?_cons_succ] at h
    cases t with
    | nil => simp at h
    | cons y t => simp at h
  | x :: t, 0, v, j + 2, w, h => by
    simp only [am_st2, List.getElem?_cons_succ] at h
    refine Or.inr ⟨by omega, by omega, ?_, fun q => by omega⟩
    rw [List.getElem?_set_ne (by omega)] at h
    simpa using h
  | x :: t, 1, v, 0, w, h => by
    simp [am_st2] at h
    refine Or.inr ⟨by omega, by omega, ?_, fun _ => ?_⟩
    · unfold am_cl at h
      split at h
      · cases h
      · simpa using h
    · unfold am_cl at h
      split at h
      · cases h
      · rename_i hx; rw [← h]; exact hx
  | x :: t, 1, v, j + 1, w, h => by
    simp only [am_st2, List.getElem?_cons_succ] at h
    rcases st2_get t 0 v j w h with ⟨q1, q2⟩ | ⟨q1, q2, q3, q4⟩
    · exact Or.inl ⟨by omega, q2⟩
    · exact Or.inr ⟨by omega, by omega, by simpa using q3, fun q => by omega⟩
  | x :: t, k + 2, v, 0, w, h => by
    simp [am_st2] at h
    exact Or.inr ⟨by omega, by omega, by simpa using h, fun q => by omega⟩
  | x :: t, k + 2, v, j + 1, w, h => by
    simp only [am_st2, List.getElem?_cons_succ] at h
    rcases st2_get t (k + 1) v j w h with ⟨q1, q2⟩ | ⟨q1, q2, q3, q4⟩
    · exact Or.inl ⟨by omega, q2⟩
    · exact Or.inr ⟨by omega, by omega, by simpa using q3, fun q => q4 (by omega)⟩
def lvOf (G : tG) (ls : am_L) : List (Nat × Value) := (List.range ls.length).filterMap (fun j => match ls[j]? with
  | some (some v) => some (j, tV G v)
  | _ => none)
theorem lvOf_mem {G : tG} {ls : am_L} {q : Nat × Value} : q ∈ lvOf G ls ↔ ∃ (j : Nat) (v : am_V), ls[j]? = some (some v) ∧ q = (j, tV G v) := by
  unfold lvOf
  rw [List.mem_filterMap]
  constructor
  · rintro ⟨j, -, h⟩
    split at h
    · rename_i v hv
      exact ⟨j, v, hv, (Option.some.inj h).symm⟩
    · cases h
  · rintro ⟨j, v, h, rfl⟩
    refine ⟨j, List.mem_range.mpr (List.getElem?_eq_some_iff.mp h).1, ?_⟩
    rw [h]
theorem LR_has {G : tG} {M : Nat} {ls : am_L} {lsC : Array Slot} (h : LR G M ls lsC) : lv_has lsC (MLL M) (lvOf G ls) := ⟨h.1, h.2.1, fun q hq => by
  obtain ⟨j, v, h1, rfl⟩ := lvOf_mem.mp hq
  exact h.2.2 j v h1⟩
theorem LR_st1 {G : tG} {M k : Nat} {ls : am_L} {lsC : Array Slot} {v : am_V} {w : Value} (hw : tV G v = w) {extra : List (Nat × Value)} (h : lv_has lsC (MLL M) ((k, w) :: (extra ++ lvOf G ls).filter (fun q => !(q.1 == k) && !(q.1 + 1 == k && q.2.category == 2)))) : LR G M (am_st1 ls k v) lsC := by
  refine ⟨h.1, h.2.1, fun j u hu => ?_⟩
  rcases st1_get ls k v j u hu with ⟨rfl, rfl⟩ | ⟨q1, q2, q3⟩
  · rw [hw]; exact h.2.2 (j, w) List.mem_cons_self
  · refine h.2.2 (j, tV G u) (List.mem_cons_of_mem _ (List.mem_filter.mpr ⟨List.mem_append_right _ (lvOf_mem.mpr ⟨j, u, q2, rfl⟩), ?_⟩))
    have c2 := cat_tV G u
    simp only [Bool.and_eq_true, Bool.not_eq_true', beq_eq_false_iff_ne, Bool.and_eq_false_iff]
    refine ⟨q1, ?_⟩
    by_cases hj : j + 1 = k
    · right
      intro hc
      rw [c2.mp hc] at q3
      exact absurd (q3 hj) (by decide)
    · left; exact hj
theorem LR_st2 {G : tG} {M k : Nat} {ls : am_L} {lsC : Array Slot} {v : am_V} {w : Value} (hw : tV G v = w) (h : lv_has lsC (MLL M) ((k, w) :: (lvOf G ls).filter (fun q => !(q.1 == k) && (!(q.1 == k + 1) && !(q.1 + 1 == k && q.2.category == 2))))) : LR G M (am_st2 ls k v) lsC := by
  refine ⟨h.1, h.2.1, fun j u hu => ?_⟩
  rcases st2_get ls k v j u hu with ⟨rfl, rfl⟩ | ⟨q1, q2, q3, q4⟩
  · rw [hw]; exact h.2.2 (j, w) List.mem_cons_self
  · refine h.2.2 (j, tV G u) (List.mem_cons_of_mem _ (List.mem_filter.mpr ⟨lvOf_mem.mpr ⟨j, u, q3, rfl⟩, ?_⟩))
    have c2 := cat_tV G u
    simp only [Bool.and_eq_true, Bool.not_eq_true', beq_eq_false_iff_ne, Bool.and_eq_false_iff]
    refine ⟨q1, q2, ?_⟩
    by_cases hj : j + 1 = k
    · right
      intro hc
      rw [c2.mp hc] at q4
      exact absurd (q4 hj) (by decide)
    · left; exact hj
theorem mem_st1 {ls : am_L} {k : Nat} {v w : am_V} (h : some w ∈ am_st1 ls k v) : w = v ∨ some w ∈ ls := by
  obtain ⟨j, hj⟩ := List.getElem?_of_mem h
  rcases st1_get ls k v j w hj with ⟨-, q⟩ | ⟨-, q, -⟩
  · exact Or.inl q
  · exact Or.inr (List.mem_of_getElem? q)
theorem mem_st2 {ls : am_L} {k : Nat} {v w : am_V} (h : some w ∈ am_st2 ls k v) : w = v ∨ some w ∈ ls := by
  obtain ⟨j, hj⟩ := List.getElem?_of_mem h
  rcases st2_get ls k v j w hj with ⟨-, q⟩ | ⟨-, -, q, -⟩
  · exact Or.inl q
  · exact Or.inr (List.mem_of_getElem? q)
section SIM
variable {p : Program} {l : Launch} {e : Env} {R : Room} {s : State} {m : MethodId} {args : Array Value} {below : List Frame} {meth : Method} {c : Code} {H : Heap} {locs : List Loc} {cells slots : Nat} {Q : State → Prop}
variable {G : tG} {D : va_G} {cA : Nat → ClassId} {M i i' pc n k : Nat} {ls ls' : am_L} {st st' : List am_V} {τ τ' : am_S} {lsC : Array Slot}
theorem Iv.loc {ls2 : am_L} {lsC2 : Array Slot} (I : Iv G D cA M s τ H ls st lsC locs cells) (h : ∀ v, some v ∈ ls2 → okV τ v) (hl : LR G M ls2 lsC2) : Iv G D cA M s τ H ls2 st lsC2 locs cells := by
  obtain ⟨h1, h2, h3, h4, h5, h6, h7⟩ := I
  exact ⟨h1, h2, h3, h4, h5, h, hl⟩
/-- a store of one place; `extra`: a value that is listed ahead -/
theorem s_st1 {v : am_V} {w : Value} {t : List am_V} {st0 : List Value} (hw : tV G v = w) {extra : List (Nat × Value)} (hx : ∀ q ∈ extra, lsC[q.1]? = some (Slot.val q.2)) (hn : pcA M (i + 1) = pc + n) (hv : okV τ v)
    (hsel : am_sel (am_nx (i + 1) (am_st1 ls k v) t τ) = some (.inl (i', ls', st', τ'))) (I : Iv G D cA M s τ H ls t lsC locs cells) (K : KT p l e R s m args below meth c Q G D cA M cells slots τ i' ls' st' τ')
    (row : lv_has lsC (MLL M) (extra ++ lvOf G ls) → (∀ ls2 : Array Slot, lv_has ls2 (MLL M) ((k, w) :: (extra ++ lvOf G ls).filter (fun q => !(q.1 == k) && !(q.1 + 1 == k && q.2.category == 2))) → W p l e R s m args below meth c H locs cells slots Q (F0 m (pc + n) ls2 (t.map (tV G)))) → W p l e R s m args below meth c H locs cells slots Q (F0 m pc lsC st0)) :
    W p l e R s m args below meth c H locs cells slots Q (F0 m pc lsC st0) := by
  cases sel_nx hsel
  have hh := LR_has I.2.2.2.2.2.2
  refine row ⟨hh.1, hh.2.1, fun q hq => ?_⟩ (fun ls2 h2 => ?_)
  · rcases List.mem_append.mp hq with q1 | q1
    · exact hx q q1
    · exact hh.2.2 q q1
  · rw [← hn]
    refine s_same K (I.loc (fun u hu => ?_) (LR_st1 hw h2))
    rcases mem_st1 hu with rfl | h
    · exact hv
    · exact I.2.2.2.2.2.1 u h
theorem s_st2 {v : am_V} {w : Value} {t : List am_V} {st0 : List Value} (hw : tV G v = w) (hn : pcA M (i + 1) = pc + n) (hv : okV τ v)
    (hsel : am_sel (am_nx (i + 1) (am_st2 ls k v) t τ) = some (.inl (i', ls', st', τ'))) (I : Iv G D cA M s τ H ls t lsC locs cells) (K : KT p l e R s m args below meth c Q G D cA M cells slots τ i' ls' st' τ')
    (row : lv_has lsC (MLL M) (lvOf G ls) → (∀ ls2 : Array Slot, lv_has ls2 (MLL M) ((k, w) :: (lvOf G ls).filter (fun q => !(q.1 == k) && (!(q.1 == k + 1) && !(q.1 + 1 == k && q.2.category == 2)))) → W p l e R s m args below meth c H locs cells slots Q (F0 m (pc + n) ls2 (t.map (tV G)))) → W p l e R s m args below meth c H locs cells slots Q (F0 m pc lsC st0)) :
    W p l e R s m args below meth c H locs cells slots Q (F0 m pc lsC st0) := by
  cases sel_nx hsel
  refine row (LR_has I.2.2.2.2.2.2) (fun ls2 h2 => ?_)
  rw [← hn]
  refine s_same K (I.loc (fun u hu => ?_) (LR_st2 hw h2))
  rcases mem_st2 hu with rfl | h
  · exact hv
  · exact I.2.2.2.2.2.1 u h
theorem s_br {cc CC : Prop} (hC : CC ↔ cc) {j1 j2 : Nat} {t : List am_V} {st0 : List Value} (hsel : am_sel (am_br cc j1 j2 ls t τ) = some (.inl (i', ls', st', τ'))) (I : Iv G D cA M s τ H ls t lsC locs cells) (K : KT p l e R s m args below meth c Q G D cA M cells slots τ i' ls' st' τ')
    (row : (CC → W p l e R s m args below meth c H locs cells slots Q (F0 m (pcA M j1) lsC (t.map (tV G)))) → (¬ CC → W p l e R s m args below meth c H locs cells slots Q (F0 m (pcA M j2) lsC (t.map (tV G)))) → W p l e R s m args below meth c H locs cells slots Q (F0 m pc lsC st0)) :
    W p l e R s m args below meth c H locs cells slots Q (F0 m pc lsC st0) := by
  rcases sel_br hsel with ⟨hc, h⟩ | ⟨hc, h⟩
  · cases h
    exact row (fun _ => s_same K I) (fun h => absurd (hC.mpr hc) h)
  · cases h
    exact row (fun h => absurd (hC.mp h) hc) (fun _ => s_same K I)
/-- an int with 0 -/
theorem s_if0 {kc : Jvm.ClassFile.Cond} {off : Int} {x1 : Nat} (C : Cx p s m args meth c G D cA M) (hd : decode (m_bytes M) pc = .ok (.ifCond kc off, 3)) (h1 : (pc : Int) + off = ((pcA M x1 : Nat) : Int)) (h2 : pcA M (i + 1) = pc + 3)
    (hsel : am_sel (am_i1 st fun a t => am_if i x1 kc a 0 ls t τ) = some (.inl (i', ls', st', τ'))) (I : Iv G D cA M s τ H ls st lsC locs cells) (K : KT p l e R s m args below meth c Q G D cA M cells slots τ i' ls' st' τ') : W p l e R s m args below meth c H locs cells slots Q (F0 m pc lsC (st.map (tV G))) := by
  obtain ⟨a, t, rfl, hsel⟩ := sel_i1 hsel
  have ha : inI a := I.top
  have h0 : inI 0 := by unfold inI; omega
  have z : (0 : Int32) = Int32.ofInt 0 := rfl
  cases kc with
  | eq => exact s_br (CC := Int32.ofInt a = 0) (by rw [z]; exact n_eq ha h0) hsel I.pop K (fun kt kf => lv_if_eq C.1 C.2.1 hd h1 kt (by rw [← h2]; exact kf))
  | ne => exact s_br (CC := Int32.ofInt a = 0) (by rw [z]; exact n_eq ha h0) hsel I.pop K (fun kt kf => lv_if_ne C.1 C.2.1 hd h1 kf (by rw [← h2]; exact kt))
  | lt => exact s_br (CC := Int32.ofInt a < 0) (by rw [z]; exact n_lt ha h0) hsel I.pop K (fun kt kf => lv_if_lt C.1 C.2.1 hd h1 kt (by rw [← h2]; exact kf))
  | ge => exact s_br (CC := 0 ≤ Int32.ofInt a) (by rw [z]; exact n_le h0 ha) hsel I.pop K (fun kt kf => lv_if_ge C.1 C.2.1 hd h1 kt (by rw [← h2]; exact kf))
  | gt => exact s_br (CC := 0 < Int32.ofInt a) (by rw [z]; exact n_lt h0 ha) hsel I.pop K (fun kt kf => lv_if_gt C.1 C.2.1 hd h1 kt (by rw [← h2]; exact kf))
  | le => exact s_br (CC := Int32.ofInt a ≤ 0) (by rw [z]; exact n_le ha h0) hsel I.pop K (fun kt kf => lv_if_le C.1 C.2.1 hd h1 kt (by rw [← h2]; exact kf))
theorem s_if2 {kc : Jvm.ClassFile.Cond} {off : Int} {x1 : Nat} (C : Cx p s m args meth c G D cA M) (hd : decode (m_bytes M) pc = .ok (.if_icmp kc off, 3)) (h1 : (pc : Int) + off = ((pcA M x1 : Nat) : Int)) (h2 : pcA M (i + 1) = pc + 3)
    (hsel : am_sel (am_i2 st fun a b t => am_if i x1 kc a b ls t τ) = some (.inl (i', ls', st', τ'))) (I : Iv G D cA M s τ H ls st lsC locs cells) (K : KT p l e R s m args below meth c Q G D cA M cells slots τ i' ls' st' τ') : W p l e R s m args below meth c H locs cells slots Q (F0 m pc lsC (st.map (tV G))) := by
  obtain ⟨a, b, t, rfl, hsel⟩ := sel_i2 hsel
  have ha : inI a := I.top2
  have hb : inI b := I.top
  cases kc with
  | eq => exact s_br (CC := Int32.ofInt a = Int32.ofInt b) (n_eq ha hb) hsel I.pop.pop K (fun kt kf => lv_icmp_eq C.1 C.2.1 hd h1 kt (by rw [← h2]; exact kf))
  | ne => exact s_br (CC := Int32.ofInt a = Int32.ofInt b) (n_eq ha hb) hsel I.pop.pop K (fun kt kf => lv_icmp_ne C.1 C.2.1 hd h1 kf (by rw [← h2]; exact kt))
  | lt => exact s_br (CC := Int32.ofInt a < Int32.ofInt b) (n_lt ha hb) hsel I.pop.pop K (fun kt kf => lv_icmp_lt C.1 C.2.1 hd h1 kt (by rw [← h2]; exact kf))
  | ge => exact s_br (CC := Int32.ofInt b ≤ Int32.ofInt a) (n_le hb ha) hsel I.pop.pop K (fun kt kf => lv_icmp_ge C.1 C.2.1 hd h1 kt (by rw [← h2]; exact kf))
  | gt => exact s_br (CC := Int32.ofInt b < Int32.ofInt a) (n_lt hb ha) hsel I.pop.pop K (fun kt kf => lv_icmp_gt C.1 C.2.1 hd h1 kt (by rw [← h2]; exact kf))
  | le => exact s_br (CC := Int32.ofInt a ≤ Int32.ofInt b) (n_le ha hb) hsel I.pop.pop K (fun kt kf => lv_icmp_le C.1 C.2.1 hd h1 kt (by rw [← h2]; exact kf))
theorem s_ifnull {off : Int} {x1 : Nat} (C : Cx p s m args meth c G D cA M) (hd : decode (m_bytes M) pc = .ok (.ifnull off, 3)) (h1 : (pc : Int) + off = ((pcA M x1 : Nat) : Int)) (h2 : pcA M (i + 1) = pc + 3)
    (hsel : am_sel (am_o1 st fun o t => am_br (o = none) x1 (i + 1) ls t τ) = some (.inl (i', ls', st', τ'))) (I : Iv G D cA M s τ H ls st lsC locs cells) (K : KT p l e R s m args below meth c Q G D cA M cells slots τ i' ls' st' τ') : W p l e R s m args below meth c H locs cells slots Q (F0 m pc lsC (st.map (tV G))) := by
  obtain ⟨o, t, rfl, hsel⟩ := sel_o1 hsel
  cases o with
  | none => exact s_br (CC := True) (by simp) hsel I.pop K (fun kt kf => lv_ifnullN C.1 C.2.1 hd h1 (kt trivial))
  | some r => exact s_br (CC := False) (by simp) hsel I.pop K (fun kt kf => lv_ifnull C.1 C.2.1 hd (by rw [← h2]; exact kf id))
end SIM
