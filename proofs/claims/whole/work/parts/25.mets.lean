/-! every method's contract -/
theorem sl_len (G : tG) : ∀ vs : List am_V, (lg_sl (vs.map (tV G))).length = (am_args vs).length
  | [] => rfl
  | v :: vs => by
    have ih := sl_len G vs
    unfold lg_sl at ih ⊢
    rcases v with x | x | o
    · simp only [List.map_cons, List.flatMap_cons, List.length_append, ih, am_args, List.length_cons]
      show 1 + _ = _ + 1
      omega
    · simp only [List.map_cons, List.flatMap_cons, List.length_append, ih, am_args, List.length_cons]
      show 2 + _ = _ + 1 + 1
      omega
    · cases o <;> (simp only [List.map_cons, List.flatMap_cons, List.length_append, ih, am_args, List.length_cons]; show 1 + _ = _ + 1; omega)
theorem args_at (G : tG) : ∀ (vs : List am_V) (b j : Nat) (v : am_V), (am_args vs)[j]? = some (some v) → (b + j, tV G v) ∈ lv_args b (vs.map (tV G)) ∧ v ∈ vs
  | [], b, j, v, h => by simp [am_args] at h
  | .inl x :: vs, b, 0, v, h => by
    simp [am_args] at h
    subst h
    exact ⟨List.mem_cons_self, List.mem_cons_self⟩
  | .inl x :: vs, b, j + 1, v, h => by
    simp only [am_args, List.getElem?_cons_succ] at h
    obtain ⟨h1, h2⟩ := args_at G vs (b + 1) j v h
    refine ⟨List.mem_cons_of_mem _ ?_, List.mem_cons_of_mem _ h2⟩
    rw [show b + (j + 1) = b + 1 + j by omega]
    exact h1
  | .inr (.inl x) :: vs, b, 0, v, h => by
    simp [am_args] at h
    subst h
    exact ⟨List.mem_cons_self, List.mem_cons_self⟩
  | .inr (.inl x) :: vs, b, 1, v, h => by
    simp [am_args] at h
  | .inr (.inl x) :: vs, b, j + 2, v, h => by
    simp only [am_args, List.getElem?_cons_succ] at h
    obtain ⟨h1, h2⟩ := args_at G vs (b + 2) j v h
    refine ⟨List.mem_cons_of_mem _ ?_, List.mem_cons_of_mem _ h2⟩
    rw [show b + (j + 2) = b + 2 + j by omega]
    exact h1
  | .inr (.inr x) :: vs, b, 0, v, h => by
    simp [am_args] at h
    subst h
    exact ⟨List.mem_cons_self, List.mem_cons_self⟩
  | .inr (.inr x) :: vs, b, j + 1, v, h => by
    simp only [am_args, List.getElem?_cons_succ] at h
    obtain ⟨h1, h2⟩ := args_at G vs (b + 1) j v h
    refine ⟨List.mem_cons_of_mem _ ?_, List.mem_cons_of_mem _ h2⟩
    rw [show b + (j + 1) = b + 1 + j by omega]
    have hc : (if (tV G (.inr (.inr x))).category = 2 then b + 2 else b + 1) = b + 1 := by cases x <;> rfl
    show _ ∈ lv_args (if (tV G (.inr (.inr x))).category = 2 then b + 2 else b + 1) _
    rw [hc]
    exact h1
theorem ent_at {n : Nat} {vs : List am_V} {j : Nat} {v : am_V} (h : (am_ent n vs)[j]? = some (some v)) : (am_args vs)[j]? = some (some v) := by
  unfold am_ent at h
  by_cases hj : j < (am_args vs).length
  · rw [List.getElem?_append_left hj] at h; exact h
  · rw [List.getElem?_append_right (by omega), List.getElem?_replicate] at h
    split at h
    · cases h
    · cases h
theorem mem_ent {n : Nat} {vs : List am_V} {v : am_V} (h : some v ∈ am_ent n vs) : v ∈ vs := by
  obtain ⟨j, hj⟩ := List.getElem?_of_mem h
  exact (args_at (0, 0, 0) vs 0 j v (ent_at hj)).2
theorem LR_entry {G : tG} {y : Nat} {vs : List am_V} {lsC : Array Slot} (h : lv_has lsC (MLL y) (lv_args 0 (vs.map (tV G)))) : LR G y (am_ent (MLL y) vs) lsC := by
  refine ⟨h.1, h.2.1, fun j v hj => ?_⟩
  have h1 := (args_at G vs 0 j v (ent_at hj)).1
  rw [Nat.zero_add] at h1
  exact h.2.2 _ h1
theorem ret_iz {M : Nat} {i : Nat} {x : am_I} (hM : M < 279) (he : PP M i = some x) (hi : x.1 = .ireturn) : (m_ret M = some .int ∧ x.2.2.1 = 0) ∨ (m_ret M = some .boolean ∧ x.2.2.1 = 1) := by
  have h := (tf_chk hM he (by rw [hi]; intro h; cases h)).2
  obtain ⟨ins, pc, x1, x2, x3, k, ts, cut⟩ := x
  dsimp only at hi
  subst hi
  have h : ((Nat.beq x1 0 && decide (m_ret M = some .int)) || (Nat.beq x1 1 && decide (m_ret M = some .boolean))) = true := h
  simp only [Bool.or_eq_true, Bool.and_eq_true, decide_eq_true_eq] at h
  exact h.imp (fun h => ⟨h.2, Nat.eq_of_beq_eq_true h.1⟩) (fun h => ⟨h.2, Nat.eq_of_beq_eq_true h.1⟩)
section SIM
variable {p : Program} {l : Launch} {e : Env} {R : Room} {s : State} {m : MethodId} {args : Array Value} {below : List Frame} {meth : Method} {c : Code}
variable {G : tG} {D : va_G} {cA : Nat → ClassId} {M : Nat} {σ' : am_S} {rv : Option am_V}
theorem m_end {CE SE : Nat} (C : Cx p s m args meth c G D cA M) (hr : meth.sig.returnType = m_ret M) (hlocks : meth.locks = false) (i : Nat) (x : am_I) (ls : am_L) (st : List am_V) (H : Heap) (lsC : Array Slot) (locs : List Loc) (he : PP M i = some x) (hsel : am_sel (am_step x i ls st σ') = some (.inr (.inl rv))) (I : Iv G D cA M s σ' H ls st lsC locs CE) :
    W p l e R s m args below meth c H locs CE SE (MQ below (QcM G D cA rv σ') args s CE SE (AA G)) (F0 m (pcA M i) lsC (st.map (tV G))) := by
  have hM : M < 279 := C.2.2.2.2.2.2.2
  obtain ⟨i1, i2, i3, i4, i5, i6, i7⟩ := id I
  have hSf := C.2.2.2.2.2.1
  obtain ⟨-, -, -, -, -, -, g7, g8, g9⟩ := id hSf
  have hq : ∀ t : State, t.heap = H → s.WarmedH t.vm → (∀ v, rv = some v → okV σ' v) → QcM G D cA rv σ' args s (.returned (rv.map (tV G))) t := by
    intro t ht hW hv
    have hold : ∀ q : Nat, q < s.heap.size → ¬ AA G q → t.heap[q]? = s.heap[q]? := fun q h1 h2 => by rw [ht]; exact i3.2.1 q h1 h2
    exact ⟨rfl, by rw [ht]; exact i1, ⟨(va_X.moved hW.alike i2.1).kept (hold _ (by omega) (Nat.not_le.mpr g8)), va_Tk (va_T.moved hW.alike i2.2) hold (by omega) g9⟩, hv, i3.F ht⟩
  rcases ret_int hsel with ⟨v, hi, rfl, rfl, hz⟩ | ⟨v, hi, rfl, rfl⟩ | ⟨v, hi, rfl, rfl⟩ | ⟨hi, rfl, rfl⟩
  · have hd := tf_dec hM he (by rw [hi]; intro h; cases h)
    rw [tf_pc he]
    obtain ⟨ins, pc, x1, x2, x3, k, ts, cut⟩ := x
    dsimp only at hi
    subst hi
    rcases ret_iz hM he rfl with ⟨h1, h2⟩ | ⟨h1, h2⟩
    · exact W.iret (v := Int32.ofInt v) C.1 C.2.1 (hr.trans h1) (fun t ht hW => hq t ht hW (fun w hw => by cases hw; exact I.top)) i3.2.2 hd hlocks
    · refine W.zret (v := Int32.ofInt v) C.1 C.2.1 (hr.trans h1) ?_ (fun t ht hW => hq t ht hW (fun w hw => by cases hw; exact I.top)) i3.2.2 hd hlocks
      rcases hz h2 with rfl | rfl <;> rfl
  · have hd := tf_dec hM he (by rw [hi]; intro h; cases h)
    have hW := (tf_chk hM he (by rw [hi]; intro h; cases h)).2
    rw [tf_pc he]
    obtain ⟨ins, pc, x1, x2, x3, k, ts, cut⟩ := x
    dsimp only at hi
    subst hi
    exact W.lret (v := Int64.ofInt v) C.1 C.2.1 (hr.trans (of_decide_eq_true hW)) (fun t ht hW => hq t ht hW (fun w hw => by cases hw; exact I.top)) i3.2.2 hd hlocks
  · have hd := tf_dec hM he (by rw [hi]; intro h; cases h)
    have hW := (tf_chk hM he (by rw [hi]; intro h; cases h)).2
    rw [tf_pc he]
    obtain ⟨ins, pc, x1, x2, x3, k, ts, cut⟩ := x
    dsimp only at hi
    subst hi
    have hW : isRt (m_ret M) = true := hW
    have hv : va_rf (tO G v) = .null ∨ ∃ a, va_rf (tO G v) = .ref a := by
      cases v with
      | none => exact Or.inl rfl
      | some r => exact Or.inr ⟨_, rfl⟩
    cases hm : m_ret M with
    | none => rw [hm] at hW; cases hW
    | some rt =>
      rw [hm] at hW
      have hrt : (∃ n, rt = .object n) ∨ ∃ t, rt = .array t := by
        cases rt with
        | object n => exact Or.inl ⟨n, rfl⟩
        | array t => exact Or.inr ⟨t, rfl⟩
        | _ => cases hW
      exact W.aret (v := va_rf (tO G v)) C.1 C.2.1 (hr.trans hm) hrt hv (fun t ht hW => hq t ht hW (fun w hw => by cases hw; exact I.top)) i3.2.2 hd hlocks
  · have hd := tf_dec hM he (by rw [hi]; intro h; cases h)
    have hW := (tf_chk hM he (by rw [hi]; intro h; cases h)).2
    rw [tf_pc he]
    obtain ⟨ins, pc, x1, x2, x3, k, ts, cut⟩ := x
    dsimp only at hi
    subst hi
    exact W.vret C.1 C.2.1 (hr.trans (of_decide_eq_true hW)) (fun t ht hW => hq t ht hW (fun w hw => by cases hw)) i3.2.2 hd hlocks
end SIM
theorem mets (l : Launch) (G : tG) (D : va_G) (cA : Nat → ClassId) : ∀ d, METS l G D cA d := by
  intro d
  induction d using Nat.strongRecOn with
  | _ d ih =>
    intro y n vs τ rv σ' hy hb hvs hrun
    have hmo := run_mono _ _ _ _ _ _ _ _ _ _ hrun
    refine va_MetF (cc := m_bytes y) (maxL := MLL y) (ret := m_ret y) (tb_pl y (List.mem_range.mpr (by omega))) rfl ?_
    intro p e s m args below meth c s₁ B hml hv
    obtain ⟨rfl, hR, hO, hSf, hsz⟩ := hv
    have hts := atoms_spec (ws := wsM y) B.pre
    have hown : s.vm.findClass (oN (m_o y)) = some m.cls := by rw [own_cls (show y < 279 by omega)]; exact findClass_of_methodNamed B.named
    have C : Cx p s m (vs.map (tV G)).toArray meth c G D cA y := ⟨B.exec, B.bytes, hml, hown, fun w hw => hts w (List.mem_cons_of_mem _ hw), hSf, fun h => (name_of_methodNamed B.named B.method).1.trans (tb_init y h), by omega⟩
    have hl := lv_entry (vs.map (tV G)) (n := MLL y) (by rw [sl_len]; exact hb)
    rw [lg_entry_eq]
    generalize (lg_sl (vs.map (tV G)) ++ List.replicate (MLL y - (lg_sl (vs.map (tV G))).length) Slot.unset).toArray = lsC at hl ⊢
    have I : Iv G D cA y s τ s.heap (am_ent (MLL y) vs) [] lsC [] 0 := ⟨hR, hO, va_S.rf, by omega, fun v hv => (by cases hv), fun v hv => hvs v (mem_ent hv), LR_entry hl⟩
    have K := am_sim (l := l) (e := e) (R := (headSpec (wsM y) (rmD d (sN σ' - sN τ) (sU σ' - sU τ))).room) (below := below) (Q := MQ below (QcM G D cA rv σ') (vs.map (tV G)).toArray s (sN σ' - sN τ) (sU σ' - sU τ) (AA G)) (CE := sN σ' - sN τ) (SE := sU σ' - sU τ) C ih (Nat.le_refl _) (Nat.le_refl _) (Nat.le_refl _) (Nat.le_refl _) (fun i x ls st H lsC locs he hsel I => m_end C B.returns B.notSynchronized i x ls st H lsC locs he hsel I) n 0 _ [] τ s.heap lsC [] 0 0 hrun I (by omega) (by omega)
    rw [pc0 y (List.mem_range.mpr (by omega))] at K
    exact K
