/-! calls -/
def wsM (y : Nat) : List Cond := Cond.code (m_y y) (m_bytes y) (MLL y) (m_ret y) :: GW
def rmD (d mc ms : Nat) : Room := { frames := d + 1, cells := mc, slots := ms, locals := 60 * (d + 1) }
def PcM (G : tG) (D : va_G) (cA : Nat → ClassId) (vs : List am_V) (τ : am_S) : Array Value → State → Prop := fun a U => a = (vs.map (tV G)).toArray ∧ Rp G D cA τ U.heap ∧ Ol G U τ ∧ Sf G D cA U ∧ U.heap.size + 2 = G.1 + sN τ
def QcM (G : tG) (D : va_G) (cA : Nat → ClassId) (rv : Option am_V) (σ' : am_S) : Array Value → State → Outcome → State → Prop := fun _ st oc t => oc = .returned (rv.map (tV G)) ∧ Rp G D cA σ' t.heap ∧ Ol G t σ' ∧ (∀ v, rv = some v → okV σ' v) ∧ va_F (AA G) st t
def METS (l : Launch) (G : tG) (D : va_G) (cA : Nat → ClassId) (d : Nat) : Prop := ∀ (y n : Nat) (vs : List am_V) (τ : am_S) (rv : Option am_V) (σ' : am_S), y < 278 → (am_args vs).length ≤ MLL y → (∀ v ∈ vs, okV τ v) → am_run PP MLL n d y 0 (am_ent (MLL y) vs) [] τ = some (rv, σ') →
  Met l (m_y y) (wsM y) (rmD d (sN σ' - sN τ) (sU σ' - sU τ)) (PcM G D cA vs τ) (QcM G D cA rv σ') (sN σ' - sN τ) (sU σ' - sU τ) (AA G)
theorem va_Tk {G : tG} {N b : Nat} {f : Nat → Value} {U : State} {H H1 : Heap} (h : va_T .int G.2.2 N f (AA G) U H) (hold : ∀ q : Nat, q < b → ¬ AA G q → H1[q]? = H[q]?) (h1 : G.1 ≤ b) (h2 : G.2.2 < G.1) : va_T .int G.2.2 N f (AA G) U H1 := by
  obtain ⟨cell, c1, c2⟩ := h
  exact ⟨cell, by rw [hold _ (by omega) (Nat.not_le.mpr h2)]; exact c1, c2⟩
theorem Sf_move {G : tG} {D : va_G} {cA : Nat → ClassId} {s U : State} (h : Sf G D cA s) (hW : s.WarmedH U.vm) (hq : ∀ a, a < s.heap.size → ¬ AA G a → U.heap[a]? = s.heap[a]?) (hz : s.heap.size ≤ U.heap.size) : Sf G D cA U := by
  obtain ⟨h1, h2, h3, h4, h5, h6, h7, h8, h9⟩ := h
  exact ⟨h1.moved hW.alike, h2.moved hW.alike, h3.moved hW.alike, fun q hq => va_Nw.warmM hW (h4 q hq), va_Nw.warmF hW h5, (va_Z.moved hW.alike h6).kept hq, Nat.le_trans h7 hz, h8, h9⟩
theorem Pc_blind {G : tG} {D : va_G} {cA : Nat → ClassId} {vs : List am_V} {τ : am_S} : FrameBlind (PcM G D cA vs τ) := by
  intro a U g mk h
  obtain ⟨h1, h2, h3, ⟨s1, s2, s3, s4, s5, s6, s7, s8, s9⟩, h5⟩ := h
  have hv : U.vm.Alike (U.calling g mk a).vm := Vm.Alike.refl U.vm
  exact ⟨h1, h2, ⟨va_X.moved hv h3.1, va_T.moved hv h3.2⟩, ⟨s1.moved hv, s2.moved hv, s3.moved hv, fun q hq => va_Nw.same rfl rfl (s4 q hq), va_Nw.same rfl rfl s5, va_Z.moved hv s6, s7, s8, s9⟩, h5⟩
theorem good_wsM {y : Nat} (hy : y < 278) : GoodIn GW (wsM y) := by
  intro w hw
  have hw2 : w ∈ GW := by
    rcases List.mem_cons.mp hw with rfl | h
    · exact GW_of (tb_code y (List.mem_range.mpr hy)) rfl
    · exact h
  exact ⟨hw2, good_of_word (List.mem_filter.mp hw2).2⟩
theorem own_cls {y : Nat} (hy : y < 279) : oN (m_o y) = (m_y y).cls := List.map_inj_left.mp tb_o0 y (List.mem_range.mpr hy)
theorem ml_41 : ∀ y ∈ List.range 279, MLL y ≤ 41 := by decide +kernel
theorem desc_of {y : Nat} (hy : y < 278) : (m_y y).cls ≠ "java/lang/invoke/MethodHandle" ∧ (m_y y).cls ≠ "java/lang/invoke/VarHandle" ∧ (parseMethodDescriptor (m_y y).desc).map (fun d => d.parameters.length) = some (m_n y) := by
  have hm : y ∈ List.range 279 := List.mem_range.mpr (by omega)
  exact ⟨(tb_cls y hm).1, (tb_cls y hm).2, tb_dsc y hm⟩
theorem VL_of {own x t : Nat} (h : VLs.any (fun q => Nat.beq q.1 own && Nat.beq q.2.1 x && Nat.beq q.2.2.1 t) = true) : Cond.methodLink (oN own) x (m_y t) ∈ GW := by
  obtain ⟨q, hq, e1, e2, e3⟩ := any3 h
  have h2 := VLs_ok q hq
  rw [e1, e2, e3] at h2
  exact GW_of h2 rfl
theorem SL_of {own x t : Nat} (h : SLs.any (fun q => Nat.beq q.1 own && Nat.beq q.2.1 x && Nat.beq q.2.2.1 t) = true) : Cond.methodLink (oN own) x (m_y t) ∈ GW := by
  obtain ⟨q, hq, e1, e2, e3⟩ := any3 h
  have h2 := SLs_ok q hq
  rw [e1, e2, e3] at h2
  exact GW_of h2 rfl
theorem IL_of {own x t : Nat} (h : ILs.any (fun q => Nat.beq q.1 own && Nat.beq q.2.1 x && Nat.beq q.2.2.1 t) = true) : Cond.methodLink (oN own) x (m_y t) ∈ GW := by
  obtain ⟨q, hq, e1, e2, e3⟩ := any3 h
  have h2 := ILs_ok q hq
  rw [e1, e2, e3] at h2
  exact GW_of h2 rfl
theorem call_sel {g : Option Prop} {x : am_I} {i : Nat} {ls : am_L} {st : List am_V} {q : Nat × List am_V × Nat × Nat × am_L × List am_V} (h : am_sel (am_call g x i ls st) = some (.inr (.inr q))) : am_gp g ∧ am_cats (st.drop x.2.2.2.1) ≤ 8 ∧ x.2.2.2.1 ≤ st.length ∧ q = (x.2.2.1, (st.take x.2.2.2.1).reverse, x.2.2.2.2.1, i + 1, ls, st.drop x.2.2.2.1) := by
  unfold am_call at h
  split at h
  · rename_i hb
    rw [Bool.and_eq_true] at hb
    unfold am_sel at h
    dsimp only at h
    split at h
    · rename_i hg
      have e := Option.some.inj h
      unfold am_pick at e
      cases e
      exact ⟨hg, Nat.le_of_ble_eq_true hb.1, Nat.le_of_ble_eq_true hb.2, rfl⟩
    · cases h
  · cases h
section SIM
variable {p : Program} {l : Launch} {e : Env} {R : Room} {s : State} {m : MethodId} {args : Array Value} {below : List Frame} {meth : Method} {c : Code} {H : Heap} {locs : List Loc} {cells slots : Nat} {Q : State → Prop}
variable {G : tG} {D : va_G} {cA : Nat → ClassId} {M i pc : Nat} {ls : am_L} {st rest : List am_V} {τ σ1 : am_S} {lsC : Array Slot} {rv : Option am_V}
theorem call_core {a : Array Value} {st0 : List Value} {j : Nat} (hn : pcA M j = pc + 3) (hr : va_Run p l e R s m args below meth c H locs cells slots (sN σ1 - sN τ) (sU σ1 - sU τ) (F0 m pc lsC st0) (rest.map (tV G)) (QcM G D cA rv σ1 a) (AA G)) (hmo : moS τ σ1) (hSf : Sf G D cA s) (I : Iv G D cA M s τ H ls rest lsC locs cells)
    (K : ∀ (H' : Heap) (locs' : List Loc), Iv G D cA M s σ1 H' ls (rv.toList ++ rest) lsC locs' (cells + (sN σ1 - sN τ)) → W p l e R s m args below meth c H' locs' (cells + (sN σ1 - sN τ)) (slots + (sU σ1 - sU τ)) Q (F0 m (pcA M j) lsC ((rv.toList ++ rest).map (tV G)))) : W p l e R s m args below meth c H locs cells slots Q (F0 m pc lsC st0) := by
  intro T hT X
  obtain ⟨v, st₀, t, T', L, h0, X', hL, e1, e2, ⟨hv, hR, hO, hok, hF⟩, stp⟩ := hr T hT X
  have hv : v = rv.map (tV G) := Outcome.returned.inj hv
  subst hv
  obtain ⟨i1, i2, i3, i4, i5, i6, i7⟩ := I
  have hal : t.vm.Alike s.vm := by rw [← e2]; exact X'.warmed.alike.symm
  have hold : ∀ q : Nat, q < s.heap.size → ¬ AA G q → s.heap[q]? = t.heap[q]? := by
    intro q h1 h2
    rw [hF.2 q (by rw [h0]; exact Nat.lt_of_lt_of_le h1 i3.1) h2, h0]
    exact (i3.2.1 q h1 h2).symm
  obtain ⟨-, -, -, -, -, -, g7, g8, g9⟩ := hSf
  have hz : H.size ≤ t.heap.size := by rw [← h0]; exact hF.1
  have I' : Iv G D cA M s σ1 T'.heap ls (rv.toList ++ rest) lsC (locs ++ L) (cells + (sN σ1 - sN τ)) := by
    refine ⟨by rw [e1]; exact hR, ⟨(va_X.moved hal hO.1).kept (hold _ (by omega) (Nat.not_le.mpr g8)), va_Tk (va_T.moved hal hO.2) hold (by omega) g9⟩, ⟨by rw [e1]; exact Nat.le_trans i3.1 hz, fun q h1 h2 => by rw [e1]; exact (hold q h1 h2).symm, fun q hq => ?_⟩, by have := hmo.1; omega, fun w hw => ?_, fun w hw => hmo.ok (i6 w hw), i7⟩
    · rcases List.mem_append.mp hq with h | h
      · exact i3.2.2 q h
      · exact hL q h
    · rcases List.mem_append.mp hw with h | h
      · cases rv with
        | none => cases h
        | some r => exact hok w (by rw [List.mem_singleton.mp h])
      · exact hmo.ok (i5 w h)
  obtain ⟨t2, a1, b1⟩ := K T'.heap (locs ++ L) I' T' rfl X'
  refine ⟨t2, stp t2 ?_, b1⟩
  rw [hn] at a1
  have e5 : ((rv.map (tV G)).toList ++ rest.map (tV G)) = (rv.toList ++ rest).map (tV G) := by cases rv <;> rfl
  rw [← e5] at a1
  exact a1
theorem room8 {pc : Nat} {st0 : List Value} (h : am_cats rest ≤ 8) : 2 * (F0 m pc lsC st0).monitorRoom + ((rest.map (tV G)).map fun v => v.category).sum ≤ 8 := by
  show 2 * 0 + _ ≤ 8
  rw [cats_sum]
  omega
/-- what a callee finds -/
theorem pre_at {vs : List am_V} (C : Cx p s m args meth c G D cA M) (I : Iv G D cA M s τ H ls st lsC locs cells) (hb : H.size ≤ s.heap.size + cells) : ∀ U : State, U.heap = H → s.WarmedH U.vm → PcM G D cA vs τ (vs.map (tV G)).toArray U := by
  intro U hU hW
  obtain ⟨i1, i2, i3, i4, i5, i6, i7⟩ := I
  have hSf := C.2.2.2.2.2.1
  have hold : ∀ q : Nat, q < s.heap.size → ¬ AA G q → U.heap[q]? = s.heap[q]? := fun q h1 h2 => by rw [hU]; exact i3.2.1 q h1 h2
  obtain ⟨-, -, -, -, -, -, g7, g8, g9⟩ := id hSf
  refine ⟨rfl, by rw [hU]; exact i1, ⟨(va_X.moved hW.alike i2.1).kept (hold _ (by omega) (Nat.not_le.mpr g8)), va_Tk (va_T.moved hW.alike i2.2) hold (by omega) g9⟩, Sf_move hSf hW hold (by rw [hU]; exact i3.1), ?_⟩
  rw [hU]
  have h2 := i1.1
  rcases Nat.eq_or_lt_of_le h2 with h | h
  · have := i3.1
    omega
  · have hl := (i1.2.1 (sN τ - 3) _ (wsA_at (by omega))).lt
    dsimp only at hl
    omega
end SIM
