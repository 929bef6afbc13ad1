/-! the tie: my store and the machine's heap -/
abbrev tG : Type := Nat × Nat × Nat
def ad (G : tG) : Nat → Nat
  | 0 => G.2.1
  | 1 => G.2.2
  | k + 2 => G.1 + k
def tO (G : tG) (o : Option am_R) : Option Nat := o.map (fun r => ad G r.1)
def tV (G : tG) : am_V → Value
  | .inl x => .int (Int32.ofInt x)
  | .inr (.inl x) => .long (Int64.ofInt x)
  | .inr (.inr o) => va_rf (tO G o)
def fldV (G : tG) (σ : am_S) (a c j : Nat) : Value := match tyc (cY c j) with
  | 3 => va_rf (tO G (sR σ a j))
  | _ => .int (Int32.ofInt (sI σ a j))
def flds (G : tG) (σ : am_S) (a c : Nat) : List Value := (List.range (cF c)).map (fldV G σ a c)
def ent (G : tG) (cA : Nat → ClassId) (σ : am_S) (a : Nat) : va_E :=
  if (sT σ a).1 = 20 then .inl (cA 20, (sT σ a).2, .inl (fun j => Int32.ofInt (sI σ a j)))
  else if (sT σ a).1 = 21 then .inl (cA 21, (sT σ a).2, .inr (.inl (fun j => Int64.ofInt (sI σ a j))))
  else if (sT σ a).1 = 22 then .inl (cA 22, (sT σ a).2, .inr (.inr (.inr (.inr (fun j => tO G (sR σ a j))))))
  else if (sT σ a).1 = 23 then .inl (cA 23, (sT σ a).2, .inr (.inr (.inr (.inr (fun j => tO G (sR σ a j))))))
  else .inr ((sT σ a).1, flds G σ a (sT σ a).1)
def wsA (G : tG) (cA : Nat → ClassId) (σ : am_S) : va_W := (List.range (sN σ - 2)).map (fun k => (G.1 + k, ent G cA σ (k + 2)))
def AA (G : tG) : Nat → Prop := fun q => G.1 ≤ q
def okR (σ : am_S) (o : Option am_R) : Prop := ∀ r, o = some r → r.1 < sN σ ∧ sT σ r.1 = r.2
def okV (σ : am_S) : am_V → Prop
  | .inl x => inI x
  | .inr (.inl x) => inL x
  | .inr (.inr o) => okR σ o
def okT (q : Nat × Nat) : Prop := ((q.1 = 20 ∨ q.1 = 21 ∨ q.1 = 22 ∨ q.1 = 23) ∧ q.2 ≤ 1000000) ∨ (q.1 < 13 ∧ q.2 = cF q.1)
def Rp (G : tG) (D : va_G) (cA : Nat → ClassId) (σ : am_S) (H : Heap) : Prop :=
  2 ≤ sN σ ∧ va_P D vwCl (wsA G cA σ) H ∧ (∀ k, k + 2 < sN σ → okT (sT σ (k + 2))) ∧ (∀ a j, okR σ (sR σ a j)) ∧ (∀ a j, inL (sI σ a j) ∧ ((sT σ a).1 ≠ 21 → inI (sI σ a j))) ∧ ((sT σ 0).1 = 24 ∧ (sT σ 0).2 < 2147483648) ∧ sT σ 1 = (24, 7)
def Ol (G : tG) (s : State) (σ : am_S) : Prop := va_X G.2.1 (sT σ 0).2 (fun j => Int32.ofInt (sI σ 0 j)) s s.heap ∧ va_T .int G.2.2 7 (fun j => .int (Int32.ofInt (sI σ 1 j))) (AA G) s s.heap
def tysA (cA : Nat → ClassId) : List (ClassId × FieldType) := [(cA 20, .int), (cA 21, .long), (cA 22, .object "WeighCourt$Balance"), (cA 23, .object "WeighCourt$Question")]
def GW : List Cond := lw_tbl.filter goodWord
def Sf (G : tG) (D : va_G) (cA : Nat → ClassId) (s : State) : Prop :=
  va_K D vwCl (tysA cA) s ∧ va_AO "WeighCourt$Balance" s ∧ va_AO "WeighCourt$Question" s ∧ (∀ q ∈ TLs, va_Nw (.methodLinkNest (oN q.1) q.2.1 (m_y q.2.2.1) "WeighCourt") s) ∧ va_Nw (.fieldLinkNest "WeighCourt$Balance" 43 "WeighCourt" "ABOVE" "[I" "WeighCourt") s ∧ va_Z "WeighCourt" "ABOVE" "[I" (.ref G.2.2) (AA G) s s.heap ∧ G.1 ≤ s.heap.size ∧ G.2.1 < G.1 ∧ G.2.2 < G.1
def Cx (p : Program) (s : State) (m : MethodId) (args : Array Value) (meth : Method) (c : Code) (G : tG) (D : va_G) (cA : Nat → ClassId) (M : Nat) : Prop :=
  p.tables.exec = Jvm.exec ∧ c.code = m_bytes M ∧ c.maxLocals = MLL M ∧ s.vm.findClass (oN (m_o M)) = some m.cls ∧ (∀ w ∈ GW, w.before args s = true) ∧ Sf G D cA s ∧ (M ∈ m_inis → meth.name = "<init>") ∧ M < 279
def LR (G : tG) (M : Nat) (ls : am_L) (lsC : Array Slot) : Prop := lsC.size = MLL M ∧ lv_wf lsC ∧ ∀ (j : Nat) (v : am_V), ls[j]? = some (some v) → lsC[j]? = some (Slot.val (tV G v))
def Iv (G : tG) (D : va_G) (cA : Nat → ClassId) (M : Nat) (s : State) (τ : am_S) (H : Heap) (ls : am_L) (st : List am_V) (lsC : Array Slot) (locs : List Loc) (cells : Nat) : Prop :=
  Rp G D cA τ H ∧ Ol G s τ ∧ va_S (AA G) s.heap H locs ∧ s.heap.size + cells + 2 = G.1 + sN τ ∧ (∀ v ∈ st, okV τ v) ∧ (∀ v, some v ∈ ls → okV τ v) ∧ LR G M ls lsC
theorem W_bound {p : Program} {l : Launch} {e : Env} {R : Room} {s : State} {m : MethodId} {args : Array Value} {below : List Frame} {meth : Method} {c : Code} {H : Heap} {locs : List Loc} {cells slots : Nat} {Q : State → Prop} {g : JFrame}
    (h : H.size ≤ s.heap.size + cells → W p l e R s m args below meth c H locs cells slots Q g) : W p l e R s m args below meth c H locs cells slots Q g := fun T hT X => h (by rw [← hT]; exact X.heapSize) T hT X
theorem wsA_at {G : tG} {cA : Nat → ClassId} {σ : am_S} {k : Nat} (h : k + 2 < sN σ) : (wsA G cA σ)[k]? = some (G.1 + k, ent G cA σ (k + 2)) := by
  unfold wsA
  rw [List.getElem?_map, List.getElem?_range (by omega)]
  rfl
theorem wsA_of {G : tG} {cA : Nat → ClassId} {σ : am_S} {k : Nat} {q : Nat × va_E} (h : (wsA G cA σ)[k]? = some q) : k + 2 < sN σ ∧ q = (G.1 + k, ent G cA σ (k + 2)) := by
  have hl : k < (wsA G cA σ).length := (List.getElem?_eq_some_iff.mp h).1
  have hl2 : k + 2 < sN σ := by unfold wsA at hl; simp at hl; omega
  rw [wsA_at hl2] at h
  exact ⟨hl2, (Option.some.inj h).symm⟩
theorem wsA_D {G : tG} {cA : Nat → ClassId} {σ : am_S} : va_D (AA G) (wsA G cA σ) := by
  refine ⟨fun i j p q hi hj e => ?_, fun k q h => ?_⟩
  · obtain ⟨-, rfl⟩ := wsA_of hi
    obtain ⟨-, rfl⟩ := wsA_of hj
    dsimp only at e
    omega
  · obtain ⟨-, rfl⟩ := wsA_of h
    exact Nat.le_add_right _ _
theorem wsA_len {G : tG} {cA : Nat → ClassId} {σ : am_S} : (wsA G cA σ).length = sN σ - 2 := by simp [wsA]
theorem ent_congr {G : tG} {cA : Nat → ClassId} {σ σ' : am_S} {a : Nat} (hT : sT σ' a = sT σ a) (hI : ∀ j, sI σ' a j = sI σ a j) (hR : ∀ j, sR σ' a j = sR σ a j) : ent G cA σ' a = ent G cA σ a := by
  unfold ent flds
  have hF : fldV G σ' a = fldV G σ a := by
    funext c j
    unfold fldV
    rw [hI, hR]
  simp only [hT, hI, hR, hF]
/-- the list of cells behind a change of one -/
theorem wsA_set {G : tG} {cA : Nat → ClassId} {σ σ' : am_S} {k : Nat} {x : va_E} (hk : k + 2 < sN σ) (hN : sN σ' = sN σ) (hx : ent G cA σ' (k + 2) = x) (ho : ∀ a, a ≠ k + 2 → ent G cA σ' a = ent G cA σ a) : (wsA G cA σ).set k (G.1 + k, x) = wsA G cA σ' := by
  apply List.ext_getElem?
  intro j
  by_cases hj : j = k
  · subst hj
    rw [List.getElem?_set_self (by rw [wsA_len]; omega), wsA_at (by rw [hN]; exact hk), hx]
  · rw [List.getElem?_set_ne (Ne.symm hj)]
    by_cases hl : j + 2 < sN σ
    · rw [wsA_at hl, wsA_at (by rw [hN]; exact hl), ho (j + 2) (by omega)]
    · rw [List.getElem?_eq_none (by rw [wsA_len]; omega), List.getElem?_eq_none (by rw [wsA_len, hN]; omega)]
theorem wsA_push {G : tG} {cA : Nat → ClassId} {σ σ' : am_S} {x : va_E} (h2 : 2 ≤ sN σ) (hN : sN σ' = sN σ + 1) (hx : ent G cA σ' (sN σ) = x) (ho : ∀ a, a < sN σ → ent G cA σ' a = ent G cA σ a) : wsA G cA σ ++ [(G.1 + (sN σ - 2), x)] = wsA G cA σ' := by
  apply List.ext_getElem?
  intro j
  by_cases hl : j + 2 < sN σ
  · rw [List.getElem?_append_left (by rw [wsA_len]; omega), wsA_at hl, wsA_at (by omega), ho _ hl]
  · rw [List.getElem?_append_right (by rw [wsA_len]; omega), wsA_len]
    by_cases hj : j + 2 = sN σ
    · rw [show j - (sN σ - 2) = 0 by omega, wsA_at (by omega), hj, hx, show sN σ - 2 = j by omega]
      rfl
    · rw [List.getElem?_eq_none (by simp; omega), List.getElem?_eq_none (by rw [wsA_len]; omega)]
/-- a reference that has a tag -/
theorem ref_of {G : tG} {D : va_G} {cA : Nat → ClassId} {σ : am_S} {H : Heap} {o : Option am_R} {t : Nat} (hR : Rp G D cA σ H) (ho : okR σ o) (hg : (rg o).2.1 = t) (h1 : t ≠ 99) (h2 : t ≠ 24) : ∃ k n, o = some (k + 2, t, n) ∧ k + 2 < sN σ ∧ sT σ (k + 2) = (t, n) := by
  cases o with
  | none => exact absurd hg (fun h => h1 h.symm)
  | some r =>
    obtain ⟨a, t', n⟩ := r
    have hg' : t' = t := hg
    subst hg'
    obtain ⟨q1, q2⟩ := ho _ rfl
    obtain ⟨-, -, -, -, -, h0, h01⟩ := hR
    dsimp only at q1 q2
    match a, q1, q2 with
    | 0, _, q2 => rw [q2] at h0; exact absurd h0.1 h2
    | 1, _, q2 => rw [q2] at h01; exact absurd (congrArg Prod.fst h01) h2
    | k + 2, q1, q2 => exact ⟨k, n, rfl, q1, q2⟩
theorem vw_at {t : Nat} (h : t < 13) : vwCl[t]? = some (cR t, cT t, cF t) := by
  match t, h with
  | 0, _ => rfl | 1, _ => rfl | 2, _ => rfl | 3, _ => rfl | 4, _ => rfl | 5, _ => rfl | 6, _ => rfl | 7, _ => rfl | 8, _ => rfl | 9, _ => rfl | 10, _ => rfl | 11, _ => rfl | 12, _ => rfl
theorem ent_obj {G : tG} {cA : Nat → ClassId} {σ : am_S} {a t n : Nat} (h : sT σ a = (t, n)) (ht : t < 13) : ent G cA σ a = .inr (t, flds G σ a t) := by
  unfold ent
  rw [h]
  dsimp only
  rw [if_neg (by omega), if_neg (by omega), if_neg (by omega), if_neg (by omega)]
theorem ent_20 {G : tG} {cA : Nat → ClassId} {σ : am_S} {a n : Nat} (h : sT σ a = (20, n)) : ent G cA σ a = .inl (cA 20, n, .inl (fun j => Int32.ofInt (sI σ a j))) := by
  unfold ent
  rw [h]
  rfl
theorem ent_21 {G : tG} {cA : Nat → ClassId} {σ : am_S} {a n : Nat} (h : sT σ a = (21, n)) : ent G cA σ a = .inl (cA 21, n, .inr (.inl (fun j => Int64.ofInt (sI σ a j)))) := by
  unfold ent
  rw [h]
  rfl
theorem ent_22 {G : tG} {cA : Nat → ClassId} {σ : am_S} {a n : Nat} (h : sT σ a = (22, n)) : ent G cA σ a = .inl (cA 22, n, .inr (.inr (.inr (.inr (fun j => tO G (sR σ a j)))))) := by
  unfold ent
  rw [h]
  rfl
theorem ent_23 {G : tG} {cA : Nat → ClassId} {σ : am_S} {a n : Nat} (h : sT σ a = (23, n)) : ent G cA σ a = .inl (cA 23, n, .inr (.inr (.inr (.inr (fun j => tO G (sR σ a j)))))) := by
  unfold ent
  rw [h]
  rfl
theorem tb_lay {t : Nat} (h : t < 13) : ∀ w ∈ u_ws (cR t) (cT t) (cF t), w ∈ tables_1 := by
  match t, h with
  | 0, _ => exact tb_lay0 | 1, _ => exact tb_lay1 | 2, _ => exact tb_lay2 | 3, _ => exact tb_lay3 | 4, _ => exact tb_lay4 | 5, _ => exact tb_lay5 | 6, _ => exact tb_lay6 | 7, _ => exact tb_lay7 | 8, _ => exact tb_lay8 | 9, _ => exact tb_lay9 | 10, _ => exact tb_lay10 | 11, _ => exact tb_lay11 | 12, _ => exact tb_lay12
theorem nmX {t : Nat} (h : t < 13) : ∀ a, a < cF t → ∀ b, b < cF t → a ≠ b → (cT t a).2.1 ≠ (cT t b).2.1 := by
  match t, h with
  | 0, _ => exact nmX0 | 1, _ => exact nmX1 | 2, _ => exact nmX2 | 3, _ => exact nmX3 | 4, _ => exact nmX4 | 5, _ => exact nmX5 | 6, _ => exact nmX6 | 7, _ => exact nmX7 | 8, _ => exact nmX8 | 9, _ => exact nmX9 | 10, _ => exact nmX10 | 11, _ => exact nmX11 | 12, _ => exact nmX12
theorem tyX_ok {t : Nat} (h : t < 13) : ∀ k, k < cF t → parseFieldDescriptor (cT t k).2.2.1 = some (cY t k) := by
  match t, h with
  | 0, _ => exact tyX0_ok | 1, _ => exact tyX1_ok | 2, _ => exact tyX2_ok | 3, _ => exact tyX3_ok | 4, _ => exact tyX4_ok | 5, _ => exact tyX5_ok | 6, _ => exact tyX6_ok | 7, _ => exact tyX7_ok | 8, _ => exact tyX8_ok | 9, _ => exact tyX9_ok | 10, _ => exact tyX10_ok | 11, _ => exact tyX11_ok | 12, _ => exact tyX12_ok
def okTy : FieldType → Bool
  | .int => true
  | .boolean => true
  | .object _ => true
  | .array _ => true
  | _ => false
theorem okTys : ∀ t, t < 13 → ∀ j, j < cF t → okTy (cY t j) = true := by decide +kernel
theorem own_cR : ∀ t, t < 13 → oN t = cR t := by
  intro t h
  match t, h with
  | 0, _ => rfl | 1, _ => rfl | 2, _ => rfl | 3, _ => rfl | 4, _ => rfl | 5, _ => rfl | 6, _ => rfl | 7, _ => rfl | 8, _ => rfl | 9, _ => rfl | 10, _ => rfl | 11, _ => rfl | 12, _ => rfl
theorem tT_own {t : Nat} (h : t < 13) : ∀ j ∈ List.range (cF t), (cT t j).1 = cR t := by
  have e : ∀ (n : Nat) (f : Nat → String) (x : String), (List.range n).map f = List.replicate n x → ∀ j ∈ List.range n, f j = x := by
    intro n f x h j hj
    have hj' := List.mem_range.mp hj
    have h1 := congrArg (fun l => l[j]?) h
    simp [hj', List.getElem?_replicate] at h1
    exact h1
  match t, h with
  | 0, _ => exact e _ _ _ rfl | 1, _ => exact e _ _ _ rfl | 2, _ => exact e _ _ _ rfl | 3, _ => exact e _ _ _ rfl | 4, _ => exact e _ _ _ rfl | 5, _ => exact e _ _ _ rfl | 6, _ => exact e _ _ _ rfl | 7, _ => exact e _ _ _ rfl | 8, _ => exact e _ _ _ rfl | 9, _ => exact e _ _ _ rfl | 10, _ => exact e _ _ _ rfl | 11, _ => exact e _ _ _ rfl | 12, _ => exact e _ _ _ rfl
/-- the printed words are good ones -/
theorem GW_of {w : Cond} (h : w ∈ tables_1) (hg : goodWord w = true) : w ∈ GW := List.mem_filter.mpr ⟨List.mem_append_right _ h, hg⟩
theorem GW_of2 {w : Cond} (h : w ∈ lw_tbl) (hg : goodWord w = true) : w ∈ GW := List.mem_filter.mpr ⟨h, hg⟩
theorem lay_good {t : Nat} (h : t < 13) : ∀ w ∈ u_ws (cR t) (cT t) (cF t), w ∈ GW := by
  intro w hw
  refine GW_of (tb_lay h w hw) ?_
  obtain ⟨k, -, rfl⟩ := List.mem_map.mp hw
  unfold u_lay
  split <;> rfl
