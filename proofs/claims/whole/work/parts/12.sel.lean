/-! what is known behind an instruction -/
section SIM
variable {p : Program} {l : Launch} {e : Env} {R : Room} {s : State} {m : MethodId} {args : Array Value} {below : List Frame} {meth : Method} {c : Code} {H : Heap} {locs : List Loc} {cells slots : Nat} {Q : State → Prop}
variable {G : tG} {D : va_G} {cA : Nat → ClassId} {M i i' pc : Nat} {ls ls' : am_L} {st st' : List am_V} {τ τ' : am_S} {lsC : Array Slot}
/-- what is known behind an instruction: W there, for every heap that holds the new store -/
def KT (p : Program) (l : Launch) (e : Env) (R : Room) (s : State) (m : MethodId) (args : Array Value) (below : List Frame) (meth : Method) (c : Code) (Q : State → Prop) (G : tG) (D : va_G) (cA : Nat → ClassId) (M cells slots : Nat) (τ : am_S) (i' : Nat) (ls' : am_L) (st' : List am_V) (τ' : am_S) : Prop :=
  ∀ (H' : Heap) (lsC' : Array Slot) (locs' : List Loc), Iv G D cA M s τ' H' ls' st' lsC' locs' (cells + (sN τ' - sN τ)) → W p l e R s m args below meth c H' locs' (cells + (sN τ' - sN τ)) (slots + (sU τ' - sU τ)) Q (F0 m (pcA M i') lsC' (st'.map (tV G)))
theorem s_same (K : KT p l e R s m args below meth c Q G D cA M cells slots τ i' ls' st' τ) (I : Iv G D cA M s τ H ls' st' lsC locs cells) : W p l e R s m args below meth c H locs cells slots Q (F0 m (pcA M i') lsC (st'.map (tV G))) := by
  have h := K H lsC locs (by rw [Nat.sub_self, Nat.add_zero]; exact I)
  rw [Nat.sub_self, Nat.add_zero, Nat.sub_self, Nat.add_zero] at h
  exact h
theorem Iv.stk {st' : List am_V} (I : Iv G D cA M s τ H ls st lsC locs cells) (h : ∀ v ∈ st', okV τ v) : Iv G D cA M s τ H ls st' lsC locs cells := by
  obtain ⟨h1, h2, h3, h4, h5, h6, h7⟩ := I
  exact ⟨h1, h2, h3, h4, h, h6, h7⟩
theorem Iv.top {v : am_V} {t : List am_V} (I : Iv G D cA M s τ H ls (v :: t) lsC locs cells) : okV τ v := I.2.2.2.2.1 v List.mem_cons_self
theorem Iv.top2 {v w : am_V} {t : List am_V} (I : Iv G D cA M s τ H ls (v :: w :: t) lsC locs cells) : okV τ w := I.2.2.2.2.1 w (List.mem_cons_of_mem _ List.mem_cons_self)
theorem Iv.top3 {v w x : am_V} {t : List am_V} (I : Iv G D cA M s τ H ls (v :: w :: x :: t) lsC locs cells) : okV τ x := I.2.2.2.2.1 x (List.mem_cons_of_mem _ (List.mem_cons_of_mem _ List.mem_cons_self))
theorem Iv.pop {v : am_V} {t : List am_V} (I : Iv G D cA M s τ H ls (v :: t) lsC locs cells) : Iv G D cA M s τ H ls t lsC locs cells := I.stk fun w hw => I.2.2.2.2.1 w (List.mem_cons_of_mem _ hw)
theorem Iv.push {v : am_V} (I : Iv G D cA M s τ H ls st lsC locs cells) (hv : okV τ v) : Iv G D cA M s τ H ls (v :: st) lsC locs cells := I.stk fun w hw => by
  rcases List.mem_cons.mp hw with rfl | h
  · exact hv
  · exact I.2.2.2.2.1 w h
theorem s_push {v : am_V} {n : Nat} (hn : pcA M (i + 1) = pc + n) (hsel : am_sel (am_nx (i + 1) ls (v :: st) τ) = some (.inl (i', ls', st', τ'))) (hv : okV τ v) (I : Iv G D cA M s τ H ls st lsC locs cells) (K : KT p l e R s m args below meth c Q G D cA M cells slots τ i' ls' st' τ') : W p l e R s m args below meth c H locs cells slots Q (F0 m (pc + n) lsC (tV G v :: st.map (tV G))) := by
  cases sel_nx hsel
  rw [← hn]
  exact s_same (st' := v :: st) K (I.push hv)
/-- two ints become one -/
theorem s_bin {f : Int → Int → Int} {g : Int32 → Int32 → Int32} (row : ∀ (x y : Int32) (rest : List Value), W p l e R s m args below meth c H locs cells slots Q (F0 m (pc + 1) lsC (.int (g x y) :: rest)) → W p l e R s m args below meth c H locs cells slots Q (F0 m pc lsC (.int y :: .int x :: rest)))
    (hfg : ∀ a b, inI a → inI b → g (Int32.ofInt a) (Int32.ofInt b) = Int32.ofInt (f a b)) (hr : ∀ a b, inI a → inI b → inI (f a b)) (hn : pcA M (i + 1) = pc + 1)
    (hsel : am_sel (am_i2 st fun a b t => am_nx (i + 1) ls (qi (f a b) :: t) τ) = some (.inl (i', ls', st', τ'))) (I : Iv G D cA M s τ H ls st lsC locs cells) (K : KT p l e R s m args below meth c Q G D cA M cells slots τ i' ls' st' τ') : W p l e R s m args below meth c H locs cells slots Q (F0 m pc lsC (st.map (tV G))) := by
  obtain ⟨a, b, t, rfl, hsel⟩ := sel_i2 hsel
  refine row _ _ _ ?_
  rw [hfg a b I.top2 I.top]
  exact s_push (v := qi (f a b)) hn hsel (hr a b I.top2 I.top) I.pop.pop K
theorem s_lbin {f : Int → Int → Int} {g : Int64 → Int64 → Int64} (row : ∀ (x y : Int64) (rest : List Value), W p l e R s m args below meth c H locs cells slots Q (F0 m (pc + 1) lsC (.long (g x y) :: rest)) → W p l e R s m args below meth c H locs cells slots Q (F0 m pc lsC (.long y :: .long x :: rest)))
    (hfg : ∀ a b, inL a → inL b → g (Int64.ofInt a) (Int64.ofInt b) = Int64.ofInt (f a b)) (hr : ∀ a b, inL a → inL b → inL (f a b)) (hn : pcA M (i + 1) = pc + 1)
    (hsel : am_sel (am_l2 st fun a b t => am_nx (i + 1) ls (ql (f a b) :: t) τ) = some (.inl (i', ls', st', τ'))) (I : Iv G D cA M s τ H ls st lsC locs cells) (K : KT p l e R s m args below meth c Q G D cA M cells slots τ i' ls' st' τ') : W p l e R s m args below meth c H locs cells slots Q (F0 m pc lsC (st.map (tV G))) := by
  obtain ⟨a, b, t, rfl, hsel⟩ := sel_l2 hsel
  refine row _ _ _ ?_
  rw [hfg a b I.top2 I.top]
  exact s_push (v := ql (f a b)) hn hsel (hr a b I.top2 I.top) I.pop.pop K
theorem s_lsh {f : Int → Int → Int} {g : Int64 → Int32 → Int64} (row : ∀ (x : Int64) (y : Int32) (rest : List Value), W p l e R s m args below meth c H locs cells slots Q (F0 m (pc + 1) lsC (.long (g x y) :: rest)) → W p l e R s m args below meth c H locs cells slots Q (F0 m pc lsC (.int y :: .long x :: rest)))
    (hfg : ∀ a b, inL a → inI b → g (Int64.ofInt a) (Int32.ofInt b) = Int64.ofInt (f a b)) (hr : ∀ a b, inL a → inI b → inL (f a b)) (hn : pcA M (i + 1) = pc + 1)
    (hsel : am_sel (am_li st fun a b t => am_nx (i + 1) ls (ql (f a b) :: t) τ) = some (.inl (i', ls', st', τ'))) (I : Iv G D cA M s τ H ls st lsC locs cells) (K : KT p l e R s m args below meth c Q G D cA M cells slots τ i' ls' st' τ') : W p l e R s m args below meth c H locs cells slots Q (F0 m pc lsC (st.map (tV G))) := by
  obtain ⟨a, b, t, rfl, hsel⟩ := sel_li hsel
  refine row _ _ _ ?_
  rw [hfg a b I.top2 I.top]
  exact s_push (v := ql (f a b)) hn hsel (hr a b I.top2 I.top) I.pop.pop K
/-- two ints become one, where a guard holds -/
theorem s_bing {g0 : Int → Int → Prop} {f : Int → Int → Int} {g : Int32 → Int32 → Int32} (row : ∀ (a b : Int) (rest : List Value), inI a → inI b → g0 a b → W p l e R s m args below meth c H locs cells slots Q (F0 m (pc + 1) lsC (.int (g (Int32.ofInt a) (Int32.ofInt b)) :: rest)) → W p l e R s m args below meth c H locs cells slots Q (F0 m pc lsC (.int (Int32.ofInt b) :: .int (Int32.ofInt a) :: rest)))
    (hfg : ∀ a b, inI a → inI b → g (Int32.ofInt a) (Int32.ofInt b) = Int32.ofInt (f a b)) (hr : ∀ a b, inI a → inI b → g0 a b → inI (f a b)) (hn : pcA M (i + 1) = pc + 1)
    (hsel : am_sel (am_i2 st fun a b t => am_gd (g0 a b) (i + 1) ls (qi (f a b) :: t) τ) = some (.inl (i', ls', st', τ'))) (I : Iv G D cA M s τ H ls st lsC locs cells) (K : KT p l e R s m args below meth c Q G D cA M cells slots τ i' ls' st' τ') : W p l e R s m args below meth c H locs cells slots Q (F0 m pc lsC (st.map (tV G))) := by
  obtain ⟨a, b, t, rfl, hsel⟩ := sel_i2 hsel
  obtain ⟨hg, hsel⟩ := sel_gd hsel
  cases hsel
  refine row _ _ _ I.top2 I.top hg ?_
  rw [hfg a b I.top2 I.top, ← hn]
  exact s_same (st' := qi (f a b) :: t) K (I.pop.pop.push (hr a b I.top2 I.top hg))
theorem s_un {f : Int → Int} (row : ∀ (a : Int) (rest : List Value), inI a → W p l e R s m args below meth c H locs cells slots Q (F0 m (pc + 1) lsC (.int (Int32.ofInt (f a)) :: rest)) → W p l e R s m args below meth c H locs cells slots Q (F0 m pc lsC (.int (Int32.ofInt a) :: rest)))
    (hr : ∀ a, inI a → inI (f a)) (hn : pcA M (i + 1) = pc + 1)
    (hsel : am_sel (am_i1 st fun a t => am_nx (i + 1) ls (qi (f a) :: t) τ) = some (.inl (i', ls', st', τ'))) (I : Iv G D cA M s τ H ls st lsC locs cells) (K : KT p l e R s m args below meth c Q G D cA M cells slots τ i' ls' st' τ') : W p l e R s m args below meth c H locs cells slots Q (F0 m pc lsC (st.map (tV G))) := by
  obtain ⟨a, t, rfl, hsel⟩ := sel_i1 hsel
  refine row _ _ I.top ?_
  exact s_push (v := qi (f a)) hn hsel (hr a I.top) I.pop K
theorem s_i2l (row : ∀ (a : Int) (rest : List Value), inI a → W p l e R s m args below meth c H locs cells slots Q (F0 m (pc + 1) lsC (.long (Int64.ofInt a) :: rest)) → W p l e R s m args below meth c H locs cells slots Q (F0 m pc lsC (.int (Int32.ofInt a) :: rest)))
    (hn : pcA M (i + 1) = pc + 1)
    (hsel : am_sel (am_i1 st fun a t => am_nx (i + 1) ls (ql a :: t) τ) = some (.inl (i', ls', st', τ'))) (I : Iv G D cA M s τ H ls st lsC locs cells) (K : KT p l e R s m args below meth c Q G D cA M cells slots τ i' ls' st' τ') : W p l e R s m args below meth c H locs cells slots Q (F0 m pc lsC (st.map (tV G))) := by
  obtain ⟨a, t, rfl, hsel⟩ := sel_i1 hsel
  refine row _ _ I.top ?_
  exact s_push (v := ql a) hn hsel (inI_L I.top) I.pop K
theorem s_l2i (row : ∀ (a : Int) (rest : List Value), inL a → W p l e R s m args below meth c H locs cells slots Q (F0 m (pc + 1) lsC (.int (Int32.ofInt (w32 a)) :: rest)) → W p l e R s m args below meth c H locs cells slots Q (F0 m pc lsC (.long (Int64.ofInt a) :: rest)))
    (hn : pcA M (i + 1) = pc + 1)
    (hsel : am_sel (am_l1 st fun a t => am_nx (i + 1) ls (qi (w32 a) :: t) τ) = some (.inl (i', ls', st', τ'))) (I : Iv G D cA M s τ H ls st lsC locs cells) (K : KT p l e R s m args below meth c Q G D cA M cells slots τ i' ls' st' τ') : W p l e R s m args below meth c H locs cells slots Q (F0 m pc lsC (st.map (tV G))) := by
  obtain ⟨a, t, rfl, hsel⟩ := sel_l1 hsel
  refine row _ _ I.top ?_
  exact s_push (v := qi (w32 a)) hn hsel (inI_w a) I.pop K
theorem s_lcmp (row : ∀ (a b : Int) (rest : List Value), inL a → inL b → W p l e R s m args below meth c H locs cells slots Q (F0 m (pc + 1) lsC (.int (Int32.ofInt (a_cmp a b)) :: rest)) → W p l e R s m args below meth c H locs cells slots Q (F0 m pc lsC (.long (Int64.ofInt b) :: .long (Int64.ofInt a) :: rest)))
    (hn : pcA M (i + 1) = pc + 1)
    (hsel : am_sel (am_l2 st fun a b t => am_nx (i + 1) ls (qi (a_cmp a b) :: t) τ) = some (.inl (i', ls', st', τ'))) (I : Iv G D cA M s τ H ls st lsC locs cells) (K : KT p l e R s m args below meth c Q G D cA M cells slots τ i' ls' st' τ') : W p l e R s m args below meth c H locs cells slots Q (F0 m pc lsC (st.map (tV G))) := by
  obtain ⟨a, b, t, rfl, hsel⟩ := sel_l2 hsel
  refine row _ _ _ I.top2 I.top ?_
  exact s_push (v := qi (a_cmp a b)) hn hsel (by show inI (a_cmp a b); unfold a_cmp inI; split <;> (try split) <;> omega) I.pop.pop K
theorem lr_get {k : Nat} {v : am_V} (I : Iv G D cA M s τ H ls st lsC locs cells) (h : am_get ls k = some v) : lsC[k]? = some (Slot.val (tV G v)) ∧ okV τ v := by
  have h1 : ls[k]? = some (some v) := by
    unfold am_get at h
    rw [List.getD_eq_getElem?_getD] at h
    cases hk : ls[k]? with
    | none => rw [hk] at h; cases h
    | some w => rw [hk] at h; exact congrArg some h
  exact ⟨I.2.2.2.2.2.2.2.2 k v h1, I.2.2.2.2.2.1 v (List.mem_of_getElem? h1)⟩
end SIM
