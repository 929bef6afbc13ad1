/-! a stretch copied -/
theorem nfw : nativeFrameWords "java/lang/System" "arraycopy" 5 + 11 ≤ 40 := by decide +kernel
theorem rowI_ne {τ : am_S} {a q : Nat} {f : Nat → Int} (h : q ≠ a) : sI (rowI τ a f) q = sI τ q := by
  funext y
  show (if q = a then f y else sI τ q y) = sI τ q y
  rw [if_neg h]
theorem rowI_at {τ : am_S} {a : Nat} {f : Nat → Int} : sI (rowI τ a f) a = f := by
  funext y
  show (if a = a then f y else sI τ a y) = f y
  rw [if_pos rfl]
section SIM
variable {p : Program} {l : Launch} {e : Env} {R : Room} {s : State} {m : MethodId} {args : Array Value} {below : List Frame} {meth : Method} {c : Code} {H : Heap} {locs : List Loc} {cells slots : Nat} {Q : State → Prop}
variable {G : tG} {D : va_G} {cA : Nat → ClassId} {M i i' pc n k : Nat} {ls ls' : am_L} {st st' : List am_V} {τ τ' : am_S} {lsC : Array Slot}
theorem s_copy {x : Nat} (C : Cx p s m args meth c G D cA M) (hd : decode (m_bytes M) pc = .ok (.invokestatic x, 3)) (hn : pcA M (i + 1) = pc + 3) (hL : Cond.methodLink (oN (m_o M)) x arraycopyName ∈ GW) (hfr : 1 ≤ R.frames) (hlo : 60 ≤ R.locals)
    (hsel : am_sel (am_copy i ls st τ) = some (.inl (i', ls', st', τ'))) (I : Iv G D cA M s τ H ls st lsC locs cells) (K : KT p l e R s m args below meth c Q G D cA M cells slots τ i' ls' st' τ') : W p l e R s m args below meth c H locs cells slots Q (F0 m pc lsC (st.map (tV G))) := by
  unfold am_copy at hsel
  split at hsel
  · rename_i nn dp b sp a t
    split at hsel
    · rename_i hc
      have hc := Nat.le_of_ble_eq_true hc
      obtain ⟨⟨hta, htb, h0, h1, h2, h3, h4⟩, hs2⟩ := sel_gd hsel
      have hnn : inI nn := I.top
      have hdp : inI dp := I.top2
      have hob : okR τ b := I.top3
      have hsp : inI sp := I.2.2.2.2.1 (qi sp) (by simp)
      have hoa : okR τ a := I.2.2.2.2.1 (qo a) (by simp)
      obtain ⟨hx, hb', hml, hown, hts, hSf, -, -⟩ := id C
      have hlen : c.maxLocals = lsC.size := by rw [hml]; exact I.2.2.2.2.2.2.1.symm
      have It : Iv G D cA M s τ H ls t lsC locs cells := I.pop.pop.pop.pop.pop
      rcases hta with hta | hta
      · obtain ⟨ka, na, rfl, hka, hTa⟩ := ref_of I.1 hoa hta (by omega) (by omega)
        rw [hta] at htb
        obtain ⟨kb, nb, rfl, hkb, hTb⟩ := ref_of I.1 hob htb (by omega) (by omega)
        have h3 : sp + nn ≤ (na : Int) := h3
        have h4 : dp + nn ≤ (nb : Int) := h4
        refine va_copyi (a := G.1 + kb) (a0 := G.1 + ka) (ty := .int) hx hb' hlen hown (hts _ hL) (hts _ (GW_of cpN rfl)) (hts _ (GW_of cpS rfl)) (hts _ (GW_of cpI rfl)) hSf.1 I.1.2.1 wsA_D I.2.2.1 ka kb 0 0 (by rw [wsA_at hka, ent_20 hTa]) (by rw [wsA_at hkb, ent_20 hTb]) rfl rfl rfl ((n_nn hsp).mpr h0) ((n_nn hdp).mpr h1) ((n_nn hnn).mpr h2) (by rw [n_cl h0 hsp, n_cl h2 hnn]; omega) (by rw [n_cl h1 hdp, n_cl h2 hnn]; omega) (fun _ _ => rfl) hfr (by rw [cats_sum]; have := nfw; omega) hd (fun H1 locs1 q1 _ q3 => ?_)
        rw [n_cl h0 hsp, n_cl h1 hdp, n_cl h2 hnn, wsA_set (σ' := cpyI τ (ka + 2) sp (kb + 2) dp nn) hkb rfl ?_ (fun y hy => ent_congr rfl (fun j => congrFun (rowI_ne hy) j) (fun j => rfl))] at q1
        · cases hs2
          rw [← hn]
          refine s_put (τ := τ) (τ' := cpyI τ (ka + 2) sp (kb + 2) dp nn) (k := kb) rfl (fun y hy => rowI_ne hy) (fun y j => I.1.2.2.2.1 y j) (fun y j => ?_) q1 q3 It K
          by_cases hy : y = kb + 2
          · subst hy
            have e1 : sI (cpyI τ (ka + 2) sp (kb + 2) dp nn) (kb + 2) j = cpyF (sI τ (ka + 2)) (sI τ (kb + 2)) sp.toNat dp.toNat nn.toNat j := congrFun rowI_at j
            rw [e1]
            unfold cpyF
            split
            · exact ⟨(I.1.2.2.2.2.1 _ _).1, fun _ => Rp_int I.1 hTa (by omega) _⟩
            · exact I.1.2.2.2.2.1 _ _
          · rw [show sI (cpyI τ (ka + 2) sp (kb + 2) dp nn) y = sI τ y from rowI_ne hy]
            exact I.1.2.2.2.2.1 _ _
        · rw [ent_20 (σ := cpyI τ (ka + 2) sp (kb + 2) dp nn) hTb]
          refine congrArg (fun f => (Sum.inl (cA 20, nb, Sum.inl f) : va_E)) (funext fun y => ?_)
          rw [show sI (cpyI τ (ka + 2) sp (kb + 2) dp nn) (kb + 2) y = cpyF (sI τ (ka + 2)) (sI τ (kb + 2)) sp.toNat dp.toNat nn.toNat y from congrFun rowI_at y]
          unfold cpyF va_cpy
          split <;> rfl
      · obtain ⟨ka, na, rfl, hka, hTa⟩ := ref_of I.1 hoa hta (by omega) (by omega)
        rw [hta] at htb
        obtain ⟨kb, nb, rfl, hkb, hTb⟩ := ref_of I.1 hob htb (by omega) (by omega)
        have h3 : sp + nn ≤ (na : Int) := h3
        have h4 : dp + nn ≤ (nb : Int) := h4
        refine va_copyl (a := G.1 + kb) (a0 := G.1 + ka) (ty := .long) hx hb' hlen hown (hts _ hL) (hts _ (GW_of cpN rfl)) (hts _ (GW_of cpS rfl)) (hts _ (GW_of cpI rfl)) hSf.1 I.1.2.1 wsA_D I.2.2.1 ka kb 1 1 (by rw [wsA_at hka, ent_21 hTa]) (by rw [wsA_at hkb, ent_21 hTb]) rfl rfl rfl ((n_nn hsp).mpr h0) ((n_nn hdp).mpr h1) ((n_nn hnn).mpr h2) (by rw [n_cl h0 hsp, n_cl h2 hnn]; omega) (by rw [n_cl h1 hdp, n_cl h2 hnn]; omega) (fun _ _ => rfl) hfr (by rw [cats_sum]; have := nfw; omega) hd (fun H1 locs1 q1 _ q3 => ?_)
        rw [n_cl h0 hsp, n_cl h1 hdp, n_cl h2 hnn, wsA_set (σ' := cpyI τ (ka + 2) sp (kb + 2) dp nn) hkb rfl ?_ (fun y hy => ent_congr rfl (fun j => congrFun (rowI_ne hy) j) (fun j => rfl))] at q1
        · cases hs2
          rw [← hn]
          refine s_put (τ := τ) (τ' := cpyI τ (ka + 2) sp (kb + 2) dp nn) (k := kb) rfl (fun y hy => rowI_ne hy) (fun y j => I.1.2.2.2.1 y j) (fun y j => ?_) q1 q3 It K
          by_cases hy : y = kb + 2
          · subst hy
            have e1 : sI (cpyI τ (ka + 2) sp (kb + 2) dp nn) (kb + 2) j = cpyF (sI τ (ka + 2)) (sI τ (kb + 2)) sp.toNat dp.toNat nn.toNat j := congrFun rowI_at j
            rw [e1]
            unfold cpyF
            split
            · exact ⟨(I.1.2.2.2.2.1 _ _).1, fun h => absurd (by rw [hTb]) h⟩
            · exact I.1.2.2.2.2.1 _ _
          · rw [show sI (cpyI τ (ka + 2) sp (kb + 2) dp nn) y = sI τ y from rowI_ne hy]
            exact I.1.2.2.2.2.1 _ _
        · rw [ent_21 (σ := cpyI τ (ka + 2) sp (kb + 2) dp nn) hTb]
          refine congrArg (fun f => (Sum.inl (cA 21, nb, Sum.inr (Sum.inl f)) : va_E)) (funext fun y => ?_)
          rw [show sI (cpyI τ (ka + 2) sp (kb + 2) dp nn) (kb + 2) y = cpyF (sI τ (ka + 2)) (sI τ (kb + 2)) sp.toNat dp.toNat nn.toNat y from congrFun rowI_at y]
          unfold cpyF va_cpy
          split <;> rfl
    · cases hsel
  · cases hsel
end SIM
