/-! the law out of a run of mine -/
def aboveI (j : Nat) : Int := ([-1, 0, 1, 2, 0, 0, -1] : List Int).getD j 0
def st0 (L : Nat) (xs : Nat → Int) : am_S := (fun a j => if a = 0 then xs j else if a = 1 then aboveI j else 0, fun _ _ => none, fun a => if a = 0 then (24, L) else if a = 1 then (24, 7) else (0, 0), 2, 0)
theorem aboveI_in (j : Nat) : inI (aboveI j) := by
  match j with
  | 0 => exact ⟨by decide, by decide⟩
  | 1 => exact ⟨by decide, by decide⟩
  | 2 => exact ⟨by decide, by decide⟩
  | 3 => exact ⟨by decide, by decide⟩
  | 4 => exact ⟨by decide, by decide⟩
  | 5 => exact ⟨by decide, by decide⟩
  | 6 => exact ⟨by decide, by decide⟩
  | k + 7 => exact (show inI 0 from ⟨by decide, by decide⟩)
theorem arrT {s : State} {args : Array Value} {ty : FieldType} (h : (Cond.arrayClass ty).before args s = true) : ∃ cN : ClassId, ArrOfT s cN ty ∧ s.vm.findClass ("[" ++ ty.toString) = some cN := by
  obtain ⟨cN, k, comp, h1, h2, h3⟩ := Cond.arrayClass_spec h
  exact ⟨cN, fun n z => ⟨fun k h => (by cases h), k, h2, comp, h3⟩, h1⟩
theorem arrQ {s : State} {C : String} (h : va_AO C s) : ∃ cN : ClassId, ArrOfT s cN (.object C) ∧ va_RA s cN (.object C) := by
  obtain ⟨comp, cN, k, h1, -, h3, h4, h5⟩ := Cond.arrayOver_spec h
  exact ⟨cN, fun n z => ⟨fun k h => (by cases h), k, h3, comp, h4⟩, k, comp, h3, h4, h1, h5⟩
theorem law_tie {p : Program} {e : Env} {s : State} {m : MethodId} {below : List Frame} {meth : Method} {c : Code} (l : Launch) {b L : Nat} {xs : Nat → Int32} (hL : L ≤ 3584) (C0 : lw_At p s m meth c b L xs)
    (hrun : ∃ n σ', am_run PP MLL n 100 278 0 (am_ent 4 [qr (0, 24, L)]) [] (st0 L (fun j => (xs j).toInt)) = some (some (qi 1), σ') ∧ sN σ' ≤ 544002 ∧ sU σ' ≤ 2410000) :
    W p l e room_1 s m #[Value.ref b] below meth c s.heap [] 0 0 (lw_Z below #[Value.ref b] s) (entryFrame m ([Value.ref b] : List Value).toArray 4) := by
  obtain ⟨n, σ', hrun, hN, hU⟩ := hrun
  have hrc : 544000 ≤ room_1.cells := by decide
  have hrs : 2410000 ≤ room_1.slots := by decide
  obtain ⟨hx, hb, hr, hml, hown, hts, hX, hbl, hlocks, hgv⟩ := id C0
  have ht1 : ∀ w ∈ tables_1, w.before #[Value.ref b] s = true := fun w hw => hts w (List.mem_append_right _ hw)
  have hGW : ∀ w ∈ GW, w.before #[Value.ref b] s = true := fun w hw => hts w (List.mem_filter.mp hw).1
  have hA : ∀ a : Nat, a < s.heap.size → ¬ s.heap.size ≤ a := fun a h => Nat.not_le.mpr h
  have hs := flat_of_before _ hgv
  obtain ⟨z, hz, hT⟩ := va_Tof (A := fun q => s.heap.size ≤ q) (tm := .static "WeighCourt" "ABOVE" "[I") (ty := .int) (N := 7) (f := fun j => .int (Int32.ofInt (aboveI j))) (by decide) (hs _ (by decide +kernel)) (va_eqt (hs (.eq (.length (.static "WeighCourt" "ABOVE" "[I")) (.int 7)) (by decide +kernel))) (fun j hj => by
    match j, hj with
    | 0, _ => exact va_eqt (hs (.eq (.elem (.static "WeighCourt" "ABOVE" "[I") (.int 0)) (.int (-1))) (by decide +kernel))
    | 1, _ => exact va_eqt (hs (.eq (.elem (.static "WeighCourt" "ABOVE" "[I") (.int 1)) (.int 0)) (by decide +kernel))
    | 2, _ => exact va_eqt (hs (.eq (.elem (.static "WeighCourt" "ABOVE" "[I") (.int 2)) (.int 1)) (by decide +kernel))
    | 3, _ => exact va_eqt (hs (.eq (.elem (.static "WeighCourt" "ABOVE" "[I") (.int 3)) (.int 2)) (by decide +kernel))
    | 4, _ => exact va_eqt (hs (.eq (.elem (.static "WeighCourt" "ABOVE" "[I") (.int 4)) (.int 0)) (by decide +kernel))
    | 5, _ => exact va_eqt (hs (.eq (.elem (.static "WeighCourt" "ABOVE" "[I") (.int 5)) (.int 0)) (by decide +kernel))
    | 6, _ => exact va_eqt (hs (.eq (.elem (.static "WeighCourt" "ABOVE" "[I") (.int 6)) (.int (-1))) (by decide +kernel))) hA
  have hzl : z < s.heap.size := by
    obtain ⟨cell, h1, -⟩ := hT
    exact (Array.getElem?_eq_some_iff.mp h1).1
  have hB : va_AO "WeighCourt$Balance" s := va_AO.of (ht1 _ arrB)
  have hQ : va_AO "WeighCourt$Question" s := va_AO.of (ht1 _ arrQn)
  obtain ⟨c20, a20, b20⟩ := arrT (ht1 _ arrI)
  obtain ⟨c21, a21, b21⟩ := arrT (ht1 _ arrL)
  obtain ⟨c22, a22, b22⟩ := arrQ hB
  obtain ⟨c23, a23, b23⟩ := arrQ hQ
  have hkn : ∀ t, ∃ q : ClassId × (Nat → Nat), t < 13 → u_Kn s (cR t) (cT t) (cF t) q.1 q.2 := by
    intro t
    by_cases ht : t < 13
    · obtain ⟨cC, iS, h⟩ := u_known (C := cR t) (T := cT t) (N := cF t) (n := cF t) hGW (lay_good ht) (ht1 _ (tb_ic t (List.mem_range.mpr ht)))
      exact ⟨(cC, iS), fun _ => h⟩
    · exact ⟨(0, fun _ => 0), fun h => absurd h ht⟩
  obtain ⟨D, hD⟩ : ∃ D : va_G, ∀ t, t < 13 → u_Kn s (cR t) (cT t) (cF t) (D.1 t) (D.2 t) := ⟨(fun t => (Classical.choose (hkn t)).1, fun t => (Classical.choose (hkn t)).2), fun t ht => Classical.choose_spec (hkn t) ht⟩
  obtain ⟨cA, e20, e21, e22, e23⟩ : ∃ cA : Nat → ClassId, cA 20 = c20 ∧ cA 21 = c21 ∧ cA 22 = c22 ∧ cA 23 = c23 := ⟨fun t => if t = 20 then c20 else if t = 21 then c21 else if t = 22 then c22 else c23, rfl, rfl, rfl, rfl⟩
  have hK : va_K D vwCl (tysA cA) s := by
    refine ⟨fun t q hq => ?_, fun k q hk => ?_⟩
    · have ht : t < 13 := (List.getElem?_eq_some_iff.mp hq).1
      rw [vw_at ht] at hq
      cases hq
      exact hD t ht
    · unfold tysA at hk
      match k, hk with
      | 0, hk => cases hk; rw [e20]; exact ⟨a20, b20⟩
      | 1, hk => cases hk; rw [e21]; exact ⟨a21, b21⟩
      | 2, hk => cases hk; rw [e22]; exact ⟨a22, b22⟩
      | 3, hk => cases hk; rw [e23]; exact ⟨a23, b23⟩
      | k + 4, hk => simp at hk
  have hSf : Sf (s.heap.size, b, z) D cA s := ⟨hK, hB, hQ, fun q hq => va_Nw.of rfl (ht1 _ (TLs_ok q hq)), va_Nw.of rfl (ht1 _ fN), va_Zref (ht1 _ lS) (ht1 _ iW) hz hA, Nat.le_refl _, hbl, hzl⟩
  have C : Cx p s m #[Value.ref b] meth c (s.heap.size, b, z) D cA 278 := ⟨hx, hb.trans law_by.symm, hml.trans law_ml.symm, by rw [law_own]; exact hown, hGW, hSf, fun h => absurd h law_ni, by omega⟩
  have hl := lv_entry ([.ref b]) (n := 4) (Nat.le_of_ble_eq_true rfl)
  rw [lg_entry_eq]
  generalize (lg_sl ([.ref b]) ++ List.replicate (4 - (lg_sl ([.ref b])).length) Slot.unset).toArray = lsC at hl ⊢
  have hLR : LR (s.heap.size, b, z) 278 (am_ent 4 [qr (0, 24, L)]) lsC := by
    rw [← law_ml] at hl ⊢
    exact LR_entry (vs := [qr (0, 24, L)]) hl
  have hR : Rp (s.heap.size, b, z) D cA (st0 L (fun j => (xs j).toInt)) s.heap := by
    refine ⟨Nat.le_refl _, fun k q h => ?_, fun k hk => ?_, fun a j r hr => (by cases hr), fun a j => ?_, ⟨rfl, by show L < _; omega⟩, rfl⟩
    · exact absurd (wsA_of h).1 (by show ¬ k + 2 < 2; omega)
    · exact absurd hk (by show ¬ k + 2 < 2; omega)
    · have h : inI (sI (st0 L (fun j => (xs j).toInt)) a j) := by
        show inI (if a = 0 then (xs j).toInt else if a = 1 then aboveI j else 0)
        split
        · exact n_r _
        · split
          · exact aboveI_in j
          · exact ⟨by decide, by decide⟩
      exact ⟨inI_L h, fun _ => h⟩
  have hOl : Ol (s.heap.size, b, z) s (st0 L (fun j => (xs j).toInt)) := by
    refine ⟨?_, hT⟩
    have e : (fun j => Int32.ofInt (sI (st0 L (fun j => (xs j).toInt)) 0 j)) = xs := by
      funext j
      exact n_o (xs j)
    rw [e]
    exact hX
  have I : Iv (s.heap.size, b, z) D cA 278 s (st0 L (fun j => (xs j).toInt)) s.heap (am_ent 4 [qr (0, 24, L)]) [] lsC [] 0 := ⟨hR, hOl, va_S.rf, rfl, fun v hv => (by cases hv), fun v hv => by
    have h := mem_ent hv
    rw [List.mem_singleton.mp h]
    intro r hr
    cases hr
    exact ⟨by show 0 < 2; omega, rfl⟩, hLR⟩
  have K := am_sim (l := l) (e := e) (R := room_1) (below := below) (Q := lw_Z below #[Value.ref b] s) (CE := sN σ' - 2) (SE := sU σ') C (d := 100) (fun d' _ => mets l _ D cA d') (by decide) (by decide) (by omega) (by omega) (fun i x ls st H lsC locs he hsel I => ?_) n 0 _ [] _ s.heap lsC [] 0 0 hrun I (by show 0 + (sN σ' - 2) = _; omega) (by show 0 + (sU σ' - 0) = _; omega)
  · rw [pc0 278 (List.mem_range.mpr (by omega))] at K
    exact K
  · rcases ret_int hsel with ⟨v, hi, rfl, hv, hzz⟩ | ⟨v, hi, rfl, hv⟩ | ⟨v, hi, rfl, hv⟩ | ⟨hi, rfl, hv⟩
    · cases hv
      have hd := tf_dec (show 278 < 279 by omega) he (by rw [hi]; intro h; cases h)
      rw [tf_pc he]
      obtain ⟨ins, pc, x1, x2, x3, k, ts, cut⟩ := x
      dsimp only at hi
      subst hi
      refine va_forget (fun q hq => I.2.2.1.2.2 q hq) ?_
      refine W.widen (k := room_1.cells) (n := room_1.slots) (by omega) (by omega) ?_
      exact lw_ret hx hb hr hlocks (by rw [← law_by]; exact hd)
    · cases hv
    · cases hv
    · cases hv
