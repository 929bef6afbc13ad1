/-! what a search is about -/
def lfN (g : Nat → Int) : Nat → Nat
  | 0 => 0
  | t + 1 => lfN g t + (if g t < 0 then 1 else 0)
theorem lfN_lf (g : Nat → Int) : ∀ T, ((lfN g T : Nat) : Int) = lf g T
  | 0 => rfl
  | T + 1 => by
    have ih := lfN_lf g T
    have e1 : lfN g (T + 1) = lfN g T + (if g T < 0 then 1 else 0) := rfl
    have e2 : lf g (T + 1) = lf g T + (if g T < 0 then 1 else 0) := rfl
    rw [e1, e2, ← ih]
    by_cases h : g T < 0
    · rw [if_pos h, if_pos h]; rfl
    · rw [if_neg h, if_neg h]; rfl
theorem lfN_mono {g : Nat → Int} {i j : Nat} (h : i ≤ j) : lfN g i ≤ lfN g j := by
  obtain ⟨k, rfl⟩ : ∃ k, j = i + k := ⟨j - i, by omega⟩
  clear h
  induction k with
  | zero => exact Nat.le_refl _
  | succ k ih => exact Nat.le_trans ih (Nat.le_add_right _ _)
theorem lfN_s {g : Nat → Int} {t : Nat} (h : g t < 0) : lfN g (t + 1) = lfN g t + 1 := by
  show lfN g t + (if g t < 0 then 1 else 0) = _
  rw [if_pos h]
theorem lfN_n {g : Nat → Int} {t : Nat} (h : ¬ g t < 0) : lfN g (t + 1) = lfN g t := by
  show lfN g t + (if g t < 0 then 1 else 0) = _
  rw [if_neg h]
  rfl
theorem lfN_lt {g : Nat → Int} {t T : Nat} (h : g t < 0) (ht : t < T) : lfN g t < lfN g T := by
  have := lfN_s h
  have := lfN_mono (g := g) (i := t + 1) (j := T) (by omega)
  omega
theorem lfN_inj {g : Nat → Int} {t u : Nat} (h : g t < 0) (h2 : g u < 0) (e : lfN g t = lfN g u) : t = u := by
  rcases Nat.lt_trichotomy t u with q | q | q
  · have := lfN_lt h q; omega
  · exact q
  · have := lfN_lt h2 q; omega
theorem lfN_ex {g : Nat → Int} {p : Nat} : ∀ T, p < lfN g T → ∃ t, t < T ∧ g t < 0 ∧ lfN g t = p
  | 0, h => absurd h (Nat.not_lt_zero _)
  | T + 1, h => by
    by_cases q : p < lfN g T
    · obtain ⟨t, a, b, c⟩ := lfN_ex T q
      exact ⟨t, by omega, b, c⟩
    · by_cases w : g T < 0
      · rw [lfN_s w] at h
        exact ⟨T, by omega, w, by omega⟩
      · rw [lfN_n w] at h
        exact absurd h q
/-- the p-th that is left -/
noncomputable def trp (g : Nat → Int) (T p : Nat) : Nat := ff (fun t => g t < 0 ∧ lfN g t = p) T 0
theorem trp_sp {g : Nat → Int} {T p : Nat} (h : p < lfN g T) : trp g T p < T ∧ g (trp g T p) < 0 ∧ lfN g (trp g T p) = p := by
  obtain ⟨t, a, b, c⟩ := lfN_ex T h
  obtain ⟨s1, s2, s3, s4⟩ := ff_spec (fun t => g t < 0 ∧ lfN g t = p) T 0
  have e : ff (fun t => g t < 0 ∧ lfN g t = p) T 0 = trp g T p := rfl
  rw [e] at s1 s2 s3 s4
  have lt : trp g T p < T := by
    rcases Nat.lt_or_ge (trp g T p) T with q | q
    · exact q
    · exact absurd ⟨b, c⟩ (s3 t (Nat.zero_le _) (by omega))
  exact ⟨lt, s4 (by omega)⟩
theorem trp_lf {g : Nat → Int} {T t : Nat} (ht : t < T) (h : g t < 0) : trp g T (lfN g t) = t := by
  obtain ⟨a, b, c⟩ := trp_sp (p := lfN g t) (lfN_lt h ht)
  exact lfN_inj b h c
noncomputable def trX (σ : am_S) (T : Nat) : Nat → Nat := fun s => if s < lfN (sI σ 37) T then trp (sI σ 37) T s else trp (sI σ 37) T 0
theorem trX_sp {σ : am_S} {T s : Nat} (h : s < lfN (sI σ 37) T) : trX σ T s < T ∧ sI σ 37 (trX σ T s) < 0 ∧ lfN (sI σ 37) (trX σ T s) = s := by
  unfold trX
  rw [if_pos h]
  exact trp_sp h
theorem trX_T {σ : am_S} {T : Nat} (h : 1 ≤ lfN (sI σ 37) T) (s : Nat) : trX σ T s < T := by
  unfold trX
  by_cases q : s < lfN (sI σ 37) T
  · rw [if_pos q]
    exact (trp_sp q).1
  · rw [if_neg q]
    exact (trp_sp (show 0 < lfN (sI σ 37) T by omega)).1
/-- a suspect's place with two coins exchanged -/
noncomputable def xpl (σ : am_S) (n l m : Nat) (kd : Int) (T s a b : Nat) : Int := @dite _ (s < lfN (sI σ 37) T ∧ ∃ u, XR σ n l m kd a b (trX σ T s) u ∧ sI σ 37 u < 0 ∧ u < T) (Classical.propDecidable _) (fun h => ((lfN (sI σ 37) (Classical.choose h.2) : Nat) : Int)) (fun _ => -1)
theorem xpl_sp {σ : am_S} {n l m : Nat} {kd : Int} {T s a b u : Nat} (hT : TI σ n l m kd T) (hs : s < lfN (sI σ 37) T) (hx : XR σ n l m kd a b (trX σ T s) u) : xpl σ n l m kd T s a b = if sI σ 37 u < 0 then ((lfN (sI σ 37) u : Nat) : Int) else -1 := by
  have hk := hT.2.1
  unfold xpl
  by_cases q : sI σ 37 u < 0
  · have hex : s < lfN (sI σ 37) T ∧ ∃ u, XR σ n l m kd a b (trX σ T s) u ∧ sI σ 37 u < 0 ∧ u < T := ⟨hs, u, hx, q, XR_lt hT hx⟩
    rw [dif_pos hex, if_pos q]
    have sp := Classical.choose_spec hex.2
    rw [XR_u hk sp.1 hx]
  · rw [if_neg q, dif_neg]
    rintro ⟨_, u', h1, h2, _⟩
    rw [XR_u hk h1 hx] at h2
    exact q h2
theorem xpl_bd {σ : am_S} {n l m : Nat} {kd : Int} {T s a b : Nat} : -1 ≤ xpl σ n l m kd T s a b ∧ xpl σ n l m kd T s a b < (lfN (sI σ 37) T : Nat) := by
  unfold xpl
  by_cases q : s < lfN (sI σ 37) T ∧ ∃ u, XR σ n l m kd a b (trX σ T s) u ∧ sI σ 37 u < 0 ∧ u < T
  · rw [dif_pos q]
    have sp := Classical.choose_spec q.2
    have := lfN_lt sp.2.1 sp.2.2
    omega
  · rw [dif_neg q]
    omega
noncomputable def mkX (σ : am_S) (n l m : Nat) (kd : Int) (T ob : Nat) : sX := ((n, lfN (sI σ 37) T), (fun s a b => xpl σ n l m kd T s a b), (fun f s => df f (sI σ 33) (sI σ 34) (sI σ 35) (trX σ T s)), (fun k => sI σ 41 (wr σ ob k)), sI σ 31 4, 2 * ownM σ ob + 1)
theorem TI_tv {σ : am_S} {n l m T t : Nat} {kd : Int} (h : TI σ n l m kd T) (ht : t < T) : TVt (sI σ 33) (sI σ 34) (sI σ 35) n t := by
  obtain ⟨f, x, y, z, w, hv, _, hc⟩ := h.2.2.2.2.2.2.2.2.2.2 t ht
  obtain ⟨v1, v2, v3, v4, v5, v6, v7, v8, v9, v10⟩ := hv
  refine ⟨by rw [hc.1]; omega, by rw [hc.1]; omega, fun i hi => ?_⟩
  rw [hc.1] at hi
  obtain ⟨c1, c2⟩ := hc.2 i (by omega)
  rw [c1, c2]
  refine ⟨?_, ?_, sgw_pm kd f w i⟩
  · unfold cni
    (repeat' split) <;> omega
  · unfold cni
    (repeat' split) <;> omega
theorem df_cgN {s s' m c g : Nat → Int} {N : Nat} {t : Nat} (hv : TVt m c g N t) (h : ∀ k, k < N → s k = s' k) : df s m c g t = df s' m c g t := by
  unfold df
  refine sm_congr _ (fun i hi => ?_)
  have := hv.2.2 i (by omega)
  rw [h _ (by omega)]
theorem oqA_mo {v : Nat → Int} (h : ∀ i, v i = 1 ∨ v i = 3) : ∀ n, oqA v 0 n = 0 ∧ n = 0 ∨ oqA v 0 n = 1 ∨ oqA v 0 n = 3
  | 0 => Or.inl ⟨rfl, rfl⟩
  | n + 1 => by
    have ih := oqA_mo h n
    have := h n
    have e : oqA v 0 (n + 1) = if v n ≤ oqA v 0 n then oqA v 0 n else v n := rfl
    rw [e]
    refine Or.inr ?_
    split <;> omega
theorem ownM_13 {σ : am_S} {ob nb : Nat} (hq : QV σ nb) (hb : ob < nb) : ownM σ ob = 1 ∨ ownM σ ob = 3 := by
  unfold ownM
  by_cases e : sI σ 41 ob = 6
  · rw [if_pos e]
    obtain ⟨q1, q2, _⟩ := hq ob hb e
    rcases oqA_mo (v := fun i => mo (sI σ 41 (mmb σ ob i))) (fun i => mo_13 _) (sI σ 47 ob).toNat with ⟨_, w⟩ | w
    · omega
    · exact w
  · rw [if_neg e]
    exact mo_13 _
theorem mkX_XV {σ : am_S} {n l m T ob nb : Nat} {kd : Int} (hT : TI σ n l m kd T) (hn : n ≤ 12) (hM : 1 ≤ lfN (sI σ 37) T ∧ lfN (sI σ 37) T ≤ 60) (hl : 0 ≤ sI σ 31 4 ∧ sI σ 31 4 ≤ 3) (hq : QV σ nb) (hb : ob < nb) : XV (mkX σ n l m kd T ob) := by
  have ho := ownM_13 hq hb
  refine ⟨hn, hM.2, fun s a b => xpl_bd, fun f s hf hs => df_bd (TI_tv hT (trX_T hM.1 s)) hf, fun f g s h => df_cgN (TI_tv hT (trX_T hM.1 s)) h, hl, ?_⟩
  show 2 * ownM σ ob + 1 = 3 ∨ 2 * ownM σ ob + 1 = 7
  omega
