/-! the class: weighings -/
/-- whose a cell is: the roles of the class's rows that change place -/
def OW (own : Nat → Nat) (aH aL aY aS : Nat) : Prop := (∀ a, a < 87 → own a = a) ∧ own aH = 4 ∧ own aL = 5 ∧ own aY = 6 ∧ own aS = 7
def OB (own : Nat → Nat) (β μ ρ : Nat → Nat) (n : Nat) : Prop := ∀ b, b < n → own (β b) = 1000 + 8 * b ∧ own (μ b) = 1001 + 8 * b ∧ ∀ k, k < 4 → own (ρ b + k) = 1002 + 8 * b + k
theorem own_ne {own : Nat → Nat} {a b p q : Nat} (ha : own a = p) (hb : own b = q) (h : p ≠ q) : a ≠ b := fun e => h (by rw [← ha, ← hb, e])
/-- the lies of a truth behind an outcome, or -1 -/
def lb (k told o had lies : Int) : Int := if told = o then had else if k = 5 ∧ -1 ≤ o ∧ o ≤ 1 ∧ had < lies then had + 1 else -1
theorem lb_ft {k x o had lies : Int} : lb k (tl k x) o had lies = if ft k x o had lies = 0 then -1 else if ft k x o had lies = 2 then had + 1 else had := by
  unfold lb ft
  by_cases h1 : tl k x = o
  · rw [if_pos h1, if_pos h1, if_neg (by decide), if_neg (by decide)]
  · rw [if_neg h1, if_neg h1]
    by_cases h2 : k = 5 ∧ -1 ≤ o ∧ o ≤ 1 ∧ had < lies
    · rw [if_pos h2, if_pos h2, if_neg (by decide), if_pos rfl]
    · rw [if_neg h2, if_neg h2, if_pos rfl]
theorem v_Balance_liesBehind_0 (d : Nat) (p0 : Nat) (p1 p2 p3 p4 : Int) (σ : am_S) (K : Int → am_S → Prop) (h :
  ((p1 = p2 →
    K p3 σ) ∧
  (¬ (p1 = p2) →
    ((¬ ((if (sI σ p0 0) = 5 then (if p2 < (-1) then (0 : Int) else (if 1 < p2 then (0 : Int) else (if p4 ≤ p3 then (0 : Int) else 1)) : Int) else 0) = 0) → -2147483648 ≤ p3 + 1) ∧ (¬ ((if (sI σ p0 0) = 5 then (if p2 < (-1) then (0 : Int) else (if 1 < p2 then (0 : Int) else (if p4 ≤ p3 then (0 : Int) else 1)) : Int) else 0) = 0) → p3 + 1 < 2147483648)) ∧
    K (if (if (sI σ p0 0) = 5 then (if p2 < (-1) then (0 : Int) else (if 1 < p2 then (0 : Int) else (if p4 ≤ p3 then (0 : Int) else 1)) : Int) else 0) = 0 then ((-1) : Int) else (p3 + 1)) σ))) : am_Runs PP MLL d m_Balance_liesBehind 0 [some (qr (p0, 0, 9)), some (qi p1), some (qi p2), some (qi p3), some (qi p4), none] [] σ (kI K) := am_wEC_ok (orc []) [21, 29] 200 (⟨fun c1 => (h.1 c1), fun c1 => ⟨rfl, am_use (fun H8 => ⟨fun c2 => ⟨fun c3 => (Eq.mp (congrArg (fun z => am_Runs _ _ _ _ _ _ (qi z :: _) _ _) (Eq.trans (if_pos c2 : (if (sI σ p0 0) = 5 then (if p2 < (-1) then (0 : Int) else (if 1 < p2 then (0 : Int) else (if p4 ≤ p3 then (0 : Int) else 1)) : Int) else 0) = if p2 < (-1) then (0 : Int) else (if 1 < p2 then (0 : Int) else (if p4 ≤ p3 then (0 : Int) else 1))) (if_pos c3 : (if p2 < (-1) then (0 : Int) else if 1 < p2 then (0 : Int) else (if p4 ≤ p3 then (0 : Int) else 1)) = 0))) H8), fun c3 => ⟨fun c4 => (Eq.mp (congrArg (fun z => am_Runs _ _ _ _ _ _ (qi z :: _) _ _) (Eq.trans (if_pos c2 : (if (sI σ p0 0) = 5 then (if p2 < (-1) then (0 : Int) else (if 1 < p2 then (0 : Int) else (if p4 ≤ p3 then (0 : Int) else 1)) : Int) else 0) = if p2 < (-1) then (0 : Int) else (if 1 < p2 then (0 : Int) else (if p4 ≤ p3 then (0 : Int) else 1))) (Eq.trans (if_neg c3 : (if p2 < (-1) then (0 : Int) else if 1 < p2 then (0 : Int) else (if p4 ≤ p3 then (0 : Int) else 1)) = if 1 < p2 then (0 : Int) else (if p4 ≤ p3 then (0 : Int) else 1)) (if_pos c4 : (if 1 < p2 then (0 : Int) else if p4 ≤ p3 then (0 : Int) else 1) = 0)))) H8), fun c4 => ⟨fun c5 => (Eq.mp (congrArg (fun z => am_Runs _ _ _ _ _ _ (qi z :: _) _ _) (Eq.trans (if_pos c2 : (if (sI σ p0 0) = 5 then (if p2 < (-1) then (0 : Int) else (if 1 < p2 then (0 : Int) else (if p4 ≤ p3 then (0 : Int) else 1)) : Int) else 0) = if p2 < (-1) then (0 : Int) else (if 1 < p2 then (0 : Int) else (if p4 ≤ p3 then (0 : Int) else 1))) (Eq.trans (if_neg c3 : (if p2 < (-1) then (0 : Int) else if 1 < p2 then (0 : Int) else (if p4 ≤ p3 then (0 : Int) else 1)) = if 1 < p2 then (0 : Int) else (if p4 ≤ p3 then (0 : Int) else 1)) (Eq.trans (if_neg c4 : (if 1 < p2 then (0 : Int) else if p4 ≤ p3 then (0 : Int) else 1) = if p4 ≤ p3 then (0 : Int) else 1) (if_pos c5 : (if p4 ≤ p3 then (0 : Int) else 1) = 0))))) H8), fun c5 => (Eq.mp (congrArg (fun z => am_Runs _ _ _ _ _ _ (qi z :: _) _ _) (Eq.trans (if_pos c2 : (if (sI σ p0 0) = 5 then (if p2 < (-1) then (0 : Int) else (if 1 < p2 then (0 : Int) else (if p4 ≤ p3 then (0 : Int) else 1)) : Int) else 0) = if p2 < (-1) then (0 : Int) else (if 1 < p2 then (0 : Int) else (if p4 ≤ p3 then (0 : Int) else 1))) (Eq.trans (if_neg c3 : (if p2 < (-1) then (0 : Int) else if 1 < p2 then (0 : Int) else (if p4 ≤ p3 then (0 : Int) else 1)) = if 1 < p2 then (0 : Int) else (if p4 ≤ p3 then (0 : Int) else 1)) (Eq.trans (if_neg c4 : (if 1 < p2 then (0 : Int) else if p4 ≤ p3 then (0 : Int) else 1) = if p4 ≤ p3 then (0 : Int) else 1) (if_neg c5 : (if p4 ≤ p3 then (0 : Int) else 1) = 1))))) H8)⟩⟩⟩, fun c2 => (Eq.mp (congrArg (fun z => am_Runs _ _ _ _ _ _ (qi z :: _) _ _) (if_neg c2 : (if (sI σ p0 0) = 5 then (if p2 < (-1) then (0 : Int) else (if 1 < p2 then (0 : Int) else (if p4 ≤ p3 then (0 : Int) else 1)) : Int) else 0) = 0)) H8)⟩) (am_wEC_ok (orc []) [21, 29] 200 (am_use (fun H7 => ⟨fun c6 => (Eq.mp (congrArg (fun z => am_Runs _ _ _ _ _ _ (qi z :: _) _ _) (if_pos c6 : (if (if (sI σ p0 0) = 5 then (if p2 < (-1) then (0 : Int) else (if 1 < p2 then (0 : Int) else (if p4 ≤ p3 then (0 : Int) else 1)) : Int) else 0) = 0 then ((-1) : Int) else p3 + 1) = (-1))) H7), fun c6 => ⟨⟨((h.2 c1).1.1 c6), ((h.2 c1).1.2 c6)⟩, (Eq.mp (congrArg (fun z => am_Runs _ _ _ _ _ _ (qi z :: _) _ _) (if_neg c6 : (if (if (sI σ p0 0) = 5 then (if p2 < (-1) then (0 : Int) else (if 1 < p2 then (0 : Int) else (if p4 ≤ p3 then (0 : Int) else 1)) : Int) else 0) = 0 then ((-1) : Int) else p3 + 1) = p3 + 1)) H7)⟩⟩) (am_wEC_ok (orc []) [21, 29] 200 ((h.2 c1).2))))⟩⟩)

theorem c_liesBehind (d : Nat) {a : Nat} {told o had lies : Int} {σ : am_S} {K : Int → am_S → Prop} (h0 : 0 ≤ had) (h1 : had ≤ 1000) (h : K (lb (sI σ a 0) told o had lies) σ) : am_Calls PP MLL (d + 1) m_Balance_liesBehind [qr (a, 0, 9), qi told, qi o, qi had, qi lies] σ (kI K) := by
  refine v_Balance_liesBehind_0 d a told o had lies σ K ⟨fun c => ?_, fun c => ⟨⟨fun _ => by omega, fun _ => by omega⟩, ?_⟩⟩
  · refine kEq h ?_ rfl
    unfold lb
    rw [if_pos c]
  · refine kEq h ?_ rfl
    unfold lb
    rw [if_neg c]
    by_cases h5 : sI σ a 0 = 5
    · by_cases e1 : o < -1
      · rw [if_neg (by omega), if_pos h5, if_pos e1, if_pos rfl]
      · by_cases e2 : 1 < o
        · rw [if_neg (by omega), if_pos h5, if_neg e1, if_pos e2, if_pos rfl]
        · by_cases e3 : lies ≤ had
          · rw [if_neg (by omega), if_pos h5, if_neg e1, if_neg e2, if_pos e3, if_pos rfl]
          · rw [if_pos (by omega), if_pos h5, if_neg e1, if_neg e2, if_neg e3, if_neg (by decide)]
    · rw [if_neg (fun q => h5 q.1), if_neg h5, if_pos rfl]
/-- how an outcome fits a truth, by the coins on the pans as bits -/
def jw (σ : am_S) (k o : Int) (lf rt : Nat) (lies : Int) (t : Nat) : Int := ft k (df (fun c => bt lf c - bt rt c) (sI σ 33) (sI σ 34) (sI σ 35) t) o (sI σ 36 t) lies
def jS (σ : am_S) (aS : Nat) (k o : Int) (lf rt : Nat) (lies : Int) (W t : Nat) : Int := if sI σ 37 t < 0 ∧ jw σ k o lf rt lies t = 0 then (W : Int) + 1 else sI σ aS t
def jY (σ : am_S) (aY : Nat) (k o : Int) (lf rt : Nat) (lies : Int) (W t : Nat) : Int := if sI σ 37 t < 0 ∧ jw σ k o lf rt lies t = 2 then a_or (sI σ aY t) (a_shl 1 (W : Int)) else sI σ aY t
def jN (σ : am_S) (k o : Int) (lf rt : Nat) (lies : Int) (i : Nat) : Int := sm (fun t => if sI σ 37 t < 0 ∧ jw σ k o lf rt lies t = 0 then 1 else 0) i
def JT (σ : am_S) (aY aS : Nat) (k o : Int) (lf rt : Nat) (lies : Int) (W i : Nat) : am_S := putI (putI (rowI (rowI σ aS (up (sI σ aS) (jS σ aS k o lf rt lies W) i)) aY (up (sI σ aY) (jY σ aY k o lf rt lies W) i)) 3 3 ((W : Int) + 1)) 3 2 (sI σ 3 2 - jN σ k o lf rt lies i)
theorem JT_o {σ : am_S} {aY aS : Nat} {k o lies : Int} {lf rt W i x : Nat} (h1 : x ≠ aY) (h2 : x ≠ aS) (h3 : x ≠ 3) : sI (JT σ aY aS k o lf rt lies W i) x = sI σ x := by
  unfold JT
  rw [put_ne h3, put_ne h3, row_ne h1, row_ne h2]
theorem JT_S {σ : am_S} {aY aS : Nat} {k o lies : Int} {lf rt W i : Nat} (h1 : aS ≠ aY) (h3 : aS ≠ 3) : sI (JT σ aY aS k o lf rt lies W i) aS = up (sI σ aS) (jS σ aS k o lf rt lies W) i := by
  unfold JT
  rw [put_ne h3, put_ne h3, row_ne h1, row_at]
theorem JT_Y {σ : am_S} {aY aS : Nat} {k o lies : Int} {lf rt W i : Nat} (h3 : aY ≠ 3) : sI (JT σ aY aS k o lf rt lies W i) aY = up (sI σ aY) (jY σ aY k o lf rt lies W) i := by
  unfold JT
  rw [put_ne h3, put_ne h3, row_at]
theorem JT_3 {σ : am_S} {aY aS : Nat} {k o lies : Int} {lf rt W i j : Nat} (h3 : aY ≠ 3) (h4 : aS ≠ 3) : sI (JT σ aY aS k o lf rt lies W i) 3 j = if j = 2 then sI σ 3 2 - jN σ k o lf rt lies i else if j = 3 then (W : Int) + 1 else sI σ 3 j := by
  unfold JT
  rw [put_at, put_at, row_ne h3.symm, row_ne h4.symm]
theorem JT_is {σ T : am_S} {aY aS : Nat} {k o lies : Int} {lf rt W i : Nat} (h1 : aS ≠ aY) (h3 : aY ≠ 3) (h4 : aS ≠ 3) (e2 : T.2 = σ.2) (eS : sI T aS = up (sI σ aS) (jS σ aS k o lf rt lies W) i) (eY : sI T aY = up (sI σ aY) (jY σ aY k o lf rt lies W) i) (e3 : ∀ j, sI T 3 j = if j = 2 then sI σ 3 2 - jN σ k o lf rt lies i else if j = 3 then (W : Int) + 1 else sI σ 3 j) (eo : ∀ x, x ≠ aY → x ≠ aS → x ≠ 3 → sI T x = sI σ x) : T = JT σ aY aS k o lf rt lies W i := by
  refine sto_ext (fun x y => ?_) e2
  by_cases q1 : x = 3
  · subst q1; rw [e3, JT_3 h3 h4]
  · by_cases q2 : x = aS
    · subst q2; rw [eS, JT_S h1 h4]
    · by_cases q3 : x = aY
      · subst q3; rw [eY, JT_Y h3]
      · rw [eo x q3 q2 q1, JT_o q3 q2 q1]
theorem jN_bd (σ : am_S) (k o : Int) (lf rt : Nat) (lies : Int) (i : Nat) : 0 ≤ jN σ k o lf rt lies i ∧ jN σ k o lf rt lies i ≤ i := by
  have h := sm_bd (f := fun t => if sI σ 37 t < 0 ∧ jw σ k o lf rt lies t = 0 then 1 else 0) (c := 1) i (fun j _ => by split <;> omega)
  unfold jN
  omega
/-- the class's difference is the reference's, by sides -/
theorem k_diff {σ s : am_S} {aH aL n l m T t lf rt : Nat} {kd : Int} (hT : TI σ n l m kd T) (hK : KTt σ aH aL n l m kd T) (ht : t < T) (hlr : ∀ c, bt lf c * bt rt c = 0) (eH : sI s aH t = sI σ aH t) (eL : sI s aL t = sI σ aL t) : ∃ H L : Nat, sI s aH t = H ∧ sI s aL t = L ∧ H < 1099511627776 ∧ L < 1099511627776 ∧ pc ((H &&& lf) ||| (L &&& rt)) - pc ((H &&& rt) ||| (L &&& lf)) = df (fun c => bt lf c - bt rt c) (sI σ 33) (sI σ 34) (sI σ 35) t := by
  obtain ⟨f, x, y, z, w, hv, hN, hc⟩ := TI_has hT ht
  obtain ⟨k1, k2, k3⟩ := hK t ht
  have hb := k3 f x y z w hv hN
  exact ⟨(sI σ aH t).toNat, (sI σ aL t).toNat, by rw [eH, Int.toNat_of_nonneg k1], by rw [eL, Int.toNat_of_nonneg k2], hb.1, hb.2.1, HB_diff hT.1 hv hc hb hlr⟩
theorem TI_40 {σ : am_S} {n l m T t : Nat} {kd : Int} (hT : TI σ n l m kd T) (ht : t < T) : TVt (sI σ 33) (sI σ 34) (sI σ 35) 40 t := by
  have h := TI_val hT t ht
  have hn := hT.1
  exact ⟨h.1, h.2.1, fun i hi => by have := h.2.2 i hi; omega⟩

theorem v_Truths_judgeBy_0 (d : Nat) (β μ κ ρ : Nat → Nat) (me : Nat → Nat → Nat) (g aH nH aL nL aY nY aS nS n : Nat) (p2 p3 : Int) (σ : am_S) (K : am_S → Prop) (hR : TR σ aH nH aL nL aY nY aS nS) (hB : BS σ β μ κ ρ me n) (h :
  g < n ∧
  am_Calls PP MLL (d + 4) m_Pan_bits [qr (ρ g, 2, 2)] σ (kL fun x1 s1 =>
    (TR s1 aH nH aL nL aY nY aS nS ∧ BS s1 β μ κ ρ me n) ∧
    am_Calls PP MLL (d + 4) m_Pan_bits [qr (ρ g + 2, 2, 2)] s1 (kL fun x2 s2 =>
      (TR s2 aH nH aL nL aY nY aS nS ∧ BS s2 β μ κ ρ me n) ∧
      (-2147483648 ≤ (sI s2 3 3) + 1 ∧ (sI s2 3 3) + 1 < 2147483648) ∧
      am_Runs PP MLL (d + 4) m_Truths_judgeBy 21 [some (qr (3, 9, 11)), some (qr (β g, 0, 9)), some (qi p2), some (qi p3), some (ql x1), none, some (ql x2), none, some (qi (a_shl 1 (sI s2 3 3))), some (qi 0), none, none] [] (putI s2 3 3 ((sI s2 3 3) + 1)) (kV K)))) : am_Runs PP MLL (d + 4) m_Truths_judgeBy 0 [some (qr (3, 9, 11)), some (qr (β g, 0, 9)), some (qi p2), some (qi p3), none, none, none, none, none, none, none, none] [] σ (kV K) := am_wEF_ok (orc [(1, ρ g, 2, 2), (5, ρ g + 2, 2, 2)]) 200 (⟨⟨rfl, (hB g h.1).2.2.2.1⟩, ⟨rfl, (am_cL h.2 fun x1 s1 h1 => ⟨⟨rfl, (h1.1.2 g h.1).2.2.2.2.1⟩, ⟨rfl, (am_cL h1.2 fun x2 s2 h2 => ⟨rfl, ⟨rfl, ⟨⟨h2.2.1.1, h2.2.1.2⟩, ⟨rfl, h2.2.2⟩⟩⟩⟩)⟩⟩)⟩⟩)

theorem v_Truths_judgeBy_21 (d : Nat) (β μ κ ρ : Nat → Nat) (me : Nat → Nat → Nat) (g aH nH aL nL aY nY aS nS n : Nat) (p2 p3 v4 v6 v8 v9 : Int) (z5 z7 z10 z11 : Option am_V) (σ : am_S) (K : am_S → Prop) (hR : TR σ aH nH aL nL aY nY aS nS) (hB : BS σ β μ κ ρ me n) (h :
  (((sI σ 3 1) ≤ v9 →
    K σ) ∧
  (¬ ((sI σ 3 1) ≤ v9) →
    (0 ≤ v9 ∧ v9 < ((nS : Nat) : Int)) ∧
    (((sI σ aS (Int.toNat v9)) = 0 →
      v9 < ((nY : Nat) : Int) ∧
      (0 ≤ (sI σ aY (Int.toNat v9)) ∧ (sI σ aY (Int.toNat v9)) < 1073741824) ∧
      am_Calls PP MLL (d + 4) m_Truths_difference [qr (3, 9, 11), qi v9, ql v4, ql v6] σ (kI fun x4 s4 =>
        (TR s4 aH nH aL nL aY nY aS nS ∧ BS s4 β μ κ ρ me n) ∧
        am_Calls PP MLL (d + 4) m_Balance_tells [qr (β g, 0, 9), qi x4] s4 (kI fun x5 s5 =>
          (TR s5 aH nH aL nL aY nY aS nS ∧ BS s5 β μ κ ρ me n) ∧
          (0 ≤ (pc (Int.toNat (sI σ aY (Int.toNat v9)))) ∧ (pc (Int.toNat (sI σ aY (Int.toNat v9)))) ≤ 1000) ∧
          (((lb (sI s5 (β g) 0) x5 p2 (pc (Int.toNat (sI σ aY (Int.toNat v9)))) p3) = (-1) →
            (-2147483648 ≤ (sI (putI s5 aS (Int.toNat v9) (sI s5 3 3)) 3 2) - 1 ∧ (sI (putI s5 aS (Int.toNat v9) (sI s5 3 3)) 3 2) - 1 < 2147483648 ∧ -2147483648 ≤ v9 + 1 ∧ v9 + 1 < 2147483648) ∧
            am_Runs PP MLL (d + 4) m_Truths_judgeBy 21 [some (qr (3, 9, 11)), some (qr (β g, 0, 9)), some (qi p2), some (qi p3), some (ql v4), z5, some (ql v6), z7, some (qi v8), some (qi (v9 + 1)), some (qi (pc (Int.toNat (sI σ aY (Int.toNat v9))))), some (qi (lb (sI s5 (β g) 0) x5 p2 (pc (Int.toNat (sI σ aY (Int.toNat v9)))) p3))] [] (putI (putI s5 aS (Int.toNat v9) (sI s5 3 3)) 3 2 ((sI (putI s5 aS (Int.toNat v9) (sI s5 3 3)) 3 2) - 1)) (kV K)) ∧
          (¬ ((lb (sI s5 (β g) 0) x5 p2 (pc (Int.toNat (sI σ aY (Int.toNat v9)))) p3) = (-1)) →
            (((lb (sI s5 (β g) 0) x5 p2 (pc (Int.toNat (sI σ aY (Int.toNat v9)))) p3) ≤ (pc (Int.toNat (sI σ aY (Int.toNat v9)))) →
              (-2147483648 ≤ v9 + 1 ∧ v9 + 1 < 2147483648) ∧
              am_Runs PP MLL (d + 4) m_Truths_judgeBy 21 [some (qr (3, 9, 11)), some (qr (β g, 0, 9)), some (qi p2), some (qi p3), some (ql v4), z5, some (ql v6), z7, some (qi v8), some (qi (v9 + 1)), some (qi (pc (Int.toNat (sI σ aY (Int.toNat v9))))), some (qi (lb (sI s5 (β g) 0) x5 p2 (pc (Int.toNat (sI σ aY (Int.toNat v9)))) p3))] [] s5 (kV K)) ∧
            (¬ ((lb (sI s5 (β g) 0) x5 p2 (pc (Int.toNat (sI σ aY (Int.toNat v9)))) p3) ≤ (pc (Int.toNat (sI σ aY (Int.toNat v9))))) →
              (-2147483648 ≤ v9 + 1 ∧ v9 + 1 < 2147483648) ∧
              am_Runs PP MLL (d + 4) m_Truths_judgeBy 21 [some (qr (3, 9, 11)), some (qr (β g, 0, 9)), some (qi p2), some (qi p3), some (ql v4), z5, some (ql v6), z7, some (qi v8), some (qi (v9 + 1)), some (qi (pc (Int.toNat (sI σ aY (Int.toNat v9))))), some (qi (lb (sI s5 (β g) 0) x5 p2 (pc (Int.toNat (sI σ aY (Int.toNat v9)))) p3))] [] (putI s5 aY (Int.toNat v9) (a_or (sI s5 aY (Int.toNat v9)) v8)) (kV K)))))))) ∧
    (¬ ((sI σ aS (Int.toNat v9)) = 0) →
      (-2147483648 ≤ v9 + 1 ∧ v9 + 1 < 2147483648) ∧
      am_Runs PP MLL (d + 4) m_Truths_judgeBy 21 [some (qr (3, 9, 11)), some (qr (β g, 0, 9)), some (qi p2), some (qi p3), some (ql v4), z5, some (ql v6), z7, some (qi v8), some (qi (v9 + 1)), z10, z11] [] σ (kV K)))))) : am_Runs PP MLL (d + 4) m_Truths_judgeBy 21 [some (qr (3, 9, 11)), some (qr (β g, 0, 9)), some (qi p2), some (qi p3), some (ql v4), z5, some (ql v6), z7, some (qi v8), some (qi v9), z10, z11] [] σ (kV K) := am_wEF_ok (orc [(51, aS, 20, nS), (67, aY, 20, nY)]) 200 (⟨rfl, ⟨fun c2 => (h.1 c2), fun c2 => ⟨rfl, am_wEF_ok (orc [(1, aS, 20, nS)]) 200 (⟨⟨rfl, hR.2.2.2.2⟩, ⟨⟨rfl, (h.2 c2).1.1, (h.2 c2).1.2⟩, ⟨fun c3 => ⟨(Or.inr rfl), ⟨fun c => absurd c (by decide : ¬ ((1 : Int) = 0)), fun _ => ⟨rfl, am_wEF_ok (orc [(1, aY, 20, nY)]) 200 (⟨⟨rfl, hR.2.2.2.1⟩, ⟨⟨rfl, (h.2 c2).1.1, ((h.2 c2).2.1 c3).1⟩, c_ibcI _ ((h.2 c2).2.1 c3).2.1.1 ((h.2 c2).2.1 c3).2.1.2 (⟨rfl, (am_cI ((h.2 c2).2.1 c3).2.2 fun x4 s4 h4 => ⟨rfl, (am_cI h4.2 fun x5 s5 h5 => ⟨rfl, c_liesBehind _ h5.2.1.1 h5.2.1.2 (⟨fun c7 => ⟨⟨rfl, h5.1.1.2.2.2.2⟩, ⟨rfl, ⟨⟨rfl, (h.2 c2).1.1, (h.2 c2).1.2⟩, ⟨rfl, ⟨⟨(h5.2.2.1 c7).1.1, (h5.2.2.1 c7).1.2.1⟩, ⟨rfl, ⟨⟨(h5.2.2.1 c7).1.2.2.1, (h5.2.2.1 c7).1.2.2.2⟩, (h5.2.2.1 c7).2⟩⟩⟩⟩⟩⟩⟩, fun c7 => ⟨fun c9 => ⟨⟨((h5.2.2.2 c7).1 c9).1.1, ((h5.2.2.2 c7).1 c9).1.2⟩, ((h5.2.2.2 c7).1 c9).2⟩, fun c9 => ⟨⟨rfl, h5.1.1.2.2.2.1⟩, ⟨⟨rfl, (h.2 c2).1.1, ((h.2 c2).2.1 c3).1⟩, ⟨⟨rfl, (h.2 c2).1.1, ((h.2 c2).2.1 c3).1⟩, ⟨⟨((h5.2.2.2 c7).2 c9).1.1, ((h5.2.2.2 c7).2 c9).1.2⟩, ((h5.2.2.2 c7).2 c9).2⟩⟩⟩⟩⟩⟩)⟩)⟩)⟩)⟩⟩)⟩⟩⟩, fun c3 => ⟨(Or.inl rfl), ⟨fun _ => ⟨⟨((h.2 c2).2.2 c3).1.1, ((h.2 c2).2.2 c3).1.2⟩, ((h.2 c2).2.2 c3).2⟩, fun c => absurd (by decide : (0 : Int) = 0) c⟩⟩⟩⟩⟩)⟩⟩⟩)

theorem c_judgeBy (d : Nat) {own β μ κ ρ : Nat → Nat} {me : Nat → Nat → Nat} {aH nH aL nL aY nY aS nS : Nat} {g n N l m T W lf rt : Nat} {kd o lies : Int} {σ : am_S} {K : am_S → Prop} (hR : TR σ aH nH aL nL aY nY aS nS) (hB : BS σ β μ κ ρ me n) (hO : OW own aH aL aY aS) (hOB : OB own β μ ρ n) (hT : TI σ N l m kd T) (hK : KTt σ aH aL N l m kd T) (hS : KS σ aY aS T W) (hW : W < 30) (h31 : sI σ 3 1 = T) (h33 : sI σ 3 3 = W) (hleft : 0 ≤ sI σ 3 2 ∧ sI σ 3 2 ≤ 10000) (hg : g < n) (ho : sI σ 10 2 = 0) (hH : T ≤ nH) (hL : T ≤ nL) (hY : T ≤ nY) (hSn : T ≤ nS)
    (hp : sI σ (ρ g) 1 ≤ 20 ∧ sI σ (ρ g + 2) 1 ≤ 20) (hl : ∀ i, -1 ≤ sI σ (ρ g + 1) i ∧ sI σ (ρ g + 1) i < 40) (hr : ∀ i, -1 ≤ sI σ (ρ g + 3) i ∧ sI σ (ρ g + 3) i < 40) (elf : lf = bts (sI σ (ρ g + 1)) (sI σ (ρ g) 1).toNat) (ert : rt = bts (sI σ (ρ g + 3)) (sI σ (ρ g + 2) 1).toNat) (hlr : ∀ c, bt lf c * bt rt c = 0)
    (h : K (JT σ aY aS (sI σ (β g) 0) o lf rt lies W T)) : am_Calls PP MLL (d + 5) m_Truths_judgeBy [qr (3, 9, 11), qr (β g, 0, 9), qi o, qi lies] σ (kV K) := by
  obtain ⟨o1, o2, o3, o4, o5⟩ := hO
  obtain ⟨b1, b2, b3⟩ := hOB g hg
  have n1 : aS ≠ aY := own_ne o5 o4 (by decide)
  have n2 : aY ≠ 3 := own_ne o4 (o1 3 (by decide)) (by decide)
  have n3 : aS ≠ 3 := own_ne o5 (o1 3 (by decide)) (by decide)
  have nH1 : aH ≠ aY := own_ne o2 o4 (by decide)
  have nH2 : aH ≠ aS := own_ne o2 o5 (by decide)
  have nH3 : aH ≠ 3 := own_ne o2 (o1 3 (by decide)) (by decide)
  have nL1 : aL ≠ aY := own_ne o3 o4 (by decide)
  have nL2 : aL ≠ aS := own_ne o3 o5 (by decide)
  have nL3 : aL ≠ 3 := own_ne o3 (o1 3 (by decide)) (by decide)
  have nB1 : β g ≠ aY := own_ne b1 o4 (by omega)
  have nB2 : β g ≠ aS := own_ne b1 o5 (by omega)
  have nB3 : β g ≠ 3 := own_ne b1 (o1 3 (by decide)) (by omega)
  have nT1 : 10 ≠ aY := own_ne (o1 10 (by decide)) o4 (by decide)
  have nT2 : 10 ≠ aS := own_ne (o1 10 (by decide)) o5 (by decide)
  have hT10 := hT.2.2.2.2.2.2.2.2.1
  have hpw := p30 (show W ≤ 30 by omega)
  have lflt : lf < 1099511627776 := by rw [elf]; exact bts_lt (fun i => (hl i).2) _
  have rtlt : rt < 1099511627776 := by rw [ert]; exact bts_lt (fun i => (hr i).2) _
  refine v_Truths_judgeBy_0 d β μ κ ρ me g aH nH aL nL aY nY aS nS n o lies σ K hR hB ?_
  obtain ⟨pf1, pf2⟩ := BS_pan hB hg
  refine ⟨hg, ?_⟩
  refine c_Pan_bits (d + 3) pf1 hp.1 hl ⟨⟨hR, hB⟩, ?_⟩
  refine c_Pan_bits (d + 3) pf2 hp.2 hr ⟨⟨hR, hB⟩, ?_⟩
  rw [h33, ← elf, ← ert]
  refine ⟨by omega, ?_⟩
  have lp0 : ∀ i : Nat, i ≤ T → ∀ z5 z7 z10 z11, am_Runs PP MLL (d + 4) m_Truths_judgeBy 21 [some (qr (3, 9, 11)), some (qr (β g, 0, 9)), some (qi o), some (qi lies), some (ql (lf : Int)), z5, some (ql (rt : Int)), z7, some (qi (a_shl 1 (W : Int))), some (qi (i : Int)), z10, z11] [] (JT σ aY aS (sI σ (β g) 0) o lf rt lies W i) (kV K) := by
    refine lp ?_ ?_
    · intro z5 z7 z10 z11
      refine v_Truths_judgeBy_21 d β μ κ ρ me g aH nH aL nL aY nY aS nS n o lies lf rt _ _ z5 z7 z10 z11 _ K hR hB ⟨fun _ => h, fun c => absurd ?_ c⟩
      rw [JT_3 n2 n3, if_neg (by decide), if_neg (by decide)]
      omega
    · intro i hi ih z5 z7 z10 z11
      obtain ⟨s1, s2, s3, s4, s5, s6, s7⟩ := hS i hi
      have hjn := jN_bd σ (sI σ (β g) 0) o lf rt lies i
      obtain ⟨A, hA⟩ : ∃ A, A = JT σ aY aS (sI σ (β g) 0) o lf rt lies W i := ⟨_, rfl⟩
      have eo : ∀ x, x ≠ aY → x ≠ aS → x ≠ 3 → sI A x = sI σ x := fun x q1 q2 q3 => by rw [hA, JT_o q1 q2 q3]
      have e3 : ∀ j, sI A 3 j = if j = 2 then sI σ 3 2 - jN σ (sI σ (β g) 0) o lf rt lies i else if j = 3 then (W : Int) + 1 else sI σ 3 j := fun j => by rw [hA, JT_3 n2 n3]
      have eSs : sI A aS = up (sI σ aS) (jS σ aS (sI σ (β g) 0) o lf rt lies W) i := by rw [hA, JT_S n1 n3]
      have eYs : sI A aY = up (sI σ aY) (jY σ aY (sI σ (β g) 0) o lf rt lies W) i := by rw [hA, JT_Y n2]
      have e31 : sI A 3 1 = T := by rw [e3, if_neg (by decide), if_neg (by decide), h31]
      have e32 : sI A 3 2 = sI σ 3 2 - jN σ (sI σ (β g) 0) o lf rt lies i := by rw [e3, if_pos rfl]
      have e33 : sI A 3 3 = (W : Int) + 1 := by rw [e3, if_neg (by decide), if_pos rfl]
      have eSi : sI A aS i = sI σ aS i := by rw [eSs, up_at]
      have eYi : sI A aY i = sI σ aY i := by rw [eYs, up_at]
      have eB : sI A (β g) 0 = sI σ (β g) 0 := by rw [eo _ nB1 nB2 nB3]
      have eA2 : A.2 = σ.2 := by rw [hA]; rfl
      have hRA : TR A aH nH aL nL aY nY aS nS := by rw [hA]; exact hR
      have hBA : BS A β μ κ ρ me n := by rw [hA]; exact hB
      rw [← hA]
      -- what the next step's store is
      have nxt : ∀ s, s.2 = σ.2 → sI s aS = (fun t => if t = i then jS σ aS (sI σ (β g) 0) o lf rt lies W i else sI A aS t) → sI s aY = (fun t => if t = i then jY σ aY (sI σ (β g) 0) o lf rt lies W i else sI A aY t) → (∀ j, j ≠ 2 → sI s 3 j = sI A 3 j) → sI s 3 2 = sI A 3 2 - (if sI σ 37 i < 0 ∧ jw σ (sI σ (β g) 0) o lf rt lies i = 0 then 1 else 0) → (∀ x, x ≠ aY → x ≠ aS → x ≠ 3 → sI s x = sI A x) → s = JT σ aY aS (sI σ (β g) 0) o lf rt lies W (i + 1) := by
        intro s f1 f2 f3 f4 f5 f6
        refine JT_is n1 n2 n3 f1 ?_ ?_ ?_ ?_
        · rw [f2, eSs]
          funext t
          rw [up_succ]
          by_cases e : t = i
          · rw [if_pos e, if_pos e, e]
          · rw [if_neg e, if_neg e]
        · rw [f3, eYs]
          funext t
          rw [up_succ]
          by_cases e : t = i
          · rw [if_pos e, if_pos e, e]
          · rw [if_neg e, if_neg e]
        · intro j
          by_cases e : j = 2
          · rw [e, f5, e32, if_pos rfl]
            rw [Int.sub_sub]
            rfl
          · rw [f4 j e, e3, if_neg e, if_neg e]
        · intro x q1 q2 q3
          rw [f6 x q1 q2 q3, eo x q1 q2 q3]
      refine v_Truths_judgeBy_21 d β μ κ ρ me g aH nH aL nL aY nY aS nS n o lies lf rt _ _ z5 z7 z10 z11 A K hRA hBA ⟨fun c => absurd c (by rw [e31]; omega), fun _ => ?_⟩
      rw [Int.toNat_natCast, eSi, eYi]
      refine ⟨by omega, fun c => ?_, fun c => ⟨by omega, ?_⟩⟩
      · obtain ⟨H, L, kH, kL, bH, bL, kd1⟩ := k_diff (s := A) hT hK hi hlr (by rw [eo _ nH1 nH2 nH3]) (by rw [eo _ nL1 nL2 nL3])
        have dfb := df_bd (TI_40 hT hi) (fun c => bt_pm lf rt c)
        have hpc := pc_bd (sI σ 38 i).toNat
        refine ⟨by omega, by omega, ?_⟩
        refine c_difference (d + 2) hRA (by omega) (by omega) kH kL bH bL lflt rtlt ⟨⟨hRA, hBA⟩, ?_⟩
        rw [kd1]
        refine c_tells d hBA hg (by rw [eo 10 nT1 nT2 (by decide)]; exact ho) (by omega) ⟨⟨hRA, hBA⟩, ?_⟩
        rw [eB, lb_ft, s4, s7]
        have ej : ft (sI σ (β g) 0) (df (fun c => bt lf c - bt rt c) (sI σ 33) (sI σ 34) (sI σ 35) i) o (sI σ 36 i) lies = jw σ (sI σ (β g) 0) o lf rt lies i := rfl
        rw [ej]
        have h012 := ft_012 (sI σ (β g) 0) (df (fun c => bt lf c - bt rt c) (sI σ 33) (sI σ 34) (sI σ 35) i) o (sI σ 36 i) lies
        rw [ej] at h012
        refine ⟨⟨by omega, by omega⟩, fun c2 => ?_, fun c2 => ⟨fun c3 => ?_, fun c3 => ?_⟩⟩
        · have hz : jw σ (sI σ (β g) 0) o lf rt lies i = 0 := by
            by_cases q : jw σ (sI σ (β g) 0) o lf rt lies i = 0
            · exact q
            · rw [if_neg q] at c2
              split at c2 <;> omega
          have hc : sI σ 37 i < 0 ∧ jw σ (sI σ (β g) 0) o lf rt lies i = 0 := ⟨by omega, hz⟩
          rw [put_ne n3.symm, e32, e33]
          refine ⟨by omega, ?_⟩
          refine runs_st (nxt _ ?_ ?_ ?_ ?_ ?_ ?_) (ih z5 z7 _ _)
          · exact eA2
          · funext t
            rw [put_ne n3, put_at]
            by_cases e : t = i
            · rw [if_pos e, if_pos e]
              unfold jS
              rw [if_pos hc]
            · rw [if_neg e, if_neg e]
          · funext t
            rw [put_ne n2, put_ne n1.symm]
            by_cases e : t = i
            · rw [if_pos e, e, eYi]
              unfold jY
              rw [if_neg (by omega)]
            · rw [if_neg e]
          · intro j hj
            rw [put_at, if_neg hj, put_ne n3.symm]
          · rw [put_at, if_pos rfl, if_pos hc, e32]
          · intro x q1 q2 q3
            rw [put_ne q3, put_ne q2]
        · have hz : jw σ (sI σ (β g) 0) o lf rt lies i = 1 := by
            rcases h012 with q | q | q
            · rw [q, if_pos rfl] at c2
              exact absurd rfl c2
            · exact q
            · rw [q, if_neg (by decide), if_pos rfl] at c3
              omega
          refine ⟨by omega, ?_⟩
          refine runs_st (nxt _ ?_ ?_ ?_ ?_ ?_ ?_) (ih z5 z7 _ _)
          · exact eA2
          · funext t
            by_cases e : t = i
            · rw [if_pos e, e, eSi]
              unfold jS
              rw [if_neg (by omega)]
            · rw [if_neg e]
          · funext t
            by_cases e : t = i
            · rw [if_pos e, e, eYi]
              unfold jY
              rw [if_neg (by omega)]
            · rw [if_neg e]
          · intro j hj
            rfl
          · rw [if_neg (by omega)]
            omega
          · intro x q1 q2 q3
            rfl
        · have hz : jw σ (sI σ (β g) 0) o lf rt lies i = 2 := by
            rcases h012 with q | q | q
            · rw [q, if_pos rfl] at c2
              exact absurd rfl c2
            · rw [q, if_neg (by decide), if_neg (by decide)] at c3
              omega
            · exact q
          refine ⟨by omega, ?_⟩
          refine runs_st (nxt _ ?_ ?_ ?_ ?_ ?_ ?_) (ih z5 z7 _ _)
          · exact eA2
          · funext t
            rw [put_ne n1]
            by_cases e : t = i
            · rw [if_pos e, e, eSi]
              unfold jS
              rw [if_neg (by omega)]
            · rw [if_neg e]
          · funext t
            rw [put_at]
            by_cases e : t = i
            · rw [if_pos e, if_pos e]
              unfold jY
              rw [if_pos ⟨by omega, hz⟩, eYi]
            · rw [if_neg e, if_neg e]
          · intro j hj
            rw [put_ne n2.symm]
          · rw [if_neg (by omega), put_ne n2.symm]
            omega
          · intro x q1 q2 q3
            rw [put_ne q1]
      · refine runs_st (nxt _ ?_ ?_ ?_ ?_ ?_ ?_) (ih z5 z7 z10 z11)
        · exact eA2
        · funext t
          by_cases e : t = i
          · rw [if_pos e, e, eSi]
            unfold jS
            rw [if_neg (by omega)]
          · rw [if_neg e]
        · funext t
          by_cases e : t = i
          · rw [if_pos e, e, eYi]
            unfold jY
            rw [if_neg (by omega)]
          · rw [if_neg e]
        · intro j hj
          rfl
        · rw [if_neg (by omega)]
          omega
        · intro x q1 q2 q3
          rfl
  refine runs_st ?_ (lp0 0 (Nat.zero_le _) _ _ _ _)
  refine JT_is n1 n2 n3 rfl ?_ ?_ ?_ ?_
  · rw [put_ne n3, up_0]
  · rw [put_ne n2, up_0]
  · intro j
    rw [put_at]
    by_cases e : j = 3
    · subst e
      rfl
    · rw [if_neg e]
      by_cases e2 : j = 2
      · rw [if_pos e2, e2]
        show _ = sI σ 3 2 - 0
        omega
      · rw [if_neg e2]
  · intro x q1 q2 q3
    rw [put_ne q3]
