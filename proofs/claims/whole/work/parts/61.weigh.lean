/-! the class: leftBehind, goBack -/
theorem v_Truths_leftBehind_0 (d : Nat) (β μ κ ρ : Nat → Nat) (me : Nat → Nat → Nat) (g aH nH aL nL aY nY aS nS n : Nat) (p2 p3 : Int) (σ : am_S) (K : Int → am_S → Prop) (hR : TR σ aH nH aL nL aY nY aS nS) (hB : BS σ β μ κ ρ me n) (h :
  g < n ∧
  am_Calls PP MLL (d + 4) m_Pan_bits [qr (ρ g, 2, 2)] σ (kL fun x1 s1 =>
    (TR s1 aH nH aL nL aY nY aS nS ∧ BS s1 β μ κ ρ me n) ∧
    am_Calls PP MLL (d + 4) m_Pan_bits [qr (ρ g + 2, 2, 2)] s1 (kL fun x2 s2 =>
      (TR s2 aH nH aL nL aY nY aS nS ∧ BS s2 β μ κ ρ me n) ∧
      am_Runs PP MLL (d + 4) m_Truths_leftBehind 12 [some (qr (3, 9, 11)), some (qr (β g, 0, 9)), some (qi p2), some (qi p3), some (ql x1), none, some (ql x2), none, some (qi 0), some (qi 0), none] [] s2 (kI K)))) : am_Runs PP MLL (d + 4) m_Truths_leftBehind 0 [some (qr (3, 9, 11)), some (qr (β g, 0, 9)), some (qi p2), some (qi p3), none, none, none, none, none, none, none] [] σ (kI K) := am_wEF_ok (orc [(1, ρ g, 2, 2), (5, ρ g + 2, 2, 2)]) 200 (⟨⟨rfl, (hB g h.1).2.2.2.1⟩, ⟨rfl, (am_cL h.2 fun x1 s1 h1 => ⟨⟨rfl, (h1.1.2 g h.1).2.2.2.2.1⟩, ⟨rfl, (am_cL h1.2 fun x2 s2 h2 => h2.2)⟩⟩)⟩⟩)

theorem v_Truths_leftBehind_12 (d : Nat) (β μ κ ρ : Nat → Nat) (me : Nat → Nat → Nat) (g aH nH aL nL aY nY aS nS n : Nat) (p2 p3 v4 v6 v8 v9 : Int) (z5 z7 z10 : Option am_V) (σ : am_S) (K : Int → am_S → Prop) (hR : TR σ aH nH aL nL aY nY aS nS) (hB : BS σ β μ κ ρ me n) (h :
  (((sI σ 3 1) ≤ v9 →
    K v8 σ) ∧
  (¬ ((sI σ 3 1) ≤ v9) →
    (0 ≤ v9 ∧ v9 < ((nS : Nat) : Int)) ∧
    (((sI σ aS (Int.toNat v9)) = 0 →
      am_Calls PP MLL (d + 4) m_Truths_difference [qr (3, 9, 11), qi v9, ql v4, ql v6] σ (kI fun x4 s4 =>
        (TR s4 aH nH aL nL aY nY aS nS ∧ BS s4 β μ κ ρ me n) ∧
        am_Calls PP MLL (d + 4) m_Balance_tells [qr (β g, 0, 9), qi x4] s4 (kI fun x5 s5 =>
          (TR s5 aH nH aL nL aY nY aS nS ∧ BS s5 β μ κ ρ me n) ∧
          v9 < ((nY : Nat) : Int) ∧
          (0 ≤ (sI s5 aY (Int.toNat v9)) ∧ (sI s5 aY (Int.toNat v9)) < 1073741824) ∧
          (0 ≤ (pc (Int.toNat (sI s5 aY (Int.toNat v9)))) ∧ (pc (Int.toNat (sI s5 aY (Int.toNat v9)))) ≤ 1000) ∧
          (((lb (sI s5 (β g) 0) x5 p2 (pc (Int.toNat (sI s5 aY (Int.toNat v9)))) p3) = (-1) →
            (-2147483648 ≤ v9 + 1 ∧ v9 + 1 < 2147483648) ∧
            am_Runs PP MLL (d + 4) m_Truths_leftBehind 12 [some (qr (3, 9, 11)), some (qr (β g, 0, 9)), some (qi p2), some (qi p3), some (ql v4), z5, some (ql v6), z7, some (qi v8), some (qi (v9 + 1)), some (qi x5)] [] s5 (kI K)) ∧
          (¬ ((lb (sI s5 (β g) 0) x5 p2 (pc (Int.toNat (sI s5 aY (Int.toNat v9)))) p3) = (-1)) →
            (-2147483648 ≤ v8 + 1 ∧ v8 + 1 < 2147483648 ∧ -2147483648 ≤ v9 + 1 ∧ v9 + 1 < 2147483648) ∧
            am_Runs PP MLL (d + 4) m_Truths_leftBehind 12 [some (qr (3, 9, 11)), some (qr (β g, 0, 9)), some (qi p2), some (qi p3), some (ql v4), z5, some (ql v6), (am_cl z7), some (qi (v8 + 1)), some (qi (v9 + 1)), some (qi x5)] [] s5 (kI K)))))) ∧
    (¬ ((sI σ aS (Int.toNat v9)) = 0) →
      (-2147483648 ≤ v9 + 1 ∧ v9 + 1 < 2147483648) ∧
      am_Runs PP MLL (d + 4) m_Truths_leftBehind 12 [some (qr (3, 9, 11)), some (qr (β g, 0, 9)), some (qi p2), some (qi p3), some (ql v4), z5, some (ql v6), z7, some (qi v8), some (qi (v9 + 1)), z10] [] σ (kI K)))))) : am_Runs PP MLL (d + 4) m_Truths_leftBehind 12 [some (qr (3, 9, 11)), some (qr (β g, 0, 9)), some (qi p2), some (qi p3), some (ql v4), z5, some (ql v6), z7, some (qi v8), some (qi v9), z10] [] σ (kI K) := am_wEF_ok (orc []) 200 (⟨rfl, ⟨fun c2 => (h.1 c2), fun c2 => ⟨rfl, am_wEF_ok (orc [(1, aS, 20, nS)]) 200 (⟨⟨rfl, hR.2.2.2.2⟩, ⟨⟨rfl, (h.2 c2).1.1, (h.2 c2).1.2⟩, ⟨fun c3 => ⟨(Or.inr rfl), ⟨fun c => absurd c (by decide : ¬ ((1 : Int) = 0)), fun _ => ⟨rfl, (am_cI ((h.2 c2).2.1 c3) fun x4 s4 h4 => ⟨rfl, (am_cI h4.2 fun x5 s5 h5 => ⟨rfl, am_wEF_ok (orc [(1, aY, 20, nY)]) 200 (⟨⟨rfl, h5.1.1.2.2.2.1⟩, ⟨⟨rfl, (h.2 c2).1.1, h5.2.1⟩, c_ibcI _ h5.2.2.1.1 h5.2.2.1.2 (⟨rfl, c_liesBehind _ h5.2.2.2.1.1 h5.2.2.2.1.2 (⟨fun c7 => ⟨⟨(h5.2.2.2.2.1 c7).1.1, (h5.2.2.2.2.1 c7).1.2⟩, (h5.2.2.2.2.1 c7).2⟩, fun c7 => ⟨⟨(h5.2.2.2.2.2 c7).1.1, (h5.2.2.2.2.2 c7).1.2.1⟩, ⟨⟨(h5.2.2.2.2.2 c7).1.2.2.1, (h5.2.2.2.2.2 c7).1.2.2.2⟩, (h5.2.2.2.2.2 c7).2⟩⟩⟩)⟩)⟩⟩)⟩)⟩)⟩⟩⟩, fun c3 => ⟨(Or.inl rfl), ⟨fun _ => ⟨⟨((h.2 c2).2.2 c3).1.1, ((h.2 c2).2.2 c3).1.2⟩, ((h.2 c2).2.2 c3).2⟩, fun c => absurd (by decide : (0 : Int) = 0) c⟩⟩⟩⟩⟩)⟩⟩⟩)

def jL (σ : am_S) (k o : Int) (lf rt : Nat) (lies : Int) (i : Nat) : Int := sm (fun t => if sI σ 37 t < 0 ∧ ¬ jw σ k o lf rt lies t = 0 then 1 else 0) i
theorem jL_bd (σ : am_S) (k o : Int) (lf rt : Nat) (lies : Int) (i : Nat) : 0 ≤ jL σ k o lf rt lies i ∧ jL σ k o lf rt lies i ≤ i := by
  have h := sm_bd (f := fun t => if sI σ 37 t < 0 ∧ ¬ jw σ k o lf rt lies t = 0 then 1 else 0) (c := 1) i (fun j _ => by split <;> omega)
  unfold jL
  omega
theorem c_leftBehind (d : Nat) {own β μ κ ρ : Nat → Nat} {me : Nat → Nat → Nat} {aH nH aL nL aY nY aS nS : Nat} {g n N l m T W lf rt : Nat} {kd o lies : Int} {σ : am_S} {K : Int → am_S → Prop} (hR : TR σ aH nH aL nL aY nY aS nS) (hB : BS σ β μ κ ρ me n) (hT : TI σ N l m kd T) (hK : KTt σ aH aL N l m kd T) (hS : KS σ aY aS T W) (hW : W ≤ 30) (h31 : sI σ 3 1 = T) (hg : g < n) (ho : sI σ 10 2 = 0) (hH : T ≤ nH) (hL : T ≤ nL) (hY : T ≤ nY) (hSn : T ≤ nS)
    (hp : sI σ (ρ g) 1 ≤ 20 ∧ sI σ (ρ g + 2) 1 ≤ 20) (hl : ∀ i, -1 ≤ sI σ (ρ g + 1) i ∧ sI σ (ρ g + 1) i < 40) (hr : ∀ i, -1 ≤ sI σ (ρ g + 3) i ∧ sI σ (ρ g + 3) i < 40) (elf : lf = bts (sI σ (ρ g + 1)) (sI σ (ρ g) 1).toNat) (ert : rt = bts (sI σ (ρ g + 3)) (sI σ (ρ g + 2) 1).toNat) (hlr : ∀ c, bt lf c * bt rt c = 0)
    (h : K (jL σ (sI σ (β g) 0) o lf rt lies T) σ) : am_Calls PP MLL (d + 5) m_Truths_leftBehind [qr (3, 9, 11), qr (β g, 0, 9), qi o, qi lies] σ (kI K) := by
  have hT10 := hT.2.2.2.2.2.2.2.2.1
  have hpw := p30 (show W ≤ 30 by omega)
  have lflt : lf < 1099511627776 := by rw [elf]; exact bts_lt (fun i => (hl i).2) _
  have rtlt : rt < 1099511627776 := by rw [ert]; exact bts_lt (fun i => (hr i).2) _
  refine v_Truths_leftBehind_0 d β μ κ ρ me g aH nH aL nL aY nY aS nS n o lies σ K hR hB ?_
  obtain ⟨pf1, pf2⟩ := BS_pan hB hg
  refine ⟨hg, ?_⟩
  refine c_Pan_bits (d + 3) pf1 hp.1 hl ⟨⟨hR, hB⟩, ?_⟩
  refine c_Pan_bits (d + 3) pf2 hp.2 hr ⟨⟨hR, hB⟩, ?_⟩
  rw [← elf, ← ert]
  have lp0 : ∀ i : Nat, i ≤ T → ∀ z5 z7 z10, am_Runs PP MLL (d + 4) m_Truths_leftBehind 12 [some (qr (3, 9, 11)), some (qr (β g, 0, 9)), some (qi o), some (qi lies), some (ql (lf : Int)), z5, some (ql (rt : Int)), z7, some (qi (jL σ (sI σ (β g) 0) o lf rt lies i)), some (qi (i : Int)), z10] [] σ (kI K) := by
    refine lp ?_ ?_
    · intro z5 z7 z10
      exact v_Truths_leftBehind_12 d β μ κ ρ me g aH nH aL nL aY nY aS nS n o lies lf rt _ _ z5 z7 z10 _ K hR hB ⟨fun _ => h, fun c => absurd (by omega) c⟩
    · intro i hi ih z5 z7 z10
      obtain ⟨s1, s2, s3, s4, s5, s6, s7⟩ := hS i hi
      have hjn := jL_bd σ (sI σ (β g) 0) o lf rt lies i
      have es : jL σ (sI σ (β g) 0) o lf rt lies (i + 1) = jL σ (sI σ (β g) 0) o lf rt lies i + (if sI σ 37 i < 0 ∧ ¬ jw σ (sI σ (β g) 0) o lf rt lies i = 0 then 1 else 0) := rfl
      rw [es] at ih
      refine v_Truths_leftBehind_12 d β μ κ ρ me g aH nH aL nL aY nY aS nS n o lies lf rt _ _ z5 z7 z10 σ K hR hB ⟨fun c => absurd c (by omega), fun _ => ?_⟩
      rw [Int.toNat_natCast]
      refine ⟨by omega, fun c => ?_, fun c => ⟨by omega, ?_⟩⟩
      · obtain ⟨H, L, kH, kL, bH, bL, kd1⟩ := k_diff (s := σ) hT hK hi hlr rfl rfl
        have dfb := df_bd (TI_40 hT hi) (fun c => bt_pm lf rt c)
        have hpc := pc_bd (sI σ 38 i).toNat
        refine c_difference (d + 2) hR (by omega) (by omega) kH kL bH bL lflt rtlt ⟨⟨hR, hB⟩, ?_⟩
        rw [kd1]
        refine c_tells d hB hg ho (by omega) ⟨⟨hR, hB⟩, ?_⟩
        rw [lb_ft, s4, s7]
        have ej : ft (sI σ (β g) 0) (df (fun c => bt lf c - bt rt c) (sI σ 33) (sI σ 34) (sI σ 35) i) o (sI σ 36 i) lies = jw σ (sI σ (β g) 0) o lf rt lies i := rfl
        rw [ej]
        refine ⟨by omega, by omega, ⟨by omega, by omega⟩, fun c2 => ⟨by omega, ?_⟩, fun c2 => ⟨by omega, ?_⟩⟩
        · have hz : jw σ (sI σ (β g) 0) o lf rt lies i = 0 := by
            by_cases q : jw σ (sI σ (β g) 0) o lf rt lies i = 0
            · exact q
            · rw [if_neg q] at c2
              split at c2 <;> omega
          rw [if_neg (fun q => q.2 hz), Int.add_zero] at ih
          exact ih _ _ _
        · have hz : ¬ jw σ (sI σ (β g) 0) o lf rt lies i = 0 := by
            intro q
            rw [if_pos q] at c2
            exact c2 rfl
          rw [if_pos ⟨by omega, hz⟩] at ih
          exact ih _ _ _
      · rw [if_neg (by omega), Int.add_zero] at ih
        exact ih _ _ _
  exact lp0 0 (Nat.zero_le _) _ _ _
def bS (σ : am_S) (aS W t : Nat) : Int := if sI σ aS t = (W : Int) then 0 else sI σ aS t
def bY (σ : am_S) (aY W t : Nat) : Int := a_and (sI σ aY t) (a_xor (a_shl 1 ((W : Int) - 1)) (-1))
def bN (σ : am_S) (aS W i : Nat) : Int := sm (fun t => if sI σ aS t = (W : Int) then 1 else 0) i
def BT (σ : am_S) (aY aS W i : Nat) : am_S := putI (rowI (rowI σ aS (up (sI σ aS) (bS σ aS W) i)) aY (up (sI σ aY) (bY σ aY W) i)) 3 2 (sI σ 3 2 + bN σ aS W i)
theorem BT_is {σ T : am_S} {aY aS W i : Nat} (h1 : aS ≠ aY) (h3 : aY ≠ 3) (h4 : aS ≠ 3) (e2 : T.2 = σ.2) (eS : sI T aS = up (sI σ aS) (bS σ aS W) i) (eY : sI T aY = up (sI σ aY) (bY σ aY W) i) (e3 : ∀ j, sI T 3 j = if j = 2 then sI σ 3 2 + bN σ aS W i else sI σ 3 j) (eo : ∀ x, x ≠ aY → x ≠ aS → x ≠ 3 → sI T x = sI σ x) : T = BT σ aY aS W i := by
  refine sto_ext (fun x y => ?_) e2
  unfold BT
  by_cases q1 : x = 3
  · subst q1; rw [e3, put_at, row_ne h3.symm, row_ne h4.symm]
  · by_cases q2 : x = aS
    · subst q2; rw [eS, put_ne h4, row_ne h1, row_at]
    · by_cases q3 : x = aY
      · subst q3; rw [eY, put_ne h3, row_at]
      · rw [eo x q3 q2 q1, put_ne q1, row_ne q3, row_ne q2]
theorem bN_bd (σ : am_S) (aS W i : Nat) : 0 ≤ bN σ aS W i ∧ bN σ aS W i ≤ i := by
  have h := sm_bd (f := fun t => if sI σ aS t = (W : Int) then 1 else 0) (c := 1) i (fun j _ => by split <;> omega)
  unfold bN
  omega

theorem v_Truths_goBack_0 (d : Nat) (aH nH aL nL aY nY aS nS : Nat) (σ : am_S) (K : am_S → Prop) (hR : TR σ aH nH aL nL aY nY aS nS) (h :
  am_Runs PP MLL d m_Truths_goBack 2 [some (qr (3, 9, 11)), some (qi 0)] [] σ (kV K)) : am_Runs PP MLL d m_Truths_goBack 0 [some (qr (3, 9, 11)), none] [] σ (kV K) := am_wEF_ok (orc []) 200 (h)

theorem v_Truths_goBack_2 (d : Nat) (aH nH aL nL aY nY aS nS : Nat) (v1 : Int) (σ : am_S) (K : am_S → Prop) (hR : TR σ aH nH aL nL aY nY aS nS) (h :
  (((sI σ 3 1) ≤ v1 →
    (-2147483648 ≤ (sI σ 3 3) - 1 ∧ (sI σ 3 3) - 1 < 2147483648) ∧
    K (putI σ 3 3 ((sI σ 3 3) - 1))) ∧
  (¬ ((sI σ 3 1) ≤ v1) →
    (0 ≤ v1 ∧ v1 < ((nS : Nat) : Int)) ∧
    (((sI σ aS (Int.toNat v1)) = (sI σ 3 3) →
      (-2147483648 ≤ (sI (putI σ aS (Int.toNat v1) 0) 3 2) + 1 ∧ (sI (putI σ aS (Int.toNat v1) 0) 3 2) + 1 < 2147483648 ∧ v1 < ((nY : Nat) : Int) ∧ -2147483648 ≤ (sI (putI σ aS (Int.toNat v1) 0) 3 3) - 1 ∧ (sI (putI σ aS (Int.toNat v1) 0) 3 3) - 1 < 2147483648 ∧ -2147483648 ≤ v1 + 1 ∧ v1 + 1 < 2147483648) ∧
      am_Runs PP MLL d m_Truths_goBack 2 [some (qr (3, 9, 11)), some (qi (v1 + 1))] [] (putI (putI (putI σ aS (Int.toNat v1) 0) 3 2 ((sI (putI σ aS (Int.toNat v1) 0) 3 2) + 1)) aY (Int.toNat v1) (a_and (sI (putI (putI σ aS (Int.toNat v1) 0) 3 2 ((sI (putI σ aS (Int.toNat v1) 0) 3 2) + 1)) aY (Int.toNat v1)) (a_xor (a_shl 1 ((sI (putI σ aS (Int.toNat v1) 0) 3 3) - 1)) (-1)))) (kV K)) ∧
    (¬ ((sI σ aS (Int.toNat v1)) = (sI σ 3 3)) →
      (v1 < ((nY : Nat) : Int) ∧ -2147483648 ≤ (sI σ 3 3) - 1 ∧ (sI σ 3 3) - 1 < 2147483648 ∧ -2147483648 ≤ v1 + 1 ∧ v1 + 1 < 2147483648) ∧
      am_Runs PP MLL d m_Truths_goBack 2 [some (qr (3, 9, 11)), some (qi (v1 + 1))] [] (putI σ aY (Int.toNat v1) (a_and (sI σ aY (Int.toNat v1)) (a_xor (a_shl 1 ((sI σ 3 3) - 1)) (-1)))) (kV K)))))) : am_Runs PP MLL d m_Truths_goBack 2 [some (qr (3, 9, 11)), some (qi v1)] [] σ (kV K) := am_wEF_ok (orc [(7, aS, 20, nS), (14, aS, 20, nS), (25, aY, 20, nY)]) 200 (⟨rfl, ⟨fun c3 => ⟨rfl, ⟨⟨(h.1 c3).1.1, (h.1 c3).1.2⟩, ⟨rfl, (h.1 c3).2⟩⟩⟩, fun c3 => ⟨⟨rfl, hR.2.2.2.2⟩, ⟨⟨rfl, (h.2 c3).1.1, (h.2 c3).1.2⟩, ⟨rfl, ⟨fun c5 => ⟨⟨rfl, hR.2.2.2.2⟩, ⟨⟨rfl, (h.2 c3).1.1, (h.2 c3).1.2⟩, ⟨rfl, ⟨⟨((h.2 c3).2.1 c5).1.1, ((h.2 c3).2.1 c5).1.2.1⟩, ⟨rfl, ⟨⟨rfl, hR.2.2.2.1⟩, ⟨⟨rfl, (h.2 c3).1.1, ((h.2 c3).2.1 c5).1.2.2.1⟩, ⟨rfl, ⟨⟨((h.2 c3).2.1 c5).1.2.2.2.1, ((h.2 c3).2.1 c5).1.2.2.2.2.1⟩, ⟨⟨rfl, (h.2 c3).1.1, ((h.2 c3).2.1 c5).1.2.2.1⟩, ⟨⟨((h.2 c3).2.1 c5).1.2.2.2.2.2.1, ((h.2 c3).2.1 c5).1.2.2.2.2.2.2⟩, ((h.2 c3).2.1 c5).2⟩⟩⟩⟩⟩⟩⟩⟩⟩⟩⟩, fun c5 => ⟨⟨rfl, hR.2.2.2.1⟩, ⟨⟨rfl, (h.2 c3).1.1, ((h.2 c3).2.2 c5).1.1⟩, ⟨rfl, ⟨⟨((h.2 c3).2.2 c5).1.2.1, ((h.2 c3).2.2 c5).1.2.2.1⟩, ⟨⟨rfl, (h.2 c3).1.1, ((h.2 c3).2.2 c5).1.1⟩, ⟨⟨((h.2 c3).2.2 c5).1.2.2.2.1, ((h.2 c3).2.2 c5).1.2.2.2.2⟩, ((h.2 c3).2.2 c5).2⟩⟩⟩⟩⟩⟩⟩⟩⟩⟩⟩⟩)

theorem c_goBack (d : Nat) {own : Nat → Nat} {aH nH aL nL aY nY aS nS : Nat} {T W : Nat} {σ : am_S} {K : am_S → Prop} (hR : TR σ aH nH aL nL aY nY aS nS) (hO : OW own aH aL aY aS) (hT : T ≤ 10000) (hW : 1 ≤ W ∧ W ≤ 30) (h31 : sI σ 3 1 = T) (h33 : sI σ 3 3 = W) (hleft : 0 ≤ sI σ 3 2 ∧ sI σ 3 2 ≤ 10000) (hY : T ≤ nY) (hSn : T ≤ nS) (h : K (putI (BT σ aY aS W T) 3 3 ((W : Int) - 1))) : am_Calls PP MLL (d + 1) m_Truths_goBack [qr (3, 9, 11)] σ (kV K) := by
  obtain ⟨o1, o2, o3, o4, o5⟩ := hO
  have n1 : aS ≠ aY := own_ne o5 o4 (by decide)
  have n2 : aY ≠ 3 := own_ne o4 (o1 3 (by decide)) (by decide)
  have n3 : aS ≠ 3 := own_ne o5 (o1 3 (by decide)) (by decide)
  have lp0 : ∀ i : Nat, i ≤ T → am_Runs PP MLL d m_Truths_goBack 2 [some (qr (3, 9, 11)), some (qi (i : Int))] [] (BT σ aY aS W i) (kV K) := by
    refine lp ?_ ?_
    · have e : ∀ j, j ≠ 2 → sI (BT σ aY aS W T) 3 j = sI σ 3 j := fun j hj => by
        unfold BT
        rw [put_at, if_neg hj, row_ne n2.symm, row_ne n3.symm]
      refine v_Truths_goBack_2 d aH nH aL nL aY nY aS nS _ _ K hR ⟨fun _ => ?_, fun c => absurd ?_ c⟩
      · rw [e 3 (by decide), h33]
        exact ⟨by omega, h⟩
      · rw [e 1 (by decide)]
        omega
    · intro i hi ih
      have hb := bN_bd σ aS W i
      obtain ⟨A, hA⟩ : ∃ A, A = BT σ aY aS W i := ⟨_, rfl⟩
      have eo : ∀ x, x ≠ aY → x ≠ aS → x ≠ 3 → sI A x = sI σ x := fun x q1 q2 q3 => by
        rw [hA]
        unfold BT
        rw [put_ne q3, row_ne q1, row_ne q2]
      have e3 : ∀ j, sI A 3 j = if j = 2 then sI σ 3 2 + bN σ aS W i else sI σ 3 j := fun j => by
        rw [hA]
        unfold BT
        rw [put_at, row_ne n2.symm, row_ne n3.symm]
      have eSs : sI A aS = up (sI σ aS) (bS σ aS W) i := by
        rw [hA]
        unfold BT
        rw [put_ne n3, row_ne n1, row_at]
      have eYs : sI A aY = up (sI σ aY) (bY σ aY W) i := by
        rw [hA]
        unfold BT
        rw [put_ne n2, row_at]
      have e31 : sI A 3 1 = T := by rw [e3, if_neg (by decide), h31]
      have e33 : sI A 3 3 = W := by rw [e3, if_neg (by decide), h33]
      have e32 : sI A 3 2 = sI σ 3 2 + bN σ aS W i := by rw [e3, if_pos rfl]
      have eSi : sI A aS i = sI σ aS i := by rw [eSs, up_at]
      have eYi : sI A aY i = sI σ aY i := by rw [eYs, up_at]
      have eA2 : A.2 = σ.2 := by rw [hA]; rfl
      have hRA : TR A aH nH aL nL aY nY aS nS := by rw [hA]; exact hR
      have es : bN σ aS W (i + 1) = bN σ aS W i + (if sI σ aS i = (W : Int) then 1 else 0) := rfl
      rw [← hA]
      refine v_Truths_goBack_2 d aH nH aL nL aY nY aS nS _ A K hRA ⟨fun c => absurd c (by rw [e31]; omega), fun _ => ?_⟩
      rw [Int.toNat_natCast, eSi, e33]
      refine ⟨by omega, fun c => ?_, fun c => ⟨by omega, ?_⟩⟩
      · rw [put_ne n3.symm, e33, e32]
        refine ⟨by omega, ?_⟩
        refine runs_st (BT_is n1 n2 n3 ?_ ?_ ?_ ?_ ?_) ih
        · exact eA2
        · funext t
          rw [put_ne n1, put_ne n3, put_at, eSs, up_succ]
          by_cases e : t = i
          · rw [if_pos e, if_pos e, e]
            unfold bS
            rw [if_pos c]
          · rw [if_neg e, if_neg e]
        · funext t
          rw [put_at, put_ne n2, put_ne n1.symm, eYi, eYs, up_succ]
          by_cases e : t = i
          · rw [if_pos e, if_pos e, e]
            rfl
          · rw [if_neg e, if_neg e]
        · intro j
          rw [put_ne n2.symm, put_at, put_ne n3.symm, es, if_pos c]
          by_cases e : j = 2
          · rw [if_pos e, if_pos e]
            omega
          · rw [if_neg e, if_neg e, e3, if_neg e]
        · intro x q1 q2 q3
          rw [put_ne q1, put_ne q3, put_ne q2, eo x q1 q2 q3]
      · rw [eYi]
        refine runs_st (BT_is n1 n2 n3 ?_ ?_ ?_ ?_ ?_) ih
        · exact eA2
        · funext t
          rw [put_ne n1, eSs, up_succ]
          by_cases e : t = i
          · rw [if_pos e, e, up_at]
            unfold bS
            rw [if_neg c]
          · rw [if_neg e]
        · funext t
          rw [put_at, eYs, up_succ]
          by_cases e : t = i
          · rw [if_pos e, if_pos e, e]
            rfl
          · rw [if_neg e, if_neg e]
        · intro j
          rw [put_ne n2.symm, es, if_neg c, Int.add_zero, e3]
        · intro x q1 q2 q3
          rw [put_ne q1, eo x q1 q2 q3]
  refine v_Truths_goBack_0 d aH nH aL nL aY nY aS nS σ K hR ?_
  refine runs_st (BT_is n1 n2 n3 rfl ?_ ?_ ?_ (fun _ _ _ _ => rfl)) (lp0 0 (Nat.zero_le _))
  · rw [up_0]
  · rw [up_0]
  · intro j
    by_cases e : j = 2
    · rw [if_pos e, e]
      exact (Int.add_zero _).symm
    · rw [if_neg e]
