/-! the reference: alike -/
/-- the truths are numbered as they should be -/
def TI (σ : am_S) (n l m : Nat) (kd : Int) (T : Nat) : Prop := n ≤ 40 ∧ (kd = 1 ∨ kd = 2 ∨ kd = 3) ∧ l ≤ m ∧ m ≤ 3 ∧ sI σ 31 2 = n ∧ sI σ 31 3 = kd ∧ sI σ 31 5 = T ∧ T = bs n l kd (m + 1) ∧ T ≤ 10000 ∧ (∀ k, l ≤ k → k ≤ m → sI σ 32 k = bs n l kd k) ∧ ∀ t, t < T → ∃ f x y z w, Vc n l m kd f x y z w ∧ t = Nm n l kd f x y z w ∧ CT σ t f x y z kd w
/-- truth u is truth t with coins a and b exchanged -/
def XR (σ : am_S) (n l m : Nat) (kd : Int) (a b t u : Nat) : Prop := ∃ f x y z w, Vc n l m kd f x y z w ∧ CT σ t f x y z kd w ∧ EX n l m kd f x y z w a b u
theorem CT_val {n l m f x y z w : Nat} {kd : Int} {σ : am_S} {t : Nat} (hv : Vc n l m kd f x y z w) (hc : CT σ t f x y z kd w) : TVt (sI σ 33) (sI σ 34) (sI σ 35) n t := by
  obtain ⟨_, _, a3, a4, a5, a6, _, _, _, _⟩ := hv
  refine ⟨by rw [hc.1]; omega, by rw [hc.1]; omega, fun i hi => ?_⟩
  rw [hc.1] at hi
  have h := hc.2 i (by omega)
  rw [h.1, h.2]
  have h1 := a4 (by omega)
  have e : sgw kd f w i = 1 ∨ sgw kd f w i = -1 := by
    unfold sgw
    (repeat' split) <;> simp
  refine ⟨?_, ?_, e⟩
  · unfold cni
    (repeat' split) <;> omega
  · rcases (show i = 0 ∨ i = 1 ∨ i = 2 by omega) with rfl | rfl | rfl
    · unfold cni; rw [if_pos rfl]; omega
    · have := a5 (by omega)
      unfold cni; rw [if_neg (by decide), if_pos rfl]; omega
    · have := a6 (by omega)
      unfold cni; rw [if_neg (by decide), if_neg (by decide)]; omega
theorem TVt_40 {m c g : Nat → Int} {n : Nat} {t : Nat} (hn : n ≤ 40) (h : TVt m c g n t) : TVt m c g 40 t := ⟨h.1, h.2.1, fun i hi => ⟨(h.2.2 i hi).1, by have := (h.2.2 i hi).2.1; omega, (h.2.2 i hi).2.2⟩⟩
theorem TI_val {σ : am_S} {n l m T : Nat} {kd : Int} (h : TI σ n l m kd T) (t : Nat) (ht : t < T) : TVt (sI σ 33) (sI σ 34) (sI σ 35) n t := by
  obtain ⟨_, _, _, _, _, _, _, _, _, _, h2⟩ := h
  obtain ⟨f, x, y, z, w, h3, _, h4⟩ := h2 t ht
  exact CT_val h3 h4
theorem CT_u {σ : am_S} {t f x y z w f' x' y' z' w' n l m : Nat} {kd : Int} (hk : kd = 1 ∨ kd = 2 ∨ kd = 3) (hv : Vc n l m kd f x y z w) (hc : CT σ t f x y z kd w) (hv' : Vc n l m kd f' x' y' z' w') (hc' : CT σ t f' x' y' z' kd w') : f = f' ∧ x = x' ∧ y = y' ∧ z = z' ∧ w = w' := by
  have ef : f = f' := by
    have := hc.1.symm.trans hc'.1
    omega
  subst ef
  obtain ⟨_, _, a3, a4, a5, a6, a7, a8, a9, a10⟩ := hv
  obtain ⟨_, _, b3, b4, b5, b6, b7, b8, b9, b10⟩ := hv'
  have hi : ∀ i, i < f → cni x y z i = cni x' y' z' i := fun i q => (hc.2 i q).1.symm.trans (hc'.2 i q).1
  have hw : w = w' := way_inj hk a3 a10 b10 (fun i q => (hc.2 i q).2.symm.trans (hc'.2 i q).2)
  have hx : x = x' := by
    by_cases q : 0 < f
    · have := hi 0 q
      unfold cni at this
      rw [if_pos rfl, if_pos rfl] at this
      omega
    · rw [a7 (by omega), b7 (by omega)]
  have hy : y = y' := by
    by_cases q : 1 < f
    · have := hi 1 q
      unfold cni at this
      rw [if_neg (by decide), if_pos rfl, if_neg (by decide), if_pos rfl] at this
      omega
    · rw [a8 (by omega), b8 (by omega)]
  have hz : z = z' := by
    by_cases q : 2 < f
    · have := hi 2 q
      unfold cni at this
      rw [if_neg (by decide), if_neg (by decide), if_neg (by decide), if_neg (by decide)] at this
      omega
    · rw [a9 (by omega), b9 (by omega)]
  exact ⟨rfl, hx, hy, hz, hw⟩
theorem XR_u {σ : am_S} {n l m a b t u u' : Nat} {kd : Int} (hk : kd = 1 ∨ kd = 2 ∨ kd = 3) (h : XR σ n l m kd a b t u) (h' : XR σ n l m kd a b t u') : u = u' := by
  obtain ⟨f, x, y, z, w, v, c, x1, y1, z1, w1, v1, e1, s1⟩ := h
  obtain ⟨f', x', y', z', w', v', c', x2, y2, z2, w2, v2, e2, s2⟩ := h'
  obtain ⟨rfl, rfl, rfl, rfl, rfl⟩ := CT_u hk v c v' c'
  obtain ⟨-, rfl, rfl, rfl, rfl⟩ := sig_inj hk v1 v2 (fun q => (s1 q).trans (s2 q).symm)
  exact e1.trans e2.symm
theorem TI_at {σ : am_S} {n l m T f x y z w : Nat} {kd : Int} (h : TI σ n l m kd T) (hv : Vc n l m kd f x y z w) : Nm n l kd f x y z w < T ∧ CT σ (Nm n l kd f x y z w) f x y z kd w := by
  obtain ⟨_, hk, _, _, _, _, _, hT, _, _, h2⟩ := h
  have hlt := Nm_lt hv
  rw [← hT] at hlt
  obtain ⟨f', x', y', z', w', v', e', c'⟩ := h2 _ hlt
  obtain ⟨rfl, rfl, rfl, rfl, rfl⟩ := Nm_inj hv v' e'
  exact ⟨hlt, c'⟩
theorem XR_lt {σ : am_S} {n l m a b t u T : Nat} {kd : Int} (hT : TI σ n l m kd T) (h : XR σ n l m kd a b t u) : u < T := by
  obtain ⟨f, x, y, z, w, v, c, x1, y1, z1, w1, v1, e1, s1⟩ := h
  rw [e1]
  exact (TI_at hT v1).1
theorem ex_ex {a b c : Nat} : ex a b (ex a b c) = c := by
  have := (ex_iff (a := a) (b := b) (c := c) (x := ex a b c))
  unfold ex
  (repeat' split) <;> omega
/-- exchanging twice leads back -/
theorem XR_back {σ : am_S} {n l m a b t u T : Nat} {kd : Int} (hT : TI σ n l m kd T) (ht : t < T) (h : XR σ n l m kd a b t u) : XR σ n l m kd a b u t := by
  obtain ⟨f, x, y, z, w, v, c, x1, y1, z1, w1, v1, e1, s1⟩ := h
  have hk := hT.2.1
  obtain ⟨f', x', y', z', w', v', e', c'⟩ := hT.2.2.2.2.2.2.2.2.2.2 t ht
  obtain ⟨rfl, rfl, rfl, rfl, rfl⟩ := CT_u hk v c v' c'
  rw [e1]
  refine ⟨f, x1, y1, z1, w1, v1, (TI_at hT v1).2, x, y, z, w, v, e', fun q => ?_⟩
  rw [s1 (ex a b q), ex_ex]
theorem EX_all {n l m f x y z w a b u : Nat} {kd : Int} {σ : am_S} {t : Nat} (hv : Vc n l m kd f x y z w) (hc : CT σ t f x y z kd w) (h : EX n l m kd f x y z w a b u) : XR σ n l m kd a b t u := ⟨f, x, y, z, w, hv, hc, h⟩
theorem TI_frR {s σ : am_S} {n l m T : Nat} {kd : Int} (hf : frR s σ) (h : TI σ n l m kd T) : TI s n l m kd T := by
  obtain ⟨h1, h2, h3, h4, h5, h6, h7, h8, h9, h10, h11⟩ := h
  have e31 := hf.2 31 (by decide) (by decide)
  have e32 := hf.2 32 (by decide) (by decide)
  have e33 := hf.2 33 (by decide) (by decide)
  have e34 := hf.2 34 (by decide) (by decide)
  have e35 := hf.2 35 (by decide) (by decide)
  refine ⟨h1, h2, h3, h4, ?_, ?_, ?_, h8, h9, ?_, fun t ht => ?_⟩
  · rw [e31]; exact h5
  · rw [e31]; exact h6
  · rw [e31]; exact h7
  · rw [e32]; exact h10
  · obtain ⟨f, x, y, z, w, v, e, c⟩ := h11 t ht
    refine ⟨f, x, y, z, w, v, e, ?_⟩
    unfold CT
    rw [e33, e34, e35]
    exact c
/-- two truths stand alike in the case -/
def gd (σ : am_S) (t u : Nat) : Prop := (sI σ 37 t < 0 ↔ sI σ 37 u < 0) ∧ (sI σ 37 t < 0 → sI σ 36 t = sI σ 36 u)

theorem v_M_alike_0 (d : Nat) (p1 p2 : Int) (σ : am_S) (K : Int → am_S → Prop) (hF : MF σ) (h :
  (-2147483648 ≤ (sI σ 31 2) - 1 ∧ (sI σ 31 2) - 1 < 2147483648) ∧
  ((p1 < 0 →
    K (-1001) σ) ∧
  (¬ (p1 < 0) →
    ((((sI σ 31 2) - 1) < p1 →
      K (-1001) σ) ∧
    (¬ (((sI σ 31 2) - 1) < p1) →
      ((p2 < 0 →
        K (-1001) σ) ∧
      (¬ (p2 < 0) →
        ((((sI σ 31 2) - 1) < p2 →
          K (-1001) σ) ∧
        (¬ (((sI σ 31 2) - 1) < p2) →
          am_Runs PP MLL (d + 3) m_M_alike 14 [some (qr (31, 12, 89)), some (qi p1), some (qi p2), some (qi 1), some (qi 0), none] [] σ (kI K)))))))))) : am_Runs PP MLL (d + 3) m_M_alike 0 [some (qr (31, 12, 89)), some (qi p1), some (qi p2), none, none, none] [] σ (kI K) := am_wEC_ok (orc []) [52, 60] 200 (⟨rfl, am_wEF_ok (orc []) 200 (⟨rfl, ⟨⟨h.1.1, h.1.2⟩, am_wEF_ok (orc []) 200 (⟨fun c1 => ⟨(Or.inl rfl), ⟨(Or.inl rfl), ⟨fun _ => (h.2.1 c1), fun c => absurd (by decide : (0 : Int) = 0) c⟩⟩⟩, fun c1 => ⟨fun c2 => ⟨(Or.inl rfl), ⟨(Or.inl rfl), ⟨fun _ => ((h.2.2 c1).1 c2), fun c => absurd (by decide : (0 : Int) = 0) c⟩⟩⟩, fun c2 => ⟨(Or.inr rfl), ⟨(Or.inr rfl), ⟨fun c => absurd c (by decide : ¬ ((1 : Int) = 0)), fun _ => ⟨rfl, am_wEF_ok (orc []) 200 (⟨rfl, ⟨⟨h.1.1, h.1.2⟩, am_wEF_ok (orc []) 200 (⟨fun c3 => ⟨(Or.inl rfl), ⟨(Or.inl rfl), ⟨fun _ => (((h.2.2 c1).2 c2).1 c3), fun c => absurd (by decide : (0 : Int) = 0) c⟩⟩⟩, fun c3 => ⟨fun c4 => ⟨(Or.inl rfl), ⟨(Or.inl rfl), ⟨fun _ => ((((h.2.2 c1).2 c2).2 c3).1 c4), fun c => absurd (by decide : (0 : Int) = 0) c⟩⟩⟩, fun c4 => ⟨(Or.inr rfl), ⟨(Or.inr rfl), ⟨fun c => absurd c (by decide : ¬ ((1 : Int) = 0)), fun _ => ((((h.2.2 c1).2 c2).2 c3).2 c4)⟩⟩⟩⟩⟩)⟩⟩)⟩⟩⟩⟩⟩⟩)⟩⟩)⟩)

theorem v_M_alike_14 (d : Nat) (p1 p2 v3 v4 : Int) (z5 : Option am_V) (σ : am_S) (K : Int → am_S → Prop) (hF : MF σ) (h :
  (((sI σ 31 5) ≤ v4 →
    K (if v3 = 0 then (0 : Int) else 1) σ) ∧
  (¬ ((sI σ 31 5) ≤ v4) →
    ((v3 = 0 →
      K 0 σ) ∧
    (¬ (v3 = 0) →
      ((p1 = p2 →
        K 1 σ) ∧
      (¬ (p1 = p2) →
        am_Calls PP MLL (d + 3) m_M_exchanged [qr (31, 12, 89), qi v4, qi p1, qi p2] σ (kI fun x12 s12 =>
          (MF s12) ∧
          (0 ≤ v4 ∧ v4 < 10000) ∧
          (((sI s12 37 (Int.toNat v4)) < 0 →
            (0 ≤ x12 ∧ x12 < 10000) ∧
            (((sI s12 37 (Int.toNat x12)) < 0 →
              (-2147483648 ≤ v4 + 1 ∧ v4 + 1 < 2147483648) ∧
              am_Runs PP MLL (d + 3) m_M_alike 14 [some (qr (31, 12, 89)), some (qi p1), some (qi p2), some (qi (if (sI s12 36 (Int.toNat v4)) = (sI s12 36 (Int.toNat x12)) then (1 : Int) else 0)), some (qi (v4 + 1)), some (qi x12)] [] s12 (kI K)) ∧
            (¬ ((sI s12 37 (Int.toNat x12)) < 0) →
              (-2147483648 ≤ v4 + 1 ∧ v4 + 1 < 2147483648) ∧
              am_Runs PP MLL (d + 3) m_M_alike 14 [some (qr (31, 12, 89)), some (qi p1), some (qi p2), some (qi 0), some (qi (v4 + 1)), some (qi x12)] [] s12 (kI K)))) ∧
          (¬ ((sI s12 37 (Int.toNat v4)) < 0) →
            (0 ≤ x12 ∧ x12 < 10000) ∧
            (((sI s12 37 (Int.toNat x12)) < 0 →
              (-2147483648 ≤ v4 + 1 ∧ v4 + 1 < 2147483648) ∧
              am_Runs PP MLL (d + 3) m_M_alike 14 [some (qr (31, 12, 89)), some (qi p1), some (qi p2), some (qi 0), some (qi (v4 + 1)), some (qi x12)] [] s12 (kI K)) ∧
            (¬ ((sI s12 37 (Int.toNat x12)) < 0) →
              (-2147483648 ≤ v4 + 1 ∧ v4 + 1 < 2147483648) ∧
              am_Runs PP MLL (d + 3) m_M_alike 14 [some (qr (31, 12, 89)), some (qi p1), some (qi p2), some (qi 1), some (qi (v4 + 1)), some (qi x12)] [] s12 (kI K))))))))))))) : am_Runs PP MLL (d + 3) m_M_alike 14 [some (qr (31, 12, 89)), some (qi p1), some (qi p2), some (qi v3), some (qi v4), z5] [] σ (kI K) := am_wEC_ok (orc [(41, 36, 20, 10000), (45, 36, 20, 10000)]) [52, 60] 200 (⟨rfl, ⟨fun c4 => am_use (fun H6 => ⟨fun c5 => (Eq.mp (congrArg (fun z => am_Runs _ _ _ _ _ _ (qi z :: _) _ _) (if_pos c5 : (if v3 = 0 then (0 : Int) else 1) = 0)) H6), fun c5 => (Eq.mp (congrArg (fun z => am_Runs _ _ _ _ _ _ (qi z :: _) _ _) (if_neg c5 : (if v3 = 0 then (0 : Int) else 1) = 1)) H6)⟩) (am_wEC_ok (orc []) [52, 60] 200 ((h.1 c4))), fun c4 => ⟨fun c9 => ⟨fun _ => am_wEC_ok (orc []) [52, 60] 200 (((h.2 c4).1 c9)), fun c => absurd c9 c⟩, fun c9 => ⟨fun c11 => ⟨fun c => absurd c c9, fun _ => am_wEC_ok (orc []) [52, 60] 200 ((((h.2 c4).2 c9).1 c11))⟩, fun c11 => ⟨rfl, (am_cI (((h.2 c4).2 c9).2 c11) fun x12 s12 h12 => ⟨rfl, c_M_isLeft _ h12.1 h12.2.1.1 h12.2.1.2 (fun c13 => ⟨rfl, c_M_isLeft _ h12.1 (h12.2.2.1 c13).1.1 (h12.2.2.1 c13).1.2 (fun c14 => ⟨fun _ => ⟨rfl, c_M_isLeft _ h12.1 h12.2.1.1 h12.2.1.2 (fun _ => ⟨fun c => absurd c (by decide : ¬ ((1 : Int) = 0)), fun _ => ⟨⟨rfl, (h12.1 10)⟩, ⟨⟨rfl, h12.2.1.1, h12.2.1.2⟩, ⟨⟨rfl, (h12.1 10)⟩, ⟨⟨rfl, (h12.2.2.1 c13).1.1, (h12.2.2.1 c13).1.2⟩, am_use (fun H17 => ⟨fun c16 => (Eq.mp (congrArg (fun z => am_Runs _ _ _ _ _ _ (qi z :: _) _ _) (if_pos c16 : (if (sI s12 36 (Int.toNat v4)) = (sI s12 36 (Int.toNat x12)) then (1 : Int) else 0) = 1)) H17), fun c16 => (Eq.mp (congrArg (fun z => am_Runs _ _ _ _ _ _ (qi z :: _) _ _) (if_neg c16 : (if (sI s12 36 (Int.toNat v4)) = (sI s12 36 (Int.toNat x12)) then (1 : Int) else 0) = 0)) H17)⟩) (am_wEC_ok (orc []) [52, 60] 200 (⟨⟨((h12.2.2.1 c13).2.1 c14).1.1, ((h12.2.2.1 c13).2.1 c14).1.2⟩, ((h12.2.2.1 c13).2.1 c14).2⟩))⟩⟩⟩⟩⟩) (fun c => absurd c13 c)⟩, fun c => absurd (by decide : (1 : Int) = 1) c⟩) (fun c14 => ⟨fun c => absurd c (by decide : ¬ ((1 : Int) = 0)), fun _ => am_wEC_ok (orc []) [52, 60] 200 (⟨⟨((h12.2.2.1 c13).2.2 c14).1.1, ((h12.2.2.1 c13).2.2 c14).1.2⟩, ((h12.2.2.1 c13).2.2 c14).2⟩)⟩)⟩) (fun c13 => ⟨rfl, c_M_isLeft _ h12.1 (h12.2.2.2 c13).1.1 (h12.2.2.2 c13).1.2 (fun c18 => ⟨fun c => absurd c (by decide : ¬ ((0 : Int) = 1)), fun _ => am_wEC_ok (orc []) [52, 60] 200 (⟨⟨((h12.2.2.2 c13).2.1 c18).1.1, ((h12.2.2.2 c13).2.1 c18).1.2⟩, ((h12.2.2.2 c13).2.1 c18).2⟩)⟩) (fun c18 => ⟨fun _ => ⟨rfl, c_M_isLeft _ h12.1 h12.2.1.1 h12.2.1.2 (fun c => absurd c c13) (fun _ => ⟨fun _ => am_wEC_ok (orc []) [52, 60] 200 (⟨⟨((h12.2.2.2 c13).2.2 c18).1.1, ((h12.2.2.2 c13).2.2 c18).1.2⟩, ((h12.2.2.2 c13).2.2 c18).2⟩), fun c => absurd (by decide : (0 : Int) = 0) c⟩)⟩, fun c => absurd (by decide : (0 : Int) = 0) c⟩)⟩)⟩)⟩⟩⟩⟩⟩)

theorem XR_frR {s σ : am_S} {n l m a b t u : Nat} {kd : Int} (hf : frR s σ) (h : XR s n l m kd a b t u) : XR σ n l m kd a b t u := by
  obtain ⟨f, x, y, z, w, v, c, q⟩ := h
  refine ⟨f, x, y, z, w, v, ?_, q⟩
  unfold CT at c ⊢
  rw [hf.2 33 (by decide) (by decide), hf.2 34 (by decide) (by decide), hf.2 35 (by decide) (by decide)] at c
  exact c
theorem l_M_alike (d : Nat) {n l m a b T : Nat} {kd : Int} {σ : am_S} {K : Int → am_S → Prop} (hF : MF σ) (hT : TI σ n l m kd T) (ha : a < n) (hb : b < n)
    (h1 : ∀ s, frR s σ → (a = b ∨ ∀ t, t < T → ∃ u, XR σ n l m kd a b t u ∧ gd σ t u) → K 1 s) (h0 : ∀ s, frR s σ → a ≠ b → (∃ t, t < T ∧ ∃ u, XR σ n l m kd a b t u ∧ ¬ gd σ t u) → K 0 s) (z5 : Option am_V) :
    am_Runs PP MLL (d + 3) m_M_alike 14 [some (qr (31, 12, 89)), some (qi (a : Int)), some (qi (b : Int)), some (qi 1), some (qi 0), z5] [] σ (kI K) := by
  have hT10 := hT.2.2.2.2.2.2.2.2.1
  by_cases hab : a = b
  · subst hab
    refine v_M_alike_14 d a a 1 0 z5 σ K hF ⟨fun _ => ?_, fun _ => ⟨fun c => absurd c (by decide), fun _ => ⟨fun _ => ?_, fun c => absurd rfl c⟩⟩⟩
    · exact h1 σ ⟨rfl, fun _ _ _ => rfl⟩ (Or.inl rfl)
    · exact h1 σ ⟨rfl, fun _ _ _ => rfl⟩ (Or.inl rfl)
  · have hS : ∀ i : Nat, i ≤ T → ∀ (v : Int) s, frR s σ → (v = 1 ∧ (∀ t, t < i → ∃ u, XR σ n l m kd a b t u ∧ gd σ t u) ∨ v = 0 ∧ ∃ t, t < i ∧ ∃ u, XR σ n l m kd a b t u ∧ ¬ gd σ t u) → ∀ z5, am_Runs PP MLL (d + 3) m_M_alike 14 [some (qr (31, 12, 89)), some (qi (a : Int)), some (qi (b : Int)), some (qi v), some (qi (i : Int)), z5] [] s (kI K) := by
      refine lp ?_ ?_
      · intro v s hfr hv z5
        have hTs := TI_frR hfr hT
        have e5 : sI s 31 5 = T := hTs.2.2.2.2.2.2.1
        refine v_M_alike_14 d a b v T z5 s K (frR_MF hfr hF) ⟨fun _ => ?_, fun c => absurd (by omega) c⟩
        rcases hv with ⟨rfl, hv⟩ | ⟨rfl, t, ht, hv⟩
        · exact h1 s hfr (Or.inr hv)
        · exact h0 s hfr hab ⟨t, ht, hv⟩
      · intro i hi ih v s hfr hv z5
        have hTs := TI_frR hfr hT
        have hFs := frR_MF hfr hF
        have e5 : sI s 31 5 = T := hTs.2.2.2.2.2.2.1
        refine v_M_alike_14 d a b v i z5 s K hFs ⟨fun c => absurd c (by omega), fun _ => ?_⟩
        rcases hv with ⟨rfl, hv⟩ | ⟨rfl, t, ht, hv⟩
        · refine ⟨fun c => absurd c (by decide), fun _ => ⟨fun c => absurd c (by omega), fun _ => ?_⟩⟩
          obtain ⟨f, x, y, z, w, v1, e1, c1⟩ := hTs.2.2.2.2.2.2.2.2.2.2 i hi
          refine c_M_exchanged d hFs hTs.2.2.2.2.1 hTs.1 hTs.2.2.2.2.2.1 hTs.2.1 (by omega) v1 c1 (hTs.2.2.2.2.2.2.2.2.2.1 f v1.1 v1.2.1) e1 ha hb (fun s2 u f2 hx => ⟨frR_MF f2 hFs, ?_⟩)
          have hX : XR σ n l m kd a b i u := XR_frR hfr (EX_all v1 c1 hx)
          have hu := XR_lt hT hX
          have e37 : sI s2 37 = sI σ 37 := by rw [f2.2 37 (by decide) (by decide), hfr.2 37 (by decide) (by decide)]
          have e36 : sI s2 36 = sI σ 36 := by rw [f2.2 36 (by decide) (by decide), hfr.2 36 (by decide) (by decide)]
          rw [Int.toNat_natCast, Int.toNat_natCast, e37, e36]
          have good : gd σ i u → ∀ t, t < i + 1 → ∃ u, XR σ n l m kd a b t u ∧ gd σ t u := by
            intro hg t ht
            by_cases q : t = i
            · rw [q]; exact ⟨u, hX, hg⟩
            · exact hv t (by omega)
          refine ⟨by omega, fun c => ⟨by omega, fun c2 => ⟨by omega, ?_⟩, fun c2 => ⟨by omega, ?_⟩⟩, fun c => ⟨by omega, fun c2 => ⟨by omega, ?_⟩, fun c2 => ⟨by omega, ?_⟩⟩⟩
          · by_cases q : sI σ 36 i = sI σ 36 u
            · rw [if_pos q]
              exact ih 1 s2 (frR_tr f2 hfr) (Or.inl ⟨rfl, good ⟨⟨fun _ => c2, fun _ => c⟩, fun _ => q⟩⟩) _
            · rw [if_neg q]
              exact ih 0 s2 (frR_tr f2 hfr) (Or.inr ⟨rfl, i, by omega, u, hX, fun g => q (g.2 c)⟩) _
          · exact ih 0 s2 (frR_tr f2 hfr) (Or.inr ⟨rfl, i, by omega, u, hX, fun g => c2 (g.1.mp c)⟩) _
          · exact ih 0 s2 (frR_tr f2 hfr) (Or.inr ⟨rfl, i, by omega, u, hX, fun g => c (g.1.mpr c2)⟩) _
          · exact ih 1 s2 (frR_tr f2 hfr) (Or.inl ⟨rfl, good ⟨⟨fun q => absurd q c, fun q => absurd q c2⟩, fun q => absurd q c⟩⟩) _
        · exact ⟨fun _ => h0 s hfr hab ⟨t, by omega, hv⟩, fun c => absurd rfl c⟩
    exact hS 0 (Nat.zero_le _) 1 σ ⟨rfl, fun _ _ _ => rfl⟩ (Or.inl ⟨rfl, fun t ht => absurd ht (Nat.not_lt_zero t)⟩) z5
