/-! the reference: a search begins -/
theorem v_M_beginSearch_0 (d : Nat) (p1 : Int) (σ : am_S) (K : am_S → Prop) (hF : MF σ) (hT : sI σ 31 26 = 0) (h :
  am_Runs PP MLL (d + 3) m_M_beginSearch 10 [some (qr (31, 12, 89)), some (qi p1), some (qi 0), none, none] [] (putI (putI (putI (putI (putI (putI (putI (putI (putI (putI σ 31 33 0) 31 34 0) 31 35 (-1000)) 31 37 0) 31 73 0) 31 76 0) 31 77 0) 31 78 0) 31 36 p1) 31 40 0) (kV K)) : am_Runs PP MLL (d + 3) m_M_beginSearch 0 [some (qr (31, 12, 89)), some (qi p1), none, none, none] [] σ (kV K) := am_wEF_ok (orc []) 200 (⟨rfl, am_wEF_ok (orc []) 200 (⟨⟨rfl, (Or.inl rfl)⟩, ⟨⟨rfl, (Or.inl rfl)⟩, ⟨rfl, ⟨rfl, ⟨rfl, ⟨rfl, ⟨⟨rfl, (Or.inl rfl)⟩, ⟨⟨rfl, (Or.inl rfl)⟩, ⟨rfl, ⟨rfl, h⟩⟩⟩⟩⟩⟩⟩⟩⟩⟩)⟩)

theorem v_M_beginSearch_10 (d : Nat) (v2 : Int) (z1 z3 z4 : Option am_V) (σ : am_S) (K : am_S → Prop) (hF : MF σ) (hT : sI σ 31 26 = 0) (h :
  (((sI σ 31 5) ≤ v2 →
    am_Runs PP MLL (d + 3) m_M_beginSearch 45 [some (qr (31, 12, 89)), (am_cl z1), some (qi 0), z3, z4] [] σ (kV K)) ∧
  (¬ ((sI σ 31 5) ≤ v2) →
    (0 ≤ v2 ∧ v2 < 10000) ∧
    (((sI σ 37 (Int.toNat v2)) < 0 →
      (0 ≤ (sI σ 31 40) ∧ (sI σ 31 40) < 60 ∧ -2147483648 ≤ (sI σ 31 40) + 1 ∧ (sI σ 31 40) + 1 < 2147483648 ∧ -2147483648 ≤ v2 + 1 ∧ v2 + 1 < 2147483648) ∧
      am_Runs PP MLL (d + 3) m_M_beginSearch 10 [some (qr (31, 12, 89)), (am_cl z1), some (qi (v2 + 1)), z3, z4] [] (putI (putI (putI (putI σ 79 (Int.toNat v2) (-1)) 79 (Int.toNat v2) (sI σ 31 40)) 51 (Int.toNat (sI σ 31 40)) v2) 31 40 ((sI σ 31 40) + 1)) (kV K)) ∧
    (¬ ((sI σ 37 (Int.toNat v2)) < 0) →
      (-2147483648 ≤ v2 + 1 ∧ v2 + 1 < 2147483648) ∧
      am_Runs PP MLL (d + 3) m_M_beginSearch 10 [some (qr (31, 12, 89)), (am_cl z1), some (qi (v2 + 1)), z3, z4] [] (putI σ 79 (Int.toNat v2) (-1)) (kV K)))))) : am_Runs PP MLL (d + 3) m_M_beginSearch 10 [some (qr (31, 12, 89)), z1, some (qi v2), z3, z4] [] σ (kV K) := am_wEF_ok (orc [(15, 79, 20, 10000), (24, 79, 20, 10000), (30, 51, 20, 60)]) 200 (⟨rfl, ⟨fun c2 => (h.1 c2), fun c2 => ⟨⟨rfl, (hF 74)⟩, ⟨⟨rfl, (h.2 c2).1.1, (h.2 c2).1.2⟩, ⟨rfl, c_M_isLeft _ hF (h.2 c2).1.1 (h.2 c2).1.2 (fun c4 => ⟨fun c => absurd c (by decide : ¬ ((1 : Int) = 0)), fun _ => ⟨⟨rfl, (hF 74)⟩, ⟨rfl, ⟨⟨rfl, (h.2 c2).1.1, (h.2 c2).1.2⟩, ⟨⟨rfl, (hF 41)⟩, ⟨rfl, ⟨⟨rfl, ((h.2 c2).2.1 c4).1.1, ((h.2 c2).2.1 c4).1.2.1⟩, ⟨rfl, ⟨⟨((h.2 c2).2.1 c4).1.2.2.1, ((h.2 c2).2.1 c4).1.2.2.2.1⟩, ⟨rfl, ⟨⟨((h.2 c2).2.1 c4).1.2.2.2.2.1, ((h.2 c2).2.1 c4).1.2.2.2.2.2⟩, ((h.2 c2).2.1 c4).2⟩⟩⟩⟩⟩⟩⟩⟩⟩⟩⟩) (fun c4 => ⟨fun _ => ⟨⟨((h.2 c2).2.2 c4).1.1, ((h.2 c2).2.2 c4).1.2⟩, ((h.2 c2).2.2 c4).2⟩, fun c => absurd (by decide : (0 : Int) = 0) c⟩)⟩⟩⟩⟩⟩)

theorem v_M_beginSearch_45 (d : Nat) (v2 : Int) (z1 z3 z4 : Option am_V) (σ : am_S) (K : am_S → Prop) (hF : MF σ) (hT : sI σ 31 26 = 0) (h :
  (((sI σ 31 40) ≤ v2 →
    am_Calls PP MLL (d + 3) m_M_startCase [qr (31, 12, 89)] σ (kV fun s3 =>
      (MF s3 ∧ sI s3 31 26 = 0) ∧
      K (putI (putI (putI (putI (putI (putI s3 54 0 0) 31 57 0) 31 58 0) 31 60 0) 31 59 1) 31 33 1))) ∧
  (¬ ((sI σ 31 40) ≤ v2) →
    am_Runs PP MLL (d + 3) m_M_beginSearch 51 [some (qr (31, 12, 89)), z1, some (qi v2), some (qi 0), z4] [] σ (kV K)))) : am_Runs PP MLL (d + 3) m_M_beginSearch 45 [some (qr (31, 12, 89)), z1, some (qi v2), z3, z4] [] σ (kV K) := am_wEF_ok (orc [(98, 54, 20, 14)]) 200 (⟨rfl, ⟨fun c2 => ⟨rfl, (am_cV (h.1 c2) fun s3 h3 => ⟨⟨rfl, (h3.1.1 44)⟩, ⟨⟨rfl, (by decide : (0 : Int) ≤ 0), (by decide : (0 : Int) < 14)⟩, ⟨rfl, ⟨rfl, ⟨rfl, ⟨⟨rfl, (Or.inr rfl)⟩, ⟨⟨rfl, (Or.inr rfl)⟩, h3.2⟩⟩⟩⟩⟩⟩⟩)⟩, fun c2 => (h.2 c2)⟩⟩)

theorem v_M_beginSearch_51 (d : Nat) (v2 v3 : Int) (z1 z4 : Option am_V) (σ : am_S) (K : am_S → Prop) (hF : MF σ) (hT : sI σ 31 26 = 0) (h :
  (((sI σ 31 2) ≤ v3 →
    (-2147483648 ≤ v2 + 1 ∧ v2 + 1 < 2147483648) ∧
    am_Runs PP MLL (d + 3) m_M_beginSearch 45 [some (qr (31, 12, 89)), (am_cl z1), some (qi (v2 + 1)), some (qi v3), z4] [] σ (kV K)) ∧
  (¬ ((sI σ 31 2) ≤ v3) →
    am_Runs PP MLL (d + 3) m_M_beginSearch 57 [some (qr (31, 12, 89)), z1, some (qi v2), some (qi v3), some (qi 0)] [] σ (kV K)))) : am_Runs PP MLL (d + 3) m_M_beginSearch 51 [some (qr (31, 12, 89)), z1, some (qi v2), some (qi v3), z4] [] σ (kV K) := am_wEF_ok (orc []) 200 (⟨rfl, ⟨fun c2 => ⟨⟨(h.1 c2).1.1, (h.1 c2).1.2⟩, (h.1 c2).2⟩, fun c2 => (h.2 c2)⟩⟩)

theorem v_M_beginSearch_57 (d : Nat) (v2 v3 v4 : Int) (z1 : Option am_V) (σ : am_S) (K : am_S → Prop) (hF : MF σ) (hT : sI σ 31 26 = 0) (h :
  (((sI σ 31 2) ≤ v4 →
    (-2147483648 ≤ v3 + 1 ∧ v3 + 1 < 2147483648) ∧
    am_Runs PP MLL (d + 3) m_M_beginSearch 51 [some (qr (31, 12, 89)), z1, some (qi v2), some (qi (v3 + 1)), some (qi v4)] [] σ (kV K)) ∧
  (¬ ((sI σ 31 2) ≤ v4) →
    (-2147483648 ≤ 144 * v2 ∧ 144 * v2 < 2147483648 ∧ -2147483648 ≤ 12 * v3 ∧ 12 * v3 < 2147483648 ∧ -2147483648 ≤ (144 * v2) + (12 * v3) ∧ (144 * v2) + (12 * v3) < 2147483648 ∧ -2147483648 ≤ ((144 * v2) + (12 * v3)) + v4 ∧ ((144 * v2) + (12 * v3)) + v4 < 2147483648) ∧
    ((v3 = v4 →
      (0 ≤ (((144 * v2) + (12 * v3)) + v4) ∧ (((144 * v2) + (12 * v3)) + v4) < 8640 ∧ -2147483648 ≤ v4 + 1 ∧ v4 + 1 < 2147483648) ∧
      am_Runs PP MLL (d + 3) m_M_beginSearch 57 [some (qr (31, 12, 89)), z1, some (qi v2), some (qi v3), some (qi (v4 + 1))] [] (putI σ 52 (Int.toNat (((144 * v2) + (12 * v3)) + v4)) v2) (kV K)) ∧
    (¬ (v3 = v4) →
      (0 ≤ v2 ∧ v2 < 60) ∧
      am_Calls PP MLL (d + 3) m_M_exchanged [qr (31, 12, 89), qi (sI σ 51 (Int.toNat v2)), qi v3, qi v4] σ (kI fun x6 s6 =>
        (MF s6 ∧ sI s6 31 26 = 0) ∧
        (0 ≤ x6 ∧ x6 < 10000 ∧ 0 ≤ (((144 * v2) + (12 * v3)) + v4) ∧ (((144 * v2) + (12 * v3)) + v4) < 8640 ∧ -2147483648 ≤ v4 + 1 ∧ v4 + 1 < 2147483648) ∧
        am_Runs PP MLL (d + 3) m_M_beginSearch 57 [some (qr (31, 12, 89)), z1, some (qi v2), some (qi v3), some (qi (v4 + 1))] [] (putI s6 52 (Int.toNat (((144 * v2) + (12 * v3)) + v4)) (sI s6 79 (Int.toNat x6))) (kV K))))))) : am_Runs PP MLL (d + 3) m_M_beginSearch 57 [some (qr (31, 12, 89)), z1, some (qi v2), some (qi v3), some (qi v4)] [] σ (kV K) := am_wEF_ok (orc [(62, 52, 20, 8640), (78, 79, 20, 10000), (81, 51, 20, 60)]) 200 (⟨rfl, ⟨fun c3 => ⟨⟨(h.1 c3).1.1, (h.1 c3).1.2⟩, (h.1 c3).2⟩, fun c3 => ⟨⟨rfl, (hF 42)⟩, ⟨⟨(h.2 c3).1.1, (h.2 c3).1.2.1⟩, ⟨⟨(h.2 c3).1.2.2.1, (h.2 c3).1.2.2.2.1⟩, ⟨⟨(h.2 c3).1.2.2.2.2.1, (h.2 c3).1.2.2.2.2.2.1⟩, ⟨⟨(h.2 c3).1.2.2.2.2.2.2.1, (h.2 c3).1.2.2.2.2.2.2.2⟩, ⟨fun c5 => ⟨⟨rfl, ((h.2 c3).2.1 c5).1.1, ((h.2 c3).2.1 c5).1.2.1⟩, ⟨⟨((h.2 c3).2.1 c5).1.2.2.1, ((h.2 c3).2.1 c5).1.2.2.2⟩, ((h.2 c3).2.1 c5).2⟩⟩, fun c5 => ⟨⟨rfl, (hF 74)⟩, ⟨⟨rfl, (hF 41)⟩, ⟨⟨rfl, ((h.2 c3).2.2 c5).1.1, ((h.2 c3).2.2 c5).1.2⟩, ⟨rfl, (am_cI ((h.2 c3).2.2 c5).2 fun x6 s6 h6 => ⟨⟨rfl, h6.2.1.1, h6.2.1.2.1⟩, ⟨⟨rfl, h6.2.1.2.2.1, h6.2.1.2.2.2.1⟩, ⟨⟨h6.2.1.2.2.2.2.1, h6.2.1.2.2.2.2.2⟩, h6.2.2⟩⟩⟩)⟩⟩⟩⟩⟩⟩⟩⟩⟩⟩⟩⟩)

theorem XR_cg {s σ : am_S} {n l m a b t u : Nat} {kd : Int} (h3 : sI s 33 = sI σ 33) (h4 : sI s 34 = sI σ 34) (h5 : sI s 35 = sI σ 35) (h : XR s n l m kd a b t u) : XR σ n l m kd a b t u := by
  unfold XR CT at h ⊢
  rw [h3, h4, h5] at h
  exact h
/-- what stands as a search begins -/
def BeI (σ : am_S) (n l m T W : Nat) (kd : Int) (nb : Nat) : Prop := MF σ ∧ sI σ 31 26 = 0 ∧ TI σ n l m kd T ∧ n ≤ 12 ∧ (1 ≤ lfN (sI σ 37) T ∧ lfN (sI σ 37) T ≤ 60) ∧ (0 ≤ sI σ 31 4 ∧ sI σ 31 4 ≤ 3) ∧ QV σ nb ∧ nb ≤ 12 ∧ (∀ t, t < T → 0 ≤ sI σ 36 t ∧ sI σ 36 t ≤ 10) ∧ sI σ 31 13 = W ∧ W ≤ 30
noncomputable def cX (σ : am_S) (T : Nat) : Nat → Int := fun s => sI σ 36 (trX σ T s)
theorem cX_CV {σ : am_S} {n l m T W nb ob : Nat} {kd : Int} (h : BeI σ n l m T W kd nb) : CV (mkX σ n l m kd T ob) (cX σ T) := fun s hs => by
  have q := h.2.2.2.2.2.2.2.2.1 (trX σ T s) (trX_T h.2.2.2.2.1.1 s)
  unfold cX
  exact ⟨by omega, q.2⟩
theorem cX_mn {σ : am_S} {n l m T W nb ob : Nat} {kd : Int} (h : BeI σ n l m T W kd nb) : mn (mkX σ n l m kd T ob) (cX σ T) = xM (mkX σ n l m kd T ob) := by
  unfold mn
  have e : sm (fun s => if 0 ≤ cX σ T s then (1 : Int) else 0) (xM (mkX σ n l m kd T ob)) = sm (fun _ => 1) (xM (mkX σ n l m kd T ob)) := sm_congr _ (fun s hs => by
    have q := h.2.2.2.2.2.2.2.2.1 (trX σ T s) (trX_T h.2.2.2.2.1.1 s)
    rw [if_pos]
    exact q.1)
  rw [e]
  have : ∀ k : Nat, sm (fun _ => (1 : Int)) k = k := by
    intro k
    induction k with
    | zero => rfl
    | succ k ih =>
      have e2 : sm (fun _ => (1 : Int)) (k + 1) = sm (fun _ => (1 : Int)) k + 1 := rfl
      rw [e2, ih]
      omega
  exact this _
/-- the frame -/
def bgF (σ s : am_S) : Prop := s.2 = σ.2 ∧ (∀ x, x ≠ 31 → x ≠ 39 → x ≠ 40 → x ≠ 51 → x ≠ 52 → x ≠ 53 → x ≠ 54 → x ≠ 55 → x ≠ 79 → sI s x = sI σ x) ∧ ∀ j, j ≠ 33 → j ≠ 34 → j ≠ 35 → j ≠ 36 → j ≠ 37 → j ≠ 40 → j ≠ 57 → j ≠ 58 → j ≠ 59 → j ≠ 60 → j ≠ 73 → j ≠ 76 → j ≠ 77 → j ≠ 78 → sI s 31 j = sI σ 31 j
/-- inside: seek and seekAt made; swapped up to a place -/
def bgS (σ s : am_S) (b T M : Nat) : Prop := s.2 = σ.2 ∧ (∀ x, x ≠ 31 → x ≠ 39 → x ≠ 40 → x ≠ 51 → x ≠ 52 → x ≠ 79 → sI s x = sI σ x) ∧ (∀ j, j ≠ 33 → j ≠ 34 → j ≠ 35 → j ≠ 36 → j ≠ 37 → j ≠ 40 → j ≠ 73 → j ≠ 76 → j ≠ 77 → j ≠ 78 → sI s 31 j = sI σ 31 j) ∧ (sI s 31 33 = 0 ∧ sI s 31 34 = 0 ∧ sI s 31 35 = -1000 ∧ sI s 31 36 = b ∧ sI s 31 37 = 0 ∧ sI s 31 40 = M ∧ sI s 31 73 = 0 ∧ sI s 31 76 = 0 ∧ sI s 31 77 = 0 ∧ sI s 31 78 = 0) ∧ (∀ p, p < M → sI s 51 p = trX σ T p) ∧ ∀ u, u < T → sI s 79 u = if sI σ 37 u < 0 then ((lfN (sI σ 37) u : Nat) : Int) else -1
noncomputable def bgV (σ : am_S) (n l m : Nat) (kd : Int) (T s a c : Nat) : Int := if a = c then (s : Int) else xpl σ n l m kd T s a c
theorem bg_seek (d : Nat) {σ : am_S} {K : am_S → Prop} {b n l m T W nb : Nat} {kd : Int} (hI : BeI σ n l m T W kd nb) (h : ∀ s, bgS σ s b T (lfN (sI σ 37) T) → sI s 52 = sI σ 52 → ∀ z1 z3 z4, am_Runs PP MLL (d + 3) m_M_beginSearch 45 [some (qr (31, 12, 89)), z1, some (qi 0), z3, z4] [] s (kV K)) : am_Calls PP MLL (d + 4) m_M_beginSearch [qr (31, 12, 89), qi (b : Int)] σ (kV K) := by
  obtain ⟨hF, hT, ti, n12, hM, hl, hq, hnb, hli, hw, hW⟩ := hI
  have hT5 := ti.2.2.2.2.2.2.1
  have hT4 := ti.2.2.2.2.2.2.2.2.1
  have loop : ∀ q t s, t + q = T → s.2 = σ.2 → (∀ x, x ≠ 31 → x ≠ 51 → x ≠ 79 → sI s x = sI σ x) → (∀ j, j ≠ 33 → j ≠ 34 → j ≠ 35 → j ≠ 36 → j ≠ 37 → j ≠ 40 → j ≠ 73 → j ≠ 76 → j ≠ 77 → j ≠ 78 → sI s 31 j = sI σ 31 j) → (sI s 31 33 = 0 ∧ sI s 31 34 = 0 ∧ sI s 31 35 = -1000 ∧ sI s 31 36 = b ∧ sI s 31 37 = 0 ∧ sI s 31 40 = lfN (sI σ 37) t ∧ sI s 31 73 = 0 ∧ sI s 31 76 = 0 ∧ sI s 31 77 = 0 ∧ sI s 31 78 = 0) → (∀ p, p < lfN (sI σ 37) t → sI s 51 p = trX σ T p) → (∀ u, u < t → sI s 79 u = if sI σ 37 u < 0 then ((lfN (sI σ 37) u : Nat) : Int) else -1) → ∀ z1 z3 z4, am_Runs PP MLL (d + 3) m_M_beginSearch 10 [some (qr (31, 12, 89)), z1, some (qi (t : Int)), z3, z4] [] s (kV K) := by
    intro q
    induction q with
    | zero =>
      intro t s ht s1 s2 s3 s4 s5 s6 z1 z3 z4
      have et : t = T := by omega
      subst et
      refine v_M_beginSearch_10 d _ z1 z3 z4 s K (MF_I hF s1) (by rw [s3 26 (by decide) (by decide) (by decide) (by decide) (by decide) (by decide) (by decide) (by decide) (by decide) (by decide)]; exact hT) ⟨fun _ => ?_, fun c => absurd (by rw [s3 5 (by decide) (by decide) (by decide) (by decide) (by decide) (by decide) (by decide) (by decide) (by decide) (by decide), hT5]; exact Int.le_refl _) c⟩
      exact h s ⟨s1, fun x x1 _ _ x4 _ x6 => s2 x x1 x4 x6, s3, s4, s5, s6⟩ (s2 52 (by decide) (by decide) (by decide)) _ _ _
    | succ q ih =>
      intro t s ht s1 s2 s3 s4 s5 s6 z1 z3 z4
      obtain ⟨a1, a2, a3, a4, a5, a6, a7, a8, a9, a10⟩ := s4
      have e5 : sI s 31 5 = T := by rw [s3 5 (by decide) (by decide) (by decide) (by decide) (by decide) (by decide) (by decide) (by decide) (by decide) (by decide)]; exact hT5
      have e37 := s2 37 (by decide) (by decide) (by decide)
      refine v_M_beginSearch_10 d _ z1 z3 z4 s K (MF_I hF s1) (by rw [s3 26 (by decide) (by decide) (by decide) (by decide) (by decide) (by decide) (by decide) (by decide) (by decide) (by decide)]; exact hT) ⟨fun c => absurd c (by rw [e5]; omega), fun _ => ⟨by omega, ?_⟩⟩
      rw [Int.toNat_natCast, e37, a6, Int.toNat_natCast, show (t : Int) + 1 = ((t + 1 : Nat) : Int) by omega]
      refine ⟨fun hg => ?_, fun hg => ?_⟩
      · have lt := lfN_lt hg (show t < T by omega)
        have es := lfN_s hg
        refine ⟨by omega, ?_⟩
        obtain ⟨Z, eZ⟩ : ∃ Z, Z = putI (putI (putI (putI s 79 t (-1)) 79 t ((lfN (sI σ 37) t : Nat) : Int)) 51 (lfN (sI σ 37) t) (t : Int)) 31 40 (((lfN (sI σ 37) t : Nat) : Int) + 1) := ⟨_, rfl⟩
        rw [← eZ]
        have Zo : ∀ x, x ≠ 31 → x ≠ 51 → x ≠ 79 → sI Z x = sI s x := fun x x1 x2 x3 => by rw [eZ, put_ne x1, put_ne x2, put_ne x3, put_ne x3]
        have Z31 : ∀ j, j ≠ 40 → sI Z 31 j = sI s 31 j := fun j hj => by rw [eZ, put_at, if_neg hj, put_ne (by decide), put_ne (by decide), put_ne (by decide)]
        have Z79 : ∀ j, sI Z 79 j = if j = t then ((lfN (sI σ 37) t : Nat) : Int) else sI s 79 j := fun j => by
          rw [eZ, put_ne (by decide), put_ne (by decide), put_at]
          by_cases e : j = t
          · rw [if_pos e, if_pos e]
          · rw [if_neg e, if_neg e, put_at, if_neg e]
        have Z51 : ∀ j, sI Z 51 j = if j = lfN (sI σ 37) t then (t : Int) else sI s 51 j := fun j => by rw [eZ, put_ne (by decide), put_at, put_ne (by decide), put_ne (by decide)]
        refine ih (t + 1) Z (by omega) (by rw [eZ]; exact s1) (fun x x1 x2 x3 => by rw [Zo x x1 x2 x3, s2 x x1 x2 x3]) (fun j j1 j2 j3 j4 j5 j6 j7 j8 j9 j10 => by rw [Z31 j j6, s3 j j1 j2 j3 j4 j5 j6 j7 j8 j9 j10]) ⟨by rw [Z31 33 (by decide)]; exact a1, by rw [Z31 34 (by decide)]; exact a2, by rw [Z31 35 (by decide)]; exact a3, by rw [Z31 36 (by decide)]; exact a4, by rw [Z31 37 (by decide)]; exact a5, by rw [eZ, put_at, if_pos rfl, es]; omega, by rw [Z31 73 (by decide)]; exact a7, by rw [Z31 76 (by decide)]; exact a8, by rw [Z31 77 (by decide)]; exact a9, by rw [Z31 78 (by decide)]; exact a10⟩ (fun p hp => ?_) (fun u hu => ?_) _ _ _
        · rw [Z51]
          by_cases e : p = lfN (sI σ 37) t
          · rw [if_pos e, e]
            unfold trX
            rw [if_pos lt, trp_lf (by omega) hg]
          · rw [if_neg e]
            exact s5 p (by omega)
        · rw [Z79]
          by_cases e : u = t
          · rw [if_pos e, e, if_pos hg]
          · rw [if_neg e]
            exact s6 u (by omega)
      · have es := lfN_n hg
        refine ⟨by omega, ?_⟩
        obtain ⟨Z, eZ⟩ : ∃ Z, Z = putI s 79 t (-1) := ⟨_, rfl⟩
        rw [← eZ]
        have Zo : ∀ x, x ≠ 79 → sI Z x = sI s x := fun x x1 => by rw [eZ, put_ne x1]
        have e31 := Zo 31 (by decide)
        refine ih (t + 1) Z (by omega) (by rw [eZ]; exact s1) (fun x x1 x2 x3 => by rw [Zo x x3, s2 x x1 x2 x3]) (by rw [e31]; exact s3) (by rw [e31, es]; exact ⟨a1, a2, a3, a4, a5, a6, a7, a8, a9, a10⟩) (by rw [es, Zo 51 (by decide)]; exact s5) (fun u hu => ?_) _ _ _
        rw [eZ, put_at]
        by_cases e : u = t
        · rw [if_pos e, e, if_neg hg]
        · rw [if_neg e]
          exact s6 u (by omega)
  refine v_M_beginSearch_0 d (b : Int) σ K hF hT ?_
  obtain ⟨Z, eZ⟩ : ∃ Z, Z = putI (putI (putI (putI (putI (putI (putI (putI (putI (putI σ 31 33 0) 31 34 0) 31 35 (-1000)) 31 37 0) 31 73 0) 31 76 0) 31 77 0) 31 78 0) 31 36 (b : Int)) 31 40 0 := ⟨_, rfl⟩
  rw [← eZ]
  have Zo : ∀ x, x ≠ 31 → sI Z x = sI σ x := fun x hx => by rw [eZ]; (repeat rw [put_ne hx])
  have Z31 : ∀ j, sI Z 31 j = if j = 40 then 0 else if j = 36 then (b : Int) else if j = 78 then 0 else if j = 77 then 0 else if j = 76 then 0 else if j = 73 then 0 else if j = 37 then 0 else if j = 35 then -1000 else if j = 34 then 0 else if j = 33 then 0 else sI σ 31 j := fun j => by rw [eZ]; (repeat rw [put_at])
  refine loop T 0 Z (by omega) (by rw [eZ]; rfl) (fun x x1 _ _ => Zo x x1) (fun j j1 j2 j3 j4 j5 j6 j7 j8 j9 j10 => by rw [Z31, if_neg j6, if_neg j4, if_neg j10, if_neg j9, if_neg j8, if_neg j7, if_neg j5, if_neg j3, if_neg j2, if_neg j1]) ⟨?_, ?_, ?_, ?_, ?_, ?_, ?_, ?_, ?_, ?_⟩ (fun p hp => absurd hp (Nat.not_lt_zero p)) (fun u hu => absurd hu (Nat.not_lt_zero u)) _ _ _ <;> (rw [Z31]; rfl)
theorem bg_swap (d : Nat) {σ : am_S} {K : am_S → Prop} {b n l m T W nb : Nat} {kd : Int} (hI : BeI σ n l m T W kd nb) (h : ∀ s, bgS σ s b T (lfN (sI σ 37) T) → (∀ p a c, p < lfN (sI σ 37) T → a < n → c < n → sI s 52 (144 * p + 12 * a + c) = bgV σ n l m kd T p a c) → ∀ z1 z3 z4, am_Runs PP MLL (d + 3) m_M_beginSearch 45 [some (qr (31, 12, 89)), z1, some (qi ((lfN (sI σ 37) T : Nat) : Int)), z3, z4] [] s (kV K)) : ∀ q p s, p + q = lfN (sI σ 37) T → bgS σ s b T (lfN (sI σ 37) T) → (∀ p' a c, p' < p → a < n → c < n → sI s 52 (144 * p' + 12 * a + c) = bgV σ n l m kd T p' a c) → ∀ z1 z3 z4, am_Runs PP MLL (d + 3) m_M_beginSearch 45 [some (qr (31, 12, 89)), z1, some (qi (p : Int)), z3, z4] [] s (kV K) := by
  obtain ⟨hF, hT, ti, n12, hM, hl, hq, hnb, hli, hw, hW⟩ := hI
  have hk := ti.2.1
  intro q
  induction q with
  | zero =>
    intro p s hp hS hv z1 z3 z4
    have ep : p = lfN (sI σ 37) T := by omega
    rw [ep]
    exact h s hS (by rw [← ep]; exact hv) z1 z3 z4
  | succ q ih =>
    intro p s hp hS hv z1 z3 z4
    have base : ∀ s, bgS σ s b T (lfN (sI σ 37) T) → MF s ∧ sI s 31 26 = 0 ∧ sI s 31 2 = n ∧ sI s 31 3 = kd ∧ sI s 31 40 = lfN (sI σ 37) T := fun s hs => by
      obtain ⟨b1, b2, b3, b4, b5, b6⟩ := hs
      refine ⟨MF_I hF b1, ?_, ?_, ?_, b4.2.2.2.2.2.1⟩
      · rw [b3 26 (by decide) (by decide) (by decide) (by decide) (by decide) (by decide) (by decide) (by decide) (by decide) (by decide)]; exact hT
      · rw [b3 2 (by decide) (by decide) (by decide) (by decide) (by decide) (by decide) (by decide) (by decide) (by decide) (by decide)]; exact ti.2.2.2.2.1
      · rw [b3 3 (by decide) (by decide) (by decide) (by decide) (by decide) (by decide) (by decide) (by decide) (by decide) (by decide)]; exact ti.2.2.2.2.2.1
    have put52 : ∀ s i v, bgS σ s b T (lfN (sI σ 37) T) → bgS σ (putI s 52 i v) b T (lfN (sI σ 37) T) := fun s i v hs => by
      obtain ⟨b1, b2, b3, b4, b5, b6⟩ := hs
      have e31 : sI (putI s 52 i v) 31 = sI s 31 := put_ne (by decide)
      exact ⟨b1, fun x x1 x2 x3 x4 x5 x6 => by rw [put_ne x5, b2 x x1 x2 x3 x4 x5 x6], by rw [e31]; exact b3, by rw [e31]; exact b4, by rw [put_ne (by decide)]; exact b5, by rw [put_ne (by decide)]; exact b6⟩
    have row : ∀ qa a s, a + qa = n → bgS σ s b T (lfN (sI σ 37) T) → (∀ p' a' c, a' < n → c < n → (p' < p ∨ (p' = p ∧ a' < a)) → sI s 52 (144 * p' + 12 * a' + c) = bgV σ n l m kd T p' a' c) → ∀ z1 z4, am_Runs PP MLL (d + 3) m_M_beginSearch 51 [some (qr (31, 12, 89)), z1, some (qi (p : Int)), some (qi (a : Int)), z4] [] s (kV K) := by
      intro qa
      induction qa with
      | zero =>
        intro a s ha hS hv z1 z4
        obtain ⟨c1, c2, c3, c4, c5⟩ := base s hS
        refine v_M_beginSearch_51 d _ _ z1 z4 s K c1 c2 ⟨fun _ => ⟨by omega, ?_⟩, fun c => absurd (by rw [c3]; omega) c⟩
        rw [show (p : Int) + 1 = ((p + 1 : Nat) : Int) by omega]
        exact ih (p + 1) s (by omega) hS (fun p' a' c hp' ha' hc => hv p' a' c ha' hc (by omega)) _ _ _
      | succ qa iha =>
        intro a s ha hS hv z1 z4
        obtain ⟨c1, c2, c3, c4, c5⟩ := base s hS
        refine v_M_beginSearch_51 d _ _ z1 z4 s K c1 c2 ⟨fun c => absurd c (by rw [c3]; omega), fun _ => ?_⟩
        have col : ∀ qc c s, c + qc = n → bgS σ s b T (lfN (sI σ 37) T) → (∀ p' a' c', a' < n → c' < n → (p' < p ∨ (p' = p ∧ (a' < a ∨ (a' = a ∧ c' < c)))) → sI s 52 (144 * p' + 12 * a' + c') = bgV σ n l m kd T p' a' c') → ∀ z1, am_Runs PP MLL (d + 3) m_M_beginSearch 57 [some (qr (31, 12, 89)), z1, some (qi (p : Int)), some (qi (a : Int)), some (qi (c : Int))] [] s (kV K) := by
          intro qc
          induction qc with
          | zero =>
            intro c s hc hS hv z1
            obtain ⟨c1, c2, c3, c4, c5⟩ := base s hS
            refine v_M_beginSearch_57 d _ _ _ z1 s K c1 c2 ⟨fun _ => ⟨by omega, ?_⟩, fun w => absurd (by rw [c3]; omega) w⟩
            rw [show (a : Int) + 1 = ((a + 1 : Nat) : Int) by omega]
            exact iha (a + 1) s (by omega) hS (fun p' a' c' ha' hc' w => hv p' a' c' ha' hc' (by omega)) _ _
          | succ qc ihc =>
            intro c s hc hS hv z1
            obtain ⟨c1, c2, c3, c4, c5⟩ := base s hS
            have next : ∀ s' v, bgS σ s' b T (lfN (sI σ 37) T) → sI s' 52 = sI s 52 → v = bgV σ n l m kd T p a c → am_Runs PP MLL (d + 3) m_M_beginSearch 57 [some (qr (31, 12, 89)), z1, some (qi (p : Int)), some (qi (a : Int)), some (qi ((c + 1 : Nat) : Int))] [] (putI s' 52 (144 * p + 12 * a + c) v) (kV K) := by
              intro s' v hS' e52 ev
              refine ihc (c + 1) _ (by omega) (put52 s' _ _ hS') (fun p' a' c' ha' hc' w => ?_) _
              rw [put_at]
              by_cases e : 144 * p' + 12 * a' + c' = 144 * p + 12 * a + c
              · rw [if_pos e, ev]
                have e1 : p' = p := by omega
                have e2 : a' = a := by omega
                have e3 : c' = c := by omega
                rw [e1, e2, e3]
              · rw [if_neg e, e52]
                refine hv p' a' c' ha' hc' ?_
                have : ¬ (p' = p ∧ a' = a ∧ c' = c) := fun ⟨w1, w2, w3⟩ => e (by rw [w1, w2, w3])
                omega
            refine v_M_beginSearch_57 d _ _ _ z1 s K c1 c2 ⟨fun w => absurd w (by rw [c3]; omega), fun _ => ⟨by omega, fun e => ?_, fun e => ?_⟩⟩
            · refine ⟨by omega, ?_⟩
              rw [show 144 * (p : Int) + 12 * (a : Int) + (c : Int) = ((144 * p + 12 * a + c : Nat) : Int) by omega, Int.toNat_natCast, show (c : Int) + 1 = ((c + 1 : Nat) : Int) by omega]
              exact next s _ hS rfl (by unfold bgV; rw [if_pos (by omega)])
            · obtain ⟨b1, b2, b3, b4, b5, b6⟩ := hS
              have tl := trX_T hM.1 p
              obtain ⟨f, x, y, z, w, hvc, hN, hct⟩ := ti.2.2.2.2.2.2.2.2.2.2 (trX σ T p) tl
              have T4 := ti.2.2.2.2.2.2.2.2.1
              have hct' : CT s (trX σ T p) f x y z kd w := by
                unfold CT at hct ⊢
                rw [b2 33 (by decide) (by decide) (by decide) (by decide) (by decide) (by decide), b2 34 (by decide) (by decide) (by decide) (by decide) (by decide) (by decide), b2 35 (by decide) (by decide) (by decide) (by decide) (by decide) (by decide)]
                exact hct
              refine ⟨by omega, ?_⟩
              rw [Int.toNat_natCast, b5 p (by omega)]
              refine c_M_exchanged d (n := n) (l := l) (m := m) c1 c3 ti.1 c4 hk (by omega) hvc hct' (by rw [b2 32 (by decide) (by decide) (by decide) (by decide) (by decide) (by decide)]; exact ti.2.2.2.2.2.2.2.2.2.1 f hvc.1 hvc.2.1) hN (by omega) (by omega) (fun s' u hfr hex => ?_)
              have xr : XR σ n l m kd a c (trX σ T p) u := ⟨f, x, y, z, w, hvc, hct, hex⟩
              have ul := XR_lt ti xr
              have e31' : sI s' 31 = sI s 31 := hfr.2 31 (by decide) (by decide)
              have hS' : bgS σ s' b T (lfN (sI σ 37) T) := ⟨hfr.1.trans b1, fun x x1 x2 x3 x4 x5 x6 => by rw [hfr.2 x x2 x3, b2 x x1 x2 x3 x4 x5 x6], by rw [e31']; exact b3, by rw [e31']; exact b4, by rw [hfr.2 51 (by decide) (by decide)]; exact b5, by rw [hfr.2 79 (by decide) (by decide)]; exact b6⟩
              refine ⟨⟨MF_I c1 hfr.1, by rw [e31']; exact c2⟩, by omega, ?_⟩
              rw [show 144 * (p : Int) + 12 * (a : Int) + (c : Int) = ((144 * p + 12 * a + c : Nat) : Int) by omega, Int.toNat_natCast, Int.toNat_natCast, show (c : Int) + 1 = ((c + 1 : Nat) : Int) by omega]
              refine next s' _ hS' (hfr.2 52 (by decide) (by decide)) ?_
              unfold bgV
              rw [if_neg (by omega), hS'.2.2.2.2.2 u ul, xpl_sp ti (by omega) xr]
        exact col n 0 s (by omega) hS (fun p' a' c' ha' hc' w => hv p' a' c' ha' hc' (by omega)) _
    obtain ⟨c1, c2, c3, c4, c5⟩ := base s hS
    refine v_M_beginSearch_45 d _ z1 z3 z4 s K c1 c2 ⟨fun c => absurd c (by rw [c5]; omega), fun _ => ?_⟩
    exact row n 0 s (by omega) hS (fun p' a' c ha' hc w => hv p' a' c (by omega) ha' hc) _ _
theorem c_M_beginSearch (d : Nat) {σ : am_S} {K : am_S → Prop} {b n l m T W nb : Nat} {kd : Int} (hI : BeI σ n l m T W kd nb) (hb : b < nb) (hz : RZ σ) (h : ∀ s, bgF σ s → MS s (mkX σ n l m kd T b) b nb (trX σ T) (cX σ T) W (0, 0, 0, fun _ => 0, fun _ => 0) → sI s 31 33 = 1 → sI s 31 34 = 0 → sI s 31 35 = -1000 → sI s 31 37 = 0 → sI s 31 73 = 0 → sI s 31 76 = 0 → sI s 31 77 = 0 → sI s 31 78 = 0 → K s) : am_Calls PP MLL (d + 4) m_M_beginSearch [qr (31, 12, 89), qi (b : Int)] σ (kV K) := by
  have hI' := hI
  obtain ⟨hF, hT, ti, n12, hM, hl, hq, hnb, hli, hw, hW⟩ := hI
  refine bg_seek d (b := b) hI' (fun s hS e52 z1 z3 z4 => bg_swap d (b := b) hI' (fun s hS hv z1 z3 z4 => ?_) (lfN (sI σ 37) T) 0 s (by omega) hS (fun p' a c hp => absurd hp (Nat.not_lt_zero p')) z1 z3 z4)
  obtain ⟨b1, b2, b3, b4, b5, b6⟩ := hS
  obtain ⟨d1, d2, d3, d4, d5, d6, d7, d8, d9, d10⟩ := b4
  have g31 : ∀ j, j ≠ 33 → j ≠ 34 → j ≠ 35 → j ≠ 36 → j ≠ 37 → j ≠ 40 → j ≠ 73 → j ≠ 76 → j ≠ 77 → j ≠ 78 → sI s 31 j = sI σ 31 j := b3
  have s26 : sI s 31 26 = 0 := by rw [g31 26 (by decide) (by decide) (by decide) (by decide) (by decide) (by decide) (by decide) (by decide) (by decide) (by decide)]; exact hT
  have s13 : sI s 31 13 = W := by rw [g31 13 (by decide) (by decide) (by decide) (by decide) (by decide) (by decide) (by decide) (by decide) (by decide) (by decide)]; exact hw
  have T4 := ti.2.2.2.2.2.2.2.2.1
  refine v_M_beginSearch_45 d _ z1 z3 z4 s K (MF_I hF b1) s26 ⟨fun _ => ?_, fun c => absurd (by rw [d6]; exact Int.le_refl _) c⟩
  refine m_start (d + 2) (tr := trX σ T) (c0 := cX σ T) (MF_I hF b1) s26 d6 hM.2 (fun p hp => ⟨b5 p hp, by have := trX_T hM.1 p; omega⟩) (fun p hp => by rw [b2 36 (by decide) (by decide) (by decide) (by decide) (by decide) (by decide)]; rfl) s13 (fun t t1 t2 t3 t4 => ?_)
  have t31 := t2 31 (by decide) (by decide)
  refine ⟨⟨MF_I (MF_I hF b1) t1, by rw [t31]; exact s26⟩, ?_⟩
  obtain ⟨Z, eZ⟩ : ∃ Z, Z = putI (putI (putI (putI (putI (putI t 54 0 0) 31 57 0) 31 58 0) 31 60 0) 31 59 1) 31 33 1 := ⟨_, rfl⟩
  rw [← eZ]
  have Z2 : Z.2 = σ.2 := by rw [eZ]; exact t1.trans b1
  have Zo : ∀ x, x ≠ 31 → x ≠ 54 → sI Z x = sI t x := fun x x1 x2 => by rw [eZ, put_ne x1, put_ne x1, put_ne x1, put_ne x1, put_ne x1, put_ne x2]
  have Zs : ∀ x, x ≠ 31 → x ≠ 39 → x ≠ 40 → x ≠ 51 → x ≠ 52 → x ≠ 53 → x ≠ 54 → x ≠ 55 → x ≠ 79 → sI Z x = sI σ x := fun x x1 x2 x3 x4 x5 x6 x7 x8 x9 => by rw [Zo x x1 x7, t2 x x6 x8, b2 x x1 x2 x3 x4 x5 x9]
  have Z31 : ∀ j, sI Z 31 j = if j = 33 then 1 else if j = 59 then 1 else if j = 60 then 0 else if j = 58 then 0 else if j = 57 then 0 else sI s 31 j := fun j => by rw [eZ, put_at, put_at, put_at, put_at, put_at, put_ne (by decide), t31]
  have z31 : ∀ j, j ≠ 33 → j ≠ 57 → j ≠ 58 → j ≠ 59 → j ≠ 60 → sI Z 31 j = sI s 31 j := fun j j1 j2 j3 j4 j5 => by rw [Z31, if_neg j1, if_neg j4, if_neg j5, if_neg j3, if_neg j2]
  have xv := mkX_XV (ob := b) ti n12 hM hl hq hb
  have cv := cX_CV (ob := b) hI'
  have e33 := Zs 33 (by decide) (by decide) (by decide) (by decide) (by decide) (by decide) (by decide) (by decide) (by decide)
  have e34 := Zs 34 (by decide) (by decide) (by decide) (by decide) (by decide) (by decide) (by decide) (by decide) (by decide)
  have e35 := Zs 35 (by decide) (by decide) (by decide) (by decide) (by decide) (by decide) (by decide) (by decide) (by decide)
  have e41 := Zs 41 (by decide) (by decide) (by decide) (by decide) (by decide) (by decide) (by decide) (by decide) (by decide)
  have e46 := Zs 46 (by decide) (by decide) (by decide) (by decide) (by decide) (by decide) (by decide) (by decide) (by decide)
  have e47 := Zs 47 (by decide) (by decide) (by decide) (by decide) (by decide) (by decide) (by decide) (by decide) (by decide)
  have ew : ∀ k, wr Z b k = wr σ b k := fun k => by unfold wr; rw [e41, e46, e47]
  have eo : ownM Z b = ownM σ b := by unfold ownM mmb; rw [e41, e46, e47]
  have gz : ∀ j, j ≠ 33 → j ≠ 34 → j ≠ 35 → j ≠ 36 → j ≠ 37 → j ≠ 40 → j ≠ 57 → j ≠ 58 → j ≠ 59 → j ≠ 60 → j ≠ 73 → j ≠ 76 → j ≠ 77 → j ≠ 78 → sI Z 31 j = sI σ 31 j := fun j j1 j2 j3 j4 j5 j6 j7 j8 j9 j10 j11 j12 j13 j14 => by rw [z31 j j1 j7 j8 j9 j10, g31 j j1 j2 j3 j4 j5 j6 j11 j12 j13 j14]
  have mx : MX Z (mkX σ n l m kd T b) b nb (trX σ T) := by
    refine ⟨xv, ?_, ?_, fun p hp a c hac hc => ?_, fun p hp => ⟨?_, ?_, ?_⟩, fun f p => ?_, ?_, hb, hnb, ?_, fun k => ?_, ?_, ?_, ?_⟩
    · rw [gz 2 (by decide) (by decide) (by decide) (by decide) (by decide) (by decide) (by decide) (by decide) (by decide) (by decide) (by decide) (by decide) (by decide) (by decide)]
      exact ti.2.2.2.2.1
    · rw [z31 40 (by decide) (by decide) (by decide) (by decide) (by decide)]
      exact d6
    · rw [Zo 52 (by decide) (by decide), t2 52 (by decide) (by decide)]
      have hc' : c < n := hc
      rw [hv p a c hp (by omega) hc']
      unfold bgV
      rw [if_neg (by omega)]
      rfl
    · rw [Zo 51 (by decide) (by decide), t2 51 (by decide) (by decide)]
      exact b5 p hp
    · have := trX_T hM.1 p
      omega
    · rw [e33, e34, e35]
      exact TI_tv ti (trX_T hM.1 p)
    · rw [e33, e34, e35]
      rfl
    · rw [z31 36 (by decide) (by decide) (by decide) (by decide) (by decide)]
      exact d4
    · unfold QV
      rw [e41, e46, e47]
      exact hq
    · rw [ew, e41]
      rfl
    · rw [gz 4 (by decide) (by decide) (by decide) (by decide) (by decide) (by decide) (by decide) (by decide) (by decide) (by decide) (by decide) (by decide) (by decide) (by decide)]
      rfl
    · rw [eo]
      rfl
    · rw [z31 26 (by decide) (by decide) (by decide) (by decide) (by decide)]
      exact s26
  refine h Z ⟨Z2, Zs, gz⟩ (Or.inl ⟨rfl, ⟨MF_I hF Z2, mx, fun j => by rw [Zs 64 (by decide) (by decide) (by decide) (by decide) (by decide) (by decide) (by decide) (by decide) (by decide), Zs 65 (by decide) (by decide) (by decide) (by decide) (by decide) (by decide) (by decide) (by decide) (by decide)]; exact hz j, by rw [Z31]; rfl, Or.inr rfl, by decide, by show (0 : Nat) ≤ 6; decide, by omega, cv⟩, fun i hi => absurd hi (Nat.not_lt_zero i), by rw [Z31]; rfl, by rw [Z31]; rfl, fun i hi => absurd hi (Nat.not_lt_zero i), ⟨fun q hq => ⟨?_, (cv q hq).1, Int.le_trans (cv q hq).2 (by decide)⟩, ?_, ?_⟩, ?_⟩) (by rw [Z31]; rfl) (by rw [z31 34 (by decide) (by decide) (by decide) (by decide) (by decide)]; exact d2) (by rw [z31 35 (by decide) (by decide) (by decide) (by decide) (by decide)]; exact d3) (by rw [z31 37 (by decide) (by decide) (by decide) (by decide) (by decide)]; exact d5) (by rw [z31 73 (by decide) (by decide) (by decide) (by decide) (by decide)]; exact d7) (by rw [z31 76 (by decide) (by decide) (by decide) (by decide) (by decide)]; exact d8) (by rw [z31 77 (by decide) (by decide) (by decide) (by decide) (by decide)]; exact d9) (by rw [z31 78 (by decide) (by decide) (by decide) (by decide) (by decide)]; exact d10)
  · have hq' : q < lfN (sI σ 37) T := hq
    change sI Z 53 (60 * (0 + 0) + q) = cX σ T q
    rw [show 60 * (0 + 0) + q = q by omega, Zo 53 (by decide) (by decide), t3, if_pos hq']
  · rw [eZ, put_ne (by decide), put_ne (by decide), put_ne (by decide), put_ne (by decide), put_ne (by decide), put_at]
    rfl
  · rw [Zo 55 (by decide) (by decide), t4]
    rfl
  · rw [Z31, rkp_0]
    rfl
