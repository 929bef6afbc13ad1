/-! the class: addAllWith -/
def PKd (s : am_S) (f x y z : Nat) : Prop := (1 ≤ f → sI s 8 0 = x) ∧ (2 ≤ f → sI s 8 1 = y) ∧ (3 ≤ f → sI s 8 2 = z)
theorem PKd_pks {s : am_S} {f x y z : Nat} (hf : f ≤ 3) (h : PKd s f x y z) : ∀ i, i < f → sI s 8 i = pks x y z i := by
  intro i hi
  rcases (show i = 0 ∨ i = 1 ∨ i = 2 by omega) with rfl | rfl | rfl
  · exact h.1 (by omega)
  · exact h.2.1 (by omega)
  · exact h.2.2 (by omega)
theorem pk_next {n l m f x y z k : Nat} {kd : Int} {s : am_S} (hv : Vc n l m kd f x y z 0) (hk : rk n f x y z + (k + 2) = ch n f) (hp : PKd s f x y z) : ∃ x' y' z', Vc n l m kd f x' y' z' 0 ∧ rk n f x' y' z' + (k + 1) = ch n f ∧ PKd (pkS s n f x y z) f x' y' z' := by
  obtain ⟨a1, a2, a3, a4, a5, a6, a7, a8, a9, a10⟩ := hv
  rcases (show f = 0 ∨ f = 1 ∨ f = 2 ∨ f = 3 by omega) with rfl | rfl | rfl | rfl
  · have e1 : rk n 0 x y z = 0 := rfl
    have e2 : ch n 0 = 1 := rfl
    omega
  · have e1 : rk n 1 x y z = x := rfl
    have e2 : ch n 1 = n := rfl
    refine ⟨x + 1, 0, 0, ⟨a1, a2, a3, fun _ => by omega, fun q => by omega, fun q => by omega, fun q => by omega, fun _ => rfl, fun _ => rfl, a10⟩, ?_, ?_⟩
    · show x + 1 + (k + 1) = n
      omega
    · have e : pkS s n 1 x y z = putI s 8 0 ((x : Int) + 1) := by
        unfold pkS
        rw [if_neg (by decide), if_pos rfl, if_pos (by omega)]
      rw [e]
      exact ⟨fun _ => by rw [put_at, if_pos rfl]; rfl, fun q => by omega, fun q => by omega⟩
  · have e1 : rk n 2 x y z = C2 n - C2 (n - x) + (y - x - 1) := rfl
    have e2 : ch n 2 = C2 n := rfl
    have b5 := a5 (by omega)
    have m1 := C2_mono (show n - x ≤ n by omega)
    have m2 := C2_s (show n - x = n - (x + 1) + 1 by omega)
    have m3 := C2_mono (show n - (x + 1) ≤ n by omega)
    have ez := a9 (by omega)
    by_cases hy : y + 1 < n
    · refine ⟨x, y + 1, 0, ⟨a1, a2, a3, fun _ => by omega, fun q => by omega, fun q => by omega, fun q => by omega, fun q => by omega, fun _ => rfl, a10⟩, ?_, ?_⟩
      · show C2 n - C2 (n - x) + (y + 1 - x - 1) + (k + 1) = C2 n
        omega
      · have e : pkS s n 2 x y z = putI s 8 1 ((y : Int) + 1) := by
          unfold pkS
          rw [if_neg (by decide), if_neg (by decide), if_pos rfl, if_pos hy]
        rw [e]
        exact ⟨fun _ => by rw [put_at, if_neg (by decide)]; exact hp.1 (by omega), fun _ => by rw [put_at, if_pos rfl]; rfl, fun q => by omega⟩
    · have hx : x + 2 < n := by
        rcases (show x + 2 < n ∨ n - x = 2 by omega) with q | q
        · exact q
        · rw [q] at e1 m1
          have : C2 2 = 1 := rfl
          omega
      refine ⟨x + 1, x + 2, 0, ⟨a1, a2, a3, fun _ => by omega, fun q => by omega, fun q => by omega, fun q => by omega, fun q => by omega, fun _ => rfl, a10⟩, ?_, ?_⟩
      · show C2 n - C2 (n - (x + 1)) + (x + 2 - (x + 1) - 1) + (k + 1) = C2 n
        omega
      · have e : pkS s n 2 x y z = putI (putI s 8 0 ((x : Int) + 1)) 8 1 ((x : Int) + 2) := by
          unfold pkS
          rw [if_neg (by decide), if_neg (by decide), if_pos rfl, if_neg hy, if_pos hx]
        rw [e]
        exact ⟨fun _ => by rw [put_at, if_neg (by decide), put_at, if_pos rfl]; rfl, fun _ => by rw [put_at, if_pos rfl]; rfl, fun q => by omega⟩
  · have e1 : rk n 3 x y z = C3 n - C3 (n - x) + (C2 (n - 1 - x) - C2 (n - y)) + (z - y - 1) := rfl
    have e2 : ch n 3 = C3 n := rfl
    have b5 := a5 (by omega)
    have b6 := a6 (by omega)
    have m1 := C3_mono (show n - x ≤ n by omega)
    have m2 := C3_s (show n - x = n - (x + 1) + 1 by omega)
    have m3 := C3_mono (show n - (x + 1) ≤ n by omega)
    have m4 := C2_s (show n - y = n - (y + 1) + 1 by omega)
    have m5 := C2_mono (show n - y ≤ n - 1 - x by omega)
    have q1 : n - (x + 1) = n - 1 - x := by omega
    rw [q1] at m2 m3
    by_cases hz : z + 1 < n
    · refine ⟨x, y, z + 1, ⟨a1, a2, a3, fun _ => by omega, fun q => by omega, fun q => by omega, fun q => by omega, fun q => by omega, fun q => by omega, a10⟩, ?_, ?_⟩
      · show C3 n - C3 (n - x) + (C2 (n - 1 - x) - C2 (n - y)) + (z + 1 - y - 1) + (k + 1) = C3 n
        omega
      · have e : pkS s n 3 x y z = putI s 8 2 ((z : Int) + 1) := by
          unfold pkS
          rw [if_neg (by decide), if_neg (by decide), if_neg (by decide), if_pos hz]
        rw [e]
        exact ⟨fun _ => by rw [put_at, if_neg (by decide)]; exact hp.1 (by omega), fun _ => by rw [put_at, if_neg (by decide)]; exact hp.2.1 (by omega), fun _ => by rw [put_at, if_pos rfl]; rfl⟩
    · by_cases hy : y + 2 < n
      · refine ⟨x, y + 1, y + 2, ⟨a1, a2, a3, fun _ => by omega, fun q => by omega, fun q => by omega, fun q => by omega, fun q => by omega, fun q => by omega, a10⟩, ?_, ?_⟩
        · show C3 n - C3 (n - x) + (C2 (n - 1 - x) - C2 (n - (y + 1))) + (y + 2 - (y + 1) - 1) + (k + 1) = C3 n
          omega
        · have e : pkS s n 3 x y z = putI (putI s 8 1 ((y : Int) + 1)) 8 2 ((y : Int) + 2) := by
            unfold pkS
            rw [if_neg (by decide), if_neg (by decide), if_neg (by decide), if_neg hz, if_pos hy]
          rw [e]
          exact ⟨fun _ => by rw [put_at, if_neg (by decide), put_at, if_neg (by decide)]; exact hp.1 (by omega), fun _ => by rw [put_at, if_neg (by decide), put_at, if_pos rfl]; rfl, fun _ => by rw [put_at, if_pos rfl]; rfl⟩
      · have q2 : n - y = 2 := by omega
        have q3 : C2 2 = 1 := rfl
        rw [q2, q3] at e1 m5
        have hx : x + 3 < n := by
          rcases (show x + 3 < n ∨ n - x = 3 by omega) with q | q
          · exact q
          · rw [q] at e1 m1
            have : C3 3 = 1 := rfl
            have q4 : n - 1 - x = 2 := by omega
            rw [q4, q3] at e1
            omega
        refine ⟨x + 1, x + 2, x + 3, ⟨a1, a2, a3, fun _ => by omega, fun q => by omega, fun q => by omega, fun q => by omega, fun q => by omega, fun q => by omega, a10⟩, ?_, ?_⟩
        · show C3 n - C3 (n - (x + 1)) + (C2 (n - 1 - (x + 1)) - C2 (n - (x + 2))) + (x + 3 - (x + 2) - 1) + (k + 1) = C3 n
          have q5 : n - 1 - (x + 1) = n - (x + 2) := by omega
          rw [q1, q5]
          omega
        · have e : pkS s n 3 x y z = putI (putI (putI s 8 0 ((x : Int) + 1)) 8 1 ((x : Int) + 2)) 8 2 ((x : Int) + 3) := by
            unfold pkS
            rw [if_neg (by decide), if_neg (by decide), if_neg (by decide), if_neg hz, if_neg hy, if_pos hx]
          rw [e]
          exact ⟨fun _ => by rw [put_at, if_neg (by decide), put_at, if_neg (by decide), put_at, if_pos rfl]; rfl, fun _ => by rw [put_at, if_neg (by decide), put_at, if_pos rfl]; rfl, fun _ => by rw [put_at, if_pos rfl]; rfl⟩
/-- T truths of the class's rows are made; all else is as in σ -/
def CA (σ s : am_S) (aH aL aY aS n l m : Nat) (kd : Int) (T : Nat) : Prop := s.2 = σ.2 ∧ sI s 3 1 = T ∧ (∀ j, j ≠ 1 → sI s 3 j = sI σ 3 j) ∧ (∀ x, x ≠ 3 → x ≠ 8 → x ≠ aH → x ≠ aL → x ≠ aY → x ≠ aS → sI s x = sI σ x) ∧ KTt s aH aL n l m kd T ∧ ∀ t, t < T → sI s aY t = 0 ∧ sI s aS t = 0
theorem CA_8 {σ s : am_S} {own : Nat → Nat} {aH aL aY aS n l m T i : Nat} {kd v : Int} (hO : OW own aH aL aY aS) (h : CA σ s aH aL aY aS n l m kd T) : CA σ (putI s 8 i v) aH aL aY aS n l m kd T := by
  obtain ⟨o1, o2, o3, o4, o5⟩ := hO
  have nH : aH ≠ 8 := own_ne o2 (o1 8 (by decide)) (by decide)
  have nL : aL ≠ 8 := own_ne o3 (o1 8 (by decide)) (by decide)
  have nY : aY ≠ 8 := own_ne o4 (o1 8 (by decide)) (by decide)
  have nS : aS ≠ 8 := own_ne o5 (o1 8 (by decide)) (by decide)
  obtain ⟨h1, h2, h3, h4, h5, h6⟩ := h
  refine ⟨h1, by rw [put_ne (by decide)]; exact h2, fun j hj => by rw [put_ne (by decide)]; exact h3 j hj, fun x a b c d e f => by rw [put_ne b]; exact h4 x a b c d e f, ?_, ?_⟩
  · unfold KTt
    rw [put_ne nH, put_ne nL]
    exact h5
  · rw [put_ne nY, put_ne nS]
    exact h6
theorem CA_pk {σ s : am_S} {own : Nat → Nat} {aH aL aY aS n l m T N f x y z : Nat} {kd : Int} (hO : OW own aH aL aY aS) (h : CA σ s aH aL aY aS n l m kd T) : CA σ (pkS s N f x y z) aH aL aY aS n l m kd T := by
  unfold pkS
  (repeat' split) <;> first | exact h | exact CA_8 hO h | exact CA_8 hO (CA_8 hO h) | exact CA_8 hO (CA_8 hO (CA_8 hO h))
theorem CA_add {σ s : am_S} {own : Nat → Nat} {aH aL aY aS n l m T f x y z w H L : Nat} {kd : Int} (hO : OW own aH aL aY aS) (h : CA σ s aH aL aY aS n l m kd T) (hv : Vc n l m kd f x y z w) (hN : T = Nm n l kd f x y z w) (hb : HB H L f x y z w kd) : CA σ (apS s aH aL aY aS T H L) aH aL aY aS n l m kd (T + 1) := by
  obtain ⟨o1, o2, o3, o4, o5⟩ := hO
  have nH : aH ≠ 3 := own_ne o2 (o1 3 (by decide)) (by decide)
  have nL : aL ≠ 3 := own_ne o3 (o1 3 (by decide)) (by decide)
  have nY : aY ≠ 3 := own_ne o4 (o1 3 (by decide)) (by decide)
  have nS : aS ≠ 3 := own_ne o5 (o1 3 (by decide)) (by decide)
  have d1 : aH ≠ aL := own_ne o2 o3 (by decide)
  have d2 : aH ≠ aY := own_ne o2 o4 (by decide)
  have d3 : aH ≠ aS := own_ne o2 o5 (by decide)
  have d4 : aL ≠ aY := own_ne o3 o4 (by decide)
  have d5 : aL ≠ aS := own_ne o3 o5 (by decide)
  have d6 : aY ≠ aS := own_ne o4 o5 (by decide)
  obtain ⟨h1, h2, h3, h4, h5, h6⟩ := h
  have eH : ∀ t, sI (apS s aH aL aY aS T H L) aH t = if t = T then (H : Int) else sI s aH t := by
    intro t
    unfold apS
    rw [put_ne nH, put_ne d3, put_ne d2, put_ne d1, put_at]
  have eL : ∀ t, sI (apS s aH aL aY aS T H L) aL t = if t = T then (L : Int) else sI s aL t := by
    intro t
    unfold apS
    rw [put_ne nL, put_ne d5, put_ne d4, put_at, put_ne d1.symm]
  have eY : ∀ t, sI (apS s aH aL aY aS T H L) aY t = if t = T then 0 else sI s aY t := by
    intro t
    unfold apS
    rw [put_ne nY, put_ne d6, put_at, put_ne d4.symm, put_ne d2.symm]
  have eS : ∀ t, sI (apS s aH aL aY aS T H L) aS t = if t = T then 0 else sI s aS t := by
    intro t
    unfold apS
    rw [put_ne nS, put_at, put_ne d6.symm, put_ne d5.symm, put_ne d3.symm]
  have e3 : ∀ j, sI (apS s aH aL aY aS T H L) 3 j = if j = 1 then (T : Int) + 1 else sI s 3 j := by
    intro j
    unfold apS
    rw [put_at, put_ne nS.symm, put_ne nY.symm, put_ne nL.symm, put_ne nH.symm]
  refine ⟨h1, by rw [e3, if_pos rfl]; rfl, fun j hj => by rw [e3, if_neg hj]; exact h3 j hj, ?_, ?_, ?_⟩
  · intro x a b c d e f
    unfold apS
    rw [put_ne a, put_ne f, put_ne e, put_ne d, put_ne c]
    exact h4 x a b c d e f
  · intro t ht
    by_cases e : t = T
    · rw [eH, eL, if_pos e, if_pos e]
      refine ⟨by omega, by omega, fun f' x' y' z' w' hv' hN' => ?_⟩
      rw [Int.toNat_natCast, Int.toNat_natCast]
      obtain ⟨r1, r2, r3, r4, r5⟩ := Nm_inj hv hv' (by rw [← hN, ← hN', e])
      subst r1 r2 r3 r4 r5
      exact hb
    · rw [eH, eL, if_neg e, if_neg e]
      exact h5 t (by omega)
  · intro t ht
    rw [eY, eS]
    by_cases e : t = T
    · rw [if_pos e, if_pos e]
      exact ⟨rfl, rfl⟩
    · rw [if_neg e, if_neg e]
      exact h6 t (by omega)

theorem v_Truths_addAllWith_0 (d : Nat) (aH nH aL nL aY nY aS nS : Nat) (p1 : Int) (σ : am_S) (K : am_S → Prop) (hR : TR σ aH nH aL nL aY nY aS nS) (h :
  am_Runs PP MLL (d + 1) m_Truths_addAllWith 2 [some (qr (3, 9, 11)), some (qi p1), some (qi 0), none] [] σ (kV K)) : am_Runs PP MLL (d + 1) m_Truths_addAllWith 0 [some (qr (3, 9, 11)), some (qi p1), none, none] [] σ (kV K) := am_wEF_ok (orc []) 200 (h)

theorem v_Truths_addAllWith_2 (d : Nat) (aH nH aL nL aY nY aS nS : Nat) (p1 v2 : Int) (z3 : Option am_V) (σ : am_S) (K : am_S → Prop) (hR : TR σ aH nH aL nL aY nY aS nS) (h :
  ((p1 ≤ v2 →
    am_Calls PP MLL (d + 1) m_Truths_choices [qi (sI σ 3 0), qi p1] σ (kI fun x3 s3 =>
      (TR s3 aH nH aL nL aY nY aS nS) ∧
      am_Runs PP MLL (d + 1) m_Truths_addAllWith 17 [some (qr (3, 9, 11)), some (qi p1), some (qi x3), z3] [] s3 (kV K))) ∧
  (¬ (p1 ≤ v2) →
    (0 ≤ v2 ∧ v2 < 3 ∧ -2147483648 ≤ v2 + 1 ∧ v2 + 1 < 2147483648) ∧
    am_Runs PP MLL (d + 1) m_Truths_addAllWith 2 [some (qr (3, 9, 11)), some (qi p1), some (qi (v2 + 1)), z3] [] (putI σ 8 (Int.toNat v2) v2) (kV K)))) : am_Runs PP MLL (d + 1) m_Truths_addAllWith 2 [some (qr (3, 9, 11)), some (qi p1), some (qi v2), z3] [] σ (kV K) := am_wEF_ok (orc [(6, 8, 20, 3)]) 200 (⟨fun c2 => ⟨rfl, (am_cI (h.1 c2) fun x3 s3 h3 => h3.2)⟩, fun c2 => ⟨⟨rfl, (hR.1 3 10 _ rfl)⟩, ⟨⟨rfl, (h.2 c2).1.1, (h.2 c2).1.2.1⟩, ⟨⟨(h.2 c2).1.2.2.1, (h.2 c2).1.2.2.2⟩, (h.2 c2).2⟩⟩⟩⟩)

theorem v_Truths_addAllWith_17 (d : Nat) (aH nH aL nL aY nY aS nS : Nat) (p1 v2 : Int) (z3 : Option am_V) (σ : am_S) (K : am_S → Prop) (hR : TR σ aH nH aL nL aY nY aS nS) (h :
  ((v2 ≤ 0 →
    K σ) ∧
  (¬ (v2 ≤ 0) →
    am_Runs PP MLL (d + 1) m_Truths_addAllWith 21 [some (qr (3, 9, 11)), some (qi p1), some (qi v2), some (qi 0)] [] σ (kV K)))) : am_Runs PP MLL (d + 1) m_Truths_addAllWith 17 [some (qr (3, 9, 11)), some (qi p1), some (qi v2), z3] [] σ (kV K) := am_wEF_ok (orc []) 200 (⟨fun c2 => (h.1 c2), fun c2 => (h.2 c2)⟩)

theorem v_Truths_addAllWith_21 (d : Nat) (aH nH aL nL aY nY aS nS : Nat) (p1 v2 v3 : Int) (σ : am_S) (K : am_S → Prop) (hR : TR σ aH nH aL nL aY nY aS nS) (h :
  (((if (sI σ 3 5) = 3 then (a_shl 1 p1 : Int) else 1) ≤ v3 →
    am_Calls PP MLL (d + 1) m_Truths_pickNext [qr (3, 9, 11), qi p1] σ (kV fun s4 =>
      (TR s4 aH nH aL nL aY nY aS nS) ∧
      (-2147483648 ≤ v2 + (-1) ∧ v2 + (-1) < 2147483648) ∧
      am_Runs PP MLL (d + 1) m_Truths_addAllWith 17 [some (qr (3, 9, 11)), some (qi p1), some (qi (v2 + (-1))), some (qi v3)] [] s4 (kV K))) ∧
  (¬ ((if (sI σ 3 5) = 3 then (a_shl 1 p1 : Int) else 1) ≤ v3) →
    am_Calls PP MLL (d + 1) m_Truths_addPicked [qr (3, 9, 11), qi p1, qi v3] σ (kV fun s5 =>
      (TR s5 aH nH aL nL aY nY aS nS) ∧
      (-2147483648 ≤ v3 + 1 ∧ v3 + 1 < 2147483648) ∧
      am_Runs PP MLL (d + 1) m_Truths_addAllWith 21 [some (qr (3, 9, 11)), some (qi p1), some (qi v2), some (qi (v3 + 1))] [] s5 (kV K))))) : am_Runs PP MLL (d + 1) m_Truths_addAllWith 21 [some (qr (3, 9, 11)), some (qi p1), some (qi v2), some (qi v3)] [] σ (kV K) := am_wEF_ok (orc []) 200 (⟨rfl, am_wEC_ok (orc []) [8] 200 (am_use (fun H6 => ⟨fun c1 => (Eq.mp (congrArg (fun z => am_Runs _ _ _ _ _ _ (qi z :: _) _ _) (if_pos c1 : (if (sI σ 3 5) = 3 then (a_shl 1 p1 : Int) else 1) = a_shl 1 p1)) H6), fun c1 => (Eq.mp (congrArg (fun z => am_Runs _ _ _ _ _ _ (qi z :: _) _ _) (if_neg c1 : (if (sI σ 3 5) = 3 then (a_shl 1 p1 : Int) else 1) = 1)) H6)⟩) (am_wEC_ok (orc []) [8] 200 (⟨fun c3 => ⟨rfl, (am_cV (h.1 c3) fun s4 h4 => ⟨⟨h4.2.1.1, h4.2.1.2⟩, h4.2.2⟩)⟩, fun c3 => ⟨rfl, (am_cV (h.2 c3) fun s5 h5 => ⟨⟨h5.2.1.1, h5.2.1.2⟩, h5.2.2⟩)⟩⟩)))⟩)

theorem c_addAllWith (d : Nat) {own : Nat → Nat} {aH nH aL nL aY nY aS nS : Nat} {n l m f : Nat} {kd : Int} {σ σ0 : am_S} {K : am_S → Prop} (hR : TR σ0 aH nH aL nL aY nY aS nS) (hO : OW own aH aL aY aS) (hn : n ≤ 40) (hk : kd = 1 ∨ kd = 2 ∨ kd = 3) (h30 : sI σ0 3 0 = n) (hkd : sI σ0 3 5 = kd) (hlf : l ≤ f) (hfm : f ≤ m) (hf : f ≤ 3) (hfn : f ≤ n) (htot : bs n l kd (f + 1) ≤ 10000) (hH : bs n l kd (f + 1) ≤ nH) (hL : bs n l kd (f + 1) ≤ nL) (hY : bs n l kd (f + 1) ≤ nY) (hS : bs n l kd (f + 1) ≤ nS)
    (hc : CA σ0 σ aH aL aY aS n l m kd (bs n l kd f)) (h : ∀ s, CA σ0 s aH aL aY aS n l m kd (bs n l kd (f + 1)) → K s) : am_Calls PP MLL (d + 2) m_Truths_addAllWith [qr (3, 9, 11), qi (f : Int)] σ (kV K) := by
  have hTR : ∀ s T, CA σ0 s aH aL aY aS n l m kd T → TR s aH nH aL nL aY nY aS nS := by
    intro s T hs
    have e : sR s = sR σ0 := by
      have := hs.1
      funext a j
      unfold sR
      rw [this]
    unfold TR CF
    rw [e]
    exact hR
  have e3 : ∀ s T, CA σ0 s aH aL aY aS n l m kd T → sI s 3 0 = n ∧ sI s 3 5 = kd ∧ sI s 3 1 = T := fun s T hs => ⟨(hs.2.2.1 0 (by decide)).trans h30, (hs.2.2.1 5 (by decide)).trans hkd, hs.2.1⟩
  have hbs := bs_s (n := n) (kd := kd) hlf
  have hw1 := wy_pos kd f
  have hw8 := wy_le (kd := kd) hf
  have hch : ch n f ≤ 9880 := by
    have := ch_bd n (by omega)
    unfold ch
    (repeat' split) <;> omega
  -- the ways of one set
  have ways : ∀ (T x y z : Nat) (k : Nat), Vc n l m kd f x y z 0 → T = Nm n l kd f x y z 0 → T + wy kd f ≤ bs n l kd (f + 1) → (∀ s, CA σ0 s aH aL aY aS n l m kd (T + wy kd f) → PKd s f x y z → am_Calls PP MLL (d + 1) m_Truths_pickNext [qr (3, 9, 11), qi (f : Int)] s (kV fun s4 => (TR s4 aH nH aL nL aY nY aS nS) ∧ (-2147483648 ≤ (k : Int) + (-1) ∧ (k : Int) + (-1) < 2147483648) ∧ am_Runs PP MLL (d + 1) m_Truths_addAllWith 17 [some (qr (3, 9, 11)), some (qi (f : Int)), some (qi ((k : Int) + (-1))), some (qi ((wy kd f : Nat) : Int))] [] s4 (kV K))) → ∀ w : Nat, w ≤ wy kd f → ∀ s, CA σ0 s aH aL aY aS n l m kd (T + w) → PKd s f x y z → am_Runs PP MLL (d + 1) m_Truths_addAllWith 21 [some (qr (3, 9, 11)), some (qi (f : Int)), some (qi (k : Int)), some (qi (w : Int))] [] s (kV K) := by
    intro T x y z k hv hT hroom hend
    refine lp ?_ ?_
    · intro s hs hp
      refine v_Truths_addAllWith_21 d aH nH aL nL aY nY aS nS f k _ s K (hTR s _ hs) ⟨fun _ => hend s hs hp, fun c => absurd ?_ c⟩
      rw [(e3 s _ hs).2.1, wy_eq hf]
      exact Int.le_refl _
    · intro w hw ih s hs hp
      obtain ⟨e30, e35, e31⟩ := e3 s _ hs
      have hvw : Vc n l m kd f x y z w := ⟨hv.1, hv.2.1, hv.2.2.1, hv.2.2.2.1, hv.2.2.2.2.1, hv.2.2.2.2.2.1, hv.2.2.2.2.2.2.1, hv.2.2.2.2.2.2.2.1, hv.2.2.2.2.2.2.2.2.1, hw⟩
      have hNw : T + w = Nm n l kd f x y z w := by
        rw [hT]
        rfl
      refine v_Truths_addAllWith_21 d aH nH aL nL aY nY aS nS f k _ s K (hTR s _ hs) ⟨fun c => absurd c ?_, fun _ => ?_⟩
      · rw [e35, wy_eq hf]
        omega
      · refine c_addPicked d (hTR s _ hs) hO hn hk e35 e31 (by omega) (by omega) (by omega) (by omega) (by omega) hvw (PKd_pks hf hp) fun H L hb => ?_
        have hs2 := CA_add hO hs hvw hNw hb
        refine ⟨hTR _ _ hs2, by omega, ih _ hs2 ?_⟩
        obtain ⟨o1, o2, o3, o4, o5⟩ := hO
        have e8 : sI (apS s aH aL aY aS (T + w) H L) 8 = sI s 8 := by
          unfold apS
          rw [put_ne (by decide), put_ne (own_ne (o1 8 (by decide)) o5 (by decide)), put_ne (own_ne (o1 8 (by decide)) o4 (by decide)), put_ne (own_ne (o1 8 (by decide)) o3 (by decide)), put_ne (own_ne (o1 8 (by decide)) o2 (by decide))]
        unfold PKd
        rw [e8]
        exact hp
  -- the sets
  have sets : ∀ (k : Nat) (s : am_S) (x y z : Nat) (z3 : Option am_V), k ≤ ch n f → (0 < k → Vc n l m kd f x y z 0 ∧ rk n f x y z + k = ch n f ∧ PKd s f x y z) → CA σ0 s aH aL aY aS n l m kd (bs n l kd f + (ch n f - k) * wy kd f) → am_Runs PP MLL (d + 1) m_Truths_addAllWith 17 [some (qr (3, 9, 11)), some (qi (f : Int)), some (qi (k : Int)), z3] [] s (kV K) := by
    intro k
    induction k with
    | zero =>
      intro s x y z z3 _ _ hs
      refine v_Truths_addAllWith_17 d aH nH aL nL aY nY aS nS f _ z3 s K (hTR s _ hs) ⟨fun _ => ?_, fun c => absurd (by omega) c⟩
      rw [Nat.sub_zero, ← hbs] at hs
      exact h s hs
    | succ k ih =>
      intro s x y z z3 hkc hx hs
      obtain ⟨hv, hrk, hp⟩ := hx (by omega)
      refine v_Truths_addAllWith_17 d aH nH aL nL aY nY aS nS f _ z3 s K (hTR s _ hs) ⟨fun c => absurd c (by omega), fun _ => ?_⟩
      have hT : bs n l kd f + (ch n f - (k + 1)) * wy kd f = Nm n l kd f x y z 0 := by
        show _ = bs n l kd f + rk n f x y z * wy kd f + 0
        rw [show ch n f - (k + 1) = rk n f x y z by omega]
        rfl
      have hadd : bs n l kd f + (ch n f - (k + 1)) * wy kd f + wy kd f = bs n l kd f + (ch n f - k) * wy kd f := by
        rw [show ch n f - k = (ch n f - (k + 1)) + 1 by omega, Nat.add_mul, Nat.one_mul, Nat.add_assoc]
      have hroom : bs n l kd f + (ch n f - (k + 1)) * wy kd f + wy kd f ≤ bs n l kd (f + 1) := by
        rw [hadd, hbs]
        exact Nat.add_le_add_left (Nat.mul_le_mul_right _ (by omega)) _
      refine ways _ x y z (k + 1) hv hT hroom ?_ 0 (Nat.zero_le _) s hs hp
      intro s4 hs4 hp4
      obtain ⟨e30, e35, e31⟩ := e3 s4 _ hs4
      refine c_pickNext d (x := x) (y := y) (z := z) (hTR s4 _ hs4) hn hf e30 (fun q => ⟨hp4.1 q, hv.2.2.2.1 q⟩) (fun q => ⟨hp4.2.1 q, (hv.2.2.2.2.1 q).2⟩) (fun q => ⟨hp4.2.2 q, (hv.2.2.2.2.2.1 q).2⟩) ?_
      have hs5 := CA_pk (N := n) (f := f) (x := x) (y := y) (z := z) hO hs4
      refine ⟨hTR _ _ hs5, by omega, ?_⟩
      rw [show ((k + 1 : Nat) : Int) + (-1) = (k : Int) by omega]
      rw [hadd] at hs5
      by_cases hk0 : 0 < k
      · obtain ⟨k', rfl⟩ : ∃ k', k = k' + 1 := ⟨k - 1, by omega⟩
        obtain ⟨x', y', z', q1, q2, q3⟩ := pk_next (s := s4) hv (by omega) hp4
        exact ih _ x' y' z' _ (by omega) (fun _ => ⟨q1, q2, q3⟩) hs5
      · exact ih _ 0 0 0 _ (by omega) (fun q => absurd q hk0) hs5
  -- the first set
  have first : ∀ i : Nat, i ≤ f → ∀ s z3, CA σ0 s aH aL aY aS n l m kd (bs n l kd f) → (∀ j : Nat, j < i → sI s 8 j = j) → am_Runs PP MLL (d + 1) m_Truths_addAllWith 2 [some (qr (3, 9, 11)), some (qi (f : Int)), some (qi (i : Int)), z3] [] s (kV K) := by
    refine lp ?_ ?_
    · intro s z3 hs hj
      refine v_Truths_addAllWith_2 d aH nH aL nL aY nY aS nS f _ z3 s K (hTR s _ hs) ⟨fun _ => ?_, fun c => absurd (Int.le_refl _) c⟩
      rw [(e3 s _ hs).1]
      refine c_choices d hn hf ⟨hTR s _ hs, ?_⟩
      have hs0 : CA σ0 s aH aL aY aS n l m kd (bs n l kd f + (ch n f - ch n f) * wy kd f) := by
        rw [Nat.sub_self, Nat.zero_mul]
        exact hs
      refine sets (ch n f) s 0 (if 2 ≤ f then 1 else 0) (if 3 ≤ f then 2 else 0) z3 (Nat.le_refl _) (fun _ => ⟨?_, ?_, ?_⟩) hs0
      · refine ⟨hlf, hfm, hf, fun _ => by omega, fun q => ?_, fun q => ?_, fun _ => rfl, fun q => if_neg (by omega), fun q => if_neg (by omega), by omega⟩
        · rw [if_pos q]; omega
        · rw [if_pos q, if_pos (by omega)]; omega
      · have e0 : rk n f 0 (if 2 ≤ f then 1 else 0) (if 3 ≤ f then 2 else 0) = 0 := by
          rcases (show f = 0 ∨ f = 1 ∨ f = 2 ∨ f = 3 by omega) with rfl | rfl | rfl | rfl
          · rfl
          · rfl
          · show C2 n - C2 (n - 0) + (1 - 0 - 1) = 0
            rw [Nat.sub_zero]
            omega
          · show C3 n - C3 (n - 0) + (C2 (n - 1 - 0) - C2 (n - 1)) + (2 - 1 - 1) = 0
            rw [Nat.sub_zero, Nat.sub_zero]
            omega
        omega
      · refine ⟨fun q => hj 0 (by omega), fun q => ?_, fun q => ?_⟩
        · rw [if_pos q]; exact hj 1 (by omega)
        · rw [if_pos q]; exact hj 2 (by omega)
    · intro i hi ih s z3 hs hj
      refine v_Truths_addAllWith_2 d aH nH aL nL aY nY aS nS f _ z3 s K (hTR s _ hs) ⟨fun c => absurd c (by omega), fun _ => ⟨by omega, ?_⟩⟩
      rw [Int.toNat_natCast]
      refine ih _ _ (CA_8 hO hs) ?_
      intro j hj2
      rw [put_at]
      by_cases e : j = i
      · rw [if_pos e, e]
      · rw [if_neg e]
        exact hj j (by omega)
  exact v_Truths_addAllWith_0 d aH nH aL nL aY nY aS nS f σ K (hTR σ _ hc) (first 0 (Nat.zero_le _) σ _ hc (fun j hj => absurd hj (Nat.not_lt_zero j)))
