/-! the reference: makeTruths, coins -/
theorem v_M_makeTruths_0 (d : Nat) (p1 p2 : Int) (σ : am_S) (K : am_S → Prop) (hF : MF σ) (h :
  am_Runs PP MLL (d + 2) m_M_makeTruths 5 [some (qr (31, 12, 89)), some (qi p1), some (qi p2), some (qi p1), none, none, none] [] (putI σ 31 5 0) (kV K)) : am_Runs PP MLL (d + 2) m_M_makeTruths 0 [some (qr (31, 12, 89)), some (qi p1), some (qi p2), none, none, none, none] [] σ (kV K) := am_wEF_ok (orc []) 200 (⟨rfl, h⟩)

theorem v_M_makeTruths_5 (d : Nat) (p2 v3 : Int) (z1 z4 z5 z6 : Option am_V) (σ : am_S) (K : am_S → Prop) (hF : MF σ) (h :
  ((p2 < v3 →
    K σ) ∧
  (¬ (p2 < v3) →
    (0 ≤ v3 ∧ v3 < 4) ∧
    ((v3 = 0 →
      am_Calls PP MLL (d + 2) m_M_addTruths [qr (31, 12, 89), qi 0, qi 0, qi 0, qi 0] (putI σ 32 (Int.toNat v3) (sI σ 31 5)) (kV fun s5 =>
        (MF s5) ∧
        am_Runs PP MLL (d + 2) m_M_makeTruths 24 [some (qr (31, 12, 89)), z1, some (qi p2), some (qi v3), some (qi 0), z5, z6] [] s5 (kV K))) ∧
    (¬ (v3 = 0) →
      am_Runs PP MLL (d + 2) m_M_makeTruths 24 [some (qr (31, 12, 89)), z1, some (qi p2), some (qi v3), some (qi 0), z5, z6] [] (putI σ 32 (Int.toNat v3) (sI σ 31 5)) (kV K)))))) : am_Runs PP MLL (d + 2) m_M_makeTruths 5 [some (qr (31, 12, 89)), z1, some (qi p2), some (qi v3), z4, z5, z6] [] σ (kV K) := am_wEF_ok (orc [(9, 32, 20, 4)]) 200 (⟨fun c2 => (h.1 c2), fun c2 => ⟨⟨rfl, (hF 6)⟩, ⟨rfl, ⟨⟨rfl, (h.2 c2).1.1, (h.2 c2).1.2⟩, ⟨fun c4 => ⟨rfl, (am_cV ((h.2 c2).2.1 c4) fun s5 h5 => h5.2)⟩, fun c4 => ((h.2 c2).2.2 c4)⟩⟩⟩⟩⟩)

theorem v_M_makeTruths_24 (d : Nat) (p2 v3 v4 : Int) (z1 z5 z6 : Option am_V) (σ : am_S) (K : am_S → Prop) (hF : MF σ) (h :
  ((v3 ≤ 0 →
    (-2147483648 ≤ v3 + 1 ∧ v3 + 1 < 2147483648) ∧
    am_Runs PP MLL (d + 2) m_M_makeTruths 5 [some (qr (31, 12, 89)), z1, some (qi p2), some (qi (v3 + 1)), some (qi v4), z5, z6] [] σ (kV K)) ∧
  (¬ (v3 ≤ 0) →
    (((sI σ 31 2) ≤ v4 →
      (-2147483648 ≤ v3 + 1 ∧ v3 + 1 < 2147483648) ∧
      am_Runs PP MLL (d + 2) m_M_makeTruths 5 [some (qr (31, 12, 89)), z1, some (qi p2), some (qi (v3 + 1)), some (qi v4), z5, z6] [] σ (kV K)) ∧
    (¬ ((sI σ 31 2) ≤ v4) →
      ((v3 = 1 →
        am_Calls PP MLL (d + 2) m_M_addTruths [qr (31, 12, 89), qi 1, qi v4, qi 0, qi 0] σ (kV fun s10 =>
          (MF s10) ∧
          (-2147483648 ≤ v4 + 1 ∧ v4 + 1 < 2147483648) ∧
          am_Runs PP MLL (d + 2) m_M_makeTruths 43 [some (qr (31, 12, 89)), z1, some (qi p2), some (qi v3), some (qi v4), some (qi (v4 + 1)), z6] [] s10 (kV K))) ∧
      (¬ (v3 = 1) →
        (-2147483648 ≤ v4 + 1 ∧ v4 + 1 < 2147483648) ∧
        am_Runs PP MLL (d + 2) m_M_makeTruths 43 [some (qr (31, 12, 89)), z1, some (qi p2), some (qi v3), some (qi v4), some (qi (v4 + 1)), z6] [] σ (kV K)))))))) : am_Runs PP MLL (d + 2) m_M_makeTruths 24 [some (qr (31, 12, 89)), z1, some (qi p2), some (qi v3), some (qi v4), z5, z6] [] σ (kV K) := am_wEF_ok (orc []) 200 (⟨fun c4 => ⟨⟨(h.1 c4).1.1, (h.1 c4).1.2⟩, (h.1 c4).2⟩, fun c4 => ⟨rfl, ⟨fun c7 => ⟨⟨((h.2 c4).1 c7).1.1, ((h.2 c4).1 c7).1.2⟩, ((h.2 c4).1 c7).2⟩, fun c7 => ⟨fun c9 => ⟨rfl, (am_cV (((h.2 c4).2 c7).1 c9) fun s10 h10 => ⟨⟨h10.2.1.1, h10.2.1.2⟩, h10.2.2⟩)⟩, fun c9 => ⟨⟨(((h.2 c4).2 c7).2 c9).1.1, (((h.2 c4).2 c7).2 c9).1.2⟩, (((h.2 c4).2 c7).2 c9).2⟩⟩⟩⟩⟩)

theorem v_M_makeTruths_43 (d : Nat) (p2 v3 v4 v5 : Int) (z1 z6 : Option am_V) (σ : am_S) (K : am_S → Prop) (hF : MF σ) (h :
  ((v3 ≤ 1 →
    (-2147483648 ≤ v4 + 1 ∧ v4 + 1 < 2147483648) ∧
    am_Runs PP MLL (d + 2) m_M_makeTruths 24 [some (qr (31, 12, 89)), z1, some (qi p2), some (qi v3), some (qi (v4 + 1)), some (qi v5), z6] [] σ (kV K)) ∧
  (¬ (v3 ≤ 1) →
    (((sI σ 31 2) ≤ v5 →
      (-2147483648 ≤ v4 + 1 ∧ v4 + 1 < 2147483648) ∧
      am_Runs PP MLL (d + 2) m_M_makeTruths 24 [some (qr (31, 12, 89)), z1, some (qi p2), some (qi v3), some (qi (v4 + 1)), some (qi v5), z6] [] σ (kV K)) ∧
    (¬ ((sI σ 31 2) ≤ v5) →
      ((v3 = 2 →
        am_Calls PP MLL (d + 2) m_M_addTruths [qr (31, 12, 89), qi 2, qi v4, qi v5, qi 0] σ (kV fun s10 =>
          (MF s10) ∧
          (-2147483648 ≤ v5 + 1 ∧ v5 + 1 < 2147483648) ∧
          am_Runs PP MLL (d + 2) m_M_makeTruths 63 [some (qr (31, 12, 89)), z1, some (qi p2), some (qi v3), some (qi v4), some (qi v5), some (qi (v5 + 1))] [] s10 (kV K))) ∧
      (¬ (v3 = 2) →
        (-2147483648 ≤ v5 + 1 ∧ v5 + 1 < 2147483648) ∧
        am_Runs PP MLL (d + 2) m_M_makeTruths 63 [some (qr (31, 12, 89)), z1, some (qi p2), some (qi v3), some (qi v4), some (qi v5), some (qi (v5 + 1))] [] σ (kV K)))))))) : am_Runs PP MLL (d + 2) m_M_makeTruths 43 [some (qr (31, 12, 89)), z1, some (qi p2), some (qi v3), some (qi v4), some (qi v5), z6] [] σ (kV K) := am_wEF_ok (orc []) 200 (⟨fun c4 => ⟨⟨(h.1 c4).1.1, (h.1 c4).1.2⟩, (h.1 c4).2⟩, fun c4 => ⟨rfl, ⟨fun c7 => ⟨⟨((h.2 c4).1 c7).1.1, ((h.2 c4).1 c7).1.2⟩, ((h.2 c4).1 c7).2⟩, fun c7 => ⟨fun c9 => ⟨rfl, (am_cV (((h.2 c4).2 c7).1 c9) fun s10 h10 => ⟨⟨h10.2.1.1, h10.2.1.2⟩, h10.2.2⟩)⟩, fun c9 => ⟨⟨(((h.2 c4).2 c7).2 c9).1.1, (((h.2 c4).2 c7).2 c9).1.2⟩, (((h.2 c4).2 c7).2 c9).2⟩⟩⟩⟩⟩)

theorem v_M_makeTruths_63 (d : Nat) (p2 v3 v4 v5 v6 : Int) (z1 : Option am_V) (σ : am_S) (K : am_S → Prop) (hF : MF σ) (h :
  ((v3 ≤ 2 →
    (-2147483648 ≤ v5 + 1 ∧ v5 + 1 < 2147483648) ∧
    am_Runs PP MLL (d + 2) m_M_makeTruths 43 [some (qr (31, 12, 89)), z1, some (qi p2), some (qi v3), some (qi v4), some (qi (v5 + 1)), some (qi v6)] [] σ (kV K)) ∧
  (¬ (v3 ≤ 2) →
    (((sI σ 31 2) ≤ v6 →
      (-2147483648 ≤ v5 + 1 ∧ v5 + 1 < 2147483648) ∧
      am_Runs PP MLL (d + 2) m_M_makeTruths 43 [some (qr (31, 12, 89)), z1, some (qi p2), some (qi v3), some (qi v4), some (qi (v5 + 1)), some (qi v6)] [] σ (kV K)) ∧
    (¬ ((sI σ 31 2) ≤ v6) →
      am_Calls PP MLL (d + 2) m_M_addTruths [qr (31, 12, 89), qi 3, qi v4, qi v5, qi v6] σ (kV fun s6 =>
        (MF s6) ∧
        (-2147483648 ≤ v6 + 1 ∧ v6 + 1 < 2147483648) ∧
        am_Runs PP MLL (d + 2) m_M_makeTruths 63 [some (qr (31, 12, 89)), z1, some (qi p2), some (qi v3), some (qi v4), some (qi v5), some (qi (v6 + 1))] [] s6 (kV K))))))) : am_Runs PP MLL (d + 2) m_M_makeTruths 63 [some (qr (31, 12, 89)), z1, some (qi p2), some (qi v3), some (qi v4), some (qi v5), some (qi v6)] [] σ (kV K) := am_wEF_ok (orc []) 200 (⟨fun c3 => ⟨⟨(h.1 c3).1.1, (h.1 c3).1.2⟩, (h.1 c3).2⟩, fun c3 => ⟨rfl, ⟨fun c5 => ⟨⟨((h.2 c3).1 c5).1.1, ((h.2 c3).1 c5).1.2⟩, ((h.2 c3).1 c5).2⟩, fun c5 => ⟨rfl, (am_cV ((h.2 c3).2 c5) fun s6 h6 => ⟨⟨h6.2.1.1, h6.2.1.2⟩, h6.2.2⟩)⟩⟩⟩⟩)

def GI (s : am_S) (n l m : Nat) (kd : Int) (T : Nat) : Prop := ∀ t, t < T → ∃ f x y z w, Vc n l m kd f x y z w ∧ t = Nm n l kd f x y z w ∧ DT s t f x y z kd w
def IvM (σ s : am_S) (n l m : Nat) (kd : Int) (g T : Nat) : Prop := frT s σ ∧ sI s 31 5 = T ∧ (∀ k, l ≤ k → k < g → sI s 32 k = bs n l kd k) ∧ GI s n l m kd T
theorem Iv_add {σ s s' : am_S} {n l m g T f x y z : Nat} {kd : Int} (h : IvM σ s n l m kd g T) (ha : AddP s s' T f x y z kd (wy kd f)) (hv : Vc n l m kd f x y z 0) (hT : T = Nm n l kd f x y z 0) : IvM σ s' n l m kd g (T + wy kd f) := by
  obtain ⟨h1, h2, h3, h4⟩ := h
  obtain ⟨a1, a2, a3, a4, a5⟩ := ha
  refine ⟨frT_tr a1 h1, a3, fun k hk hg => by rw [a2]; exact h3 k hk hg, fun t ht => ?_⟩
  by_cases e : t < T
  · obtain ⟨f, x, y, z, w, b1, b2, b3⟩ := h4 t e
    exact ⟨f, x, y, z, w, b1, b2, DT_same b1.2.2.1 (a4 t e) b3⟩
  · refine ⟨f, x, y, z, t - T, ?_, ?_, ?_⟩
    · obtain ⟨b1, b2, b3, b4, b5, b6, b7, b8, b9, b10⟩ := hv
      exact ⟨b1, b2, b3, b4, b5, b6, b7, b8, b9, by omega⟩
    · unfold Nm at hT ⊢; omega
    · have := a5 (t - T) (by omega)
      rw [show T + (t - T) = t by omega] at this
      exact this
theorem pos_3 {n x y z : Nat} (h1 : x < y) (h2 : y < z) (h3 : z ≤ n) : rk n 3 x y z = C3 n - C3 (n - x) + (C2 (n - 1 - x) - C2 (n - y)) + (z - y - 1) := rfl
theorem mk_add {T W p q b : Nat} (hT : T = b + p * W) (hq : q = p + 1) : T + W = b + q * W := by
  subst hq; subst hT; rw [Nat.add_mul, Nat.one_mul]; omega
def MkP (σ s : am_S) (n l m : Nat) (kd : Int) : Prop := frT s σ ∧ sI s 31 5 = bs n l kd (m + 1) ∧ (∀ k, l ≤ k → k ≤ m → sI s 32 k = bs n l kd k) ∧ GI s n l m kd (bs n l kd (m + 1))
theorem c_M_makeTruths (d : Nat) {n l m : Nat} {kd : Int} {σ : am_S} {K : am_S → Prop} (hF : MF σ) (hn : sI σ 31 2 = n) (hn2 : n ≤ 40) (hkd : sI σ 31 3 = kd) (hl : l ≤ m) (hm : m ≤ 3) (htot : bs n l kd (m + 1) ≤ 10000) (h : ∀ s, MkP σ s n l m kd → K s) : am_Calls PP MLL (d + 3) m_M_makeTruths [qr (31, 12, 89), qi (l : Int), qi (m : Int)] σ (kV K) := by
  refine v_M_makeTruths_0 d l m σ K hF ?_
  have room : ∀ f x y z, Vc n l m kd f x y z 0 → Nm n l kd f x y z 0 + wy kd f ≤ 10000 := by
    intro f x y z hv
    obtain ⟨b1, b2, b3, b4, b5, b6, b7, b8, b9, b10⟩ := hv
    have h1 := wy_pos kd f
    have h2 := Nm_lt (w := wy kd f - 1) (show Vc n l m kd f x y z (wy kd f - 1) from ⟨b1, b2, b3, b4, b5, b6, b7, b8, b9, by omega⟩)
    unfold Nm at h2 ⊢
    omega
  have fld : ∀ s g T, IvM σ s n l m kd g T → sI s 31 2 = n ∧ sI s 31 3 = kd ∧ MF s ∧ sI s 31 5 = T := fun s g T hs => ⟨(hs.1.2.2 2 (by decide)).trans hn, (hs.1.2.2 3 (by decide)).trans hkd, frT_MF hs.1 hF, hs.2.1⟩
  have hf : ∀ f : Nat, f ≤ m + 1 → l ≤ f → ∀ s, IvM σ s n l m kd f (bs n l kd f) → ∀ z1 z4 z5 z6, am_Runs PP MLL (d + 2) m_M_makeTruths 5 [some (qr (31, 12, 89)), z1, some (qi (m : Int)), some (qi (f : Int)), z4, z5, z6] [] s (kV K) := by
    refine lp ?_ ?_
    · intro _ s hs z1 z4 z5 z6
      obtain ⟨_, _, hFs, _⟩ := fld _ _ _ hs
      refine v_M_makeTruths_5 d m _ z1 z4 z5 z6 s K hFs ⟨fun _ => h s ⟨hs.1, hs.2.1, fun k hk hg => hs.2.2.1 k hk (by omega), hs.2.2.2⟩, fun c => absurd (by omega) c⟩
    · intro f hfm ihf hlf s hs z1 z4 z5 z6
      have ihf := ihf (by omega)
      have W := wy_pos kd f
      -- behind the coins
      have hx : ∀ x : Nat, x ≤ n → 1 ≤ f → ∀ s, IvM σ s n l m kd (f + 1) (bs n l kd f + (if f = 1 then x else if f = 2 then C2 n - C2 (n - x) else C3 n - C3 (n - x)) * wy kd f) → ∀ z1 z5 z6, am_Runs PP MLL (d + 2) m_M_makeTruths 24 [some (qr (31, 12, 89)), z1, some (qi (m : Int)), some (qi (f : Int)), some (qi (x : Int)), z5, z6] [] s (kV K) := by
        refine lp ?_ ?_
        · intro hf1 s hs z1 z5 z6
          obtain ⟨h2, h3, hFs, h5⟩ := fld _ _ _ hs
          refine v_M_makeTruths_24 d m f _ z1 z5 z6 s K hFs ⟨fun c => absurd c (by omega), fun _ => ⟨fun _ => ⟨by omega, ?_⟩, fun c => absurd (by omega) c⟩⟩
          refine ihf s ?_ z1 _ z5 z6
          rw [bs_s hlf]
          have e : (if f = 1 then n else if f = 2 then C2 n - C2 (n - n) else C3 n - C3 (n - n)) = ch n f := by
            unfold ch
            rw [Nat.sub_self, if_neg (show ¬ f = 0 by omega)]
            rfl
          rw [e] at hs
          exact hs
        · intro x hxn ihx hf1 s hs z1 z5 z6
          have ihx := ihx hf1
          obtain ⟨h2, h3, hFs, h5⟩ := fld _ _ _ hs
          refine v_M_makeTruths_24 d m f _ z1 z5 z6 s K hFs ⟨fun c => absurd c (by omega), fun _ => ⟨fun c => absurd c (by omega), fun _ => ⟨fun c => ?_, fun c => ?_⟩⟩⟩
          · -- one coin
            have hf' : f = 1 := by omega
            subst hf'
            have hv : Vc n l m kd 1 x 0 0 0 := ⟨hlf, by omega, by omega, fun _ => hxn, fun c => absurd c (by omega), fun c => absurd c (by omega), fun c => absurd c (by omega), fun _ => rfl, fun _ => rfl, by omega⟩
            have hT : bs n l kd 1 + (if 1 = 1 then x else if 1 = 2 then C2 n - C2 (n - x) else C3 n - C3 (n - x)) * wy kd 1 = Nm n l kd 1 x 0 0 0 := rfl
            rw [hT] at hs
            refine c_M_addTruths d (f := 1) (x := x) (y := 0) (z := 0) hFs hs.2.1 h3 (by omega) (room _ _ _ _ hv) (fun s' ha => ⟨frT_MF ha.1 hFs, by omega, ?_⟩)
            have hs' := Iv_add hs ha hv rfl
            refine v_M_makeTruths_43 d m _ x _ z1 z6 s' K (frT_MF ha.1 hFs) ⟨fun _ => ⟨by omega, ?_⟩, fun c => absurd (by decide) c⟩
            refine ihx s' ?_ z1 _ z6
            rw [mk_add (b := bs n l kd 1) (p := x) (q := x + 1) hT.symm rfl] at hs'
            exact hs'
          · -- more
            refine ⟨by omega, ?_⟩
            have hf2 : 2 ≤ f := by omega
            have hy : ∀ y : Nat, y ≤ n → x + 1 ≤ y → ∀ s, IvM σ s n l m kd (f + 1) (bs n l kd f + (if f = 2 then C2 n - C2 (n - x) + (y - x - 1) else C3 n - C3 (n - x) + (C2 (n - 1 - x) - C2 (n - y))) * wy kd f) → ∀ z1 z6, am_Runs PP MLL (d + 2) m_M_makeTruths 43 [some (qr (31, 12, 89)), z1, some (qi (m : Int)), some (qi (f : Int)), some (qi (x : Int)), some (qi (y : Int)), z6] [] s (kV K) := by
              refine lp ?_ ?_
              · intro hxy s hs z1 z6
                obtain ⟨h2, h3, hFs, h5⟩ := fld _ _ _ hs
                refine v_M_makeTruths_43 d m f x _ z1 z6 s K hFs ⟨fun c => absurd c (by omega), fun _ => ⟨fun _ => ⟨by omega, ?_⟩, fun c => absurd (by omega) c⟩⟩
                refine ihx s ?_ z1 _ z6
                have a1 := C2_mono (show n - x ≤ n by omega)
                have a2 := C2_s (show n - x = n - (x + 1) + 1 by omega)
                have a5 := C3_mono (show n - x ≤ n by omega)
                have a6 := C3_s (show n - x = n - (x + 1) + 1 by omega)
                have a7 : n - 1 - x = n - (x + 1) := by omega
                have e : (if f = 2 then C2 n - C2 (n - x) + (n - x - 1) else C3 n - C3 (n - x) + (C2 (n - 1 - x) - C2 (n - n))) = (if f = 1 then x + 1 else if f = 2 then C2 n - C2 (n - (x + 1)) else C3 n - C3 (n - (x + 1))) := by
                  rw [if_neg (show ¬ f = 1 by omega), Nat.sub_self, a7]
                  have a8 : C2 0 = 0 := rfl
                  split <;> omega
                rw [e] at hs
                exact hs
              · intro y hyn ihy hxy s hs z1 z6
                have ihy := ihy (by omega)
                obtain ⟨h2, h3, hFs, h5⟩ := fld _ _ _ hs
                refine v_M_makeTruths_43 d m f x _ z1 z6 s K hFs ⟨fun c => absurd c (by omega), fun _ => ⟨fun c => absurd c (by omega), fun _ => ⟨fun c => ?_, fun c => ?_⟩⟩⟩
                · -- two coins
                  have hf' : f = 2 := by omega
                  subst hf'
                  have hv : Vc n l m kd 2 x y 0 0 := ⟨hlf, by omega, by omega, fun _ => hxn, fun _ => ⟨by omega, hyn⟩, fun c => absurd c (by omega), fun c => absurd c (by omega), fun c => absurd c (by omega), fun _ => rfl, by omega⟩
                  have hT : bs n l kd 2 + (if 2 = 2 then C2 n - C2 (n - x) + (y - x - 1) else C3 n - C3 (n - x) + (C2 (n - 1 - x) - C2 (n - y))) * wy kd 2 = Nm n l kd 2 x y 0 0 := rfl
                  rw [hT] at hs
                  refine c_M_addTruths d (f := 2) (x := x) (y := y) (z := 0) hFs hs.2.1 h3 (by omega) (room _ _ _ _ hv) (fun s' ha => ⟨frT_MF ha.1 hFs, by omega, ?_⟩)
                  have hs' := Iv_add hs ha hv rfl
                  refine v_M_makeTruths_63 d m _ x y _ z1 s' K (frT_MF ha.1 hFs) ⟨fun _ => ⟨by omega, ?_⟩, fun c => absurd (by decide) c⟩
                  refine ihy s' ?_ z1 _
                  rw [mk_add (b := bs n l kd 2) (p := C2 n - C2 (n - x) + (y - x - 1)) (q := C2 n - C2 (n - x) + (y + 1 - x - 1)) hT.symm (by omega)] at hs'
                  exact hs'
                · -- three
                  refine ⟨by omega, ?_⟩
                  have hf' : f = 3 := by omega
                  subst hf'
                  have hz : ∀ z : Nat, z ≤ n → y + 1 ≤ z → ∀ s, IvM σ s n l m kd (3 + 1) (bs n l kd 3 + rk n 3 x y z * wy kd 3) → ∀ z1, am_Runs PP MLL (d + 2) m_M_makeTruths 63 [some (qr (31, 12, 89)), z1, some (qi (m : Int)), some (qi ((3 : Nat) : Int)), some (qi (x : Int)), some (qi (y : Int)), some (qi (z : Int))] [] s (kV K) := by
                    refine lp ?_ ?_
                    · intro hyz s hs z1
                      obtain ⟨h2, h3, hFs, h5⟩ := fld _ _ _ hs
                      refine v_M_makeTruths_63 d m _ x y _ z1 s K hFs ⟨fun c => absurd c (by omega), fun _ => ⟨fun _ => ⟨by omega, ?_⟩, fun c => absurd (by omega) c⟩⟩
                      refine ihy s ?_ z1 _
                      have a1 := C2_s (show n - y = n - (y + 1) + 1 by omega)
                      have a2 := C2_mono (show n - y ≤ n - 1 - x by omega)
                      have e : rk n 3 x y n = (if 3 = 2 then C2 n - C2 (n - x) + (y + 1 - x - 1) else C3 n - C3 (n - x) + (C2 (n - 1 - x) - C2 (n - (y + 1)))) := by
                        show C3 n - C3 (n - x) + (C2 (n - 1 - x) - C2 (n - y)) + (n - y - 1) = C3 n - C3 (n - x) + (C2 (n - 1 - x) - C2 (n - (y + 1)))
                        omega
                      rw [e] at hs
                      exact hs
                    · intro z hzn ihz hyz s hs z1
                      have ihz := ihz (by omega)
                      obtain ⟨h2, h3, hFs, h5⟩ := fld _ _ _ hs
                      refine v_M_makeTruths_63 d m _ x y _ z1 s K hFs ⟨fun c => absurd c (by omega), fun _ => ⟨fun c => absurd c (by omega), fun _ => ?_⟩⟩
                      have hv : Vc n l m kd 3 x y z 0 := ⟨hlf, by omega, by omega, fun _ => hxn, fun _ => ⟨by omega, hyn⟩, fun _ => ⟨by omega, hzn⟩, fun c => absurd c (by omega), fun c => absurd c (by omega), fun c => absurd c (by omega), by omega⟩
                      have hT : bs n l kd 3 + rk n 3 x y z * wy kd 3 = Nm n l kd 3 x y z 0 := rfl
                      rw [hT] at hs
                      refine c_M_addTruths d (f := 3) (x := x) (y := y) (z := z) hFs hs.2.1 h3 (by omega) (room _ _ _ _ hv) (fun s' ha => ⟨frT_MF ha.1 hFs, by omega, ?_⟩)
                      have hs' := Iv_add hs ha hv rfl
                      refine ihz s' ?_ z1
                      rw [mk_add (b := bs n l kd 3) (p := rk n 3 x y z) (q := rk n 3 x y (z + 1)) hT.symm (by show C3 n - C3 (n - x) + (C2 (n - 1 - x) - C2 (n - y)) + (z + 1 - y - 1) = C3 n - C3 (n - x) + (C2 (n - 1 - x) - C2 (n - y)) + (z - y - 1) + 1; omega)] at hs'
                      exact hs'
                  have hz0 := hz (y + 1) (by omega) (by omega) s
                  refine hz0 ?_ z1
                  have e : rk n 3 x y (y + 1) = (if 3 = 2 then C2 n - C2 (n - x) + (y - x - 1) else C3 n - C3 (n - x) + (C2 (n - 1 - x) - C2 (n - y))) := by
                    show C3 n - C3 (n - x) + (C2 (n - 1 - x) - C2 (n - y)) + (y + 1 - y - 1) = C3 n - C3 (n - x) + (C2 (n - 1 - x) - C2 (n - y))
                    omega
                  rw [e]
                  exact hs
            have hy0 := hy (x + 1) (by omega) (by omega) s
            refine hy0 ?_ z1 z6
            have e : (if f = 2 then C2 n - C2 (n - x) + (x + 1 - x - 1) else C3 n - C3 (n - x) + (C2 (n - 1 - x) - C2 (n - (x + 1)))) = (if f = 1 then x else if f = 2 then C2 n - C2 (n - x) else C3 n - C3 (n - x)) := by
              rw [if_neg (show ¬ f = 1 by omega), show n - 1 - x = n - (x + 1) by omega]
              split <;> omega
            rw [e]
            exact hs
      obtain ⟨h2, h3, hFs, h5⟩ := fld _ _ _ hs
      have hb : IvM σ (putI s 32 f (bs n l kd f)) n l m kd (f + 1) (bs n l kd f) := by
        obtain ⟨q1, q2, q3, q4⟩ := hs
        refine ⟨⟨q1.1, fun a ha hb => ?_, fun j hj => ?_⟩, ?_, fun k hk hg => ?_, fun t ht => ?_⟩
        · rw [put_ne (by omega)]; exact q1.2.1 a ha hb
        · rw [put_ne (by decide)]; exact q1.2.2 j hj
        · rw [put_ne (by decide)]; exact q2
        · rw [put_at]
          split
          · rename_i e; rw [e]
          · exact q3 k hk (by omega)
        · obtain ⟨f', x, y, z, w, b1, b2, b3⟩ := q4 t ht
          refine ⟨f', x, y, z, w, b1, b2, DT_same b1.2.2.1 ⟨?_, fun i hi => ⟨?_, ?_⟩, ?_, ?_, ?_⟩ b3⟩ <;> rw [put_ne (by decide)]
      refine v_M_makeTruths_5 d m _ z1 z4 z5 z6 s K hFs ⟨fun c => absurd c (by omega), fun _ => ?_⟩
      rw [h5, Int.toNat_natCast]
      refine ⟨by omega, fun c => ?_, fun c => ?_⟩
      · have hf' : f = 0 := by omega
        subst hf'
        have hv : Vc n l m kd 0 0 0 0 0 := ⟨hlf, by omega, by omega, fun c => absurd c (by omega), fun c => absurd c (by omega), fun c => absurd c (by omega), fun _ => rfl, fun _ => rfl, fun _ => rfl, by omega⟩
        have hT : bs n l kd 0 = Nm n l kd 0 0 0 0 0 := by
          show bs n l kd 0 = bs n l kd 0 + 0 * wy kd 0 + 0
          omega
        have hrm := room _ _ _ _ hv
        rw [← hT] at hrm
        refine c_M_addTruths d (f := 0) (x := 0) (y := 0) (z := 0) hFs hb.2.1 ((hb.1.2.2 3 (by decide)).trans hkd) (by omega) hrm (fun s' ha => ⟨frT_MF ha.1 hFs, ?_⟩)
        have hs' := Iv_add hb ha hv hT
        refine v_M_makeTruths_24 d m _ _ z1 z5 z6 s' K (frT_MF ha.1 hFs) ⟨fun _ => ⟨by omega, ?_⟩, fun c => absurd (by decide) c⟩
        refine ihf s' ?_ z1 _ z5 z6
        rw [bs_s hlf]
        have e : ch n 0 * wy kd 0 = wy kd 0 := Nat.one_mul _
        rw [e]
        exact hs'
      · have hx0 := hx 0 (Nat.zero_le _) (by omega) (putI s 32 f (bs n l kd f))
        refine hx0 ?_ z1 z5 z6
        have e : (if f = 1 then 0 else if f = 2 then C2 n - C2 (n - 0) else C3 n - C3 (n - 0)) = 0 := by
          rw [Nat.sub_zero]
          (repeat' split) <;> omega
        rw [e, Nat.zero_mul, Nat.add_zero]
        exact hb
  refine hf l (by omega) (Nat.le_refl _) _ ?_ _ _ _ _
  refine ⟨⟨rfl, fun a ha hb => ?_, fun j hj => ?_⟩, ?_, fun k hk hg => absurd hg (by omega), fun t ht => ?_⟩
  · rw [put_ne hb]
  · rw [put_at, if_neg hj]
  · rw [put_at, if_pos rfl, bs_l]; rfl
  · rw [bs_l] at ht; omega
theorem v_M_coins_0 (d : Nat) (p1 p2 p3 p4 : Int) (σ : am_S) (K : Int → am_S → Prop) (hF : MF σ) (h :
  ((p1 < 1 →
    K (-1001) σ) ∧
  (¬ (p1 < 1) →
    ((40 < p1 →
      K (-1001) σ) ∧
    (¬ (40 < p1) →
      ((p2 < 0 →
        K (-1001) σ) ∧
      (¬ (p2 < 0) →
        ((3 < p2 →
          K (-1001) σ) ∧
        (¬ (3 < p2) →
          ((p3 < 0 →
            K (-1001) σ) ∧
          (¬ (p3 < 0) →
            ((3 < p3 →
              K (-1001) σ) ∧
            (¬ (3 < p3) →
              ((p1 < p3 →
                K (-1001) σ) ∧
              (¬ (p1 < p3) →
                ((p3 < p2 →
                  K (-1001) σ) ∧
                (¬ (p3 < p2) →
                  ((p4 < 1 →
                    K (-1001) σ) ∧
                  (¬ (p4 < 1) →
                    ((3 < p4 →
                      K (-1001) σ) ∧
                    (¬ (3 < p4) →
                      am_Runs PP MLL (d + 3) m_M_coins 32 [some (qr (31, 12, 89)), some (qi p1), some (qi p2), some (qi p3), some (qi p4), some (qi 0), some (qi p2)] [] σ (kI K)))))))))))))))))))))) : am_Runs PP MLL (d + 3) m_M_coins 0 [some (qr (31, 12, 89)), some (qi p1), some (qi p2), some (qi p3), some (qi p4), none, none] [] σ (kI K) := am_wEF_ok (orc []) 200 (am_wEF_ok (orc []) 200 (⟨fun c1 => ⟨(Or.inl rfl), ⟨fun _ => (h.1 c1), fun c => absurd (by decide : (0 : Int) = 0) c⟩⟩, fun c1 => ⟨fun c2 => ⟨(Or.inl rfl), ⟨fun _ => ((h.2 c1).1 c2), fun c => absurd (by decide : (0 : Int) = 0) c⟩⟩, fun c2 => ⟨(Or.inr rfl), ⟨fun c => absurd c (by decide : ¬ ((1 : Int) = 0)), fun _ => am_wEF_ok (orc []) 200 (⟨fun c3 => ⟨(Or.inl rfl), ⟨fun _ => (((h.2 c1).2 c2).1 c3), fun c => absurd (by decide : (0 : Int) = 0) c⟩⟩, fun c3 => ⟨fun c4 => ⟨(Or.inl rfl), ⟨fun _ => ((((h.2 c1).2 c2).2 c3).1 c4), fun c => absurd (by decide : (0 : Int) = 0) c⟩⟩, fun c4 => ⟨(Or.inr rfl), ⟨fun c => absurd c (by decide : ¬ ((1 : Int) = 0)), fun _ => am_wEF_ok (orc []) 200 (⟨fun c5 => ⟨(Or.inl rfl), ⟨fun _ => (((((h.2 c1).2 c2).2 c3).2 c4).1 c5), fun c => absurd (by decide : (0 : Int) = 0) c⟩⟩, fun c5 => ⟨fun c6 => ⟨(Or.inl rfl), ⟨fun _ => ((((((h.2 c1).2 c2).2 c3).2 c4).2 c5).1 c6), fun c => absurd (by decide : (0 : Int) = 0) c⟩⟩, fun c6 => ⟨(Or.inr rfl), ⟨fun c => absurd c (by decide : ¬ ((1 : Int) = 0)), fun _ => ⟨fun c7 => (((((((h.2 c1).2 c2).2 c3).2 c4).2 c5).2 c6).1 c7), fun c7 => ⟨fun c8 => ((((((((h.2 c1).2 c2).2 c3).2 c4).2 c5).2 c6).2 c7).1 c8), fun c8 => am_wEF_ok (orc []) 200 (⟨fun c9 => ⟨(Or.inl rfl), ⟨fun _ => (((((((((h.2 c1).2 c2).2 c3).2 c4).2 c5).2 c6).2 c7).2 c8).1 c9), fun c => absurd (by decide : (0 : Int) = 0) c⟩⟩, fun c9 => ⟨fun c10 => ⟨(Or.inl rfl), ⟨fun _ => ((((((((((h.2 c1).2 c2).2 c3).2 c4).2 c5).2 c6).2 c7).2 c8).2 c9).1 c10), fun c => absurd (by decide : (0 : Int) = 0) c⟩⟩, fun c10 => ⟨(Or.inr rfl), ⟨fun c => absurd c (by decide : ¬ ((1 : Int) = 0)), fun _ => ((((((((((h.2 c1).2 c2).2 c3).2 c4).2 c5).2 c6).2 c7).2 c8).2 c9).2 c10)⟩⟩⟩⟩)⟩⟩⟩⟩⟩⟩)⟩⟩⟩⟩)⟩⟩⟩⟩))

theorem v_M_coins_32 (d : Nat) (p1 p2 p3 p4 v5 v6 : Int) (σ : am_S) (K : Int → am_S → Prop) (hF : MF σ) (h :
  ((p3 < v6 →
    ((v5 ≤ 10000 →
      am_Calls PP MLL (d + 3) m_M_makeTruths [qr (31, 12, 89), qi p2, qi p3] (putI (putI (putI σ 31 2 p1) 31 3 p4) 31 13 0) (kV fun s4 =>
        (MF s4) ∧
        am_Runs PP MLL (d + 3) m_M_coins 67 [some (qr (31, 12, 89)), some (qi p1), some (qi p2), some (qi p3), some (qi p4), some (qi v5), some (qi 0)] [] s4 (kI K))) ∧
    (¬ (v5 ≤ 10000) →
      K (-1003) σ))) ∧
  (¬ (p3 < v6) →
    am_Calls PP MLL (d + 3) m_M_choose [qi p1, qi v6] σ (kI fun x5 s5 =>
      (MF s5) ∧
      (-2147483648 ≤ x5 * (if p4 = 3 then (a_shl 1 v6 : Int) else 1) ∧ x5 * (if p4 = 3 then (a_shl 1 v6 : Int) else 1) < 2147483648 ∧ -2147483648 ≤ v5 + (x5 * (if p4 = 3 then (a_shl 1 v6 : Int) else 1)) ∧ v5 + (x5 * (if p4 = 3 then (a_shl 1 v6 : Int) else 1)) < 2147483648 ∧ -2147483648 ≤ v6 + 1 ∧ v6 + 1 < 2147483648) ∧
      am_Runs PP MLL (d + 3) m_M_coins 32 [some (qr (31, 12, 89)), some (qi p1), some (qi p2), some (qi p3), some (qi p4), some (qi (v5 + (x5 * (if p4 = 3 then (a_shl 1 v6 : Int) else 1)))), some (qi (v6 + 1))] [] s5 (kI K))))) : am_Runs PP MLL (d + 3) m_M_coins 32 [some (qr (31, 12, 89)), some (qi p1), some (qi p2), some (qi p3), some (qi p4), some (qi v5), some (qi v6)] [] σ (kI K) := am_wEF_ok (orc []) 200 (⟨fun c2 => ⟨fun c3 => ⟨rfl, ⟨rfl, ⟨rfl, ⟨rfl, (am_cV ((h.1 c2).1 c3) fun s4 h4 => h4.2)⟩⟩⟩⟩, fun c3 => ((h.1 c2).2 c3)⟩, fun c2 => (am_cI (h.2 c2) fun x5 s5 h5 => am_wEC_ok (orc []) [8] 200 (am_use (fun H7 => ⟨fun c6 => (Eq.mp (congrArg (fun z => am_Runs _ _ _ _ _ _ (qi z :: _) _ _) (if_pos c6 : (if p4 = 3 then (a_shl 1 v6 : Int) else 1) = a_shl 1 v6)) H7), fun c6 => (Eq.mp (congrArg (fun z => am_Runs _ _ _ _ _ _ (qi z :: _) _ _) (if_neg c6 : (if p4 = 3 then (a_shl 1 v6 : Int) else 1) = 1)) H7)⟩) (am_wEC_ok (orc []) [8] 200 (⟨⟨h5.2.1.1, h5.2.1.2.1⟩, ⟨⟨h5.2.1.2.2.1, h5.2.1.2.2.2.1⟩, ⟨⟨h5.2.1.2.2.2.2.1, h5.2.1.2.2.2.2.2⟩, h5.2.2⟩⟩⟩))))⟩)

theorem v_M_coins_67 (d : Nat) (v6 : Int) (z1 z2 z3 z4 z5 : Option am_V) (σ : am_S) (K : Int → am_S → Prop) (hF : MF σ) (h :
  ((480 ≤ v6 →
    am_Runs PP MLL (d + 3) m_M_coins 79 [some (qr (31, 12, 89)), z1, z2, z3, z4, (am_cl z5), some (qi 0)] [] σ (kI K)) ∧
  (¬ (480 ≤ v6) →
    (0 ≤ v6 ∧ v6 < 480 ∧ -2147483648 ≤ v6 + 1 ∧ v6 + 1 < 2147483648) ∧
    am_Runs PP MLL (d + 3) m_M_coins 67 [some (qr (31, 12, 89)), z1, z2, z3, z4, (am_cl z5), some (qi (v6 + 1))] [] (putI σ 45 (Int.toNat v6) (-1)) (kI K)))) : am_Runs PP MLL (d + 3) m_M_coins 67 [some (qr (31, 12, 89)), z1, z2, z3, z4, z5, some (qi v6)] [] σ (kI K) := am_wEF_ok (orc [(71, 45, 20, 480)]) 200 (⟨fun c2 => (h.1 c2), fun c2 => ⟨⟨rfl, (hF 21)⟩, ⟨⟨rfl, (h.2 c2).1.1, (h.2 c2).1.2.1⟩, ⟨⟨(h.2 c2).1.2.2.1, (h.2 c2).1.2.2.2⟩, (h.2 c2).2⟩⟩⟩⟩)

theorem v_M_coins_79 (d : Nat) (v6 : Int) (z1 z2 z3 z4 z5 : Option am_V) (σ : am_S) (K : Int → am_S → Prop) (hF : MF σ) (h :
  ((6 ≤ v6 →
    K (sI σ 31 5) (putI (putI (putI (putI (putI (putI (putI (putI (putI σ 31 83 0) 31 33 0) 31 34 0) 31 35 (-1000)) 31 37 0) 31 73 0) 31 76 0) 31 77 0) 31 78 0)) ∧
  (¬ (6 ≤ v6) →
    (0 ≤ v6 ∧ v6 < 6 ∧ -2147483648 ≤ v6 + 1 ∧ v6 + 1 < 2147483648) ∧
    am_Runs PP MLL (d + 3) m_M_coins 79 [some (qr (31, 12, 89)), z1, z2, z3, z4, (am_cl z5), some (qi (v6 + 1))] [] (putI (putI σ 83 (Int.toNat v6) 0) 84 (Int.toNat v6) 0) (kI K)))) : am_Runs PP MLL (d + 3) m_M_coins 79 [some (qr (31, 12, 89)), z1, z2, z3, z4, z5, some (qi v6)] [] σ (kI K) := am_wEF_ok (orc [(83, 83, 21, 6), (88, 84, 21, 6)]) 200 (⟨fun c2 => ⟨⟨rfl, (Or.inl rfl)⟩, ⟨rfl, am_wEF_ok (orc []) 200 (⟨⟨rfl, (Or.inl rfl)⟩, ⟨⟨rfl, (Or.inl rfl)⟩, ⟨rfl, ⟨rfl, ⟨rfl, ⟨rfl, ⟨⟨rfl, (Or.inl rfl)⟩, ⟨⟨rfl, (Or.inl rfl)⟩, ⟨rfl, (h.1 c2)⟩⟩⟩⟩⟩⟩⟩⟩⟩)⟩⟩, fun c2 => ⟨⟨rfl, (hF 81)⟩, ⟨⟨rfl, (h.2 c2).1.1, (h.2 c2).1.2.1⟩, ⟨⟨rfl, (hF 82)⟩, ⟨⟨rfl, (h.2 c2).1.1, (h.2 c2).1.2.1⟩, ⟨⟨(h.2 c2).1.2.2.1, (h.2 c2).1.2.2.2⟩, (h.2 c2).2⟩⟩⟩⟩⟩⟩)

/-- how many truths there would be -/
theorem ch_bd : ∀ n : Nat, n < 41 → C2 n ≤ 780 ∧ C3 n ≤ 9880 := by decide
theorem bs_bd {n l f : Nat} {kd : Int} (hn : n ≤ 40) (hf : f ≤ 4) : bs n l kd f ≤ 90000 := by
  have h := ch_bd n (by omega)
  have hc : ∀ f, ch n f ≤ 9880 := by
    intro f
    unfold ch
    (repeat' split) <;> omega
  have hp : ∀ f, f ≤ 3 → ch n f * wy kd f ≤ 9880 * 8 := fun f hf => Nat.mul_le_mul (hc f) (wy_le hf)
  have h0 : ch n 0 * wy kd 0 ≤ 1 := by
    have : wy kd 0 ≤ 1 := by unfold wy; split <;> decide
    rw [show ch n 0 = 1 from rfl, Nat.one_mul]; exact this
  have h1 : ch n 1 * wy kd 1 ≤ 80 := by
    have : wy kd 1 ≤ 2 := by unfold wy; split <;> decide
    exact Nat.le_trans (Nat.mul_le_mul (show ch n 1 ≤ 40 from hn) this) (by decide)
  have h2 : ch n 2 * wy kd 2 ≤ 3120 := by
    have : wy kd 2 ≤ 4 := by unfold wy; split <;> decide
    exact Nat.le_trans (Nat.mul_le_mul (show ch n 2 ≤ 780 from h.1) this) (by decide)
  have h3 := hp 3 (by omega)
  have b : ∀ g, bs n l kd (g + 1) ≤ bs n l kd g + ch n g * wy kd g := by
    intro g
    show (if l ≤ g then _ else _) ≤ _
    split
    · exact Nat.le_refl _
    · exact Nat.zero_le _
  have b0 : bs n l kd 1 ≤ bs n l kd 0 + ch n 0 * wy kd 0 := b 0
  have b1 : bs n l kd 2 ≤ bs n l kd 1 + ch n 1 * wy kd 1 := b 1
  have b2 : bs n l kd 3 ≤ bs n l kd 2 + ch n 2 * wy kd 2 := b 2
  have b3 : bs n l kd 4 ≤ bs n l kd 3 + ch n 3 * wy kd 3 := b 3
  have bz : bs n l kd 0 = 0 := rfl
  rcases (show f = 0 ∨ f = 1 ∨ f = 2 ∨ f = 3 ∨ f = 4 by omega) with rfl | rfl | rfl | rfl | rfl <;> omega
/-- the reference's store behind coins, s the one behind makeTruths -/
def mCoins (s : am_S) : am_S := mEnd (putI (rowI (rowI (rowI s 45 (fun k => if k < 480 then -1 else sI s 45 k)) 83 (fun k => if k < 6 then 0 else sI s 83 k)) 84 (fun k => if k < 6 then 0 else sI s 84 k)) 31 83 0)
theorem l_M_coins (d : Nat) {n l m : Nat} {kd : Int} {σ : am_S} {K : Int → am_S → Prop} (hF : MF σ) (hn : n ≤ 40) (hl : l ≤ m) (hm : m ≤ 3)
    (hfull : 10000 < bs n l kd (m + 1) → K (-1003) σ) (h : bs n l kd (m + 1) ≤ 10000 → ∀ s, MkP (putI (putI (putI σ 31 2 n) 31 3 kd) 31 13 0) s n l m kd → K (bs n l kd (m + 1)) (mCoins s)) :
    am_Runs PP MLL (d + 3) m_M_coins 32 [some (qr (31, 12, 89)), some (qi (n : Int)), some (qi (l : Int)), some (qi (m : Int)), some (qi kd), some (qi 0), some (qi (l : Int))] [] σ (kI K) := by
  have hS : ∀ f : Nat, f ≤ m + 1 → l ≤ f → am_Runs PP MLL (d + 3) m_M_coins 32 [some (qr (31, 12, 89)), some (qi (n : Int)), some (qi (l : Int)), some (qi (m : Int)), some (qi kd), some (qi (bs n l kd f : Int)), some (qi (f : Int))] [] σ (kI K) := by
    refine lp ?_ ?_
    · intro _
      refine v_M_coins_32 d n l m kd _ _ σ K hF ⟨fun _ => ⟨fun c => ?_, fun c => hfull (by omega)⟩, fun c => absurd (by omega) c⟩
      refine c_M_makeTruths d (n := n) (kd := kd) hF rfl hn rfl hl hm (by omega) (fun s hs => ⟨frT_MF hs.1 hF, ?_⟩)
      have hFs : MF s := frT_MF hs.1 hF
      have hK := h (by omega) s hs
      -- the fixed weighings go
      have h2 : ∀ i : Nat, i ≤ 6 → ∀ z1 z2 z3 z4 z5, am_Runs PP MLL (d + 3) m_M_coins 79 [some (qr (31, 12, 89)), z1, z2, z3, z4, z5, some (qi (i : Int))] [] (rowI (rowI (rowI s 45 (fun k => if k < 480 then -1 else sI s 45 k)) 83 (fun k => if k < i then 0 else sI s 83 k)) 84 (fun k => if k < i then 0 else sI s 84 k)) (kI K) := by
        refine lp ?_ ?_
        · intro z1 z2 z3 z4 z5
          refine v_M_coins_79 d _ z1 z2 z3 z4 z5 _ K hFs ⟨fun _ => ?_, fun c => absurd (by decide) c⟩
          exact kEq hK (hs.2.1.symm) rfl
        · intro i hi ih z1 z2 z3 z4 z5
          refine v_M_coins_79 d _ z1 z2 z3 z4 z5 _ K hFs ⟨fun c => absurd c (by omega), fun _ => ⟨by omega, ?_⟩⟩
          rw [Int.toNat_natCast]
          refine runs_st ?_ (ih z1 z2 z3 z4 (am_cl z5))
          refine sto_ext (fun a j => ?_) rfl
          by_cases h1 : a = 84
          · subst h1
            rw [put_at, put_ne (by decide), row_at, row_at]
            (repeat' split) <;> first | rfl | omega
          · rw [put_ne h1, row_ne h1]
            by_cases h2 : a = 83
            · subst h2
              rw [put_at, row_ne (by decide), row_at, row_at]
              (repeat' split) <;> first | rfl | omega
            · rw [put_ne h2, row_ne h1, row_ne h2, row_ne h2]
      -- no coin lies
      have h1 : ∀ i : Nat, i ≤ 480 → ∀ z1 z2 z3 z4 z5, am_Runs PP MLL (d + 3) m_M_coins 67 [some (qr (31, 12, 89)), z1, z2, z3, z4, z5, some (qi (i : Int))] [] (rowI s 45 (fun k => if k < i then -1 else sI s 45 k)) (kI K) := by
        refine lp ?_ ?_
        · intro z1 z2 z3 z4 z5
          refine v_M_coins_67 d _ z1 z2 z3 z4 z5 _ K hFs ⟨fun _ => ?_, fun c => absurd (by decide) c⟩
          refine runs_st ?_ (h2 0 (Nat.zero_le _) z1 z2 z3 z4 (am_cl z5))
          refine sto_ext (fun a j => ?_) rfl
          by_cases h1 : a = 84
          · subst h1
            rw [row_at, if_neg (Nat.not_lt_zero j), row_ne (by decide)]
          · rw [row_ne (b := a) (a := 84) h1]
            by_cases h2 : a = 83
            · subst h2
              rw [row_at, if_neg (Nat.not_lt_zero j), row_ne (by decide)]
            · rw [row_ne (b := a) (a := 83) h2]
        · intro i hi ih z1 z2 z3 z4 z5
          refine v_M_coins_67 d _ z1 z2 z3 z4 z5 _ K hFs ⟨fun c => absurd c (by omega), fun _ => ⟨by omega, ?_⟩⟩
          rw [Int.toNat_natCast, putI_rowI]
          refine runs_st ?_ (ih z1 z2 z3 z4 (am_cl z5))
          congr 1
          funext k
          (repeat' split) <;> first | rfl | omega
      refine runs_st ?_ (h1 0 (Nat.zero_le _) _ _ _ _ _)
      have e : (fun k => if k < 0 then (-1 : Int) else sI s 45 k) = sI s 45 := by
        funext k
        exact if_neg (Nat.not_lt_zero k)
      rw [e, rowI_self]
    · intro f hf ih hlf
      refine v_M_coins_32 d n l m kd _ _ σ K hF ⟨fun c => absurd c (by omega), fun _ => ?_⟩
      have hb := bs_bd (n := n) (l := l) (kd := kd) hn (show f + 1 ≤ 4 by omega)
      rw [bs_s hlf] at hb
      refine c_M_choose (d + 2) hn (by omega) ⟨hF, ?_⟩
      rw [wy_eq (by omega), ← Int.natCast_mul]
      refine ⟨by omega, ?_⟩
      have ih := ih (by omega)
      rw [bs_s hlf] at ih
      rw [← Int.natCast_add]
      exact ih
  have h0 := hS l (by omega) (Nat.le_refl _)
  rw [bs_l] at h0
  exact h0
