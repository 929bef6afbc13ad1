/-! the numbers of the truths; the reference: choose, addTruths -/
def C2 : Nat → Nat
  | 0 => 0
  | m + 1 => C2 m + m
def C3 : Nat → Nat
  | 0 => 0
  | m + 1 => C3 m + C2 m
def ch (n f : Nat) : Nat := if f = 0 then 1 else if f = 1 then n else if f = 2 then C2 n else C3 n
/-- in how many ways f coins can be false -/
def wy (kd : Int) (f : Nat) : Nat := if kd = 3 then 2 ^ f else 1
/-- how many truths stand ahead of those with f false coins -/
def bs (n l : Nat) (kd : Int) : Nat → Nat
  | 0 => 0
  | f + 1 => if l ≤ f then bs n l kd f + ch n f * wy kd f else 0
/-- the number of a set among those of its size -/
def rk (n f x y z : Nat) : Nat := if f = 0 then 0 else if f = 1 then x else if f = 2 then C2 n - C2 (n - x) + (y - x - 1) else C3 n - C3 (n - x) + (C2 (n - 1 - x) - C2 (n - y)) + (z - y - 1)
def Nm (n l : Nat) (kd : Int) (f x y z w : Nat) : Nat := bs n l kd f + rk n f x y z * wy kd f + w
def Vc (n l m : Nat) (kd : Int) (f x y z w : Nat) : Prop := l ≤ f ∧ f ≤ m ∧ f ≤ 3 ∧ (1 ≤ f → x < n) ∧ (2 ≤ f → x < y ∧ y < n) ∧ (3 ≤ f → y < z ∧ z < n) ∧ (f < 1 → x = 0) ∧ (f < 2 → y = 0) ∧ (f < 3 → z = 0) ∧ w < wy kd f
theorem C2_mono {a b : Nat} (h : a ≤ b) : C2 a ≤ C2 b := by
  induction h with
  | refl => exact Nat.le_refl _
  | step _ ih => exact Nat.le_trans ih (Nat.le_add_right _ _)
theorem C3_mono {a b : Nat} (h : a ≤ b) : C3 a ≤ C3 b := by
  induction h with
  | refl => exact Nat.le_refl _
  | step _ ih => exact Nat.le_trans ih (Nat.le_add_right _ _)
theorem C2_s {a b : Nat} (h : a = b + 1) : C2 a = C2 b + b := by subst h; rfl
theorem C3_s {a b : Nat} (h : a = b + 1) : C3 a = C3 b + C2 b := by subst h; rfl
theorem wy_pos (kd : Int) (f : Nat) : 1 ≤ wy kd f := by
  unfold wy
  split
  · exact Nat.two_pow_pos f
  · exact Nat.le_refl 1
theorem bs_s {n l f : Nat} {kd : Int} (h : l ≤ f) : bs n l kd (f + 1) = bs n l kd f + ch n f * wy kd f := if_pos h
theorem bs_l {n l : Nat} {kd : Int} : bs n l kd l = 0 := by
  cases l with
  | zero => rfl
  | succ l => exact if_neg (by omega)
theorem bs_mono {n l f m : Nat} {kd : Int} (hl : l ≤ f) (h : f ≤ m) : bs n l kd f ≤ bs n l kd m := by
  induction h with
  | refl => exact Nat.le_refl _
  | step hh ih => rw [bs_s (Nat.le_trans hl hh)]; exact Nat.le_trans ih (Nat.le_add_right _ _)
theorem rk_lt {n f x y z : Nat} (hf : f ≤ 3) (h1 : 1 ≤ f → x < n) (h2 : 2 ≤ f → x < y ∧ y < n) (h3 : 3 ≤ f → y < z ∧ z < n) : rk n f x y z + 1 ≤ ch n f := by
  unfold rk ch
  by_cases e0 : f = 0
  · rw [if_pos e0, if_pos e0]; omega
  · rw [if_neg e0, if_neg e0]
    by_cases e1 : f = 1
    · rw [if_pos e1, if_pos e1]; have := h1 (by omega); omega
    · rw [if_neg e1, if_neg e1]
      have h1 := h1 (by omega)
      have h2 := h2 (by omega)
      have a1 := C2_mono (show n - x ≤ n by omega)
      have a2 := C2_s (show n - x = n - 1 - x + 1 by omega)
      have a3 := C2_s (show n - y = n - 1 - y + 1 by omega)
      have a4 := C2_mono (show n - y ≤ n - 1 - x by omega)
      have a5 := C3_mono (show n - x ≤ n by omega)
      have a6 := C3_s (show n - x = n - 1 - x + 1 by omega)
      by_cases e2 : f = 2
      · rw [if_pos e2, if_pos e2]; omega
      · rw [if_neg e2, if_neg e2]
        have h3 := h3 (by omega)
        omega
theorem Nm_lt {n l m f x y z w : Nat} {kd : Int} (h : Vc n l m kd f x y z w) : Nm n l kd f x y z w < bs n l kd (m + 1) := by
  obtain ⟨h1, h2, h3, h4, h5, h6, _, _, _, hw⟩ := h
  have a := rk_lt h3 h4 h5 h6
  have b := bs_mono (n := n) (kd := kd) (show l ≤ f + 1 by omega) (show f + 1 ≤ m + 1 by omega)
  rw [bs_s h1] at b
  have c : (rk n f x y z + 1) * wy kd f ≤ ch n f * wy kd f := Nat.mul_le_mul_right _ a
  rw [Nat.add_mul, Nat.one_mul] at c
  unfold Nm
  omega
/-- the way coin i is false: the first one has the highest bit -/
def sgw (kd : Int) (f w i : Nat) : Int := if kd = 1 then 1 else if kd = 2 then -1 else if bt w (f - 1 - i) = 0 then 1 else -1
def cni (x y z : Nat) (i : Nat) : Int := if i = 0 then (x : Int) else if i = 1 then (y : Int) else (z : Int)
/-- the reference's row of truth t tells of this set and way, and it is as new -/
def DT (s : am_S) (t f x y z : Nat) (kd : Int) (w : Nat) : Prop := sI s 33 t = f ∧ (∀ i, i < f → sI s 34 (3 * t + i) = cni x y z i ∧ sI s 35 (3 * t + i) = sgw kd f w i) ∧ sI s 36 t = 0 ∧ sI s 37 t = -1 ∧ sI s 38 t = 0
def same6 (s σ : am_S) (t : Nat) : Prop := sI s 33 t = sI σ 33 t ∧ (∀ i, i < 3 → sI s 34 (3 * t + i) = sI σ 34 (3 * t + i) ∧ sI s 35 (3 * t + i) = sI σ 35 (3 * t + i)) ∧ sI s 36 t = sI σ 36 t ∧ sI s 37 t = sI σ 37 t ∧ sI s 38 t = sI σ 38 t
theorem DT_same {s σ : am_S} {t f x y z w : Nat} {kd : Int} (hf : f ≤ 3) (h : same6 s σ t) (hd : DT σ t f x y z kd w) : DT s t f x y z kd w := by
  obtain ⟨a, b, c, d, e⟩ := h
  refine ⟨a.trans hd.1, fun i hi => ?_, c.trans hd.2.2.1, d.trans hd.2.2.2.1, e.trans hd.2.2.2.2⟩
  have := b i (by omega)
  exact ⟨this.1.trans (hd.2.1 i hi).1, this.2.trans (hd.2.1 i hi).2⟩
theorem same6_tr {s t u : am_S} {k : Nat} (h : same6 s t k) (h2 : same6 t u k) : same6 s u k :=
  ⟨h.1.trans h2.1, fun i hi => ⟨(h.2.1 i hi).1.trans (h2.2.1 i hi).1, (h.2.1 i hi).2.trans (h2.2.1 i hi).2⟩, h.2.2.1.trans h2.2.2.1, h.2.2.2.1.trans h2.2.2.2.1, h.2.2.2.2.trans h2.2.2.2.2⟩
/-- nothing changed but the truths' rows and how many they are -/
def frT (s σ : am_S) : Prop := s.2 = σ.2 ∧ (∀ a, a < 32 ∨ 38 < a → a ≠ 31 → sI s a = sI σ a) ∧ ∀ j, j ≠ 5 → sI s 31 j = sI σ 31 j
theorem frT_tr {s t u : am_S} (h : frT s t) (h2 : frT t u) : frT s u := ⟨h.1.trans h2.1, fun a ha hb => (h.2.1 a ha hb).trans (h2.2.1 a ha hb), fun j hj => (h.2.2 j hj).trans (h2.2.2 j hj)⟩
theorem frT_rf (s : am_S) : frT s s := ⟨rfl, fun _ _ _ => rfl, fun _ _ => rfl⟩
theorem frT_MF {s σ : am_S} (h : frT s σ) (hF : MF σ) : MF s := by
  intro j
  have : sR s 31 j = sR σ 31 j := by
    show s.2.1 31 j = σ.2.1 31 j
    rw [h.1]
  exact this.trans (hF j)

theorem v_M_choose_0 (d : Nat) (p0 p1 : Int) (σ : am_S) (K : Int → am_S → Prop) (h :
  am_Runs PP MLL d m_M_choose 4 [some (qi p0), some (qi p1), some (qi 1), some (qi 0)] [] σ (kI K)) : am_Runs PP MLL d m_M_choose 0 [some (qi p0), some (qi p1), none, none] [] σ (kI K) := am_wEF_ok (orc []) 200 (h)

theorem v_M_choose_4 (d : Nat) (p0 p1 v2 v3 : Int) (σ : am_S) (K : Int → am_S → Prop) (h :
  ((p1 ≤ v3 →
    K v2 σ) ∧
  (¬ (p1 ≤ v3) →
    (-2147483648 ≤ p0 - v3 ∧ p0 - v3 < 2147483648 ∧ -2147483648 ≤ v2 * (p0 - v3) ∧ v2 * (p0 - v3) < 2147483648 ∧ -2147483648 ≤ v3 + 1 ∧ v3 + 1 < 2147483648 ∧ (v3 + 1) ≠ 0 ∧ -2147483648 ≤ Int.tdiv (v2 * (p0 - v3)) (v3 + 1) ∧ Int.tdiv (v2 * (p0 - v3)) (v3 + 1) < 2147483648) ∧
    am_Runs PP MLL d m_M_choose 4 [some (qi p0), some (qi p1), some (qi (Int.tdiv (v2 * (p0 - v3)) (v3 + 1))), some (qi (v3 + 1))] [] σ (kI K)))) : am_Runs PP MLL d m_M_choose 4 [some (qi p0), some (qi p1), some (qi v2), some (qi v3)] [] σ (kI K) := am_wEF_ok (orc []) 200 (⟨fun c2 => (h.1 c2), fun c2 => ⟨⟨(h.2 c2).1.1, (h.2 c2).1.2.1⟩, ⟨⟨(h.2 c2).1.2.2.1, (h.2 c2).1.2.2.2.1⟩, ⟨⟨(h.2 c2).1.2.2.2.2.1, (h.2 c2).1.2.2.2.2.2.1⟩, ⟨⟨(h.2 c2).1.2.2.2.2.2.2.1, (h.2 c2).1.2.2.2.2.2.2.2.1, (h.2 c2).1.2.2.2.2.2.2.2.2⟩, ⟨⟨(h.2 c2).1.2.2.2.2.1, (h.2 c2).1.2.2.2.2.2.1⟩, (h.2 c2).2⟩⟩⟩⟩⟩⟩)

theorem ch_j : ∀ n : Nat, n < 41 → Int.tdiv (1 * ((n : Int) - 0)) (0 + 1) = n ∧ Int.tdiv ((n : Int) * ((n : Int) - 1)) (1 + 1) = C2 n ∧ Int.tdiv ((C2 n : Int) * ((n : Int) - 2)) (2 + 1) = C3 n ∧ -1000000 ≤ (n : Int) * ((n : Int) - 1) ∧ (n : Int) * ((n : Int) - 1) ≤ 1000000 ∧ -1000000 ≤ (C2 n : Int) * ((n : Int) - 2) ∧ (C2 n : Int) * ((n : Int) - 2) ≤ 1000000 ∧ C2 n ≤ 1000000 ∧ C3 n ≤ 1000000 := by decide
theorem c_M_choose (d : Nat) {n f : Nat} {σ : am_S} {K : Int → am_S → Prop} (hn : n ≤ 40) (hf : f ≤ 3) (h : K (ch n f : Int) σ) : am_Calls PP MLL (d + 1) m_M_choose [qi (n : Int), qi (f : Int)] σ (kI K) := by
  refine v_M_choose_0 d n f σ K ?_
  obtain ⟨e1, e2, e3, b1, b2, b3, b4, b5, b6⟩ := ch_j n (by omega)
  unfold ch at h
  refine v_M_choose_4 d n f 1 0 σ K ⟨fun c => ?_, fun c => ?_⟩
  · rw [if_pos (by omega)] at h; exact h
  · rw [if_neg (by omega)] at h
    rw [e1]
    refine ⟨by omega, ?_⟩
    refine v_M_choose_4 d n f n 1 σ K ⟨fun c => ?_, fun c => ?_⟩
    · rw [if_pos (by omega)] at h; exact h
    · rw [if_neg (by omega)] at h
      rw [e2]
      refine ⟨by omega, ?_⟩
      refine v_M_choose_4 d n f (C2 n) 2 σ K ⟨fun c => ?_, fun c => ?_⟩
      · rw [if_pos (by omega)] at h; exact h
      · rw [if_neg (by omega)] at h
        rw [e3]
        refine ⟨by omega, ?_⟩
        exact v_M_choose_4 d n f (C3 n) 3 σ K ⟨fun c => h, fun c => absurd (by omega) c⟩
theorem v_M_addTruths_0 (d : Nat) (p1 p2 p3 p4 : Int) (σ : am_S) (K : am_S → Prop) (hF : MF σ) (h :
  am_Runs PP MLL (d + 1) m_M_addTruths 7 [some (qr (31, 12, 89)), some (qi p1), some (qi p2), some (qi p3), some (qi p4), some (qi (if (sI σ 31 3) = 3 then (a_shl 1 p1 : Int) else 1)), some (qi 0), none] [] σ (kV K)) : am_Runs PP MLL (d + 1) m_M_addTruths 0 [some (qr (31, 12, 89)), some (qi p1), some (qi p2), some (qi p3), some (qi p4), none, none, none] [] σ (kV K) := am_wEC_ok (orc []) [39, 73] 200 (⟨rfl, am_wEC_ok (orc []) [8] 200 (am_use (fun H2 => ⟨fun c1 => (Eq.mp (congrArg (fun z => am_Runs _ _ _ _ _ _ (qi z :: _) _ _) (if_pos c1 : (if (sI σ 31 3) = 3 then (a_shl 1 p1 : Int) else 1) = a_shl 1 p1)) H2), fun c1 => (Eq.mp (congrArg (fun z => am_Runs _ _ _ _ _ _ (qi z :: _) _ _) (if_neg c1 : (if (sI σ 31 3) = 3 then (a_shl 1 p1 : Int) else 1) = 1)) H2)⟩) (am_wEC_ok (orc []) [8] 200 (h)))⟩)

theorem v_M_addTruths_7 (d : Nat) (p1 p2 p3 p4 v5 v6 : Int) (z7 : Option am_V) (σ : am_S) (K : am_S → Prop) (hF : MF σ) (h :
  ((v5 ≤ v6 →
    K σ) ∧
  (¬ (v5 ≤ v6) →
    (0 ≤ (sI σ 31 5) ∧ (sI σ 31 5) < 10000) ∧
    am_Runs PP MLL (d + 1) m_M_addTruths 18 [some (qr (31, 12, 89)), some (qi p1), some (qi p2), some (qi p3), some (qi p4), some (qi v5), some (qi v6), some (qi 0)] [] (putI σ 33 (Int.toNat (sI σ 31 5)) p1) (kV K)))) : am_Runs PP MLL (d + 1) m_M_addTruths 7 [some (qr (31, 12, 89)), some (qi p1), some (qi p2), some (qi p3), some (qi p4), some (qi v5), some (qi v6), z7] [] σ (kV K) := am_wEC_ok (orc [(11, 33, 20, 10000)]) [39, 73] 200 (⟨fun c2 => (h.1 c2), fun c2 => ⟨⟨rfl, (hF 7)⟩, ⟨rfl, ⟨⟨rfl, (h.2 c2).1.1, (h.2 c2).1.2⟩, (h.2 c2).2⟩⟩⟩⟩)

theorem v_M_addTruths_18 (d : Nat) (p1 p2 p3 p4 v5 v6 v7 : Int) (σ : am_S) (K : am_S → Prop) (hF : MF σ) (h :
  ((p1 ≤ v7 →
    (0 ≤ (sI σ 31 5) ∧ (sI σ 31 5) < 10000 ∧ -2147483648 ≤ (sI σ 31 5) + 1 ∧ (sI σ 31 5) + 1 < 2147483648 ∧ -2147483648 ≤ v6 + 1 ∧ v6 + 1 < 2147483648) ∧
    am_Runs PP MLL (d + 1) m_M_addTruths 7 [some (qr (31, 12, 89)), some (qi p1), some (qi p2), some (qi p3), some (qi p4), some (qi v5), some (qi (v6 + 1)), some (qi v7)] [] (putI (putI (putI (putI σ 36 (Int.toNat (sI σ 31 5)) 0) 37 (Int.toNat (sI σ 31 5)) (-1)) 38 (Int.toNat (sI σ 31 5)) 0) 31 5 ((sI σ 31 5) + 1)) (kV K)) ∧
  (¬ (p1 ≤ v7) →
    (-2147483648 ≤ 3 * (sI σ 31 5) ∧ 3 * (sI σ 31 5) < 2147483648 ∧ -2147483648 ≤ (3 * (sI σ 31 5)) + v7 ∧ (3 * (sI σ 31 5)) + v7 < 2147483648) ∧
    (0 ≤ ((3 * (sI σ 31 5)) + v7) ∧ ((3 * (sI σ 31 5)) + v7) < 30000) ∧
    ((¬ ((sI σ 31 3) = 1) → (¬ ((sI σ 31 3) = 2) → -2147483648 ≤ p1 - 1)) ∧ (¬ ((sI σ 31 3) = 1) → (¬ ((sI σ 31 3) = 2) → p1 - 1 < 2147483648)) ∧ (¬ ((sI σ 31 3) = 1) → (¬ ((sI σ 31 3) = 2) → -2147483648 ≤ (p1 - 1) - v7)) ∧ (¬ ((sI σ 31 3) = 1) → (¬ ((sI σ 31 3) = 2) → (p1 - 1) - v7 < 2147483648))) ∧
    (-2147483648 ≤ v7 + 1 ∧ v7 + 1 < 2147483648) ∧
    am_Runs PP MLL (d + 1) m_M_addTruths 18 [some (qr (31, 12, 89)), some (qi p1), some (qi p2), some (qi p3), some (qi p4), some (qi v5), some (qi v6), some (qi (v7 + 1))] [] (putI (putI σ 34 (Int.toNat ((3 * (sI σ 31 5)) + v7)) (if v7 = 0 then (p2 : Int) else (if v7 = 1 then (p3 : Int) else p4))) 35 (Int.toNat ((3 * (sI σ 31 5)) + v7)) (if (sI σ 31 3) = 1 then (1 : Int) else (if (sI σ 31 3) = 2 then ((-1) : Int) else (if (a_and (a_shr v6 ((p1 - 1) - v7)) 1) = 0 then (1 : Int) else (-1))))) (kV K)))) : am_Runs PP MLL (d + 1) m_M_addTruths 18 [some (qr (31, 12, 89)), some (qi p1), some (qi p2), some (qi p3), some (qi p4), some (qi v5), some (qi v6), some (qi v7)] [] σ (kV K) := am_wEC_ok (orc [(22, 34, 20, 30000), (77, 36, 20, 10000), (83, 37, 20, 10000), (89, 38, 20, 10000)]) [39, 73] 200 (⟨fun c3 => ⟨⟨rfl, (hF 10)⟩, ⟨rfl, ⟨⟨rfl, (h.1 c3).1.1, (h.1 c3).1.2.1⟩, ⟨⟨rfl, (hF 11)⟩, ⟨rfl, ⟨⟨rfl, (h.1 c3).1.1, (h.1 c3).1.2.1⟩, ⟨⟨rfl, (hF 12)⟩, ⟨rfl, ⟨⟨rfl, (h.1 c3).1.1, (h.1 c3).1.2.1⟩, ⟨rfl, ⟨⟨(h.1 c3).1.2.2.1, (h.1 c3).1.2.2.2.1⟩, ⟨rfl, ⟨⟨(h.1 c3).1.2.2.2.2.1, (h.1 c3).1.2.2.2.2.2⟩, (h.1 c3).2⟩⟩⟩⟩⟩⟩⟩⟩⟩⟩⟩⟩⟩, fun c3 => ⟨⟨rfl, (hF 8)⟩, ⟨rfl, ⟨⟨(h.2 c3).1.1, (h.2 c3).1.2.1⟩, ⟨⟨(h.2 c3).1.2.2.1, (h.2 c3).1.2.2.2⟩, am_use (fun H10 => ⟨fun c4 => (Eq.mp (congrArg (fun z => am_Runs _ _ _ _ _ _ (qi z :: _) _ _) (if_pos c4 : (if v7 = 0 then (p2 : Int) else if v7 = 1 then (p3 : Int) else p4) = p2)) H10), fun c4 => ⟨fun c5 => (Eq.mp (congrArg (fun z => am_Runs _ _ _ _ _ _ (qi z :: _) _ _) (Eq.trans (if_neg c4 : (if v7 = 0 then (p2 : Int) else if v7 = 1 then (p3 : Int) else p4) = if v7 = 1 then (p3 : Int) else p4) (if_pos c5 : (if v7 = 1 then (p3 : Int) else p4) = p3))) H10), fun c5 => (Eq.mp (congrArg (fun z => am_Runs _ _ _ _ _ _ (qi z :: _) _ _) (Eq.trans (if_neg c4 : (if v7 = 0 then (p2 : Int) else if v7 = 1 then (p3 : Int) else p4) = if v7 = 1 then (p3 : Int) else p4) (if_neg c5 : (if v7 = 1 then (p3 : Int) else p4) = p4))) H10)⟩⟩) (am_wEC_ok (orc [(41, 35, 20, 30000)]) [39, 73] 200 (⟨⟨rfl, (h.2 c3).2.1.1, (h.2 c3).2.1.2⟩, ⟨⟨rfl, (hF 9)⟩, ⟨rfl, ⟨⟨(h.2 c3).1.1, (h.2 c3).1.2.1⟩, ⟨⟨(h.2 c3).1.2.2.1, (h.2 c3).1.2.2.2⟩, ⟨rfl, am_use (fun H9 => ⟨fun c6 => (Eq.mp (congrArg (fun z => am_Runs _ _ _ _ _ _ (qi z :: _) _ _) (if_pos c6 : (if (sI σ 31 3) = 1 then (1 : Int) else if (sI σ 31 3) = 2 then ((-1) : Int) else (if (a_and (a_shr v6 ((p1 - 1) - v7)) 1) = 0 then (1 : Int) else (-1))) = 1)) H9), fun c6 => ⟨rfl, ⟨fun c7 => (Eq.mp (congrArg (fun z => am_Runs _ _ _ _ _ _ (qi z :: _) _ _) (Eq.trans (if_neg c6 : (if (sI σ 31 3) = 1 then (1 : Int) else if (sI σ 31 3) = 2 then ((-1) : Int) else (if (a_and (a_shr v6 ((p1 - 1) - v7)) 1) = 0 then (1 : Int) else (-1))) = if (sI σ 31 3) = 2 then ((-1) : Int) else (if (a_and (a_shr v6 ((p1 - 1) - v7)) 1) = 0 then (1 : Int) else (-1))) (if_pos c7 : (if (sI σ 31 3) = 2 then ((-1) : Int) else if (a_and (a_shr v6 ((p1 - 1) - v7)) 1) = 0 then (1 : Int) else (-1)) = (-1)))) H9), fun c7 => ⟨⟨(((h.2 c3).2.2.1.1 c6) c7), (((h.2 c3).2.2.1.2.1 c6) c7)⟩, ⟨⟨(((h.2 c3).2.2.1.2.2.1 c6) c7), (((h.2 c3).2.2.1.2.2.2 c6) c7)⟩, ⟨fun c8 => (Eq.mp (congrArg (fun z => am_Runs _ _ _ _ _ _ (qi z :: _) _ _) (Eq.trans (if_neg c6 : (if (sI σ 31 3) = 1 then (1 : Int) else if (sI σ 31 3) = 2 then ((-1) : Int) else (if (a_and (a_shr v6 ((p1 - 1) - v7)) 1) = 0 then (1 : Int) else (-1))) = if (sI σ 31 3) = 2 then ((-1) : Int) else (if (a_and (a_shr v6 ((p1 - 1) - v7)) 1) = 0 then (1 : Int) else (-1))) (Eq.trans (if_neg c7 : (if (sI σ 31 3) = 2 then ((-1) : Int) else if (a_and (a_shr v6 ((p1 - 1) - v7)) 1) = 0 then (1 : Int) else (-1)) = if (a_and (a_shr v6 ((p1 - 1) - v7)) 1) = 0 then (1 : Int) else (-1)) (if_pos c8 : (if (a_and (a_shr v6 ((p1 - 1) - v7)) 1) = 0 then (1 : Int) else (-1)) = 1)))) H9), fun c8 => (Eq.mp (congrArg (fun z => am_Runs _ _ _ _ _ _ (qi z :: _) _ _) (Eq.trans (if_neg c6 : (if (sI σ 31 3) = 1 then (1 : Int) else if (sI σ 31 3) = 2 then ((-1) : Int) else (if (a_and (a_shr v6 ((p1 - 1) - v7)) 1) = 0 then (1 : Int) else (-1))) = if (sI σ 31 3) = 2 then ((-1) : Int) else (if (a_and (a_shr v6 ((p1 - 1) - v7)) 1) = 0 then (1 : Int) else (-1))) (Eq.trans (if_neg c7 : (if (sI σ 31 3) = 2 then ((-1) : Int) else if (a_and (a_shr v6 ((p1 - 1) - v7)) 1) = 0 then (1 : Int) else (-1)) = if (a_and (a_shr v6 ((p1 - 1) - v7)) 1) = 0 then (1 : Int) else (-1)) (if_neg c8 : (if (a_and (a_shr v6 ((p1 - 1) - v7)) 1) = 0 then (1 : Int) else (-1)) = (-1))))) H9)⟩⟩⟩⟩⟩⟩) (am_wEC_ok (orc []) [39, 73] 200 (⟨⟨rfl, (h.2 c3).2.1.1, (h.2 c3).2.1.2⟩, ⟨⟨(h.2 c3).2.2.2.1.1, (h.2 c3).2.2.2.1.2⟩, (h.2 c3).2.2.2.2⟩⟩))⟩⟩⟩⟩⟩⟩))⟩⟩⟩⟩⟩)

theorem put2 {σ : am_S} {f g : Nat → Int} {k : Nat} {u v : Int} : putI (putI (rowI (rowI σ 34 f) 35 g) 34 k u) 35 k v = rowI (rowI σ 34 (fun j => if j = k then u else f j)) 35 (fun j => if j = k then v else g j) := by
  refine sto_ext (fun a j => ?_) rfl
  by_cases h1 : a = 35
  · subst h1
    rw [put_at, put_ne (by decide), row_at, row_at]
  · rw [put_ne h1, row_ne h1]
    by_cases h2 : a = 34
    · subst h2
      rw [put_at, row_ne (by decide), row_at, row_at]
    · rw [put_ne h2, row_ne h1, row_ne h2, row_ne h2]
/-- truths T .. T + W - 1 told, those below as they were -/
def AddP (σ s : am_S) (T f x y z : Nat) (kd : Int) (W : Nat) : Prop := frT s σ ∧ sI s 32 = sI σ 32 ∧ sI s 31 5 = ((T + W : Nat) : Int) ∧ (∀ t, t < T → same6 s σ t) ∧ ∀ w, w < W → DT s (T + w) f x y z kd w
theorem a_shl_1 {f : Nat} (h : f ≤ 3) : a_shl 1 (f : Int) = ((2 ^ f : Nat) : Int) := by
  rw [show (1 : Int) = ((1 : Nat) : Int) from rfl, a_shl_n (by omega) ?_, Nat.one_mul]
  rcases (show f = 0 ∨ f = 1 ∨ f = 2 ∨ f = 3 by omega) with rfl | rfl | rfl | rfl <;> decide
theorem wy_le {kd : Int} {f : Nat} (h : f ≤ 3) : wy kd f ≤ 8 := by
  unfold wy
  split
  · rcases (show f = 0 ∨ f = 1 ∨ f = 2 ∨ f = 3 by omega) with rfl | rfl | rfl | rfl <;> decide
  · decide
theorem wy_eq {kd : Int} {f : Nat} (h : f ≤ 3) : (if kd = 3 then (a_shl 1 (f : Int) : Int) else 1) = ((wy kd f : Nat) : Int) := by
  unfold wy
  split
  · exact a_shl_1 h
  · rfl
theorem c_M_addTruths (d : Nat) {T f x y z : Nat} {kd : Int} {σ : am_S} {K : am_S → Prop} (hF : MF σ) (hT : sI σ 31 5 = T) (hk : sI σ 31 3 = kd) (hf : f ≤ 3) (hW : T + wy kd f ≤ 10000) (h : ∀ s, AddP σ s T f x y z kd (wy kd f) → K s) : am_Calls PP MLL (d + 2) m_M_addTruths [qr (31, 12, 89), qi (f : Int), qi (x : Int), qi (y : Int), qi (z : Int)] σ (kV K) := by
  refine v_M_addTruths_0 d f x y z σ K hF ?_
  rw [hk, wy_eq hf]
  have hw8 := wy_le (kd := kd) hf
  have hS : ∀ w : Nat, w ≤ wy kd f → ∀ s, AddP σ s T f x y z kd w → ∀ z7, am_Runs PP MLL (d + 1) m_M_addTruths 7 [some (qr (31, 12, 89)), some (qi (f : Int)), some (qi (x : Int)), some (qi (y : Int)), some (qi (z : Int)), some (qi ((wy kd f : Nat) : Int)), some (qi (w : Int)), z7] [] s (kV K) := by
    refine lp ?_ ?_
    · intro s hs z7
      exact v_M_addTruths_7 d f x y z _ _ z7 s K (frT_MF hs.1 hF) ⟨fun _ => h s hs, fun c => absurd (Int.le_refl _) c⟩
    · intro w hw ih s hs z7
      obtain ⟨hfr, h32, h5, hlo, hD⟩ := hs
      have hF2 := frT_MF hfr hF
      have h3 : sI s 31 3 = kd := (hfr.2.2 3 (by decide)).trans hk
      refine v_M_addTruths_7 d f x y z _ _ z7 s K hF2 ⟨fun c => absurd c (by omega), fun _ => ?_⟩
      rw [h5, Int.toNat_natCast]
      refine ⟨by omega, ?_⟩
      have hI : ∀ i : Nat, i ≤ f → am_Runs PP MLL (d + 1) m_M_addTruths 18 [some (qr (31, 12, 89)), some (qi (f : Int)), some (qi (x : Int)), some (qi (y : Int)), some (qi (z : Int)), some (qi ((wy kd f : Nat) : Int)), some (qi (w : Int)), some (qi (i : Int))] [] (rowI (rowI (putI s 33 (T + w) f) 34 (fun j => if 3 * (T + w) ≤ j ∧ j < 3 * (T + w) + i then cni x y z (j - 3 * (T + w)) else sI s 34 j)) 35 (fun j => if 3 * (T + w) ≤ j ∧ j < 3 * (T + w) + i then sgw kd f w (j - 3 * (T + w)) else sI s 35 j)) (kV K) := by
        refine lp ?_ ?_
        · refine v_M_addTruths_18 d f x y z _ _ _ _ K hF2 ⟨fun _ => ?_, fun c => absurd (Int.le_refl _) c⟩
          have e5 : sI (rowI (rowI (putI s 33 (T + w) f) 34 (fun j => if 3 * (T + w) ≤ j ∧ j < 3 * (T + w) + f then cni x y z (j - 3 * (T + w)) else sI s 34 j)) 35 (fun j => if 3 * (T + w) ≤ j ∧ j < 3 * (T + w) + f then sgw kd f w (j - 3 * (T + w)) else sI s 35 j)) 31 5 = ((T + w : Nat) : Int) := h5
          rw [e5, Int.toNat_natCast]
          refine ⟨by omega, ?_⟩
          refine ih _ ?_ _
          refine ⟨⟨hfr.1, ?_, ?_⟩, ?_, ?_, ?_, ?_⟩
          · intro a ha hb
            rw [put_ne hb, put_ne (by omega), put_ne (by omega), put_ne (by omega), row_ne (by omega), row_ne (by omega), put_ne (by omega)]
            exact hfr.2.1 a ha hb
          · intro j hj
            rw [put_at, if_neg hj, put_ne (by decide), put_ne (by decide), put_ne (by decide), row_ne (by decide), row_ne (by decide), put_ne (by decide)]
            exact hfr.2.2 j hj
          · rw [put_ne (by decide), put_ne (by decide), put_ne (by decide), put_ne (by decide), row_ne (by decide), row_ne (by decide), put_ne (by decide)]
            exact h32
          · rw [put_at, if_pos rfl]; omega
          · intro t ht
            refine same6_tr ⟨?_, fun i hi => ⟨?_, ?_⟩, ?_, ?_, ?_⟩ (hlo t ht)
            · rw [put_ne (by decide), put_ne (by decide), put_ne (by decide), put_ne (by decide), row_ne (by decide), row_ne (by decide), put_at, if_neg (by omega)]
            · rw [put_ne (by decide), put_ne (by decide), put_ne (by decide), put_ne (by decide), row_ne (by decide), row_at, if_neg (by omega)]
            · rw [put_ne (by decide), put_ne (by decide), put_ne (by decide), put_ne (by decide), row_at, if_neg (by omega)]
            · rw [put_ne (by decide), put_ne (by decide), put_ne (by decide), put_at, if_neg (by omega), row_ne (by decide), row_ne (by decide), put_ne (by decide)]
            · rw [put_ne (by decide), put_ne (by decide), put_at, if_neg (by omega), put_ne (by decide), row_ne (by decide), row_ne (by decide), put_ne (by decide)]
            · rw [put_ne (by decide), put_at, if_neg (by omega), put_ne (by decide), put_ne (by decide), row_ne (by decide), row_ne (by decide), put_ne (by decide)]
          · intro w' hw'
            by_cases e : w' = w
            · subst e
              refine ⟨?_, fun i hi => ⟨?_, ?_⟩, ?_, ?_, ?_⟩
              · rw [put_ne (by decide), put_ne (by decide), put_ne (by decide), put_ne (by decide), row_ne (by decide), row_ne (by decide), put_at, if_pos rfl]
              · rw [put_ne (by decide), put_ne (by decide), put_ne (by decide), put_ne (by decide), row_ne (by decide), row_at, if_pos (by omega), Nat.add_sub_cancel_left]
              · rw [put_ne (by decide), put_ne (by decide), put_ne (by decide), put_ne (by decide), row_at, if_pos (by omega), Nat.add_sub_cancel_left]
              · rw [put_ne (by decide), put_ne (by decide), put_ne (by decide), put_at, if_pos rfl]
              · rw [put_ne (by decide), put_ne (by decide), put_at, if_pos rfl]
              · rw [put_ne (by decide), put_at, if_pos rfl]
            · refine DT_same hf ⟨?_, fun i hi => ⟨?_, ?_⟩, ?_, ?_, ?_⟩ (hD w' (by omega))
              · rw [put_ne (by decide), put_ne (by decide), put_ne (by decide), put_ne (by decide), row_ne (by decide), row_ne (by decide), put_at, if_neg (by omega)]
              · rw [put_ne (by decide), put_ne (by decide), put_ne (by decide), put_ne (by decide), row_ne (by decide), row_at, if_neg (by omega)]
              · rw [put_ne (by decide), put_ne (by decide), put_ne (by decide), put_ne (by decide), row_at, if_neg (by omega)]
              · rw [put_ne (by decide), put_ne (by decide), put_ne (by decide), put_at, if_neg (by omega), row_ne (by decide), row_ne (by decide), put_ne (by decide)]
              · rw [put_ne (by decide), put_ne (by decide), put_at, if_neg (by omega), put_ne (by decide), row_ne (by decide), row_ne (by decide), put_ne (by decide)]
              · rw [put_ne (by decide), put_at, if_neg (by omega), put_ne (by decide), put_ne (by decide), row_ne (by decide), row_ne (by decide), put_ne (by decide)]
        · intro i hi ih
          refine v_M_addTruths_18 d f x y z _ _ _ _ K hF2 ⟨fun c => absurd c (by omega), fun _ => ?_⟩
          have e5 : sI (rowI (rowI (putI s 33 (T + w) f) 34 (fun j => if 3 * (T + w) ≤ j ∧ j < 3 * (T + w) + i then cni x y z (j - 3 * (T + w)) else sI s 34 j)) 35 (fun j => if 3 * (T + w) ≤ j ∧ j < 3 * (T + w) + i then sgw kd f w (j - 3 * (T + w)) else sI s 35 j)) 31 5 = ((T + w : Nat) : Int) := h5
          have e3 : sI (rowI (rowI (putI s 33 (T + w) f) 34 (fun j => if 3 * (T + w) ≤ j ∧ j < 3 * (T + w) + i then cni x y z (j - 3 * (T + w)) else sI s 34 j)) 35 (fun j => if 3 * (T + w) ≤ j ∧ j < 3 * (T + w) + i then sgw kd f w (j - 3 * (T + w)) else sI s 35 j)) 31 3 = kd := h3
          have ei : Int.toNat (3 * ((T + w : Nat) : Int) + (i : Int)) = 3 * (T + w) + i := by omega
          have ef : ((f : Int) - 1) - (i : Int) = ((f - 1 - i : Nat) : Int) := by omega
          have ec : (if (i : Int) = 0 then (x : Int) else (if (i : Int) = 1 then (y : Int) else (z : Int))) = cni x y z i := by
            unfold cni
            by_cases q0 : i = 0
            · rw [if_pos (by omega), if_pos q0]
            · rw [if_neg (by omega), if_neg q0]
              by_cases q1 : i = 1
              · rw [if_pos (by omega), if_pos q1]
              · rw [if_neg (by omega), if_neg q1]
          have es : (if kd = 1 then (1 : Int) else (if kd = 2 then (-1 : Int) else (if bt w (f - 1 - i) = 0 then (1 : Int) else -1))) = sgw kd f w i := rfl
          rw [e5, e3, ei, ef, ibit (by omega) (by omega), ec, es, put2]
          refine ⟨by omega, by omega, ⟨by omega, by omega, by omega, by omega⟩, by omega, ?_⟩
          refine runs_st ?_ ih
          congr 1
          · congr 1
            funext j
            by_cases e : j = 3 * (T + w) + i
            · rw [if_pos e, if_pos (by omega), e, Nat.add_sub_cancel_left]
            · rw [if_neg e]
              (repeat' split) <;> first | rfl | omega
          · funext j
            by_cases e : j = 3 * (T + w) + i
            · rw [if_pos e, if_pos (by omega), e, Nat.add_sub_cancel_left]
            · rw [if_neg e]
              (repeat' split) <;> first | rfl | omega
      have h0 := hI 0 (Nat.zero_le _)
      refine runs_st ?_ h0
      refine sto_ext (fun a j => ?_) rfl
      by_cases h1 : a = 35
      · subst h1
        rw [row_at, if_neg (by omega), put_ne (by decide)]
      · by_cases h2 : a = 34
        · subst h2
          rw [row_ne (by decide), row_at, if_neg (by omega), put_ne (by decide)]
        · rw [row_ne h1, row_ne h2]
  exact hS 0 (Nat.zero_le _) σ ⟨frT_rf σ, rfl, hT, fun t _ => ⟨rfl, fun i _ => ⟨rfl, rfl⟩, rfl, rfl, rfl⟩, fun w hw => absurd hw (Nat.not_lt_zero w)⟩ none
