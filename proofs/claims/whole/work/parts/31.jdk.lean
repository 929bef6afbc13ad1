theorem v_Mth_max_0 (d : Nat) (p0 p1 : Int) (σ : am_S) (K : Int → am_S → Prop) (h :
  ((p0 < p1 →
    K p1 σ) ∧
  (¬ (p0 < p1) →
    K p0 σ))) : am_Runs PP MLL d m_Mth_max 0 [some (qi p0), some (qi p1)] [] σ (kI K) := am_wE_ok 200 (⟨fun c1 => (h.1 c1), fun c1 => (h.2 c1)⟩)

theorem v_Mth_min_0 (d : Nat) (p0 p1 : Int) (σ : am_S) (K : Int → am_S → Prop) (h :
  ((p1 < p0 →
    K p1 σ) ∧
  (¬ (p1 < p0) →
    K p0 σ))) : am_Runs PP MLL d m_Mth_min 0 [some (qi p0), some (qi p1)] [] σ (kI K) := am_wE_ok 200 (⟨fun c1 => (h.1 c1), fun c1 => (h.2 c1)⟩)

theorem v_Mth_abs_0 (d : Nat) (p0 : Int) (σ : am_S) (K : Int → am_S → Prop) (h :
  ((0 ≤ p0 →
    K p0 σ) ∧
  (¬ (0 ≤ p0) →
    K (w32 (-p0)) σ))) : am_Runs PP MLL d m_Mth_abs 0 [some (qi p0)] [] σ (kI K) := am_wE_ok 200 (⟨fun c1 => (h.1 c1), fun c1 => (h.2 c1)⟩)

theorem v_Arr_fill_AIIV_0 (d : Nat) (p0 n_p0 : Nat) (p1 : Int) (σ : am_S) (K : am_S → Prop) (h :
  am_Runs PP MLL d m_Arr_fill_AIIV 5 [some (qr (p0, 20, n_p0)), some (qi p1), some (qi 0), some (qi ((n_p0 : Nat) : Int))] [] σ (kV K)) : am_Runs PP MLL d m_Arr_fill_AIIV 0 [some (qr (p0, 20, n_p0)), some (qi p1), none, none] [] σ (kV K) := am_wE_ok 200 (⟨⟨(by decide : 20 ≤ 20), (by decide : 20 < 25)⟩, h⟩)

theorem v_Arr_fill_AIIV_5 (d : Nat) (p0 n_p0 : Nat) (p1 v2 v3 : Int) (σ : am_S) (K : am_S → Prop) (h :
  ((v3 ≤ v2 →
    K σ) ∧
  (¬ (v3 ≤ v2) →
    (0 ≤ v2 ∧ v2 < ((n_p0 : Nat) : Int)) ∧
    let s2 := putI σ p0 (Int.toNat v2) p1;
    am_Runs PP MLL d m_Arr_fill_AIIV 5 [some (qr (p0, 20, n_p0)), some (qi p1), some (qi (w32 (v2 + 1))), some (qi v3)] [] s2 (kV K)))) : am_Runs PP MLL d m_Arr_fill_AIIV 5 [some (qr (p0, 20, n_p0)), some (qi p1), some (qi v2), some (qi v3)] [] σ (kV K) := am_wE_ok 200 (⟨fun c1 => (h.1 c1), fun c1 => ⟨⟨rfl, (h.2 c1).1.1, (h.2 c1).1.2⟩, (h.2 c1).2⟩⟩)

theorem v_Arr_fill_AJJV_0 (d : Nat) (p0 n_p0 : Nat) (p1 : Int) (σ : am_S) (K : am_S → Prop) (h :
  am_Runs PP MLL d m_Arr_fill_AJJV 5 [some (qr (p0, 21, n_p0)), some (ql p1), none, some (qi 0), some (qi ((n_p0 : Nat) : Int))] [] σ (kV K)) : am_Runs PP MLL d m_Arr_fill_AJJV 0 [some (qr (p0, 21, n_p0)), some (ql p1), none, none, none] [] σ (kV K) := am_wE_ok 200 (⟨⟨(by decide : 20 ≤ 21), (by decide : 21 < 25)⟩, h⟩)

theorem v_Arr_fill_AJJV_5 (d : Nat) (p0 n_p0 : Nat) (p1 v3 v4 : Int) (z2 : Option am_V) (σ : am_S) (K : am_S → Prop) (h :
  ((v4 ≤ v3 →
    K σ) ∧
  (¬ (v4 ≤ v3) →
    (0 ≤ v3 ∧ v3 < ((n_p0 : Nat) : Int)) ∧
    let s2 := putI σ p0 (Int.toNat v3) p1;
    am_Runs PP MLL d m_Arr_fill_AJJV 5 [some (qr (p0, 21, n_p0)), some (ql p1), (am_cl z2), some (qi (w32 (v3 + 1))), some (qi v4)] [] s2 (kV K)))) : am_Runs PP MLL d m_Arr_fill_AJJV 5 [some (qr (p0, 21, n_p0)), some (ql p1), z2, some (qi v3), some (qi v4)] [] σ (kV K) := am_wE_ok 200 (⟨fun c1 => (h.1 c1), fun c1 => ⟨⟨rfl, (h.2 c1).1.1, (h.2 c1).1.2⟩, (h.2 c1).2⟩⟩)

theorem v_Arr_copyOf_AIIAI_0 (d : Nat) (p0 n_p0 : Nat) (p1 : Int) (σ : am_S) (K : Option am_R → am_S → Prop) (h :
  ((p1 = ((n_p0 : Nat) : Int) →
    False) ∧
  (¬ (p1 = ((n_p0 : Nat) : Int)) →
    (0 ≤ p1 ∧ p1 ≤ 1000000) ∧
    let s2 := newC σ 20 (Int.toNat p1);
    am_Calls PP MLL d m_Mth_min [qi ((n_p0 : Nat) : Int), qi p1] s2 (kI fun x3 s3 =>
      (0 ≤ x3 ∧ 0 + x3 ≤ ((n_p0 : Nat) : Int) ∧ 0 + x3 ≤ ((Int.toNat p1 : Nat) : Int)) ∧
      let s4 := cpyI s3 p0 0 (sN σ) 0 x3;
      K (some (sN σ, 20, Int.toNat p1)) s4)))) : am_Runs PP MLL d m_Arr_copyOf_AIIAI 0 [some (qr (p0, 20, n_p0)), some (qi p1), none] [] σ (kO K) := am_wE_ok 200 (⟨⟨(by decide : 20 ≤ 20), (by decide : 20 < 25)⟩, ⟨fun c1 => (h.1 c1), fun c1 => ⟨⟨(h.2 c1).1.1, (h.2 c1).1.2⟩, ⟨⟨(by decide : 20 ≤ 20), (by decide : 20 < 25)⟩, (am_cI (h.2 c1).2 fun x3 s3 h3 => ⟨⟨(Or.inl rfl), rfl, (by decide : (0 : Int) ≤ 0), (by decide : (0 : Int) ≤ 0), h3.1.1, h3.1.2.1, h3.1.2.2⟩, h3.2⟩)⟩⟩⟩⟩)

theorem v_Arr_copyOf_AJIAJ_0 (d : Nat) (p0 n_p0 : Nat) (p1 : Int) (σ : am_S) (K : Option am_R → am_S → Prop) (h :
  ((p1 = ((n_p0 : Nat) : Int) →
    False) ∧
  (¬ (p1 = ((n_p0 : Nat) : Int)) →
    (0 ≤ p1 ∧ p1 ≤ 1000000) ∧
    let s2 := newC σ 21 (Int.toNat p1);
    am_Calls PP MLL d m_Mth_min [qi ((n_p0 : Nat) : Int), qi p1] s2 (kI fun x3 s3 =>
      (0 ≤ x3 ∧ 0 + x3 ≤ ((n_p0 : Nat) : Int) ∧ 0 + x3 ≤ ((Int.toNat p1 : Nat) : Int)) ∧
      let s4 := cpyI s3 p0 0 (sN σ) 0 x3;
      K (some (sN σ, 21, Int.toNat p1)) s4)))) : am_Runs PP MLL d m_Arr_copyOf_AJIAJ 0 [some (qr (p0, 21, n_p0)), some (qi p1), none] [] σ (kO K) := am_wE_ok 200 (⟨⟨(by decide : 20 ≤ 21), (by decide : 21 < 25)⟩, ⟨fun c1 => (h.1 c1), fun c1 => ⟨⟨(h.2 c1).1.1, (h.2 c1).1.2⟩, ⟨⟨(by decide : 20 ≤ 21), (by decide : 21 < 25)⟩, (am_cI (h.2 c1).2 fun x3 s3 h3 => ⟨⟨(Or.inr rfl), rfl, (by decide : (0 : Int) ≤ 0), (by decide : (0 : Int) ≤ 0), h3.1.1, h3.1.2.1, h3.1.2.2⟩, h3.2⟩)⟩⟩⟩⟩)

theorem v_C_roomFor_AIIAI_0 (d : Nat) (p0 n_p0 : Nat) (p1 : Int) (σ : am_S) (K : Option am_R → am_S → Prop) (h :
  ((((n_p0 : Nat) : Int) < p1 →
    am_Calls PP MLL d m_Mth_max [qi p1, qi (w32 (2 * ((n_p0 : Nat) : Int)))] σ (kI fun x2 s2 =>
      am_Calls PP MLL d m_Arr_copyOf_AIIAI [qr (p0, 20, n_p0), qi x2] s2 (kO fun x3 s3 =>
        K x3 s3))) ∧
  (¬ (((n_p0 : Nat) : Int) < p1) →
    K (some (p0, 20, n_p0)) σ))) : am_Runs PP MLL d m_C_roomFor_AIIAI 0 [some (qr (p0, 20, n_p0)), some (qi p1)] [] σ (kO K) := am_wE_ok 200 (⟨⟨(by decide : 20 ≤ 20), (by decide : 20 < 25)⟩, ⟨fun c1 => ⟨⟨(by decide : 20 ≤ 20), (by decide : 20 < 25)⟩, (am_cI (h.1 c1) fun x2 s2 h2 => (am_cO h2 fun x3 s3 h3 => h3))⟩, fun c1 => (h.2 c1)⟩⟩)

theorem v_C_roomFor_AJIAJ_0 (d : Nat) (p0 n_p0 : Nat) (p1 : Int) (σ : am_S) (K : Option am_R → am_S → Prop) (h :
  ((((n_p0 : Nat) : Int) < p1 →
    am_Calls PP MLL d m_Mth_max [qi p1, qi (w32 (2 * ((n_p0 : Nat) : Int)))] σ (kI fun x2 s2 =>
      am_Calls PP MLL d m_Arr_copyOf_AJIAJ [qr (p0, 21, n_p0), qi x2] s2 (kO fun x3 s3 =>
        K x3 s3))) ∧
  (¬ (((n_p0 : Nat) : Int) < p1) →
    K (some (p0, 21, n_p0)) σ))) : am_Runs PP MLL d m_C_roomFor_AJIAJ 0 [some (qr (p0, 21, n_p0)), some (qi p1)] [] σ (kO K) := am_wE_ok 200 (⟨⟨(by decide : 20 ≤ 21), (by decide : 21 < 25)⟩, ⟨fun c1 => ⟨⟨(by decide : 20 ≤ 21), (by decide : 21 < 25)⟩, (am_cI (h.1 c1) fun x2 s2 h2 => (am_cO h2 fun x3 s3 h3 => h3))⟩, fun c1 => (h.2 c1)⟩⟩)

theorem c_max (d : Nat) {a b : Int} {σ : am_S} {K : Int → am_S → Prop} (h : K (if a < b then b else a) σ) : am_Calls PP MLL (d + 1) m_Mth_max [qi a, qi b] σ (kI K) := by
  refine v_Mth_max_0 d a b σ K ⟨fun c => ?_, fun c => ?_⟩
  · rw [if_pos c] at h; exact h
  · rw [if_neg c] at h; exact h
theorem c_min (d : Nat) {a b : Int} {σ : am_S} {K : Int → am_S → Prop} (h : K (if b < a then b else a) σ) : am_Calls PP MLL (d + 1) m_Mth_min [qi a, qi b] σ (kI K) := by
  refine v_Mth_min_0 d a b σ K ⟨fun c => ?_, fun c => ?_⟩
  · rw [if_pos c] at h; exact h
  · rw [if_neg c] at h; exact h
theorem l_fillI (d a n : Nat) (v : Int) (hn : n < 2147483648) (K : am_S → Prop) : ∀ (k i : Nat) (σ : am_S), i + k = n → K (rowI σ a (fun j => if i ≤ j ∧ j < n then v else sI σ a j)) → am_Runs PP MLL d m_Arr_fill_AIIV 5 [some (qr (a, 20, n)), some (qi v), some (qi (i : Int)), some (qi (n : Int))] [] σ (kV K)
  | 0, i, σ, hi, h => by
    refine v_Arr_fill_AIIV_5 d a n v _ _ σ K ⟨fun _ => ?_, fun c => absurd (show (n : Int) ≤ i by omega) c⟩
    have e : (fun j => if i ≤ j ∧ j < n then v else sI σ a j) = sI σ a := by
      funext j
      rw [if_neg (by omega)]
    rw [e, rowI_self] at h
    exact h
  | k + 1, i, σ, hi, h => by
    refine v_Arr_fill_AIIV_5 d a n v _ _ σ K ⟨fun c => absurd c (by omega), fun _ => ⟨⟨by omega, by omega⟩, ?_⟩⟩
    rw [w32_id (by omega) (by omega)]
    refine l_fillI d a n v hn K k (i + 1) _ (by omega) ?_
    rw [putI_row, rowI_rowI, sI_rowI, if_pos rfl]
    have e : (fun j => if i + 1 ≤ j ∧ j < n then v else (fun k => if k = Int.toNat (i : Int) then v else sI σ a k) j) = (fun j => if i ≤ j ∧ j < n then v else sI σ a j) := by
      funext j
      dsimp only
      rw [Int.toNat_natCast]
      by_cases h1 : i + 1 ≤ j ∧ j < n
      · rw [if_pos h1, if_pos (by omega)]
      · rw [if_neg h1]
        by_cases h2 : j = i
        · rw [if_pos h2, if_pos (by omega)]
        · rw [if_neg h2, if_neg (by omega)]
    rw [e]
    exact h
theorem c_fillI (d : Nat) {a n : Nat} {v : Int} (hn : n < 2147483648) {σ : am_S} {K : am_S → Prop} (h : K (rowI σ a (fun j => if j < n then v else sI σ a j))) : am_Calls PP MLL (d + 1) m_Arr_fill_AIIV [qr (a, 20, n), qi v] σ (kV K) := by
  refine v_Arr_fill_AIIV_0 d a n v σ K ?_
  refine l_fillI d a n v hn K n 0 σ (by omega) ?_
  have e : (fun j => if 0 ≤ j ∧ j < n then v else sI σ a j) = (fun j => if j < n then v else sI σ a j) := by
    funext j
    by_cases h1 : j < n
    · rw [if_pos h1, if_pos (by omega)]
    · rw [if_neg h1, if_neg (by omega)]
  rw [e]
  exact h
theorem l_fillL (d a n : Nat) (v : Int) (hn : n < 2147483648) (K : am_S → Prop) : ∀ (k i : Nat) (z : Option am_V) (σ : am_S), i + k = n → K (rowI σ a (fun j => if i ≤ j ∧ j < n then v else sI σ a j)) → am_Runs PP MLL d m_Arr_fill_AJJV 5 [some (qr (a, 21, n)), some (ql v), z, some (qi (i : Int)), some (qi (n : Int))] [] σ (kV K)
  | 0, i, z, σ, hi, h => by
    refine v_Arr_fill_AJJV_5 d a n v _ _ z σ K ⟨fun _ => ?_, fun c => absurd (show (n : Int) ≤ i by omega) c⟩
    have e : (fun j => if i ≤ j ∧ j < n then v else sI σ a j) = sI σ a := by
      funext j
      rw [if_neg (by omega)]
    rw [e, rowI_self] at h
    exact h
  | k + 1, i, z, σ, hi, h => by
    refine v_Arr_fill_AJJV_5 d a n v _ _ z σ K ⟨fun c => absurd c (by omega), fun _ => ⟨⟨by omega, by omega⟩, ?_⟩⟩
    rw [w32_id (by omega) (by omega)]
    refine l_fillL d a n v hn K k (i + 1) _ _ (by omega) ?_
    rw [putI_row, rowI_rowI, sI_rowI, if_pos rfl]
    have e : (fun j => if i + 1 ≤ j ∧ j < n then v else (fun k => if k = Int.toNat (i : Int) then v else sI σ a k) j) = (fun j => if i ≤ j ∧ j < n then v else sI σ a j) := by
      funext j
      dsimp only
      rw [Int.toNat_natCast]
      by_cases h1 : i + 1 ≤ j ∧ j < n
      · rw [if_pos h1, if_pos (by omega)]
      · rw [if_neg h1]
        by_cases h2 : j = i
        · rw [if_pos h2, if_pos (by omega)]
        · rw [if_neg h2, if_neg (by omega)]
    rw [e]
    exact h
theorem c_fillL (d : Nat) {a n : Nat} {v : Int} (hn : n < 2147483648) {σ : am_S} {K : am_S → Prop} (h : K (rowI σ a (fun j => if j < n then v else sI σ a j))) : am_Calls PP MLL (d + 1) m_Arr_fill_AJJV [qr (a, 21, n), ql v] σ (kV K) := by
  refine v_Arr_fill_AJJV_0 d a n v σ K ?_
  refine l_fillL d a n v hn K n 0 none σ (by omega) ?_
  have e : (fun j => if 0 ≤ j ∧ j < n then v else sI σ a j) = (fun j => if j < n then v else sI σ a j) := by
    funext j
    by_cases h1 : j < n
    · rw [if_pos h1, if_pos (by omega)]
    · rw [if_neg h1, if_neg (by omega)]
  rw [e]
  exact h
/-- a longer row with the old one's contents; its reference is new -/
def grow (σ : am_S) (tag a n m : Nat) : am_S := rowI (newC σ tag m) (sN σ) (fun j => if j < n then sI σ a j else 0)
theorem c_copyI (d : Nat) {a n : Nat} {m : Int} {σ : am_S} {K : Option am_R → am_S → Prop} (ha : a < sN σ) (h1 : (n : Int) < m) (h2 : m ≤ 1000000) (h : K (some (sN σ, 20, m.toNat)) (grow σ 20 a n m.toNat)) : am_Calls PP MLL (d + 2) m_Arr_copyOf_AIIAI [qr (a, 20, n), qi m] σ (kO K) := by
  refine v_Arr_copyOf_AIIAI_0 (d + 1) a n m σ K ⟨fun c => absurd c (by omega), fun _ => ⟨⟨by omega, h2⟩, ?_⟩⟩
  refine c_min d ?_
  rw [if_neg (by omega)]
  refine ⟨⟨by omega, by omega, by omega⟩, ?_⟩
  have e : cpyI (newC σ 20 m.toNat) a 0 (sN σ) 0 (n : Int) = grow σ 20 a n m.toNat := by
    unfold cpyI grow
    congr 1
    funext j
    unfold cpyF
    have e1 : sI (newC σ 20 m.toNat) a = sI σ a := by
      funext y
      show (if a = sN σ then (0 : Int) else sI σ a y) = sI σ a y
      rw [if_neg (Nat.ne_of_lt ha)]
    have e2 : sI (newC σ 20 m.toNat) (sN σ) j = 0 := by
      show (if sN σ = sN σ then (0 : Int) else sI σ (sN σ) j) = 0
      rw [if_pos rfl]
    rw [e1, e2]
    by_cases hj : j < n
    · rw [if_pos (by simp; omega), if_pos hj]
      congr 1
      simp
    · rw [if_neg (by simp; omega), if_neg hj]
  show K _ (cpyI (newC σ 20 m.toNat) a 0 (sN σ) 0 (n : Int))
  rw [e]
  exact h
theorem c_copyL (d : Nat) {a n : Nat} {m : Int} {σ : am_S} {K : Option am_R → am_S → Prop} (ha : a < sN σ) (h1 : (n : Int) < m) (h2 : m ≤ 1000000) (h : K (some (sN σ, 21, m.toNat)) (grow σ 21 a n m.toNat)) : am_Calls PP MLL (d + 2) m_Arr_copyOf_AJIAJ [qr (a, 21, n), qi m] σ (kO K) := by
  refine v_Arr_copyOf_AJIAJ_0 (d + 1) a n m σ K ⟨fun c => absurd c (by omega), fun _ => ⟨⟨by omega, h2⟩, ?_⟩⟩
  refine c_min d ?_
  rw [if_neg (by omega)]
  refine ⟨⟨by omega, by omega, by omega⟩, ?_⟩
  have e : cpyI (newC σ 21 m.toNat) a 0 (sN σ) 0 (n : Int) = grow σ 21 a n m.toNat := by
    unfold cpyI grow
    congr 1
    funext j
    unfold cpyF
    have e1 : sI (newC σ 21 m.toNat) a = sI σ a := by
      funext y
      show (if a = sN σ then (0 : Int) else sI σ a y) = sI σ a y
      rw [if_neg (Nat.ne_of_lt ha)]
    have e2 : sI (newC σ 21 m.toNat) (sN σ) j = 0 := by
      show (if sN σ = sN σ then (0 : Int) else sI σ (sN σ) j) = 0
      rw [if_pos rfl]
    rw [e1, e2]
    by_cases hj : j < n
    · rw [if_pos (by simp; omega), if_pos hj]
      congr 1
      simp
    · rw [if_neg (by simp; omega), if_neg hj]
  show K _ (cpyI (newC σ 21 m.toNat) a 0 (sN σ) 0 (n : Int))
  rw [e]
  exact h
/-- how long a row becomes -/
def roomN (n need : Nat) : Nat := if n < need then (if need < 2 * n then 2 * n else need) else n
theorem c_roomI (d : Nat) {a n need : Nat} {σ : am_S} {K : Option am_R → am_S → Prop} (ha : a < sN σ) (hn : n ≤ 400000) (hneed : need ≤ 400000) (h1 : n < need → K (some (sN σ, 20, roomN n need)) (grow σ 20 a n (roomN n need))) (h2 : need ≤ n → K (some (a, 20, n)) σ) : am_Calls PP MLL (d + 3) m_C_roomFor_AIIAI [qr (a, 20, n), qi (need : Int)] σ (kO K) := by
  refine v_C_roomFor_AIIAI_0 (d + 2) a n need σ K ⟨fun c => ?_, fun c => h2 (by omega)⟩
  have h1 := h1 (by omega)
  refine c_max (d + 1) ?_
  rw [w32_id (by omega) (by omega)]
  have e : (if (need : Int) < 2 * (n : Int) then 2 * (n : Int) else (need : Int)) = ((roomN n need : Nat) : Int) := by
    unfold roomN
    rw [if_pos (show n < need by omega)]
    by_cases h : need < 2 * n
    · rw [if_pos h, if_pos (by omega)]; omega
    · rw [if_neg h, if_neg (by omega)]
  have hr : n < roomN n need ∧ roomN n need ≤ 800000 := by
    unfold roomN
    rw [if_pos (show n < need by omega)]
    split <;> omega
  rw [e]
  refine c_copyI d ha (by omega) (by omega) ?_
  rw [Int.toNat_natCast]
  exact h1
theorem c_roomL (d : Nat) {a n need : Nat} {σ : am_S} {K : Option am_R → am_S → Prop} (ha : a < sN σ) (hn : n ≤ 400000) (hneed : need ≤ 400000) (h1 : n < need → K (some (sN σ, 21, roomN n need)) (grow σ 21 a n (roomN n need))) (h2 : need ≤ n → K (some (a, 21, n)) σ) : am_Calls PP MLL (d + 3) m_C_roomFor_AJIAJ [qr (a, 21, n), qi (need : Int)] σ (kO K) := by
  refine v_C_roomFor_AJIAJ_0 (d + 2) a n need σ K ⟨fun c => ?_, fun c => h2 (by omega)⟩
  have h1 := h1 (by omega)
  refine c_max (d + 1) ?_
  rw [w32_id (by omega) (by omega)]
  have e : (if (need : Int) < 2 * (n : Int) then 2 * (n : Int) else (need : Int)) = ((roomN n need : Nat) : Int) := by
    unfold roomN
    rw [if_pos (show n < need by omega)]
    by_cases h : need < 2 * n
    · rw [if_pos h, if_pos (by omega)]; omega
    · rw [if_neg h, if_neg (by omega)]
  have hr : n < roomN n need ∧ roomN n need ≤ 800000 := by
    unfold roomN
    rw [if_pos (show n < need by omega)]
    split <;> omega
  rw [e]
  refine c_copyL d ha (by omega) (by omega) ?_
  rw [Int.toNat_natCast]
  exact h1
