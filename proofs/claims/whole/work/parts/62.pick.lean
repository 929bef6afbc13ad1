/-! rooms that grow; the class: addPicked, pickNext -/
/-- cells that were there are as they were -/
def Fz (σ s : am_S) : Prop := (∀ x, x < sN σ → sI s x = sI σ x ∧ ∀ j, sR s x j = sR σ x j) ∧ sN σ ≤ sN s
theorem Fz_rf (σ : am_S) : Fz σ σ := ⟨fun _ _ => ⟨rfl, fun _ => rfl⟩, Nat.le_refl _⟩
/-- a row that had room enough, or a longer one -/
def RM (σ s : am_S) (a n a' n' need : Nat) : Prop := Fz σ s ∧ need ≤ n' ∧ n' ≤ max n (2 * need) ∧ (∀ j, j < n → sI s a' j = sI σ a j) ∧ ((a' = a ∧ n' = n ∧ s = σ) ∨ (a' = sN σ ∧ sN s = sN σ + 1 ∧ sU s = sU σ + n' ∧ 2 * n ≤ n' ∧ n < n' ∧ ∀ j, n ≤ j → sI s a' j = 0))
theorem grow_o {σ : am_S} {tag a n m x : Nat} (h : x ≠ sN σ) : sI (grow σ tag a n m) x = sI σ x := by
  unfold grow
  rw [row_ne h]
  funext j
  show (if x = sN σ then 0 else sI σ x j) = _
  rw [if_neg h]
theorem grow_R {σ : am_S} {tag a n m x j : Nat} (h : x ≠ sN σ) : sR (grow σ tag a n m) x j = sR σ x j := by
  show (if x = sN σ then none else sR σ x j) = _
  rw [if_neg h]
theorem grow_Fz (σ : am_S) (tag a n m : Nat) : Fz σ (grow σ tag a n m) := ⟨fun x hx => ⟨grow_o (by omega), fun j => grow_R (by omega)⟩, by show sN σ ≤ sN σ + 1; omega⟩
theorem grow_RM {σ : am_S} {tag a n need : Nat} (h : n < need) : RM σ (grow σ tag a n (roomN n need)) a n (sN σ) (roomN n need) need := by
  have e : need ≤ roomN n need ∧ roomN n need ≤ max n (2 * need) ∧ 2 * n ≤ roomN n need ∧ n < roomN n need := by
    unfold roomN
    rw [if_pos h]
    split <;> omega
  refine ⟨grow_Fz _ _ _ _ _, e.1, e.2.1, fun j hj => ?_, Or.inr ⟨rfl, rfl, rfl, e.2.2.1, e.2.2.2, fun j hj => ?_⟩⟩
  · unfold grow
    rw [row_at]
    show (if j < n then sI σ a j else 0) = _
    rw [if_pos hj]
  · unfold grow
    rw [row_at]
    show (if j < n then sI σ a j else 0) = _
    rw [if_neg (by omega)]
theorem c_rmI (d : Nat) {a n need : Nat} {σ : am_S} {K : Option am_R → am_S → Prop} (ha : a < sN σ) (hn : n ≤ 400000) (hneed : need ≤ 400000) (h : ∀ s a' n', RM σ s a n a' n' need → K (some (a', 20, n')) s) : am_Calls PP MLL (d + 3) m_C_roomFor_AIIAI [qr (a, 20, n), qi (need : Int)] σ (kO K) :=
  c_roomI d ha hn hneed (fun q => h _ _ _ (grow_RM q)) (fun q => h σ a n ⟨Fz_rf σ, q, Nat.le_max_left _ _, fun _ _ => rfl, Or.inl ⟨rfl, rfl, rfl⟩⟩)
theorem c_rmL (d : Nat) {a n need : Nat} {σ : am_S} {K : Option am_R → am_S → Prop} (ha : a < sN σ) (hn : n ≤ 400000) (hneed : need ≤ 400000) (h : ∀ s a' n', RM σ s a n a' n' need → K (some (a', 21, n')) s) : am_Calls PP MLL (d + 3) m_C_roomFor_AJIAJ [qr (a, 21, n), qi (need : Int)] σ (kO K) :=
  c_roomL d ha hn hneed (fun q => h _ _ _ (grow_RM q)) (fun q => h σ a n ⟨Fz_rf σ, q, Nat.le_max_left _ _, fun _ _ => rfl, Or.inl ⟨rfl, rfl, rfl⟩⟩)

theorem v_Truths_pickNext_0 (d : Nat) (aH nH aL nL aY nY aS nS : Nat) (p1 : Int) (σ : am_S) (K : am_S → Prop) (hR : TR σ aH nH aL nL aY nY aS nS) (h :
  (-2147483648 ≤ p1 - 1 ∧ p1 - 1 < 2147483648) ∧
  am_Runs PP MLL d m_Truths_pickNext 4 [some (qr (3, 9, 11)), some (qi p1), some (qi (p1 - 1)), none] [] σ (kV K)) : am_Runs PP MLL d m_Truths_pickNext 0 [some (qr (3, 9, 11)), some (qi p1), none, none] [] σ (kV K) := am_wEF_ok (orc []) 200 (⟨⟨h.1.1, h.1.2⟩, h.2⟩)

theorem v_Truths_pickNext_4 (d : Nat) (aH nH aL nL aY nY aS nS : Nat) (p1 v2 : Int) (z3 : Option am_V) (σ : am_S) (K : am_S → Prop) (hR : TR σ aH nH aL nL aY nY aS nS) (h :
  ((v2 < 0 →
    ((0 ≤ v2 →
      (v2 < 3 ∧ -2147483648 ≤ (sI σ 8 (Int.toNat v2)) + 1 ∧ (sI σ 8 (Int.toNat v2)) + 1 < 2147483648 ∧ -2147483648 ≤ v2 + 1 ∧ v2 + 1 < 2147483648) ∧
      am_Runs PP MLL d m_Truths_pickNext 34 [some (qr (3, 9, 11)), some (qi p1), some (qi v2), some (qi (v2 + 1))] [] (putI σ 8 (Int.toNat v2) ((sI σ 8 (Int.toNat v2)) + 1)) (kV K)) ∧
    (¬ (0 ≤ v2) →
      K σ))) ∧
  (¬ (v2 < 0) →
    (0 ≤ v2 ∧ v2 < 3 ∧ -2147483648 ≤ (sI σ 3 0) - p1 ∧ (sI σ 3 0) - p1 < 2147483648 ∧ -2147483648 ≤ ((sI σ 3 0) - p1) + v2 ∧ ((sI σ 3 0) - p1) + v2 < 2147483648) ∧
    (((sI σ 8 (Int.toNat v2)) < (((sI σ 3 0) - p1) + v2) →
      (-2147483648 ≤ (sI σ 8 (Int.toNat v2)) + 1 ∧ (sI σ 8 (Int.toNat v2)) + 1 < 2147483648 ∧ -2147483648 ≤ v2 + 1 ∧ v2 + 1 < 2147483648) ∧
      am_Runs PP MLL d m_Truths_pickNext 34 [some (qr (3, 9, 11)), some (qi p1), some (qi v2), some (qi (v2 + 1))] [] (putI σ 8 (Int.toNat v2) ((sI σ 8 (Int.toNat v2)) + 1)) (kV K)) ∧
    (¬ ((sI σ 8 (Int.toNat v2)) < (((sI σ 3 0) - p1) + v2)) →
      (-2147483648 ≤ v2 + (-1) ∧ v2 + (-1) < 2147483648) ∧
      am_Runs PP MLL d m_Truths_pickNext 4 [some (qr (3, 9, 11)), some (qi p1), some (qi (v2 + (-1))), z3] [] σ (kV K)))))) : am_Runs PP MLL d m_Truths_pickNext 4 [some (qr (3, 9, 11)), some (qi p1), some (qi v2), z3] [] σ (kV K) := am_wEF_ok (orc [(7, 8, 20, 3), (23, 8, 20, 3)]) 200 (⟨fun c3 => ⟨fun c4 => ⟨⟨rfl, (hR.1 3 10 _ rfl)⟩, ⟨⟨rfl, c4, ((h.1 c3).1 c4).1.1⟩, ⟨⟨((h.1 c3).1 c4).1.2.1, ((h.1 c3).1 c4).1.2.2.1⟩, ⟨⟨rfl, c4, ((h.1 c3).1 c4).1.1⟩, ⟨⟨((h.1 c3).1 c4).1.2.2.2.1, ((h.1 c3).1 c4).1.2.2.2.2⟩, ((h.1 c3).1 c4).2⟩⟩⟩⟩⟩, fun c4 => ((h.1 c3).2 c4)⟩, fun c3 => ⟨⟨rfl, (hR.1 3 10 _ rfl)⟩, ⟨⟨rfl, (h.2 c3).1.1, (h.2 c3).1.2.1⟩, ⟨rfl, ⟨⟨(h.2 c3).1.2.2.1, (h.2 c3).1.2.2.2.1⟩, ⟨⟨(h.2 c3).1.2.2.2.2.1, (h.2 c3).1.2.2.2.2.2⟩, ⟨fun c6 => ⟨fun _ => ⟨⟨rfl, (hR.1 3 10 _ rfl)⟩, ⟨⟨rfl, (h.2 c3).1.1, (h.2 c3).1.2.1⟩, ⟨⟨((h.2 c3).2.1 c6).1.1, ((h.2 c3).2.1 c6).1.2.1⟩, ⟨⟨rfl, (h.2 c3).1.1, (h.2 c3).1.2.1⟩, ⟨⟨((h.2 c3).2.1 c6).1.2.2.1, ((h.2 c3).2.1 c6).1.2.2.2⟩, ((h.2 c3).2.1 c6).2⟩⟩⟩⟩⟩, fun c => absurd (h.2 c3).1.1 c⟩, fun c6 => ⟨⟨((h.2 c3).2.2 c6).1.1, ((h.2 c3).2.2 c6).1.2⟩, ((h.2 c3).2.2 c6).2⟩⟩⟩⟩⟩⟩⟩⟩)

theorem v_Truths_pickNext_34 (d : Nat) (aH nH aL nL aY nY aS nS : Nat) (p1 v3 : Int) (z2 : Option am_V) (σ : am_S) (K : am_S → Prop) (hR : TR σ aH nH aL nL aY nY aS nS) (h :
  ((p1 ≤ v3 →
    K σ) ∧
  (¬ (p1 ≤ v3) →
    (-2147483648 ≤ v3 - 1 ∧ v3 - 1 < 2147483648 ∧ 0 ≤ (v3 - 1) ∧ (v3 - 1) < 3 ∧ -2147483648 ≤ (sI σ 8 (Int.toNat (v3 - 1))) + 1 ∧ (sI σ 8 (Int.toNat (v3 - 1))) + 1 < 2147483648 ∧ 0 ≤ v3 ∧ v3 < 3 ∧ -2147483648 ≤ v3 + 1 ∧ v3 + 1 < 2147483648) ∧
    am_Runs PP MLL d m_Truths_pickNext 34 [some (qr (3, 9, 11)), some (qi p1), (am_cl z2), some (qi (v3 + 1))] [] (putI σ 8 (Int.toNat v3) ((sI σ 8 (Int.toNat (v3 - 1))) + 1)) (kV K)))) : am_Runs PP MLL d m_Truths_pickNext 34 [some (qr (3, 9, 11)), some (qi p1), z2, some (qi v3)] [] σ (kV K) := am_wEF_ok (orc [(38, 8, 20, 3), (41, 8, 20, 3)]) 200 (⟨fun c2 => (h.1 c2), fun c2 => ⟨⟨rfl, (hR.1 3 10 _ rfl)⟩, ⟨⟨rfl, (hR.1 3 10 _ rfl)⟩, ⟨⟨(h.2 c2).1.1, (h.2 c2).1.2.1⟩, ⟨⟨rfl, (h.2 c2).1.2.2.1, (h.2 c2).1.2.2.2.1⟩, ⟨⟨(h.2 c2).1.2.2.2.2.1, (h.2 c2).1.2.2.2.2.2.1⟩, ⟨⟨rfl, (h.2 c2).1.2.2.2.2.2.2.1, (h.2 c2).1.2.2.2.2.2.2.2.1⟩, ⟨⟨(h.2 c2).1.2.2.2.2.2.2.2.2.1, (h.2 c2).1.2.2.2.2.2.2.2.2.2⟩, (h.2 c2).2⟩⟩⟩⟩⟩⟩⟩⟩)

/-- what pickNext makes of the set that was picked -/
def pkS (σ : am_S) (n f x y z : Nat) : am_S := if f = 0 then σ else if f = 1 then (if x + 1 < n then putI σ 8 0 ((x : Int) + 1) else σ) else if f = 2 then (if y + 1 < n then putI σ 8 1 ((y : Int) + 1) else if x + 2 < n then putI (putI σ 8 0 ((x : Int) + 1)) 8 1 ((x : Int) + 2) else σ) else (if z + 1 < n then putI σ 8 2 ((z : Int) + 1) else if y + 2 < n then putI (putI σ 8 1 ((y : Int) + 1)) 8 2 ((y : Int) + 2) else if x + 3 < n then putI (putI (putI σ 8 0 ((x : Int) + 1)) 8 1 ((x : Int) + 2)) 8 2 ((x : Int) + 3) else σ)
theorem c_pickNext (d : Nat) {aH nH aL nL aY nY aS nS : Nat} {n f x y z : Nat} {σ : am_S} {K : am_S → Prop} (hR : TR σ aH nH aL nL aY nY aS nS) (hn : n ≤ 40) (hf : f ≤ 3) (h30 : sI σ 3 0 = n) (hx : 1 ≤ f → sI σ 8 0 = x ∧ x < n) (hy : 2 ≤ f → sI σ 8 1 = y ∧ y < n) (hz : 3 ≤ f → sI σ 8 2 = z ∧ z < n) (h : K (pkS σ n f x y z)) : am_Calls PP MLL (d + 1) m_Truths_pickNext [qr (3, 9, 11), qi (f : Int)] σ (kV K) := by
  have e8 : ∀ (s : am_S) (i : Nat) (v : Int), TR s aH nH aL nL aY nY aS nS → TR (putI s 8 i v) aH nH aL nL aY nY aS nS := fun s i v q => q
  have z3 : ∀ (s : am_S) (i j : Nat) (v : Int), sI (putI s 8 i v) 3 j = sI s 3 j := fun s i j v => by rw [put_ne (by decide)]
  refine v_Truths_pickNext_0 d aH nH aL nL aY nY aS nS f σ K hR ⟨by omega, ?_⟩
  have fin : ∀ (g : Nat) (s : am_S) z2, TR s aH nH aL nL aY nY aS nS → K s → am_Runs PP MLL d m_Truths_pickNext 34 [some (qr (3, 9, 11)), some (qi (g : Int)), z2, some (qi (g : Int))] [] s (kV K) := fun g s z2 hs hk => v_Truths_pickNext_34 d aH nH aL nL aY nY aS nS g g z2 s K hs ⟨fun _ => hk, fun c => absurd (Int.le_refl _) c⟩
  have st34 : ∀ (g i v : Nat) (s : am_S) z2, TR s aH nH aL nL aY nY aS nS → 1 ≤ i → i < g → g ≤ 3 → sI s 8 (i - 1) = v → v < 100 → (∀ z2, am_Runs PP MLL d m_Truths_pickNext 34 [some (qr (3, 9, 11)), some (qi (g : Int)), z2, some (qi ((i + 1 : Nat) : Int))] [] (putI s 8 i ((v : Int) + 1)) (kV K)) → am_Runs PP MLL d m_Truths_pickNext 34 [some (qr (3, 9, 11)), some (qi (g : Int)), z2, some (qi (i : Int))] [] s (kV K) := by
    intro g i v s z2 hs h1 h2 h3 h4 h5 hk
    refine v_Truths_pickNext_34 d aH nH aL nL aY nY aS nS g i z2 s K hs ⟨fun c => absurd c (by omega), fun _ => ?_⟩
    rw [show Int.toNat ((i : Int) - 1) = i - 1 by omega, h4, Int.toNat_natCast]
    exact ⟨by omega, hk _⟩
  have st4 : ∀ (g i v : Nat) (s : am_S) z, TR s aH nH aL nL aY nY aS nS → i < g → g ≤ 3 → sI s 3 0 = n → sI s 8 i = v → v < 40 → (v + g < n + i → am_Runs PP MLL d m_Truths_pickNext 34 [some (qr (3, 9, 11)), some (qi (g : Int)), some (qi (i : Int)), some (qi ((i + 1 : Nat) : Int))] [] (putI s 8 i ((v : Int) + 1)) (kV K)) → (¬ (v + g < n + i) → am_Runs PP MLL d m_Truths_pickNext 4 [some (qr (3, 9, 11)), some (qi (g : Int)), some (qi ((i : Int) + -1)), z] [] s (kV K)) → am_Runs PP MLL d m_Truths_pickNext 4 [some (qr (3, 9, 11)), some (qi (g : Int)), some (qi (i : Int)), z] [] s (kV K) := by
    intro g i v s z hs h1 h2 h3 h4 h5 hy hn
    refine v_Truths_pickNext_4 d aH nH aL nL aY nY aS nS g i z s K hs ⟨fun c => absurd c (by omega), fun _ => ?_⟩
    rw [Int.toNat_natCast, h4, h3]
    exact ⟨by omega, fun c => ⟨by omega, hy (by omega)⟩, fun c => ⟨by omega, hn (by omega)⟩⟩
  have end4 : ∀ (g : Nat) (s : am_S) z, TR s aH nH aL nL aY nY aS nS → K s → am_Runs PP MLL d m_Truths_pickNext 4 [some (qr (3, 9, 11)), some (qi (g : Int)), some (qi (-1)), z] [] s (kV K) := fun g s z hs hk => v_Truths_pickNext_4 d aH nH aL nL aY nY aS nS g (-1) z s K hs ⟨fun _ => ⟨fun c => absurd c (by omega), fun _ => hk⟩, fun c => absurd (by omega) c⟩
  rcases (show f = 0 ∨ f = 1 ∨ f = 2 ∨ f = 3 by omega) with rfl | rfl | rfl | rfl
  · exact end4 0 σ _ hR h
  · obtain ⟨hx, hx2⟩ := hx (by omega)
    unfold pkS at h
    rw [if_neg (by decide), if_pos rfl] at h
    refine st4 1 0 x σ _ hR (by omega) (by omega) h30 hx (by omega) (fun c => ?_) (fun c => ?_)
    · rw [if_pos (by omega)] at h
      exact fin 1 _ _ hR h
    · rw [if_neg (by omega)] at h
      exact end4 1 σ _ hR h
  · obtain ⟨hx, hx2⟩ := hx (by omega)
    obtain ⟨hy, hy2⟩ := hy (by omega)
    unfold pkS at h
    rw [if_neg (by decide), if_neg (by decide), if_pos rfl] at h
    refine st4 2 1 y σ _ hR (by omega) (by omega) h30 hy (by omega) (fun c => ?_) (fun c => ?_)
    · rw [if_pos (by omega)] at h
      exact fin 2 _ _ hR h
    · rw [if_neg (by omega)] at h
      refine st4 2 0 x σ _ hR (by omega) (by omega) h30 hx (by omega) (fun c => ?_) (fun c => ?_)
      · rw [if_pos (by omega)] at h
        refine st34 2 1 (x + 1) _ _ hR (by omega) (by omega) (by omega) (by rw [put_at, if_pos rfl]; rfl) (by omega) (fun z2 => ?_)
        refine fin 2 _ _ hR ?_
        rw [show ((x + 1 : Nat) : Int) + 1 = (x : Int) + 2 by omega]
        exact h
      · rw [if_neg (by omega)] at h
        exact end4 2 σ _ hR h
  · obtain ⟨hx, hx2⟩ := hx (by omega)
    obtain ⟨hy, hy2⟩ := hy (by omega)
    obtain ⟨hz, hz2⟩ := hz (by omega)
    unfold pkS at h
    rw [if_neg (by decide), if_neg (by decide), if_neg (by decide)] at h
    refine st4 3 2 z σ _ hR (by omega) (by omega) h30 hz (by omega) (fun c => ?_) (fun c => ?_)
    · rw [if_pos (by omega)] at h
      exact fin 3 _ _ hR h
    · rw [if_neg (by omega)] at h
      refine st4 3 1 y σ _ hR (by omega) (by omega) h30 hy (by omega) (fun c => ?_) (fun c => ?_)
      · rw [if_pos (by omega)] at h
        refine st34 3 2 (y + 1) _ _ hR (by omega) (by omega) (by omega) (by rw [put_at, if_pos rfl]; rfl) (by omega) (fun z2 => ?_)
        refine fin 3 _ _ hR ?_
        rw [show ((y + 1 : Nat) : Int) + 1 = (y : Int) + 2 by omega]
        exact h
      · rw [if_neg (by omega)] at h
        refine st4 3 0 x σ _ hR (by omega) (by omega) h30 hx (by omega) (fun c => ?_) (fun c => ?_)
        · rw [if_pos (by omega)] at h
          refine st34 3 1 (x + 1) _ _ hR (by omega) (by omega) (by omega) (by rw [put_at, if_pos rfl]; rfl) (by omega) (fun z2 => ?_)
          rw [show ((x + 1 : Nat) : Int) + 1 = (x : Int) + 2 by omega]
          refine st34 3 2 (x + 2) _ _ hR (by omega) (by omega) (by omega) (by rw [put_at, if_pos rfl]; rfl) (by omega) (fun z2 => ?_)
          refine fin 3 _ _ hR ?_
          rw [show ((x + 2 : Nat) : Int) + 1 = (x : Int) + 3 by omega]
          exact h
        · rw [if_neg (by omega)] at h
          exact end4 3 σ _ hR h
