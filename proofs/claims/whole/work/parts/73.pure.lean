/-! the search, pure: weighings one after the other -/
def mi (a b : Int) : Int := if b < a then b else a
theorem mi_l (a b : Int) : mi a b ≤ a ∧ mi a b ≤ b ∧ (mi a b = a ∨ mi a b = b) := by
  unfold mi
  split <;> omega
abbrev sW : Type := Int × (Nat → Int) × (Nat → Int)
def flS (sz : Nat → Int) (j : Nat) (q : Int × Int × (Nat → Int) × (Nat → Int)) : Int × Int × (Nat → Int) × (Nat → Int) :=
  (q.1 - mi (sz j) q.1, q.2.1 - mi (sz j - mi (sz j) q.1) q.2.1, ud q.2.2.1 j (mi (sz j) q.1), ud q.2.2.2 j (mi (sz j - mi (sz j) q.1) q.2.1))
/-- k groups from g on laid as full as can be -/
def fl (sz L R : Nat → Int) (g : Nat) (wl wr : Int) : Nat → Int × Int × (Nat → Int) × (Nat → Int)
  | 0 => (wl, wr, L, R)
  | k + 1 => flS sz (g + k) (fl sz L R g wl wr k)
/-- the next one with as many coins; the first argument: groups that are still to be looked at -/
def lsn (sz L R : Nat → Int) (n : Nat) : Nat → Int → Int → Int → Option ((Nat → Int) × (Nat → Int))
  | 0, _, _, _ => none
  | g + 1, room, wl, wr =>
    if 0 < R g ∧ wl + wr < room then some (fl sz L (ud R g (R g - 1)) (g + 1) wl (wr + 1) (n - (g + 1))).2.2
    else if 0 < L g ∧ wl + 1 + (wr + R g) - mi (sz g - L g + 1) (wr + R g) ≤ room then some (fl sz (ud L g (L g - 1)) (ud R g (mi (sz g - L g + 1) (wr + R g))) (g + 1) (wl + 1) (wr + R g - mi (sz g - L g + 1) (wr + R g)) (n - (g + 1))).2.2
    else lsn sz L R n g (room + sz g) (wl + L g) (wr + R g)
def nxL (sz : Nat → Int) (n : Nat) (w : sW) : Option ((Nat → Int) × (Nat → Int)) := if w.1 = 0 then none else lsn sz w.2.1 w.2.2 n n 0 0 0
def nx (sz : Nat → Int) (n N : Nat) (w : sW) : Option sW := match nxL sz n w with
  | some q => some (w.1, q)
  | none => if (N : Int) < 2 * (w.1 + 1) then none else some (w.1 + 1, (fl sz w.2.1 w.2.2 0 (w.1 + 1) (w.1 + 1) n).2.2)
/-- sums from g on -/
def sg (f : Nat → Int) (g : Nat) (k : Nat) : Int := sm (fun i => f (g + i)) k
theorem sg_s (f : Nat → Int) (g k : Nat) : sg f g (k + 1) = sg f g k + f (g + k) := rfl
theorem sg_f (f : Nat → Int) : ∀ k g, sg f g (k + 1) = f g + sg f (g + 1) k
  | 0, g => by
    show (0 : Int) + f (g + 0) = f g + 0
    rw [Nat.add_zero]
    omega
  | k + 1, g => by
    rw [sg_s, sg_f f k g, sg_s, show g + 1 + k = g + (k + 1) by omega]
    omega
theorem sg_nn {f : Nat → Int} {g : Nat} : ∀ k, (∀ i, i < k → 0 ≤ f (g + i)) → 0 ≤ sg f g k
  | 0, _ => Int.le_refl _
  | k + 1, h => by
    have := sg_nn k (fun i hi => h i (by omega))
    have := h k (by omega)
    rw [sg_s]
    omega
theorem sg_congr {f f' : Nat → Int} {g : Nat} (k : Nat) (h : ∀ i, i < k → f (g + i) = f' (g + i)) : sg f g k = sg f' g k := sm_congr k h
theorem sm_sg (f : Nat → Int) (g k : Nat) : sm f (g + k) = sm f g + sg f g k := by
  rw [sm_add]
  rfl
/-- what laying does -/
theorem fl_o {sz L R : Nat → Int} {g : Nat} {wl wr : Int} : ∀ k j, (j < g ∨ g + k ≤ j) → (fl sz L R g wl wr k).2.2.1 j = L j ∧ (fl sz L R g wl wr k).2.2.2 j = R j
  | 0, _, _ => ⟨rfl, rfl⟩
  | k + 1, j, h => by
    have ih := fl_o (sz := sz) (L := L) (R := R) (g := g) (wl := wl) (wr := wr) k j (by omega)
    unfold fl flS ud
    dsimp only
    rw [if_neg (by omega), if_neg (by omega)]
    exact ih
theorem fl_in {sz L R : Nat → Int} {g : Nat} {wl wr : Int} (hl : 0 ≤ wl) (hr : 0 ≤ wr) (m : Nat) (hz : ∀ j, j < g + m → 0 ≤ sz j) (hs : wl + wr ≤ sg sz g m) : ∀ k, k ≤ m → (0 ≤ (fl sz L R g wl wr k).1 ∧ 0 ≤ (fl sz L R g wl wr k).2.1 ∧ (fl sz L R g wl wr k).1 + (fl sz L R g wl wr k).2.1 ≤ sg sz g m - sg sz g k) ∧ (∀ j, g ≤ j → j < g + k → 0 ≤ (fl sz L R g wl wr k).2.2.1 j ∧ 0 ≤ (fl sz L R g wl wr k).2.2.2 j ∧ (fl sz L R g wl wr k).2.2.1 j + (fl sz L R g wl wr k).2.2.2 j ≤ sz j) ∧ wl - (fl sz L R g wl wr k).1 = sg (fl sz L R g wl wr k).2.2.1 g k ∧ wr - (fl sz L R g wl wr k).2.1 = sg (fl sz L R g wl wr k).2.2.2 g k
  | 0, _ => by
    refine ⟨⟨hl, hr, ?_⟩, fun j h1 h2 => by omega, ?_, ?_⟩
    · show wl + wr ≤ sg sz g m - 0
      omega
    · show wl - wl = 0
      omega
    · show wr - wr = 0
      omega
  | k + 1, hk => by
    obtain ⟨⟨i1, i2, i3⟩, i4, i5, i6⟩ := fl_in (L := L) (R := R) hl hr m hz hs k (by omega)
    obtain ⟨q, hq⟩ : ∃ q, q = fl sz L R g wl wr k := ⟨_, rfl⟩
    have e : fl sz L R g wl wr (k + 1) = flS sz (g + k) q := by rw [hq]; rfl
    rw [e]
    rw [← hq] at i1 i2 i3 i4 i5 i6
    have hzk := hz (g + k) (by omega)
    have hrest : 0 ≤ sg sz g m - sg sz g (k + 1) := by
      obtain ⟨r, rfl⟩ : ∃ r, m = (k + 1) + r := ⟨m - (k + 1), by omega⟩
      have e2 : sg sz g (k + 1 + r) = sg sz g (k + 1) + sg sz (g + (k + 1)) r := by
        unfold sg
        rw [sm_add]
        rw [sm_congr r (g := fun i => sz (g + (k + 1) + i)) (fun i _ => by rw [show g + (k + 1 + i) = g + (k + 1) + i by omega])]
      have := sg_nn (f := sz) (g := g + (k + 1)) r (fun i hi => hz _ (by omega))
      omega
    have hss := sg_s sz g k
    have a := mi_l (sz (g + k)) q.1
    have b := mi_l (sz (g + k) - mi (sz (g + k)) q.1) q.2.1
    unfold flS
    dsimp only
    obtain ⟨A, hA⟩ : ∃ A, A = mi (sz (g + k)) q.1 := ⟨_, rfl⟩
    rw [← hA] at a b ⊢
    obtain ⟨B, hB⟩ : ∃ B, B = mi (sz (g + k) - A) q.2.1 := ⟨_, rfl⟩
    rw [← hB] at b ⊢
    refine ⟨⟨by omega, by omega, by omega⟩, fun j h1 h2 => ?_, ?_, ?_⟩
    · unfold ud
      by_cases ej : j = g + k
      · rw [if_pos ej, if_pos ej, ej]
        omega
      · rw [if_neg ej, if_neg ej]
        exact i4 j h1 (by omega)
    · rw [sg_s, sg_congr (f' := q.2.2.1) k (fun i hi => by unfold ud; rw [if_neg (by omega)]), ← i5]
      unfold ud
      rw [if_pos rfl]
      omega
    · rw [sg_s, sg_congr (f' := q.2.2.2) k (fun i hi => by unfold ud; rw [if_neg (by omega)]), ← i6]
      unfold ud
      rw [if_pos rfl]
      omega
/-- all laid: k groups that have room enough -/
theorem fl_all {sz L R : Nat → Int} {g : Nat} {wl wr : Int} (hl : 0 ≤ wl) (hr : 0 ≤ wr) (k : Nat) (hz : ∀ j, j < g + k → 0 ≤ sz j) (hs : wl + wr ≤ sg sz g k) : (∀ j, g ≤ j → j < g + k → 0 ≤ (fl sz L R g wl wr k).2.2.1 j ∧ 0 ≤ (fl sz L R g wl wr k).2.2.2 j ∧ (fl sz L R g wl wr k).2.2.1 j + (fl sz L R g wl wr k).2.2.2 j ≤ sz j) ∧ sg (fl sz L R g wl wr k).2.2.1 g k = wl ∧ sg (fl sz L R g wl wr k).2.2.2 g k = wr := by
  obtain ⟨⟨i1, i2, i3⟩, i4, i5, i6⟩ := fl_in (L := L) (R := R) hl hr k hz hs k (Nat.le_refl _)
  exact ⟨i4, by omega, by omega⟩
def WV (sz : Nat → Int) (n N : Nat) (w : sW) : Prop := (1 ≤ w.1 ∧ 2 * w.1 ≤ N) ∧ (∀ g, g < n → 0 ≤ w.2.1 g ∧ 0 ≤ w.2.2 g ∧ w.2.1 g + w.2.2 g ≤ sz g) ∧ sm w.2.1 n = w.1 ∧ sm w.2.2 n = w.1
/-- value of a weighing: it gets less from one to the next -/
def wval (L R : Nat → Int) : Nat → Int
  | 0 => 0
  | n + 1 => 169 * wval L R n + (13 * L n + R n)
theorem wval_bd {L R sz : Nat → Int} : ∀ n, (∀ g, g < n → 0 ≤ L g ∧ 0 ≤ R g ∧ L g + R g ≤ sz g ∧ sz g ≤ 12) → 0 ≤ wval L R n ∧ wval L R n < 169 ^ n
  | 0, _ => by
    show (0 : Int) ≤ 0 ∧ (0 : Int) < 169 ^ 0
    decide
  | n + 1, h => by
    have ih := wval_bd n (fun g hg => h g (by omega))
    have := h n (by omega)
    show 0 ≤ 169 * wval L R n + (13 * L n + R n) ∧ 169 * wval L R n + (13 * L n + R n) < 169 ^ (n + 1)
    rw [Int.pow_succ]
    omega
theorem wval_congr {L R L' R' : Nat → Int} : ∀ n, (∀ g, g < n → L g = L' g ∧ R g = R' g) → wval L R n = wval L' R' n
  | 0, _ => rfl
  | n + 1, h => by
    have ih := wval_congr n (fun g hg => h g (by omega))
    have := h n (by omega)
    show 169 * wval L R n + (13 * L n + R n) = 169 * wval L' R' n + (13 * L' n + R' n)
    rw [ih, this.1, this.2]
/-- less at one place, whatever stands behind it -/
theorem wval_lt {L R L' R' sz : Nat → Int} {g : Nat} (h1 : ∀ j, j < g → L' j = L j ∧ R' j = R j) (h2 : 13 * L' g + R' g < 13 * L g + R g) : ∀ k, (∀ j, j < g + 1 + k → 0 ≤ L' j ∧ 0 ≤ R' j ∧ L' j + R' j ≤ sz j ∧ sz j ≤ 12) → (∀ j, j < g + 1 + k → 0 ≤ L j ∧ 0 ≤ R j) → wval L' R' (g + 1 + k) < wval L R (g + 1 + k)
  | 0, _, _ => by
    show 169 * wval L' R' g + (13 * L' g + R' g) < 169 * wval L R g + (13 * L g + R g)
    rw [wval_congr g (fun j hj => h1 j hj)]
    omega
  | k + 1, h3, h4 => by
    have ih := wval_lt (sz := sz) h1 h2 k (fun j hj => h3 j (by omega)) (fun j hj => h4 j (by omega))
    have a := h3 (g + 1 + k) (by omega)
    have b := h4 (g + 1 + k) (by omega)
    show 169 * wval L' R' (g + 1 + k) + (13 * L' (g + 1 + k) + R' (g + 1 + k)) < 169 * wval L R (g + 1 + k) + (13 * L (g + 1 + k) + R (g + 1 + k))
    omega
/-- what the next one with as many coins is -/
theorem lsn_ok {sz L R : Nat → Int} {n : Nat} {P : Int} (hz : ∀ g, g < n → 0 ≤ sz g ∧ sz g ≤ 12) (hv : ∀ g, g < n → 0 ≤ L g ∧ 0 ≤ R g ∧ L g + R g ≤ sz g) : ∀ (g : Nat), g ≤ n → ∀ q, lsn sz L R n g (sg sz g (n - g)) (sg L g (n - g)) (sg R g (n - g)) = some q → (∀ j, j < n → 0 ≤ q.1 j ∧ 0 ≤ q.2 j ∧ q.1 j + q.2 j ≤ sz j) ∧ sm q.1 n = sm L n ∧ sm q.2 n = sm R n ∧ wval q.1 q.2 n < wval L R n := by
  intro g
  induction g with
  | zero => intro _ q h; cases h
  | succ g ih =>
    intro hg q h
    obtain ⟨k, hk⟩ : ∃ k, n = g + 1 + k := ⟨n - (g + 1), by omega⟩
    have ek : n - (g + 1) = k := by omega
    have ek2 : n - g = k + 1 := by omega
    rw [ek] at h
    unfold lsn at h
    rw [ek] at h
    have vg := hv g (by omega)
    have zg := hz g (by omega)
    have sl := sg_nn (f := L) (g := g + 1) k (fun i hi => (hv _ (by omega)).1)
    have sr := sg_nn (f := R) (g := g + 1) k (fun i hi => (hv _ (by omega)).2.1)
    have sumL : ∀ (f : Nat → Int), sm f n = sm f g + f g + sg f (g + 1) k := by
      intro f
      rw [hk, sm_sg f (g + 1) k]
      rfl
    -- a change at g and what is laid behind it
    have done : ∀ (l r wl wr : Int), 0 ≤ l → 0 ≤ r → l + r ≤ sz g → 13 * l + r < 13 * L g + R g → 0 ≤ wl → 0 ≤ wr → wl + wr ≤ sg sz (g + 1) k → l + wl = L g + sg L (g + 1) k → r + wr = R g + sg R (g + 1) k → q = (fl sz (ud L g l) (ud R g r) (g + 1) wl wr k).2.2 → (∀ j, j < n → 0 ≤ q.1 j ∧ 0 ≤ q.2 j ∧ q.1 j + q.2 j ≤ sz j) ∧ sm q.1 n = sm L n ∧ sm q.2 n = sm R n ∧ wval q.1 q.2 n < wval L R n := by
      intro l r wl wr l0 r0 lr hlt w0 w1 hw el er hq
      obtain ⟨f1, f2, f3⟩ := fl_all (L := ud L g l) (R := ud R g r) w0 w1 k (fun j hj => (hz j (by omega)).1) hw
      have fo := fun j (hj : j < g + 1) => fl_o (sz := sz) (L := ud L g l) (R := ud R g r) (g := g + 1) (wl := wl) (wr := wr) k j (Or.inl hj)
      rw [← hq] at f1 f2 f3
      have foq : ∀ j, j < g + 1 → q.1 j = ud L g l j ∧ q.2 j = ud R g r j := fun j hj => by
        have := fo j hj
        rw [← hq] at this
        exact this
      have eg : q.1 g = l ∧ q.2 g = r := by
        have := foq g (by omega)
        unfold ud at this
        rw [if_pos rfl, if_pos rfl] at this
        exact this
      have elo : ∀ j, j < g → q.1 j = L j ∧ q.2 j = R j := fun j hj => by
        have := foq j (by omega)
        unfold ud at this
        rw [if_neg (by omega), if_neg (by omega)] at this
        exact this
      have hall : ∀ j, j < n → 0 ≤ q.1 j ∧ 0 ≤ q.2 j ∧ q.1 j + q.2 j ≤ sz j := by
        intro j hj
        by_cases e1 : j < g
        · rw [(elo j e1).1, (elo j e1).2]
          exact hv j hj
        · by_cases e2 : j = g
          · rw [e2, eg.1, eg.2]
            omega
          · exact f1 j (by omega) (by omega)
      refine ⟨hall, ?_, ?_, ?_⟩
      · rw [sumL q.1, sumL L, sm_congr g (g := L) (fun i hi => (elo i hi).1), eg.1, f2]
        omega
      · rw [sumL q.2, sumL R, sm_congr g (g := R) (fun i hi => (elo i hi).2), eg.2, f3]
        omega
      · rw [hk]
        refine wval_lt (sz := sz) elo (by rw [eg.1, eg.2]; exact hlt) k (fun j hj => ?_) (fun j hj => ?_)
        · have := hall j (by omega)
          have := hz j (by omega)
          omega
        · have := hv j (by omega)
          omega
    have udL : ud L g (L g) = L := by
      funext j
      unfold ud
      split
      · rename_i e; rw [e]
      · rfl
    by_cases c1 : 0 < R g ∧ sg L (g + 1) k + sg R (g + 1) k < sg sz (g + 1) k
    · rw [if_pos c1] at h
      refine done (L g) (R g - 1) (sg L (g + 1) k) (sg R (g + 1) k + 1) vg.1 (by omega) (by omega) (by omega) sl (by omega) (by omega) (by omega) (by omega) ?_
      rw [udL]
      exact (Option.some.inj h).symm
    · rw [if_neg c1] at h
      have m1 := mi_l (sz g - L g + 1) (sg R (g + 1) k + R g)
      obtain ⟨M, hM⟩ : ∃ M, M = mi (sz g - L g + 1) (sg R (g + 1) k + R g) := ⟨_, rfl⟩
      rw [← hM] at h m1
      by_cases c2 : 0 < L g ∧ sg L (g + 1) k + 1 + (sg R (g + 1) k + R g) - M ≤ sg sz (g + 1) k
      · rw [if_pos c2] at h
        exact done (L g - 1) M _ _ (by omega) (by omega) (by omega) (by omega) (by omega) (by omega) (by omega) (by omega) (by omega) (Option.some.inj h).symm
      · rw [if_neg c2] at h
        refine ih (by omega) q ?_
        rw [ek2, sg_f sz, sg_f L, sg_f R, Int.add_comm (sz g), Int.add_comm (L g), Int.add_comm (R g)]
        exact h
theorem nx_ok {sz : Nat → Int} {n N : Nat} {w w' : sW} (hz : ∀ g, g < n → 0 ≤ sz g ∧ sz g ≤ 12) (hs : sm sz n = N) (h0 : w.1 = 0 ∨ WV sz n N w) (h : nx sz n N w = some w') : WV sz n N w' ∧ ((w'.1 = w.1 ∧ wval w'.2.1 w'.2.2 n < wval w.2.1 w.2.2 n) ∨ w'.1 = w.1 + 1) := by
  have key : ∀ q, nxL sz n w = some q → WV sz n N (w.1, q) ∧ wval q.1 q.2 n < wval w.2.1 w.2.2 n := by
    intro q hq
    unfold nxL at hq
    by_cases e : w.1 = 0
    · rw [if_pos e] at hq; cases hq
    · rw [if_neg e] at hq
      rcases h0 with h0 | ⟨a1, a2, a3, a4⟩
      · exact absurd h0 e
      · have := lsn_ok (P := 0) hz a2 n (Nat.le_refl _) q (by rw [Nat.sub_self]; exact hq)
        exact ⟨⟨a1, this.1, by rw [this.2.1]; exact a3, by rw [this.2.2.1]; exact a4⟩, this.2.2.2⟩
  unfold nx at h
  cases hq : nxL sz n w with
  | some q =>
    rw [hq] at h
    have e : w' = (w.1, q) := (Option.some.inj h).symm
    have := key q hq
    rw [e]
    exact ⟨this.1, Or.inl ⟨rfl, this.2⟩⟩
  | none =>
    rw [hq] at h
    dsimp only at h
    split at h
    · cases h
    · rename_i hN
      have e := (Option.some.inj h).symm
      have p0 : 0 ≤ w.1 := by
        rcases h0 with q | q
        · omega
        · have := q.1; omega
      obtain ⟨f1, f2, f3⟩ := fl_all (sz := sz) (L := w.2.1) (R := w.2.2) (g := 0) (wl := w.1 + 1) (wr := w.1 + 1) (by omega) (by omega) n (fun j hj => (hz j (by omega)).1) (by
        have e0 : sg sz 0 n = sm sz n := sm_congr n (fun i _ => by rw [Nat.zero_add])
        rw [e0, hs]
        omega)
      have e0 : ∀ f, sg f 0 n = sm f n := fun f => sm_congr n (fun i _ => by rw [Nat.zero_add])
      rw [e0] at f2 f3
      rw [e]
      exact ⟨⟨⟨by dsimp only; omega, by dsimp only; omega⟩, fun g hg => f1 g (Nat.zero_le _) (by omega), f2, f3⟩, Or.inr rfl⟩
