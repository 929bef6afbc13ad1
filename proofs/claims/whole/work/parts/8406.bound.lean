/-! the search, pure: not more than 100663296 weighings of a case -/
def dg4 (s L R : Int) : Int := L * (s + 1) + R
def wv4 (sz L R : Nat → Int) : Nat → Int
  | 0 => 0
  | n + 1 => wv4 sz L R n * ((sz n + 1) * (sz n + 1)) + dg4 (sz n) (L n) (R n)
def prd (sz : Nat → Int) : Nat → Int
  | 0 => 1
  | n + 1 => prd sz n * ((sz n + 1) * (sz n + 1))
theorem dg4_bd {s L R : Int} (hs : 0 ≤ s) (hL : 0 ≤ L) (hR : 0 ≤ R) (h : L + R ≤ s) : 0 ≤ dg4 s L R ∧ dg4 s L R < (s + 1) * (s + 1) := by
  unfold dg4
  have h1 : 0 ≤ L * (s + 1) := Int.mul_nonneg hL (by omega)
  have h2 : (L + 1) * (s + 1) ≤ (s + 1) * (s + 1) := Int.mul_le_mul_of_nonneg_right (by omega) (by omega)
  rw [Int.add_mul, Int.one_mul] at h2
  omega
theorem dg4_lt {s L R L' R' : Int} (hs : 0 ≤ s ∧ s ≤ 12) (h0 : 0 ≤ L' ∧ 0 ≤ R' ∧ L' + R' ≤ s) (h1 : 0 ≤ L ∧ 0 ≤ R ∧ L + R ≤ s) (h : 13 * L' + R' < 13 * L + R) : dg4 s L' R' < dg4 s L R := by
  unfold dg4
  by_cases e : L' = L
  · rw [e]
    omega
  · have h2 : (L' + 1) * (s + 1) ≤ L * (s + 1) := Int.mul_le_mul_of_nonneg_right (by omega) (by omega)
    rw [Int.add_mul, Int.one_mul] at h2
    omega
theorem wv4_lt {sz L R L' R' : Nat → Int} : ∀ n, (∀ g, g < n → 0 ≤ sz g ∧ sz g ≤ 12) → (∀ g, g < n → 0 ≤ L g ∧ 0 ≤ R g ∧ L g + R g ≤ sz g) → (∀ g, g < n → 0 ≤ L' g ∧ 0 ≤ R' g ∧ L' g + R' g ≤ sz g) → (wval L' R' n < wval L R n → wv4 sz L' R' n < wv4 sz L R n) ∧ (wval L' R' n = wval L R n → wv4 sz L' R' n = wv4 sz L R n)
  | 0, _, _, _ => ⟨fun h => absurd h (by show ¬ (0 : Int) < 0; decide), fun _ => rfl⟩
  | n + 1, hz, h1, h2 => by
    obtain ⟨i1, i2⟩ := wv4_lt n (fun g hg => hz g (by omega)) (fun g hg => h1 g (by omega)) (fun g hg => h2 g (by omega))
    have a := h1 n (by omega)
    have b := h2 n (by omega)
    have z := hz n (by omega)
    have d1 := dg4_bd z.1 a.1 a.2.1 a.2.2
    have d2 := dg4_bd z.1 b.1 b.2.1 b.2.2
    have e1 : wval L' R' (n + 1) = 169 * wval L' R' n + (13 * L' n + R' n) := rfl
    have e2 : wval L R (n + 1) = 169 * wval L R n + (13 * L n + R n) := rfl
    have e3 : wv4 sz L' R' (n + 1) = wv4 sz L' R' n * ((sz n + 1) * (sz n + 1)) + dg4 (sz n) (L' n) (R' n) := rfl
    have e4 : wv4 sz L R (n + 1) = wv4 sz L R n * ((sz n + 1) * (sz n + 1)) + dg4 (sz n) (L n) (R n) := rfl
    rw [e1, e2, e3, e4]
    refine ⟨fun h => ?_, fun h => ?_⟩
    · by_cases c : wval L' R' n < wval L R n
      · have w := i1 c
        have q : (wv4 sz L' R' n + 1) * ((sz n + 1) * (sz n + 1)) ≤ wv4 sz L R n * ((sz n + 1) * (sz n + 1)) := Int.mul_le_mul_of_nonneg_right (by omega) (by omega)
        rw [Int.add_mul, Int.one_mul] at q
        omega
      · have c2 : wval L' R' n = wval L R n := by omega
        have w := i2 c2
        have q := dg4_lt z b a (by omega)
        rw [w]
        omega
    · have c2 : wval L' R' n = wval L R n := by omega
      have w := i2 c2
      have l1 : L' n = L n := by omega
      have l2 : R' n = R n := by omega
      rw [w, l1, l2]
theorem wv4_bd {sz L R : Nat → Int} : ∀ n, (∀ g, g < n → 0 ≤ sz g ∧ sz g ≤ 12) → (∀ g, g < n → 0 ≤ L g ∧ 0 ≤ R g ∧ L g + R g ≤ sz g) → 0 ≤ wv4 sz L R n ∧ wv4 sz L R n < prd sz n
  | 0, _, _ => by
    show (0 : Int) ≤ 0 ∧ (0 : Int) < 1
    decide
  | n + 1, hz, h1 => by
    obtain ⟨i1, i2⟩ := wv4_bd n (fun g hg => hz g (by omega)) (fun g hg => h1 g (by omega))
    have a := h1 n (by omega)
    have z := hz n (by omega)
    have d1 := dg4_bd z.1 a.1 a.2.1 a.2.2
    show 0 ≤ wv4 sz L R n * ((sz n + 1) * (sz n + 1)) + dg4 (sz n) (L n) (R n) ∧ wv4 sz L R n * ((sz n + 1) * (sz n + 1)) + dg4 (sz n) (L n) (R n) < prd sz n * ((sz n + 1) * (sz n + 1))
    have p0 : 0 ≤ wv4 sz L R n * ((sz n + 1) * (sz n + 1)) := Int.mul_nonneg i1 (by omega)
    have q : (wv4 sz L R n + 1) * ((sz n + 1) * (sz n + 1)) ≤ prd sz n * ((sz n + 1) * (sz n + 1)) := Int.mul_le_mul_of_nonneg_right (by omega) (by omega)
    rw [Int.add_mul, Int.one_mul] at q
    omega
theorem prd_bd {sz : Nat → Int} : ∀ n, (∀ g, g < n → 0 ≤ sz g ∧ sz g ≤ 12) → ∃ k : Nat, sm sz n = k ∧ 0 ≤ prd sz n ∧ prd sz n ≤ 4 ^ k
  | 0, _ => ⟨0, rfl, by show (0 : Int) ≤ 1 ∧ (1 : Int) ≤ 4 ^ 0; decide⟩
  | n + 1, hz => by
    obtain ⟨k, e, i0, i1⟩ := prd_bd n (fun g hg => hz g (by omega))
    have z := hz n (by omega)
    obtain ⟨s, es⟩ : ∃ s : Nat, sz n = s := ⟨(sz n).toNat, by omega⟩
    have tb : ∀ s : Nat, s < 13 → ((s : Int) + 1) * ((s : Int) + 1) ≤ 4 ^ s := by decide
    have t := tb s (by omega)
    refine ⟨k + s, ?_, ?_, ?_⟩
    · show sm sz n + sz n = _
      rw [e, es]
      omega
    · show 0 ≤ prd sz n * ((sz n + 1) * (sz n + 1))
      exact Int.mul_nonneg i0 (Int.mul_nonneg (by omega) (by omega))
    · show prd sz n * ((sz n + 1) * (sz n + 1)) ≤ 4 ^ (k + s)
      rw [es, Int.pow_add]
      refine Int.le_trans (Int.mul_le_mul_of_nonneg_left t i0) (Int.mul_le_mul_of_nonneg_right i1 ?_)
      exact Int.le_trans (Int.mul_nonneg (by omega) (by omega)) t
theorem wsq_bd {X : sX} (hX : XV X) (c : Nat → Int) : ∀ (j : Nat) w, wsq X c j = some w → (6 - w.1) * 16777216 + wv4 (zC X c) w.2.1 w.2.2 (nC X c) + (j : Int) < 100663296 := by
  have hz : ∀ g, g < nC X c → 0 ≤ zC X c g ∧ zC X c g ≤ 12 := fun g hg => zC_bd hX c g hg
  have hN := hX.1
  obtain ⟨k, e, p0, p1⟩ := prd_bd (nC X c) hz
  have ek : k ≤ 12 := by
    rw [zC_sm X c] at e
    omega
  have p2 : prd (zC X c) (nC X c) ≤ 16777216 := by
    have tb : ∀ k : Nat, k < 13 → (4 : Int) ^ k ≤ 16777216 := by decide
    exact Int.le_trans p1 (tb k (by omega))
  intro j
  induction j with
  | zero =>
    intro w hw
    have v := wsq_WV hX c 0 w hw
    have n0 : nx (zC X c) (nC X c) (xN X) (0, fun _ => 0, fun _ => 0) = some w := hw
    have q := nx_ok hz (zC_sm X c) (Or.inl rfl) n0
    have b := wv4_bd (nC X c) hz v.2.1
    have v1 := v.1
    have e1 : w.1 = 1 := by
      rcases q.2 with ⟨q1, _⟩ | q1
      · have q1' : w.1 = 0 := q1
        omega
      · have q1' : w.1 = 0 + 1 := q1
        omega
    rw [e1]
    omega
  | succ j ih =>
    intro w hw
    have v := wsq_WV hX c (j + 1) w hw
    cases hp : wsq X c j with
    | none =>
      have u : wsq X c (j + 1) = none := by
        show (match wsq X c j with | none => none | some w => nxC X c w) = none
        rw [hp]
      rw [u] at hw
      exact absurd hw (by simp)
    | some w0 =>
      have u := wsq_s X c j hp
      rw [u] at hw
      have v0 := wsq_WV hX c j w0 hp
      have q := nx_ok hz (zC_sm X c) (Or.inr v0) hw
      have i := ih w0 hp
      have b := wv4_bd (nC X c) hz v.2.1
      have b0 := wv4_bd (nC X c) hz v0.2.1
      rcases q.2 with ⟨q1, q2⟩ | q1
      · have lt := (wv4_lt (nC X c) hz v0.2.1 v.2.1).1 q2
        rw [q1]
        omega
      · rw [q1]
        omega
theorem wct_bd {X : sX} (hX : XV X) (c : Nat → Int) : wct X c ≤ 100663296 := by
  by_cases e : wct X c = 0
  · omega
  · obtain ⟨w, hw⟩ := (wct_spec hX c).2 (wct X c - 1) (by omega)
    have b := wsq_bd hX c _ w hw
    have v := wsq_WV hX c _ w hw
    have hz : ∀ g, g < nC X c → 0 ≤ zC X c g ∧ zC X c g ≤ 12 := fun g hg => zC_bd hX c g hg
    have b0 := wv4_bd (nC X c) hz v.2.1
    have hN := hX.1
    have v1 := v.1
    omega
