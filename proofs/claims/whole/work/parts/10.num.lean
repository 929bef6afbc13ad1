/-! whole numbers and the machine's numbers -/
def inI (x : Int) : Prop := -2147483648 ≤ x ∧ x < 2147483648
def inL (x : Int) : Prop := -9223372036854775808 ≤ x ∧ x < 9223372036854775808
theorem inI_w (x : Int) : inI (w32 x) := by unfold inI w32; omega
theorem inL_w (x : Int) : inL (w64 x) := by unfold inL w64; omega
theorem inI_L {x : Int} (h : inI x) : inL x := by unfold inI at h; unfold inL; omega
theorem n_w (x : Int) : Int32.ofInt (w32 x) = Int32.ofInt x := by
  apply Int32.toInt_inj.mp
  rw [Int32.toInt_ofInt, Int32.toInt_ofInt]
  have e : w32 x % 4294967296 = x % 4294967296 := by unfold w32; omega
  exact (Int.emod_bmod (w32 x) Int32.size).symm.trans ((congrArg (fun z => Int.bmod z Int32.size) e).trans (Int.emod_bmod x Int32.size))
theorem l_w (x : Int) : Int64.ofInt (w64 x) = Int64.ofInt x := by
  apply Int64.toInt_inj.mp
  rw [Int64.toInt_ofInt, Int64.toInt_ofInt]
  have e : w64 x % 18446744073709551616 = x % 18446744073709551616 := by unfold w64; omega
  exact (Int.emod_bmod (w64 x) Int64.size).symm.trans ((congrArg (fun z => Int.bmod z Int64.size) e).trans (Int.emod_bmod x Int64.size))
theorem n_t {x : Int} (h : inI x) : (Int32.ofInt x).toInt = x := Int32.toInt_ofInt_of_le h.1 h.2
theorem l_t {x : Int} (h : inL x) : (Int64.ofInt x).toInt = x := Int64.toInt_ofInt_of_le h.1 h.2
theorem n_o (x : Int32) : Int32.ofInt x.toInt = x := Int32.ofInt_toInt x
theorem l_o (x : Int64) : Int64.ofInt x.toInt = x := Int64.ofInt_toInt x
theorem n_r (x : Int32) : inI x.toInt := ⟨Int32.le_toInt x, Int32.toInt_lt x⟩
theorem l_r (x : Int64) : inL x.toInt := ⟨Int64.le_toInt x, Int64.toInt_lt x⟩
theorem n_add (a b : Int) : Int32.ofInt a + Int32.ofInt b = Int32.ofInt (w32 (a + b)) := by rw [n_w, Int32.ofInt_add]
theorem n_sub (a b : Int) : Int32.ofInt a - Int32.ofInt b = Int32.ofInt (w32 (a - b)) := by rw [n_w, Int32.ofInt_sub]
theorem n_mul (a b : Int) : Int32.ofInt a * Int32.ofInt b = Int32.ofInt (w32 (a * b)) := by rw [n_w, Int32.ofInt_mul]
theorem n_neg (a : Int) : -Int32.ofInt a = Int32.ofInt (w32 (-a)) := by rw [n_w, Int32.ofInt_neg]
theorem l_add (a b : Int) : Int64.ofInt a + Int64.ofInt b = Int64.ofInt (w64 (a + b)) := by rw [l_w, Int64.ofInt_add]
theorem l_sub (a b : Int) : Int64.ofInt a - Int64.ofInt b = Int64.ofInt (w64 (a - b)) := by rw [l_w, Int64.ofInt_sub]
theorem l_mul (a b : Int) : Int64.ofInt a * Int64.ofInt b = Int64.ofInt (w64 (a * b)) := by rw [l_w, Int64.ofInt_mul]
theorem n_lt {a b : Int} (ha : inI a) (hb : inI b) : Int32.ofInt a < Int32.ofInt b ↔ a < b := by
  rw [Int32.lt_iff_toInt_lt, n_t ha, n_t hb]
theorem n_le {a b : Int} (ha : inI a) (hb : inI b) : Int32.ofInt a ≤ Int32.ofInt b ↔ a ≤ b := by
  rw [Int32.le_iff_toInt_le, n_t ha, n_t hb]
theorem n_eq {a b : Int} (ha : inI a) (hb : inI b) : Int32.ofInt a = Int32.ofInt b ↔ a = b := by
  rw [← Int32.toInt_inj, n_t ha, n_t hb]
theorem l_lt {a b : Int} (ha : inL a) (hb : inL b) : Int64.ofInt a < Int64.ofInt b ↔ a < b := by
  rw [Int64.lt_iff_toInt_lt, l_t ha, l_t hb]
theorem l_eq {a b : Int} (ha : inL a) (hb : inL b) : Int64.ofInt a = Int64.ofInt b ↔ a = b := by
  rw [← Int64.toInt_inj, l_t ha, l_t hb]
theorem inI_max {a : Int} (h : inI a) : a ≤ Int32.maxValue.toInt := by
  show a ≤ 2147483647
  have := h.2
  omega
theorem n_div {a b : Int} (ha : inI a) (hb : inI b) : Int32.ofInt a / Int32.ofInt b = Int32.ofInt (w32 (a.tdiv b)) := by
  rw [n_w, Int32.ofInt_tdiv ha.1 (inI_max ha) hb.1 (inI_max hb)]
theorem n_rem {a b : Int} (ha : inI a) (hb : inI b) : Int32.ofInt a - Int32.ofInt a / Int32.ofInt b * Int32.ofInt b = Int32.ofInt (a.tmod b) := by
  rw [← Int32.ofInt_tdiv ha.1 (inI_max ha) hb.1 (inI_max hb), ← Int32.ofInt_mul, ← Int32.ofInt_sub]
  congr 1
  have h := Int.mul_tdiv_add_tmod a b
  rw [Int.mul_comm] at h
  omega
theorem inI_tmod {a b : Int} (ha : inI a) (h0 : b ≠ 0) : inI (a.tmod b) := by
  have h1 : (a.tmod b).natAbs ≤ a.natAbs := by
    rw [Int.natAbs_tmod]
    exact Nat.mod_le _ _
  have h2 : 0 ≤ a → 0 ≤ a.tmod b := fun h => Int.tmod_nonneg b h
  have h3 : 0 ≤ -a → 0 ≤ (-a).tmod b := fun h => Int.tmod_nonneg b h
  rw [Int.neg_tmod] at h3
  unfold inI at ha ⊢
  omega
theorem n_cl {j : Int} (h0 : 0 ≤ j) (h : inI j) : (Int32.ofInt j).toNatClampNeg = j.toNat := by
  have e := n_t h
  rw [← e]
  simp [Int32.toNatClampNeg]
theorem n_in {j : Int} {n : Nat} (h0 : 0 ≤ j) (h1 : j < (n : Int)) (h : inI j) : vp_in (Int32.ofInt j) n := by
  rw [vp_in_iff, n_t h]
  exact ⟨h0, h1⟩
theorem n_i2l {a : Int} (ha : inI a) : (Int32.ofInt a).toInt64 = Int64.ofInt a := by
  apply Int64.toInt_inj.mp
  rw [Int32.toInt_toInt64, n_t ha, l_t (inI_L ha)]
theorem n_l2i {a : Int} (ha : inL a) : (Int64.ofInt a).toInt32 = Int32.ofInt (w32 a) := by
  rw [n_w]
  apply Int32.toInt_inj.mp
  rw [Int64.toInt_toInt32, l_t ha, Int32.toInt_ofInt]
theorem n_nn {n : Int} (h : inI n) : ¬ Int32.ofInt n < 0 ↔ 0 ≤ n := by
  rw [show (0 : Int32) = Int32.ofInt 0 from rfl, n_lt h (by unfold inI; omega)]
  omega
theorem n_0 {n : Int} (h : inI n) : Int32.ofInt n = 0 ↔ n = 0 := by
  rw [show (0 : Int32) = Int32.ofInt 0 from rfl, n_eq h (by unfold inI; omega)]
theorem ck_all (m : Nat) (hm : m < 279) : chkM m = true := sorry
theorem cb_all (m : Nat) (hm : m < 279) : chkB m (am_code m) = true := sorry
theorem chkL_at (m : Nat) : ∀ (l : List am_I) (j i : Nat) (e : am_I), chkL m j l = true → l[i]? = some e → chkI m (j + i) e = true
  | [], _, _, _, _, h => by cases h
  | x :: t, j, 0, e, h, he => by
    simp only [chkL, Bool.and_eq_true] at h
    simp only [List.getElem?_cons_zero, Option.some.injEq] at he
    subst he
    exact h.1
  | x :: t, j, i + 1, e, h, he => by
    simp only [chkL, Bool.and_eq_true] at h
    simp only [List.getElem?_cons_succ] at he
    have := chkL_at m t (j + 1) i e h.2 he
    rw [show j + (i + 1) = j + 1 + i by omega]
    exact this
theorem chkB_at (m : Nat) : ∀ (l : List am_I) (i : Nat) (e : am_I), chkB m l = true → l[i]? = some e → e.1 ≠ .nop → chkD m e = true
  | [], _, _, _, h, _ => by cases h
  | x :: t, 0, e, h, he, hn => by
    simp only [chkB, Bool.and_eq_true] at h
    simp only [List.getElem?_cons_zero, Option.some.injEq] at he
    subst he
    have h1 := h.1
    split at h1
    · rename_i hx; exact absurd hx hn
    · exact h1
  | x :: t, i + 1, e, h, he, hn => by
    simp only [chkB, Bool.and_eq_true] at h
    simp only [List.getElem?_cons_succ] at he
    exact chkB_at m t i e h.2 he hn
theorem tf_dec {m i : Nat} {e : am_I} (hm : m < 279) (h : PP m i = some e) (hn : e.1 ≠ .nop) : decode (m_bytes m) e.2.1 = .ok (e.1, ilen e) := of_decide_eq_true (chkB_at m _ i e (cb_all m hm) h hn)
theorem tf_chk {m i : Nat} {e : am_I} (hm : m < 279) (h : PP m i = some e) (hn : e.1 ≠ .nop) : chkJ m i e = true ∧ chkW m e = true := by
  have h1 := chkL_at m (am_code m) 0 i e (ck_all m hm) h
  rw [Nat.zero_add] at h1
  unfold chkI at h1
  split at h1
  · rename_i hx; exact absurd hx hn
  · simpa only [Bool.and_eq_true] using h1
theorem tf_pc {m i : Nat} {e : am_I} (h : PP m i = some e) : pcA m i = e.2.1 := by
  have h : (am_code m)[i]? = some e := h
  unfold pcA
  rw [h]
