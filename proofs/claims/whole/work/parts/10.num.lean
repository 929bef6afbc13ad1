/-! whole numbers and the machine's numbers -/
def inI (x : Int) : Prop := -2147483648 ≤ x ∧ x < 2147483648
def inL (x : Int) : Prop := -9223372036854775808 ≤ x ∧ x < 9223372036854775808
theorem inI_w (x : Int) : inI (w32 x) := by unfold inI w32; omega
theorem inL_w (x : Int) : inL (w64 x) := by unfold inL w64; omega
theorem inI_L {x : Int} (h : inI x) : inL x := by unfold inI at h; unfold inL; omega
theorem n_w (x : Int) : Int32.ofInt (w32 x) = Int32.ofInt x := by
  apply Int32.toInt_inj.mp
  rw [Int32.toInt_ofInt, Int32.toInt_ofInt]
  have e : w32 x % 4294967296 = x % 4294967296 := by unfold w32; omega
  exact (Int.emod_bmod (w32 x) Int32.size).symm.trans ((congrArg (fun z => Int.bmod z Int32.size) e).trans (Int.emod_bmod x Int32.size))
theorem l_w (x : Int) : Int64.ofInt (w64 x) = Int64.ofInt x := by
  apply Int64.toInt_inj.mp
  rw [Int64.toInt_ofInt, Int64.toInt_ofInt]
  have e : w64 x % 18446744073709551616 = x % 18446744073709551616 := by unfold w64; omega
  exact (Int.emod_bmod (w64 x) Int64.size).symm.trans ((congrArg (fun z => Int.bmod z Int64.size) e).trans (Int.emod_bmod x Int64.size))
theorem n_t {x : Int} (h : inI x) : (Int32.ofInt x).toInt = x := Int32.toInt_ofInt_of_le h.1 h.2
theorem l_t {x : Int} (h : inL x) : (Int64.ofInt x).toInt = x := Int64.toInt_ofInt_of_le h.1 h.2
theorem n_o (x : Int32) : Int32.ofInt x.toInt = x := Int32.ofInt_toInt x
theorem l_o (x : Int64) : Int64.ofInt x.toInt = x := Int64.ofInt_toInt x
theorem n_r (x : Int32) : inI x.toInt := ⟨Int32.le_toInt x, Int32.toInt_lt x⟩
theorem l_r (x : Int64) : inL x.toInt := ⟨Int64.le_toInt x, Int64.toInt_lt x⟩
theorem n_add (a b : Int) : Int32.ofInt a + Int32.ofInt b = Int32.ofInt (w32 (a + b)) := by rw [n_w, Int32.ofInt_add]
theorem n_sub (a b : Int) : Int32.ofInt a - Int32.ofInt b = Int32.ofInt (w32 (a - b)) := by rw [n_w, Int32.ofInt_sub]
theorem n_mul (a b : Int) : Int32.ofInt a * Int32.ofInt b = Int32.ofInt (w32 (a * b)) := by rw [n_w, Int32.ofInt_mul]
theorem n_neg (a : Int) : -Int32.ofInt a = Int32.ofInt (w32 (-a)) := by rw [n_w, Int32.ofInt_neg]
theorem l_add (a b : Int) : Int64.ofInt a + Int64.ofInt b = Int64.ofInt (w64 (a + b)) := by rw [l_w, Int64.ofInt_add]
theorem l_sub (a b : Int) : Int64.ofInt a - Int64.ofInt b = Int64.ofInt (w64 (a - b)) := by rw [l_w, Int64.ofInt_sub]
theorem l_mul (a b : Int) : Int64.ofInt a * Int64.ofInt b = Int64.ofInt (w64 (a * b)) := by rw [l_w, Int64.ofInt_mul]
theorem n_lt {a b : Int} (ha : inI a) (hb : inI b) : Int32.ofInt a < Int32.ofInt b ↔ a < b := by
  rw [Int32.lt_iff_toInt_lt, n_t ha, n_t hb]
theorem n_le {a b : Int} (ha : inI a) (hb : inI b) : Int32.ofInt a ≤ Int32.ofInt b ↔ a ≤ b := by
  rw [Int32.le_iff_toInt_le, n_t ha, n_t hb]
theorem n_eq {a b : Int} (ha : inI a) (hb : inI b) : Int32.ofInt a = Int32.ofInt b ↔ a = b := by
  rw [← Int32.toInt_inj, n_t ha, n_t hb]
theorem l_lt {a b : Int} (ha : inL a) (hb : inL b) : Int64.ofInt a < Int64.ofInt b ↔ a < b := by
  rw [Int64.lt_iff_toInt_lt, l_t ha, l_t hb]
theorem l_eq {a b : Int} (ha : inL a) (hb : inL b) : Int64.ofInt a = Int64.ofInt b ↔ a = b := by
  rw [← Int64.toInt_inj, l_t ha, l_t hb]
theorem inI_max {a : Int} (h : inI a) : a ≤ Int32.maxValue.toInt := by
  show a ≤ 2147483647
  have := h.2
  omega
theorem n_div {a b : Int} (ha : inI a) (hb : inI b) : Int32.ofInt a / Int32.ofInt b = Int32.ofInt (w32 (a.tdiv b)) := by
  rw [n_w, Int32.ofInt_tdiv ha.1 (inI_max ha) hb.1 (inI_max hb)]
theorem n_rem {a b : Int} (ha : inI a) (hb : inI b) : Int32.ofInt a - Int32.ofInt a / Int32.ofInt b * Int32.ofInt b = Int32.ofInt (a.tmod b) := by
  rw [← Int32.ofInt_tdiv ha.1 (inI_max ha) hb.1 (inI_max hb), ← Int32.ofInt_mul, ← Int32.ofInt_sub]
  congr 1
  have h := Int.mul_tdiv_add_tmod a b
  rw [Int.mul_comm] at h
  omega
theorem inI_tmod {a b : Int} (ha : inI a) (h0 : b ≠ 0) : inI (a.tmod b) := by
  have h1 : (a.tmod b).natAbs ≤ a.natAbs := by
    rw [Int.natAbs_tmod]
    exact Nat.mod_le _ _
  have h2 : 0 ≤ a → 0 ≤ a.tmod b := fun h => Int.tmod_nonneg b h
  have h3 : 0 ≤ -a → 0 ≤ (-a).tmod b := fun h => Int.tmod_nonneg b h
  rw [Int.neg_tmod] at h3
  unfold inI at ha ⊢
  omega
theorem n_cl {j : Int} (h0 : 0 ≤ j) (h : inI j) : (Int32.ofInt j).toNatClampNeg = j.toNat := by
  have e := n_t h
  rw [← e]
  simp [Int32.toNatClampNeg]
theorem n_in {j : Int} {n : Nat} (h0 : 0 ≤ j) (h1 : j < (n : Int)) (h : inI j) : vp_in (Int32.ofInt j) n := by
  rw [vp_in_iff, n_t h]
  exact ⟨h0, h1⟩
theorem n_i2l {a : Int} (ha : inI a) : (Int32.ofInt a).toInt64 = Int64.ofInt a := by
  apply Int64.toInt_inj.mp
  rw [Int32.toInt_toInt64, n_t ha, l_t (inI_L ha)]
theorem n_l2i {a : Int} (ha : inL a) : (Int64.ofInt a).toInt32 = Int32.ofInt (w32 a) := by
  rw [n_w]
  apply Int32.toInt_inj.mp
  rw [Int64.toInt_toInt32, l_t ha, Int32.toInt_ofInt]
theorem n_nn {n : Int} (h : inI n) : ¬ Int32.ofInt n < 0 ↔ 0 ≤ n := by
  rw [show (0 : Int32) = Int32.ofInt 0 from rfl, n_lt h (by unfold inI; omega)]
  omega
theorem n_0 {n : Int} (h : inI n) : Int32.ofInt n = 0 ↔ n = 0 := by
  rw [show (0 : Int32) = Int32.ofInt 0 from rfl, n_eq h (by unfold inI; omega)]
theorem ck_all (m : Nat) (hm : m < 279) : chkM m = true := by
  rcases Nat.lt_or_ge m 139 with h | h
  · rcases Nat.lt_or_ge m 69 with h | h
    · rcases Nat.lt_or_ge m 34 with h | h
      · rcases Nat.lt_or_ge m 17 with h | h
        · rcases Nat.lt_or_ge m 8 with h | h
          · rcases Nat.lt_or_ge m 4 with h | h
            · rcases Nat.lt_or_ge m 2 with h | h
              · rcases Nat.lt_or_ge m 1 with h | h
                · obtain rfl : m = 0 := by omega
                  exact ck_0
                · obtain rfl : m = 1 := by omega
                  exact ck_1
              · rcases Nat.lt_or_ge m 3 with h | h
                · obtain rfl : m = 2 := by omega
                  exact ck_2
                · obtain rfl : m = 3 := by omega
                  exact ck_3
            · rcases Nat.lt_or_ge m 6 with h | h
              · rcases Nat.lt_or_ge m 5 with h | h
                · obtain rfl : m = 4 := by omega
                  exact ck_4
                · obtain rfl : m = 5 := by omega
                  exact ck_5
              · rcases Nat.lt_or_ge m 7 with h | h
                · obtain rfl : m = 6 := by omega
                  exact ck_6
                · obtain rfl : m = 7 := by omega
                  exact ck_7
          · rcases Nat.lt_or_ge m 12 with h | h
            · rcases Nat.lt_or_ge m 10 with h | h
              · rcases Nat.lt_or_ge m 9 with h | h
                · obtain rfl : m = 8 := by omega
                  exact ck_8
                · obtain rfl : m = 9 := by omega
                  exact ck_9
              · rcases Nat.lt_or_ge m 11 with h | h
                · obtain rfl : m = 10 := by omega
                  exact ck_10
                · obtain rfl : m = 11 := by omega
                  exact ck_11
            · rcases Nat.lt_or_ge m 14 with h | h
              · rcases Nat.lt_or_ge m 13 with h | h
                · obtain rfl : m = 12 := by omega
                  exact ck_12
                · obtain rfl : m = 13 := by omega
                  exact ck_13
              · rcases Nat.lt_or_ge m 15 with h | h
                · obtain rfl : m = 14 := by omega
                  exact ck_14
                · rcases Nat.lt_or_ge m 16 with h | h
                  · obtain rfl : m = 15 := by omega
                    exact ck_15
                  · obtain rfl : m = 16 := by omega
                    exact ck_16
        · rcases Nat.lt_or_ge m 25 with h | h
          · rcases Nat.lt_or_ge m 21 with h | h
            · rcases Nat.lt_or_ge m 19 with h | h
              · rcases Nat.lt_or_ge m 18 with h | h
                · obtain rfl : m = 17 := by omega
                  exact ck_17
                · obtain rfl : m = 18 := by omega
                  exact ck_18
              · rcases Nat.lt_or_ge m 20 with h | h
                · obtain rfl : m = 19 := by omega
                  exact ck_19
                · obtain rfl : m = 20 := by omega
                  exact ck_20
            · rcases Nat.lt_or_ge m 23 with h | h
              · rcases Nat.lt_or_ge m 22 with h | h
                · obtain rfl : m = 21 := by omega
                  exact ck_21
                · obtain rfl : m = 22 := by omega
                  exact ck_22
              · rcases Nat.lt_or_ge m 24 with h | h
                · obtain rfl : m = 23 := by omega
                  exact ck_23
                · obtain rfl : m = 24 := by omega
                  exact ck_24
          · rcases Nat.lt_or_ge m 29 with h | h
            · rcases Nat.lt_or_ge m 27 with h | h
              · rcases Nat.lt_or_ge m 26 with h | h
                · obtain rfl : m = 25 := by omega
                  exact ck_25
                · obtain rfl : m = 26 := by omega
                  exact ck_26
              · rcases Nat.lt_or_ge m 28 with h | h
                · obtain rfl : m = 27 := by omega
                  exact ck_27
                · obtain rfl : m = 28 := by omega
                  exact ck_28
            · rcases Nat.lt_or_ge m 31 with h | h
              · rcases Nat.lt_or_ge m 30 with h | h
                · obtain rfl : m = 29 := by omega
                  exact ck_29
                · obtain rfl : m = 30 := by omega
                  exact ck_30
              · rcases Nat.lt_or_ge m 32 with h | h
                · obtain rfl : m = 31 := by omega
                  exact ck_31
                · rcases Nat.lt_or_ge m 33 with h | h
                  · obtain rfl : m = 32 := by omega
                    exact ck_32
                  · obtain rfl : m = 33 := by omega
                    exact ck_33
      · rcases Nat.lt_or_ge m 51 with h | h
        · rcases Nat.lt_or_ge m 42 with h | h
          · rcases Nat.lt_or_ge m 38 with h | h
            · rcases Nat.lt_or_ge m 36 with h | h
              · rcases Nat.lt_or_ge m 35 with h | h
                · obtain rfl : m = 34 := by omega
                  exact ck_34
                · obtain rfl : m = 35 := by omega
                  exact ck_35
              · rcases Nat.lt_or_ge m 37 with h | h
                · obtain rfl : m = 36 := by omega
                  exact ck_36
                · obtain rfl : m = 37 := by omega
                  exact ck_37
            · rcases Nat.lt_or_ge m 40 with h | h
              · rcases Nat.lt_or_ge m 39 with h | h
                · obtain rfl : m = 38 := by omega
                  exact ck_38
                · obtain rfl : m = 39 := by omega
                  exact ck_39
              · rcases Nat.lt_or_ge m 41 with h | h
                · obtain rfl : m = 40 := by omega
                  exact ck_40
                · obtain rfl : m = 41 := by omega
                  exact ck_41
          · rcases Nat.lt_or_ge m 46 with h | h
            · rcases Nat.lt_or_ge m 44 with h | h
              · rcases Nat.lt_or_ge m 43 with h | h
                · obtain rfl : m = 42 := by omega
                  exact ck_42
                · obtain rfl : m = 43 := by omega
                  exact ck_43
              · rcases Nat.lt_or_ge m 45 with h | h
                · obtain rfl : m = 44 := by omega
                  exact ck_44
                · obtain rfl : m = 45 := by omega
                  exact ck_45
            · rcases Nat.lt_or_ge m 48 with h | h
              · rcases Nat.lt_or_ge m 47 with h | h
                · obtain rfl : m = 46 := by omega
                  exact ck_46
                · obtain rfl : m = 47 := by omega
                  exact ck_47
              · rcases Nat.lt_or_ge m 49 with h | h
                · obtain rfl : m = 48 := by omega
                  exact ck_48
                · rcases Nat.lt_or_ge m 50 with h | h
                  · obtain rfl : m = 49 := by omega
                    exact ck_49
                  · obtain rfl : m = 50 := by omega
                    exact ck_50
        · rcases Nat.lt_or_ge m 60 with h | h
          · rcases Nat.lt_or_ge m 55 with h | h
            · rcases Nat.lt_or_ge m 53 with h | h
              · rcases Nat.lt_or_ge m 52 with h | h
                · obtain rfl : m = 51 := by omega
                  exact ck_51
                · obtain rfl : m = 52 := by omega
                  exact ck_52
              · rcases Nat.lt_or_ge m 54 with h | h
                · obtain rfl : m = 53 := by omega
                  exact ck_53
                · obtain rfl : m = 54 := by omega
                  exact ck_54
            · rcases Nat.lt_or_ge m 57 with h | h
              · rcases Nat.lt_or_ge m 56 with h | h
                · obtain rfl : m = 55 := by omega
                  exact ck_55
                · obtain rfl : m = 56 := by omega
                  exact ck_56
              · rcases Nat.lt_or_ge m 58 with h | h
                · obtain rfl : m = 57 := by omega
                  exact ck_57
                · rcases Nat.lt_or_ge m 59 with h | h
                  · obtain rfl : m = 58 := by omega
                    exact ck_58
                  · obtain rfl : m = 59 := by omega
                    exact ck_59
          · rcases Nat.lt_or_ge m 64 with h | h
            · rcases Nat.lt_or_ge m 62 with h | h
              · rcases Nat.lt_or_ge m 61 with h | h
                · obtain rfl : m = 60 := by omega
                  exact ck_60
                · obtain rfl : m = 61 := by omega
                  exact ck_61
              · rcases Nat.lt_or_ge m 63 with h | h
                · obtain rfl : m = 62 := by omega
                  exact ck_62
                · obtain rfl : m = 63 := by omega
                  exact ck_63
            · rcases Nat.lt_or_ge m 66 with h | h
              · rcases Nat.lt_or_ge m 65 with h | h
                · obtain rfl : m = 64 := by omega
                  exact ck_64
                · obtain rfl : m = 65 := by omega
                  exact ck_65
              · rcases Nat.lt_or_ge m 67 with h | h
                · obtain rfl : m = 66 := by omega
                  exact ck_66
                · rcases Nat.lt_or_ge m 68 with h | h
                  · obtain rfl : m = 67 := by omega
                    exact ck_67
                  · obtain rfl : m = 68 := by omega
                    exact ck_68
    · rcases Nat.lt_or_ge m 104 with h | h
      · rcases Nat.lt_or_ge m 86 with h | h
        · rcases Nat.lt_or_ge m 77 with h | h
          · rcases Nat.lt_or_ge m 73 with h | h
            · rcases Nat.lt_or_ge m 71 with h | h
              · rcases Nat.lt_or_ge m 70 with h | h
                · obtain rfl : m = 69 := by omega
                  exact ck_69
                · obtain rfl : m = 70 := by omega
                  exact ck_70
              · rcases Nat.lt_or_ge m 72 with h | h
                · obtain rfl : m = 71 := by omega
                  exact ck_71
                · obtain rfl : m = 72 := by omega
                  exact ck_72
            · rcases Nat.lt_or_ge m 75 with h | h
              · rcases Nat.lt_or_ge m 74 with h | h
                · obtain rfl : m = 73 := by omega
                  exact ck_73
                · obtain rfl : m = 74 := by omega
                  exact ck_74
              · rcases Nat.lt_or_ge m 76 with h | h
                · obtain rfl : m = 75 := by omega
                  exact ck_75
                · obtain rfl : m = 76 := by omega
                  exact ck_76
          · rcases Nat.lt_or_ge m 81 with h | h
            · rcases Nat.lt_or_ge m 79 with h | h
              · rcases Nat.lt_or_ge m 78 with h | h
                · obtain rfl : m = 77 := by omega
                  exact ck_77
                · obtain rfl : m = 78 := by omega
                  exact ck_78
              · rcases Nat.lt_or_ge m 80 with h | h
                · obtain rfl : m = 79 := by omega
                  exact ck_79
                · obtain rfl : m = 80 := by omega
                  exact ck_80
            · rcases Nat.lt_or_ge m 83 with h | h
              · rcases Nat.lt_or_ge m 82 with h | h
                · obtain rfl : m = 81 := by omega
                  exact ck_81
                · obtain rfl : m = 82 := by omega
                  exact ck_82
              · rcases Nat.lt_or_ge m 84 with h | h
                · obtain rfl : m = 83 := by omega
                  exact ck_83
                · rcases Nat.lt_or_ge m 85 with h | h
                  · obtain rfl : m = 84 := by omega
                    exact ck_84
                  · obtain rfl : m = 85 := by omega
                    exact ck_85
        · rcases Nat.lt_or_ge m 95 with h | h
          · rcases Nat.lt_or_ge m 90 with h | h
            · rcases Nat.lt_or_ge m 88 with h | h
              · rcases Nat.lt_or_ge m 87 with h | h
                · obtain rfl : m = 86 := by omega
                  exact ck_86
                · obtain rfl : m = 87 := by omega
                  exact ck_87
              · rcases Nat.lt_or_ge m 89 with h | h
                · obtain rfl : m = 88 := by omega
                  exact ck_88
                · obtain rfl : m = 89 := by omega
                  exact ck_89
            · rcases Nat.lt_or_ge m 92 with h | h
              · rcases Nat.lt_or_ge m 91 with h | h
                · obtain rfl : m = 90 := by omega
                  exact ck_90
                · obtain rfl : m = 91 := by omega
                  exact ck_91
              · rcases Nat.lt_or_ge m 93 with h | h
                · obtain rfl : m = 92 := by omega
                  exact ck_92
                · rcases Nat.lt_or_ge m 94 with h | h
                  · obtain rfl : m = 93 := by omega
                    exact ck_93
                  · obtain rfl : m = 94 := by omega
                    exact ck_94
          · rcases Nat.lt_or_ge m 99 with h | h
            · rcases Nat.lt_or_ge m 97 with h | h
              · rcases Nat.lt_or_ge m 96 with h | h
                · obtain rfl : m = 95 := by omega
                  exact ck_95
                · obtain rfl : m = 96 := by omega
                  exact ck_96
              · rcases Nat.lt_or_ge m 98 with h | h
                · obtain rfl : m = 97 := by omega
                  exact ck_97
                · obtain rfl : m = 98 := by omega
                  exact ck_98
            · rcases Nat.lt_or_ge m 101 with h | h
              · rcases Nat.lt_or_ge m 100 with h | h
                · obtain rfl : m = 99 := by omega
                  exact ck_99
                · obtain rfl : m = 100 := by omega
                  exact ck_100
              · rcases Nat.lt_or_ge m 102 with h | h
                · obtain rfl : m = 101 := by omega
                  exact ck_101
                · rcases Nat.lt_or_ge m 103 with h | h
                  · obtain rfl : m = 102 := by omega
                    exact ck_102
                  · obtain rfl : m = 103 := by omega
                    exact ck_103
      · rcases Nat.lt_or_ge m 121 with h | h
        · rcases Nat.lt_or_ge m 112 with h | h
          · rcases Nat.lt_or_ge m 108 with h | h
            · rcases Nat.lt_or_ge m 106 with h | h
              · rcases Nat.lt_or_ge m 105 with h | h
                · obtain rfl : m = 104 := by omega
                  exact ck_104
                · obtain rfl : m = 105 := by omega
                  exact ck_105
              · rcases Nat.lt_or_ge m 107 with h | h
                · obtain rfl : m = 106 := by omega
                  exact ck_106
                · obtain rfl : m = 107 := by omega
                  exact ck_107
            · rcases Nat.lt_or_ge m 110 with h | h
              · rcases Nat.lt_or_ge m 109 with h | h
                · obtain rfl : m = 108 := by omega
                  exact ck_108
                · obtain rfl : m = 109 := by omega
                  exact ck_109
              · rcases Nat.lt_or_ge m 111 with h | h
                · obtain rfl : m = 110 := by omega
                  exact ck_110
                · obtain rfl : m = 111 := by omega
                  exact ck_111
          · rcases Nat.lt_or_ge m 116 with h | h
            · rcases Nat.lt_or_ge m 114 with h | h
              · rcases Nat.lt_or_ge m 113 with h | h
                · obtain rfl : m = 112 := by omega
                  exact ck_112
                · obtain rfl : m = 113 := by omega
                  exact ck_113
              · rcases Nat.lt_or_ge m 115 with h | h
                · obtain rfl : m = 114 := by omega
                  exact ck_114
                · obtain rfl : m = 115 := by omega
                  exact ck_115
            · rcases Nat.lt_or_ge m 118 with h | h
              · rcases Nat.lt_or_ge m 117 with h | h
                · obtain rfl : m = 116 := by omega
                  exact ck_116
                · obtain rfl : m = 117 := by omega
                  exact ck_117
              · rcases Nat.lt_or_ge m 119 with h | h
                · obtain rfl : m = 118 := by omega
                  exact ck_118
                · rcases Nat.lt_or_ge m 120 with h | h
                  · obtain rfl : m = 119 := by omega
                    exact ck_119
                  · obtain rfl : m = 120 := by omega
                    exact ck_120
        · rcases Nat.lt_or_ge m 130 with h | h
          · rcases Nat.lt_or_ge m 125 with h | h
            · rcases Nat.lt_or_ge m 123 with h | h
              · rcases Nat.lt_or_ge m 122 with h | h
                · obtain rfl : m = 121 := by omega
                  exact ck_121
                · obtain rfl : m = 122 := by omega
                  exact ck_122
              · rcases Nat.lt_or_ge m 124 with h | h
                · obtain rfl : m = 123 := by omega
                  exact ck_123
                · obtain rfl : m = 124 := by omega
                  exact ck_124
            · rcases Nat.lt_or_ge m 127 with h | h
              · rcases Nat.lt_or_ge m 126 with h | h
                · obtain rfl : m = 125 := by omega
                  exact ck_125
                · obtain rfl : m = 126 := by omega
                  exact ck_126
              · rcases Nat.lt_or_ge m 128 with h | h
                · obtain rfl : m = 127 := by omega
                  exact ck_127
                · rcases Nat.lt_or_ge m 129 with h | h
                  · obtain rfl : m = 128 := by omega
                    exact ck_128
                  · obtain rfl : m = 129 := by omega
                    exact ck_129
          · rcases Nat.lt_or_ge m 134 with h | h
            · rcases Nat.lt_or_ge m 132 with h | h
              · rcases Nat.lt_or_ge m 131 with h | h
                · obtain rfl : m = 130 := by omega
                  exact ck_130
                · obtain rfl : m = 131 := by omega
                  exact ck_131
              · rcases Nat.lt_or_ge m 133 with h | h
                · obtain rfl : m = 132 := by omega
                  exact ck_132
                · obtain rfl : m = 133 := by omega
                  exact ck_133
            · rcases Nat.lt_or_ge m 136 with h | h
              · rcases Nat.lt_or_ge m 135 with h | h
                · obtain rfl : m = 134 := by omega
                  exact ck_134
                · obtain rfl : m = 135 := by omega
                  exact ck_135
              · rcases Nat.lt_or_ge m 137 with h | h
                · obtain rfl : m = 136 := by omega
                  exact ck_136
                · rcases Nat.lt_or_ge m 138 with h | h
                  · obtain rfl : m = 137 := by omega
                    exact ck_137
                  · obtain rfl : m = 138 := by omega
                    exact ck_138
  · rcases Nat.lt_or_ge m 209 with h | h
    · rcases Nat.lt_or_ge m 174 with h | h
      · rcases Nat.lt_or_ge m 156 with h | h
        · rcases Nat.lt_or_ge m 147 with h | h
          · rcases Nat.lt_or_ge m 143 with h | h
            · rcases Nat.lt_or_ge m 141 with h | h
              · rcases Nat.lt_or_ge m 140 with h | h
                · obtain rfl : m = 139 := by omega
                  exact ck_139
                · obtain rfl : m = 140 := by omega
                  exact ck_140
              · rcases Nat.lt_or_ge m 142 with h | h
                · obtain rfl : m = 141 := by omega
                  exact ck_141
                · obtain rfl : m = 142 := by omega
                  exact ck_142
            · rcases Nat.lt_or_ge m 145 with h | h
              · rcases Nat.lt_or_ge m 144 with h | h
                · obtain rfl : m = 143 := by omega
                  exact ck_143
                · obtain rfl : m = 144 := by omega
                  exact ck_144
              · rcases Nat.lt_or_ge m 146 with h | h
                · obtain rfl : m = 145 := by omega
                  exact ck_145
                · obtain rfl : m = 146 := by omega
                  exact ck_146
          · rcases Nat.lt_or_ge m 151 with h | h
            · rcases Nat.lt_or_ge m 149 with h | h
              · rcases Nat.lt_or_ge m 148 with h | h
                · obtain rfl : m = 147 := by omega
                  exact ck_147
                · obtain rfl : m = 148 := by omega
                  exact ck_148
              · rcases Nat.lt_or_ge m 150 with h | h
                · obtain rfl : m = 149 := by omega
                  exact ck_149
                · obtain rfl : m = 150 := by omega
                  exact ck_150
            · rcases Nat.lt_or_ge m 153 with h | h
              · rcases Nat.lt_or_ge m 152 with h | h
                · obtain rfl : m = 151 := by omega
                  exact ck_151
                · obtain rfl : m = 152 := by omega
                  exact ck_152
              · rcases Nat.lt_or_ge m 154 with h | h
                · obtain rfl : m = 153 := by omega
                  exact ck_153
                · rcases Nat.lt_or_ge m 155 with h | h
                  · obtain rfl : m = 154 := by omega
                    exact ck_154
                  · obtain rfl : m = 155 := by omega
                    exact ck_155
        · rcases Nat.lt_or_ge m 165 with h | h
          · rcases Nat.lt_or_ge m 160 with h | h
            · rcases Nat.lt_or_ge m 158 with h | h
              · rcases Nat.lt_or_ge m 157 with h | h
                · obtain rfl : m = 156 := by omega
                  exact ck_156
                · obtain rfl : m = 157 := by omega
                  exact ck_157
              · rcases Nat.lt_or_ge m 159 with h | h
                · obtain rfl : m = 158 := by omega
                  exact ck_158
                · obtain rfl : m = 159 := by omega
                  exact ck_159
            · rcases Nat.lt_or_ge m 162 with h | h
              · rcases Nat.lt_or_ge m 161 with h | h
                · obtain rfl : m = 160 := by omega
                  exact ck_160
                · obtain rfl : m = 161 := by omega
                  exact ck_161
              · rcases Nat.lt_or_ge m 163 with h | h
                · obtain rfl : m = 162 := by omega
                  exact ck_162
                · rcases Nat.lt_or_ge m 164 with h | h
                  · obtain rfl : m = 163 := by omega
                    exact ck_163
                  · obtain rfl : m = 164 := by omega
                    exact ck_164
          · rcases Nat.lt_or_ge m 169 with h | h
            · rcases Nat.lt_or_ge m 167 with h | h
              · rcases Nat.lt_or_ge m 166 with h | h
                · obtain rfl : m = 165 := by omega
                  exact ck_165
                · obtain rfl : m = 166 := by omega
                  exact ck_166
              · rcases Nat.lt_or_ge m 168 with h | h
                · obtain rfl : m = 167 := by omega
                  exact ck_167
                · obtain rfl : m = 168 := by omega
                  exact ck_168
            · rcases Nat.lt_or_ge m 171 with h | h
              · rcases Nat.lt_or_ge m 170 with h | h
                · obtain rfl : m = 169 := by omega
                  exact ck_169
                · obtain rfl : m = 170 := by omega
                  exact ck_170
              · rcases Nat.lt_or_ge m 172 with h | h
                · obtain rfl : m = 171 := by omega
                  exact ck_171
                · rcases Nat.lt_or_ge m 173 with h | h
                  · obtain rfl : m = 172 := by omega
                    exact ck_172
                  · obtain rfl : m = 173 := by omega
                    exact ck_173
      · rcases Nat.lt_or_ge m 191 with h | h
        · rcases Nat.lt_or_ge m 182 with h | h
          · rcases Nat.lt_or_ge m 178 with h | h
            · rcases Nat.lt_or_ge m 176 with h | h
              · rcases Nat.lt_or_ge m 175 with h | h
                · obtain rfl : m = 174 := by omega
                  exact ck_174
                · obtain rfl : m = 175 := by omega
                  exact ck_175
              · rcases Nat.lt_or_ge m 177 with h | h
                · obtain rfl : m = 176 := by omega
                  exact ck_176
                · obtain rfl : m = 177 := by omega
                  exact ck_177
            · rcases Nat.lt_or_ge m 180 with h | h
              · rcases Nat.lt_or_ge m 179 with h | h
                · obtain rfl : m = 178 := by omega
                  exact ck_178
                · obtain rfl : m = 179 := by omega
                  exact ck_179
              · rcases Nat.lt_or_ge m 181 with h | h
                · obtain rfl : m = 180 := by omega
                  exact ck_180
                · obtain rfl : m = 181 := by omega
                  exact ck_181
          · rcases Nat.lt_or_ge m 186 with h | h
            · rcases Nat.lt_or_ge m 184 with h | h
              · rcases Nat.lt_or_ge m 183 with h | h
                · obtain rfl : m = 182 := by omega
                  exact ck_182
                · obtain rfl : m = 183 := by omega
                  exact ck_183
              · rcases Nat.lt_or_ge m 185 with h | h
                · obtain rfl : m = 184 := by omega
                  exact ck_184
                · obtain rfl : m = 185 := by omega
                  exact ck_185
            · rcases Nat.lt_or_ge m 188 with h | h
              · rcases Nat.lt_or_ge m 187 with h | h
                · obtain rfl : m = 186 := by omega
                  exact ck_186
                · obtain rfl : m = 187 := by omega
                  exact ck_187
              · rcases Nat.lt_or_ge m 189 with h | h
                · obtain rfl : m = 188 := by omega
                  exact ck_188
                · rcases Nat.lt_or_ge m 190 with h | h
                  · obtain rfl : m = 189 := by omega
                    exact ck_189
                  · obtain rfl : m = 190 := by omega
                    exact ck_190
        · rcases Nat.lt_or_ge m 200 with h | h
          · rcases Nat.lt_or_ge m 195 with h | h
            · rcases Nat.lt_or_ge m 193 with h | h
              · rcases Nat.lt_or_ge m 192 with h | h
                · obtain rfl : m = 191 := by omega
                  exact ck_191
                · obtain rfl : m = 192 := by omega
                  exact ck_192
              · rcases Nat.lt_or_ge m 194 with h | h
                · obtain rfl : m = 193 := by omega
                  exact ck_193
                · obtain rfl : m = 194 := by omega
                  exact ck_194
            · rcases Nat.lt_or_ge m 197 with h | h
              · rcases Nat.lt_or_ge m 196 with h | h
                · obtain rfl : m = 195 := by omega
                  exact ck_195
                · obtain rfl : m = 196 := by omega
                  exact ck_196
              · rcases Nat.lt_or_ge m 198 with h | h
                · obtain rfl : m = 197 := by omega
                  exact ck_197
                · rcases Nat.lt_or_ge m 199 with h | h
                  · obtain rfl : m = 198 := by omega
                    exact ck_198
                  · obtain rfl : m = 199 := by omega
                    exact ck_199
          · rcases Nat.lt_or_ge m 204 with h | h
            · rcases Nat.lt_or_ge m 202 with h | h
              · rcases Nat.lt_or_ge m 201 with h | h
                · obtain rfl : m = 200 := by omega
                  exact ck_200
                · obtain rfl : m = 201 := by omega
                  exact ck_201
              · rcases Nat.lt_or_ge m 203 with h | h
                · obtain rfl : m = 202 := by omega
                  exact ck_202
                · obtain rfl : m = 203 := by omega
                  exact ck_203
            · rcases Nat.lt_or_ge m 206 with h | h
              · rcases Nat.lt_or_ge m 205 with h | h
                · obtain rfl : m = 204 := by omega
                  exact ck_204
                · obtain rfl : m = 205 := by omega
                  exact ck_205
              · rcases Nat.lt_or_ge m 207 with h | h
                · obtain rfl : m = 206 := by omega
                  exact ck_206
                · rcases Nat.lt_or_ge m 208 with h | h
                  · obtain rfl : m = 207 := by omega
                    exact ck_207
                  · obtain rfl : m = 208 := by omega
                    exact ck_208
    · rcases Nat.lt_or_ge m 244 with h | h
      · rcases Nat.lt_or_ge m 226 with h | h
        · rcases Nat.lt_or_ge m 217 with h | h
          · rcases Nat.lt_or_ge m 213 with h | h
            · rcases Nat.lt_or_ge m 211 with h | h
              · rcases Nat.lt_or_ge m 210 with h | h
                · obtain rfl : m = 209 := by omega
                  exact ck_209
                · obtain rfl : m = 210 := by omega
                  exact ck_210
              · rcases Nat.lt_or_ge m 212 with h | h
                · obtain rfl : m = 211 := by omega
                  exact ck_211
                · obtain rfl : m = 212 := by omega
                  exact ck_212
            · rcases Nat.lt_or_ge m 215 with h | h
              · rcases Nat.lt_or_ge m 214 with h | h
                · obtain rfl : m = 213 := by omega
                  exact ck_213
                · obtain rfl : m = 214 := by omega
                  exact ck_214
              · rcases Nat.lt_or_ge m 216 with h | h
                · obtain rfl : m = 215 := by omega
                  exact ck_215
                · obtain rfl : m = 216 := by omega
                  exact ck_216
          · rcases Nat.lt_or_ge m 221 with h | h
            · rcases Nat.lt_or_ge m 219 with h | h
              · rcases Nat.lt_or_ge m 218 with h | h
                · obtain rfl : m = 217 := by omega
                  exact ck_217
                · obtain rfl : m = 218 := by omega
                  exact ck_218
              · rcases Nat.lt_or_ge m 220 with h | h
                · obtain rfl : m = 219 := by omega
                  exact ck_219
                · obtain rfl : m = 220 := by omega
                  exact ck_220
            · rcases Nat.lt_or_ge m 223 with h | h
              · rcases Nat.lt_or_ge m 222 with h | h
                · obtain rfl : m = 221 := by omega
                  exact ck_221
                · obtain rfl : m = 222 := by omega
                  exact ck_222
              · rcases Nat.lt_or_ge m 224 with h | h
                · obtain rfl : m = 223 := by omega
                  exact ck_223
                · rcases Nat.lt_or_ge m 225 with h | h
                  · obtain rfl : m = 224 := by omega
                    exact ck_224
                  · obtain rfl : m = 225 := by omega
                    exact ck_225
        · rcases Nat.lt_or_ge m 235 with h | h
          · rcases Nat.lt_or_ge m 230 with h | h
            · rcases Nat.lt_or_ge m 228 with h | h
              · rcases Nat.lt_or_ge m 227 with h | h
                · obtain rfl : m = 226 := by omega
                  exact ck_226
                · obtain rfl : m = 227 := by omega
                  exact ck_227
              · rcases Nat.lt_or_ge m 229 with h | h
                · obtain rfl : m = 228 := by omega
                  exact ck_228
                · obtain rfl : m = 229 := by omega
                  exact ck_229
            · rcases Nat.lt_or_ge m 232 with h | h
              · rcases Nat.lt_or_ge m 231 with h | h
                · obtain rfl : m = 230 := by omega
                  exact ck_230
                · obtain rfl : m = 231 := by omega
                  exact ck_231
              · rcases Nat.lt_or_ge m 233 with h | h
                · obtain rfl : m = 232 := by omega
                  exact ck_232
                · rcases Nat.lt_or_ge m 234 with h | h
                  · obtain rfl : m = 233 := by omega
                    exact ck_233
                  · obtain rfl : m = 234 := by omega
                    exact ck_234
          · rcases Nat.lt_or_ge m 239 with h | h
            · rcases Nat.lt_or_ge m 237 with h | h
              · rcases Nat.lt_or_ge m 236 with h | h
                · obtain rfl : m = 235 := by omega
                  exact ck_235
                · obtain rfl : m = 236 := by omega
                  exact ck_236
              · rcases Nat.lt_or_ge m 238 with h | h
                · obtain rfl : m = 237 := by omega
                  exact ck_237
                · obtain rfl : m = 238 := by omega
                  exact ck_238
            · rcases Nat.lt_or_ge m 241 with h | h
              · rcases Nat.lt_or_ge m 240 with h | h
                · obtain rfl : m = 239 := by omega
                  exact ck_239
                · obtain rfl : m = 240 := by omega
                  exact ck_240
              · rcases Nat.lt_or_ge m 242 with h | h
                · obtain rfl : m = 241 := by omega
                  exact ck_241
                · rcases Nat.lt_or_ge m 243 with h | h
                  · obtain rfl : m = 242 := by omega
                    exact ck_242
                  · obtain rfl : m = 243 := by omega
                    exact ck_243
      · rcases Nat.lt_or_ge m 261 with h | h
        · rcases Nat.lt_or_ge m 252 with h | h
          · rcases Nat.lt_or_ge m 248 with h | h
            · rcases Nat.lt_or_ge m 246 with h | h
              · rcases Nat.lt_or_ge m 245 with h | h
                · obtain rfl : m = 244 := by omega
                  exact ck_244
                · obtain rfl : m = 245 := by omega
                  exact ck_245
              · rcases Nat.lt_or_ge m 247 with h | h
                · obtain rfl : m = 246 := by omega
                  exact ck_246
                · obtain rfl : m = 247 := by omega
                  exact ck_247
            · rcases Nat.lt_or_ge m 250 with h | h
              · rcases Nat.lt_or_ge m 249 with h | h
                · obtain rfl : m = 248 := by omega
                  exact ck_248
                · obtain rfl : m = 249 := by omega
                  exact ck_249
              · rcases Nat.lt_or_ge m 251 with h | h
                · obtain rfl : m = 250 := by omega
                  exact ck_250
                · obtain rfl : m = 251 := by omega
                  exact ck_251
          · rcases Nat.lt_or_ge m 256 with h | h
            · rcases Nat.lt_or_ge m 254 with h | h
              · rcases Nat.lt_or_ge m 253 with h | h
                · obtain rfl : m = 252 := by omega
                  exact ck_252
                · obtain rfl : m = 253 := by omega
                  exact ck_253
              · rcases Nat.lt_or_ge m 255 with h | h
                · obtain rfl : m = 254 := by omega
                  exact ck_254
                · obtain rfl : m = 255 := by omega
                  exact ck_255
            · rcases Nat.lt_or_ge m 258 with h | h
              · rcases Nat.lt_or_ge m 257 with h | h
                · obtain rfl : m = 256 := by omega
                  exact ck_256
                · obtain rfl : m = 257 := by omega
                  exact ck_257
              · rcases Nat.lt_or_ge m 259 with h | h
                · obtain rfl : m = 258 := by omega
                  exact ck_258
                · rcases Nat.lt_or_ge m 260 with h | h
                  · obtain rfl : m = 259 := by omega
                    exact ck_259
                  · obtain rfl : m = 260 := by omega
                    exact ck_260
        · rcases Nat.lt_or_ge m 270 with h | h
          · rcases Nat.lt_or_ge m 265 with h | h
            · rcases Nat.lt_or_ge m 263 with h | h
              · rcases Nat.lt_or_ge m 262 with h | h
                · obtain rfl : m = 261 := by omega
                  exact ck_261
                · obtain rfl : m = 262 := by omega
                  exact ck_262
              · rcases Nat.lt_or_ge m 264 with h | h
                · obtain rfl : m = 263 := by omega
                  exact ck_263
                · obtain rfl : m = 264 := by omega
                  exact ck_264
            · rcases Nat.lt_or_ge m 267 with h | h
              · rcases Nat.lt_or_ge m 266 with h | h
                · obtain rfl : m = 265 := by omega
                  exact ck_265
                · obtain rfl : m = 266 := by omega
                  exact ck_266
              · rcases Nat.lt_or_ge m 268 with h | h
                · obtain rfl : m = 267 := by omega
                  exact ck_267
                · rcases Nat.lt_or_ge m 269 with h | h
                  · obtain rfl : m = 268 := by omega
                    exact ck_268
                  · obtain rfl : m = 269 := by omega
                    exact ck_269
          · rcases Nat.lt_or_ge m 274 with h | h
            · rcases Nat.lt_or_ge m 272 with h | h
              · rcases Nat.lt_or_ge m 271 with h | h
                · obtain rfl : m = 270 := by omega
                  exact ck_270
                · obtain rfl : m = 271 := by omega
                  exact ck_271
              · rcases Nat.lt_or_ge m 273 with h | h
                · obtain rfl : m = 272 := by omega
                  exact ck_272
                · obtain rfl : m = 273 := by omega
                  exact ck_273
            · rcases Nat.lt_or_ge m 276 with h | h
              · rcases Nat.lt_or_ge m 275 with h | h
                · obtain rfl : m = 274 := by omega
                  exact ck_274
                · obtain rfl : m = 275 := by omega
                  exact ck_275
              · rcases Nat.lt_or_ge m 277 with h | h
                · obtain rfl : m = 276 := by omega
                  exact ck_276
                · rcases Nat.lt_or_ge m 278 with h | h
                  · obtain rfl : m = 277 := by omega
                    exact ck_277
                  · obtain rfl : m = 278 := by omega
                    exact ck_278
theorem cb_all (m : Nat) (hm : m < 279) : chkB m (am_code m) = true := by
  rcases Nat.lt_or_ge m 139 with h | h
  · rcases Nat.lt_or_ge m 69 with h | h
    · rcases Nat.lt_or_ge m 34 with h | h
      · rcases Nat.lt_or_ge m 17 with h | h
        · rcases Nat.lt_or_ge m 8 with h | h
          · rcases Nat.lt_or_ge m 4 with h | h
            · rcases Nat.lt_or_ge m 2 with h | h
              · rcases Nat.lt_or_ge m 1 with h | h
                · obtain rfl : m = 0 := by omega
                  exact cb_0
                · obtain rfl : m = 1 := by omega
                  exact cb_1
              · rcases Nat.lt_or_ge m 3 with h | h
                · obtain rfl : m = 2 := by omega
                  exact cb_2
                · obtain rfl : m = 3 := by omega
                  exact cb_3
            · rcases Nat.lt_or_ge m 6 with h | h
              · rcases Nat.lt_or_ge m 5 with h | h
                · obtain rfl : m = 4 := by omega
                  exact cb_4
                · obtain rfl : m = 5 := by omega
                  exact cb_5
              · rcases Nat.lt_or_ge m 7 with h | h
                · obtain rfl : m = 6 := by omega
                  exact cb_6
                · obtain rfl : m = 7 := by omega
                  exact cb_7
          · rcases Nat.lt_or_ge m 12 with h | h
            · rcases Nat.lt_or_ge m 10 with h | h
              · rcases Nat.lt_or_ge m 9 with h | h
                · obtain rfl : m = 8 := by omega
                  exact cb_8
                · obtain rfl : m = 9 := by omega
                  exact cb_9
              · rcases Nat.lt_or_ge m 11 with h | h
                · obtain rfl : m = 10 := by omega
                  exact cb_10
                · obtain rfl : m = 11 := by omega
                  exact cb_11
            · rcases Nat.lt_or_ge m 14 with h | h
              · rcases Nat.lt_or_ge m 13 with h | h
                · obtain rfl : m = 12 := by omega
                  exact cb_12
                · obtain rfl : m = 13 := by omega
                  exact cb_13
              · rcases Nat.lt_or_ge m 15 with h | h
                · obtain rfl : m = 14 := by omega
                  exact cb_14
                · rcases Nat.lt_or_ge m 16 with h | h
                  · obtain rfl : m = 15 := by omega
                    exact cb_15
                  · obtain rfl : m = 16 := by omega
                    exact cb_16
        · rcases Nat.lt_or_ge m 25 with h | h
          · rcases Nat.lt_or_ge m 21 with h | h
            · rcases Nat.lt_or_ge m 19 with h | h
              · rcases Nat.lt_or_ge m 18 with h | h
                · obtain rfl : m = 17 := by omega
                  exact cb_17
                · obtain rfl : m = 18 := by omega
                  exact cb_18
              · rcases Nat.lt_or_ge m 20 with h | h
                · obtain rfl : m = 19 := by omega
                  exact cb_19
                · obtain rfl : m = 20 := by omega
                  exact cb_20
            · rcases Nat.lt_or_ge m 23 with h | h
              · rcases Nat.lt_or_ge m 22 with h | h
                · obtain rfl : m = 21 := by omega
                  exact cb_21
                · obtain rfl : m = 22 := by omega
                  exact cb_22
              · rcases Nat.lt_or_ge m 24 with h | h
                · obtain rfl : m = 23 := by omega
                  exact cb_23
                · obtain rfl : m = 24 := by omega
                  exact cb_24
          · rcases Nat.lt_or_ge m 29 with h | h
            · rcases Nat.lt_or_ge m 27 with h | h
              · rcases Nat.lt_or_ge m 26 with h | h
                · obtain rfl : m = 25 := by omega
                  exact cb_25
                · obtain rfl : m = 26 := by omega
                  exact cb_26
              · rcases Nat.lt_or_ge m 28 with h | h
                · obtain rfl : m = 27 := by omega
                  exact cb_27
                · obtain rfl : m = 28 := by omega
                  exact cb_28
            · rcases Nat.lt_or_ge m 31 with h | h
              · rcases Nat.lt_or_ge m 30 with h | h
                · obtain rfl : m = 29 := by omega
                  exact cb_29
                · obtain rfl : m = 30 := by omega
                  exact cb_30
              · rcases Nat.lt_or_ge m 32 with h | h
                · obtain rfl : m = 31 := by omega
                  exact cb_31
                · rcases Nat.lt_or_ge m 33 with h | h
                  · obtain rfl : m = 32 := by omega
                    exact cb_32
                  · obtain rfl : m = 33 := by omega
                    exact cb_33
      · rcases Nat.lt_or_ge m 51 with h | h
        · rcases Nat.lt_or_ge m 42 with h | h
          · rcases Nat.lt_or_ge m 38 with h | h
            · rcases Nat.lt_or_ge m 36 with h | h
              · rcases Nat.lt_or_ge m 35 with h | h
                · obtain rfl : m = 34 := by omega
                  exact cb_34
                · obtain rfl : m = 35 := by omega
                  exact cb_35
              · rcases Nat.lt_or_ge m 37 with h | h
                · obtain rfl : m = 36 := by omega
                  exact cb_36
                · obtain rfl : m = 37 := by omega
                  exact cb_37
            · rcases Nat.lt_or_ge m 40 with h | h
              · rcases Nat.lt_or_ge m 39 with h | h
                · obtain rfl : m = 38 := by omega
                  exact cb_38
                · obtain rfl : m = 39 := by omega
                  exact cb_39
              · rcases Nat.lt_or_ge m 41 with h | h
                · obtain rfl : m = 40 := by omega
                  exact cb_40
                · obtain rfl : m = 41 := by omega
                  exact cb_41
          · rcases Nat.lt_or_ge m 46 with h | h
            · rcases Nat.lt_or_ge m 44 with h | h
              · rcases Nat.lt_or_ge m 43 with h | h
                · obtain rfl : m = 42 := by omega
                  exact cb_42
                · obtain rfl : m = 43 := by omega
                  exact cb_43
              · rcases Nat.lt_or_ge m 45 with h | h
                · obtain rfl : m = 44 := by omega
                  exact cb_44
                · obtain rfl : m = 45 := by omega
                  exact cb_45
            · rcases Nat.lt_or_ge m 48 with h | h
              · rcases Nat.lt_or_ge m 47 with h | h
                · obtain rfl : m = 46 := by omega
                  exact cb_46
                · obtain rfl : m = 47 := by omega
                  exact cb_47
              · rcases Nat.lt_or_ge m 49 with h | h
                · obtain rfl : m = 48 := by omega
                  exact cb_48
                · rcases Nat.lt_or_ge m 50 with h | h
                  · obtain rfl : m = 49 := by omega
                    exact cb_49
                  · obtain rfl : m = 50 := by omega
                    exact cb_50
        · rcases Nat.lt_or_ge m 60 with h | h
          · rcases Nat.lt_or_ge m 55 with h | h
            · rcases Nat.lt_or_ge m 53 with h | h
              · rcases Nat.lt_or_ge m 52 with h | h
                · obtain rfl : m = 51 := by omega
                  exact cb_51
                · obtain rfl : m = 52 := by omega
                  exact cb_52
              · rcases Nat.lt_or_ge m 54 with h | h
                · obtain rfl : m = 53 := by omega
                  exact cb_53
                · obtain rfl : m = 54 := by omega
                  exact cb_54
            · rcases Nat.lt_or_ge m 57 with h | h
              · rcases Nat.lt_or_ge m 56 with h | h
                · obtain rfl : m = 55 := by omega
                  exact cb_55
                · obtain rfl : m = 56 := by omega
                  exact cb_56
              · rcases Nat.lt_or_ge m 58 with h | h
                · obtain rfl : m = 57 := by omega
                  exact cb_57
                · rcases Nat.lt_or_ge m 59 with h | h
                  · obtain rfl : m = 58 := by omega
                    exact cb_58
                  · obtain rfl : m = 59 := by omega
                    exact cb_59
          · rcases Nat.lt_or_ge m 64 with h | h
            · rcases Nat.lt_or_ge m 62 with h | h
              · rcases Nat.lt_or_ge m 61 with h | h
                · obtain rfl : m = 60 := by omega
                  exact cb_60
                · obtain rfl : m = 61 := by omega
                  exact cb_61
              · rcases Nat.lt_or_ge m 63 with h | h
                · obtain rfl : m = 62 := by omega
                  exact cb_62
                · obtain rfl : m = 63 := by omega
                  exact cb_63
            · rcases Nat.lt_or_ge m 66 with h | h
              · rcases Nat.lt_or_ge m 65 with h | h
                · obtain rfl : m = 64 := by omega
                  exact cb_64
                · obtain rfl : m = 65 := by omega
                  exact cb_65
              · rcases Nat.lt_or_ge m 67 with h | h
                · obtain rfl : m = 66 := by omega
                  exact cb_66
                · rcases Nat.lt_or_ge m 68 with h | h
                  · obtain rfl : m = 67 := by omega
                    exact cb_67
                  · obtain rfl : m = 68 := by omega
                    exact cb_68
    · rcases Nat.lt_or_ge m 104 with h | h
      · rcases Nat.lt_or_ge m 86 with h | h
        · rcases Nat.lt_or_ge m 77 with h | h
          · rcases Nat.lt_or_ge m 73 with h | h
            · rcases Nat.lt_or_ge m 71 with h | h
              · rcases Nat.lt_or_ge m 70 with h | h
                · obtain rfl : m = 69 := by omega
                  exact cb_69
                · obtain rfl : m = 70 := by omega
                  exact cb_70
              · rcases Nat.lt_or_ge m 72 with h | h
                · obtain rfl : m = 71 := by omega
                  exact cb_71
                · obtain rfl : m = 72 := by omega
                  exact cb_72
            · rcases Nat.lt_or_ge m 75 with h | h
              · rcases Nat.lt_or_ge m 74 with h | h
                · obtain rfl : m = 73 := by omega
                  exact cb_73
                · obtain rfl : m = 74 := by omega
                  exact cb_74
              · rcases Nat.lt_or_ge m 76 with h | h
                · obtain rfl : m = 75 := by omega
                  exact cb_75
                · obtain rfl : m = 76 := by omega
                  exact cb_76
          · rcases Nat.lt_or_ge m 81 with h | h
            · rcases Nat.lt_or_ge m 79 with h | h
              · rcases Nat.lt_or_ge m 78 with h | h
                · obtain rfl : m = 77 := by omega
                  exact cb_77
                · obtain rfl : m = 78 := by omega
                  exact cb_78
              · rcases Nat.lt_or_ge m 80 with h | h
                · obtain rfl : m = 79 := by omega
                  exact cb_79
                · obtain rfl : m = 80 := by omega
                  exact cb_80
            · rcases Nat.lt_or_ge m 83 with h | h
              · rcases Nat.lt_or_ge m 82 with h | h
                · obtain rfl : m = 81 := by omega
                  exact cb_81
                · obtain rfl : m = 82 := by omega
                  exact cb_82
              · rcases Nat.lt_or_ge m 84 with h | h
                · obtain rfl : m = 83 := by omega
                  exact cb_83
                · rcases Nat.lt_or_ge m 85 with h | h
                  · obtain rfl : m = 84 := by omega
                    exact cb_84
                  · obtain rfl : m = 85 := by omega
                    exact cb_85
        · rcases Nat.lt_or_ge m 95 with h | h
          · rcases Nat.lt_or_ge m 90 with h | h
            · rcases Nat.lt_or_ge m 88 with h | h
              · rcases Nat.lt_or_ge m 87 with h | h
                · obtain rfl : m = 86 := by omega
                  exact cb_86
                · obtain rfl : m = 87 := by omega
                  exact cb_87
              · rcases Nat.lt_or_ge m 89 with h | h
                · obtain rfl : m = 88 := by omega
                  exact cb_88
                · obtain rfl : m = 89 := by omega
                  exact cb_89
            · rcases Nat.lt_or_ge m 92 with h | h
              · rcases Nat.lt_or_ge m 91 with h | h
                · obtain rfl : m = 90 := by omega
                  exact cb_90
                · obtain rfl : m = 91 := by omega
                  exact cb_91
              · rcases Nat.lt_or_ge m 93 with h | h
                · obtain rfl : m = 92 := by omega
                  exact cb_92
                · rcases Nat.lt_or_ge m 94 with h | h
                  · obtain rfl : m = 93 := by omega
                    exact cb_93
                  · obtain rfl : m = 94 := by omega
                    exact cb_94
          · rcases Nat.lt_or_ge m 99 with h | h
            · rcases Nat.lt_or_ge m 97 with h | h
              · rcases Nat.lt_or_ge m 96 with h | h
                · obtain rfl : m = 95 := by omega
                  exact cb_95
                · obtain rfl : m = 96 := by omega
                  exact cb_96
              · rcases Nat.lt_or_ge m 98 with h | h
                · obtain rfl : m = 97 := by omega
                  exact cb_97
                · obtain rfl : m = 98 := by omega
                  exact cb_98
            · rcases Nat.lt_or_ge m 101 with h | h
              · rcases Nat.lt_or_ge m 100 with h | h
                · obtain rfl : m = 99 := by omega
                  exact cb_99
                · obtain rfl : m = 100 := by omega
                  exact cb_100
              · rcases Nat.lt_or_ge m 102 with h | h
                · obtain rfl : m = 101 := by omega
                  exact cb_101
                · rcases Nat.lt_or_ge m 103 with h | h
                  · obtain rfl : m = 102 := by omega
                    exact cb_102
                  · obtain rfl : m = 103 := by omega
                    exact cb_103
      · rcases Nat.lt_or_ge m 121 with h | h
        · rcases Nat.lt_or_ge m 112 with h | h
          · rcases Nat.lt_or_ge m 108 with h | h
            · rcases Nat.lt_or_ge m 106 with h | h
              · rcases Nat.lt_or_ge m 105 with h | h
                · obtain rfl : m = 104 := by omega
                  exact cb_104
                · obtain rfl : m = 105 := by omega
                  exact cb_105
              · rcases Nat.lt_or_ge m 107 with h | h
                · obtain rfl : m = 106 := by omega
                  exact cb_106
                · obtain rfl : m = 107 := by omega
                  exact cb_107
            · rcases Nat.lt_or_ge m 110 with h | h
              · rcases Nat.lt_or_ge m 109 with h | h
                · obtain rfl : m = 108 := by omega
                  exact cb_108
                · obtain rfl : m = 109 := by omega
                  exact cb_109
              · rcases Nat.lt_or_ge m 111 with h | h
                · obtain rfl : m = 110 := by omega
                  exact cb_110
                · obtain rfl : m = 111 := by omega
                  exact cb_111
          · rcases Nat.lt_or_ge m 116 with h | h
            · rcases Nat.lt_or_ge m 114 with h | h
              · rcases Nat.lt_or_ge m 113 with h | h
                · obtain rfl : m = 112 := by omega
                  exact cb_112
                · obtain rfl : m = 113 := by omega
                  exact cb_113
              · rcases Nat.lt_or_ge m 115 with h | h
                · obtain rfl : m = 114 := by omega
                  exact cb_114
                · obtain rfl : m = 115 := by omega
                  exact cb_115
            · rcases Nat.lt_or_ge m 118 with h | h
              · rcases Nat.lt_or_ge m 117 with h | h
                · obtain rfl : m = 116 := by omega
                  exact cb_116
                · obtain rfl : m = 117 := by omega
                  exact cb_117
              · rcases Nat.lt_or_ge m 119 with h | h
                · obtain rfl : m = 118 := by omega
                  exact cb_118
                · rcases Nat.lt_or_ge m 120 with h | h
                  · obtain rfl : m = 119 := by omega
                    exact cb_119
                  · obtain rfl : m = 120 := by omega
                    exact cb_120
        · rcases Nat.lt_or_ge m 130 with h | h
          · rcases Nat.lt_or_ge m 125 with h | h
            · rcases Nat.lt_or_ge m 123 with h | h
              · rcases Nat.lt_or_ge m 122 with h | h
                · obtain rfl : m = 121 := by omega
                  exact cb_121
                · obtain rfl : m = 122 := by omega
                  exact cb_122
              · rcases Nat.lt_or_ge m 124 with h | h
                · obtain rfl : m = 123 := by omega
                  exact cb_123
                · obtain rfl : m = 124 := by omega
                  exact cb_124
            · rcases Nat.lt_or_ge m 127 with h | h
              · rcases Nat.lt_or_ge m 126 with h | h
                · obtain rfl : m = 125 := by omega
                  exact cb_125
                · obtain rfl : m = 126 := by omega
                  exact cb_126
              · rcases Nat.lt_or_ge m 128 with h | h
                · obtain rfl : m = 127 := by omega
                  exact cb_127
                · rcases Nat.lt_or_ge m 129 with h | h
                  · obtain rfl : m = 128 := by omega
                    exact cb_128
                  · obtain rfl : m = 129 := by omega
                    exact cb_129
          · rcases Nat.lt_or_ge m 134 with h | h
            · rcases Nat.lt_or_ge m 132 with h | h
              · rcases Nat.lt_or_ge m 131 with h | h
                · obtain rfl : m = 130 := by omega
                  exact cb_130
                · obtain rfl : m = 131 := by omega
                  exact cb_131
              · rcases Nat.lt_or_ge m 133 with h | h
                · obtain rfl : m = 132 := by omega
                  exact cb_132
                · obtain rfl : m = 133 := by omega
                  exact cb_133
            · rcases Nat.lt_or_ge m 136 with h | h
              · rcases Nat.lt_or_ge m 135 with h | h
                · obtain rfl : m = 134 := by omega
                  exact cb_134
                · obtain rfl : m = 135 := by omega
                  exact cb_135
              · rcases Nat.lt_or_ge m 137 with h | h
                · obtain rfl : m = 136 := by omega
                  exact cb_136
                · rcases Nat.lt_or_ge m 138 with h | h
                  · obtain rfl : m = 137 := by omega
                    exact cb_137
                  · obtain rfl : m = 138 := by omega
                    exact cb_138
  · rcases Nat.lt_or_ge m 209 with h | h
    · rcases Nat.lt_or_ge m 174 with h | h
      · rcases Nat.lt_or_ge m 156 with h | h
        · rcases Nat.lt_or_ge m 147 with h | h
          · rcases Nat.lt_or_ge m 143 with h | h
            · rcases Nat.lt_or_ge m 141 with h | h
              · rcases Nat.lt_or_ge m 140 with h | h
                · obtain rfl : m = 139 := by omega
                  exact cb_139
                · obtain rfl : m = 140 := by omega
                  exact cb_140
              · rcases Nat.lt_or_ge m 142 with h | h
                · obtain rfl : m = 141 := by omega
                  exact cb_141
                · obtain rfl : m = 142 := by omega
                  exact cb_142
            · rcases Nat.lt_or_ge m 145 with h | h
              · rcases Nat.lt_or_ge m 144 with h | h
                · obtain rfl : m = 143 := by omega
                  exact cb_143
                · obtain rfl : m = 144 := by omega
                  exact cb_144
              · rcases Nat.lt_or_ge m 146 with h | h
                · obtain rfl : m = 145 := by omega
                  exact cb_145
                · obtain rfl : m = 146 := by omega
                  exact cb_146
          · rcases Nat.lt_or_ge m 151 with h | h
            · rcases Nat.lt_or_ge m 149 with h | h
              · rcases Nat.lt_or_ge m 148 with h | h
                · obtain rfl : m = 147 := by omega
                  exact cb_147
                · obtain rfl : m = 148 := by omega
                  exact cb_148
              · rcases Nat.lt_or_ge m 150 with h | h
                · obtain rfl : m = 149 := by omega
                  exact cb_149
                · obtain rfl : m = 150 := by omega
                  exact cb_150
            · rcases Nat.lt_or_ge m 153 with h | h
              · rcases Nat.lt_or_ge m 152 with h | h
                · obtain rfl : m = 151 := by omega
                  exact cb_151
                · obtain rfl : m = 152 := by omega
                  exact cb_152
              · rcases Nat.lt_or_ge m 154 with h | h
                · obtain rfl : m = 153 := by omega
                  exact cb_153
                · rcases Nat.lt_or_ge m 155 with h | h
                  · obtain rfl : m = 154 := by omega
                    exact cb_154
                  · obtain rfl : m = 155 := by omega
                    exact cb_155
        · rcases Nat.lt_or_ge m 165 with h | h
          · rcases Nat.lt_or_ge m 160 with h | h
            · rcases Nat.lt_or_ge m 158 with h | h
              · rcases Nat.lt_or_ge m 157 with h | h
                · obtain rfl : m = 156 := by omega
                  exact cb_156
                · obtain rfl : m = 157 := by omega
                  exact cb_157
              · rcases Nat.lt_or_ge m 159 with h | h
                · obtain rfl : m = 158 := by omega
                  exact cb_158
                · obtain rfl : m = 159 := by omega
                  exact cb_159
            · rcases Nat.lt_or_ge m 162 with h | h
              · rcases Nat.lt_or_ge m 161 with h | h
                · obtain rfl : m = 160 := by omega
                  exact cb_160
                · obtain rfl : m = 161 := by omega
                  exact cb_161
              · rcases Nat.lt_or_ge m 163 with h | h
                · obtain rfl : m = 162 := by omega
                  exact cb_162
                · rcases Nat.lt_or_ge m 164 with h | h
                  · obtain rfl : m = 163 := by omega
                    exact cb_163
                  · obtain rfl : m = 164 := by omega
                    exact cb_164
          · rcases Nat.lt_or_ge m 169 with h | h
            · rcases Nat.lt_or_ge m 167 with h | h
              · rcases Nat.lt_or_ge m 166 with h | h
                · obtain rfl : m = 165 := by omega
                  exact cb_165
                · obtain rfl : m = 166 := by omega
                  exact cb_166
              · rcases Nat.lt_or_ge m 168 with h | h
                · obtain rfl : m = 167 := by omega
                  exact cb_167
                · obtain rfl : m = 168 := by omega
                  exact cb_168
            · rcases Nat.lt_or_ge m 171 with h | h
              · rcases Nat.lt_or_ge m 170 with h | h
                · obtain rfl : m = 169 := by omega
                  exact cb_169
                · obtain rfl : m = 170 := by omega
                  exact cb_170
              · rcases Nat.lt_or_ge m 172 with h | h
                · obtain rfl : m = 171 := by omega
                  exact cb_171
                · rcases Nat.lt_or_ge m 173 with h | h
                  · obtain rfl : m = 172 := by omega
                    exact cb_172
                  · obtain rfl : m = 173 := by omega
                    exact cb_173
      · rcases Nat.lt_or_ge m 191 with h | h
        · rcases Nat.lt_or_ge m 182 with h | h
          · rcases Nat.lt_or_ge m 178 with h | h
            · rcases Nat.lt_or_ge m 176 with h | h
              · rcases Nat.lt_or_ge m 175 with h | h
                · obtain rfl : m = 174 := by omega
                  exact cb_174
                · obtain rfl : m = 175 := by omega
                  exact cb_175
              · rcases Nat.lt_or_ge m 177 with h | h
                · obtain rfl : m = 176 := by omega
                  exact cb_176
                · obtain rfl : m = 177 := by omega
                  exact cb_177
            · rcases Nat.lt_or_ge m 180 with h | h
              · rcases Nat.lt_or_ge m 179 with h | h
                · obtain rfl : m = 178 := by omega
                  exact cb_178
                · obtain rfl : m = 179 := by omega
                  exact cb_179
              · rcases Nat.lt_or_ge m 181 with h | h
                · obtain rfl : m = 180 := by omega
                  exact cb_180
                · obtain rfl : m = 181 := by omega
                  exact cb_181
          · rcases Nat.lt_or_ge m 186 with h | h
            · rcases Nat.lt_or_ge m 184 with h | h
              · rcases Nat.lt_or_ge m 183 with h | h
                · obtain rfl : m = 182 := by omega
                  exact cb_182
                · obtain rfl : m = 183 := by omega
                  exact cb_183
              · rcases Nat.lt_or_ge m 185 with h | h
                · obtain rfl : m = 184 := by omega
                  exact cb_184
                · obtain rfl : m = 185 := by omega
                  exact cb_185
            · rcases Nat.lt_or_ge m 188 with h | h
              · rcases Nat.lt_or_ge m 187 with h | h
                · obtain rfl : m = 186 := by omega
                  exact cb_186
                · obtain rfl : m = 187 := by omega
                  exact cb_187
              · rcases Nat.lt_or_ge m 189 with h | h
                · obtain rfl : m = 188 := by omega
                  exact cb_188
                · rcases Nat.lt_or_ge m 190 with h | h
                  · obtain rfl : m = 189 := by omega
                    exact cb_189
                  · obtain rfl : m = 190 := by omega
                    exact cb_190
        · rcases Nat.lt_or_ge m 200 with h | h
          · rcases Nat.lt_or_ge m 195 with h | h
            · rcases Nat.lt_or_ge m 193 with h | h
              · rcases Nat.lt_or_ge m 192 with h | h
                · obtain rfl : m = 191 := by omega
                  exact cb_191
                · obtain rfl : m = 192 := by omega
                  exact cb_192
              · rcases Nat.lt_or_ge m 194 with h | h
                · obtain rfl : m = 193 := by omega
                  exact cb_193
                · obtain rfl : m = 194 := by omega
                  exact cb_194
            · rcases Nat.lt_or_ge m 197 with h | h
              · rcases Nat.lt_or_ge m 196 with h | h
                · obtain rfl : m = 195 := by omega
                  exact cb_195
                · obtain rfl : m = 196 := by omega
                  exact cb_196
              · rcases Nat.lt_or_ge m 198 with h | h
                · obtain rfl : m = 197 := by omega
                  exact cb_197
                · rcases Nat.lt_or_ge m 199 with h | h
                  · obtain rfl : m = 198 := by omega
                    exact cb_198
                  · obtain rfl : m = 199 := by omega
                    exact cb_199
          · rcases Nat.lt_or_ge m 204 with h | h
            · rcases Nat.lt_or_ge m 202 with h | h
              · rcases Nat.lt_or_ge m 201 with h | h
                · obtain rfl : m = 200 := by omega
                  exact cb_200
                · obtain rfl : m = 201 := by omega
                  exact cb_201
              · rcases Nat.lt_or_ge m 203 with h | h
                · obtain rfl : m = 202 := by omega
                  exact cb_202
                · obtain rfl : m = 203 := by omega
                  exact cb_203
            · rcases Nat.lt_or_ge m 206 with h | h
              · rcases Nat.lt_or_ge m 205 with h | h
                · obtain rfl : m = 204 := by omega
                  exact cb_204
                · obtain rfl : m = 205 := by omega
                  exact cb_205
              · rcases Nat.lt_or_ge m 207 with h | h
                · obtain rfl : m = 206 := by omega
                  exact cb_206
                · rcases Nat.lt_or_ge m 208 with h | h
                  · obtain rfl : m = 207 := by omega
                    exact cb_207
                  · obtain rfl : m = 208 := by omega
                    exact cb_208
    · rcases Nat.lt_or_ge m 244 with h | h
      · rcases Nat.lt_or_ge m 226 with h | h
        · rcases Nat.lt_or_ge m 217 with h | h
          · rcases Nat.lt_or_ge m 213 with h | h
            · rcases Nat.lt_or_ge m 211 with h | h
              · rcases Nat.lt_or_ge m 210 with h | h
                · obtain rfl : m = 209 := by omega
                  exact cb_209
                · obtain rfl : m = 210 := by omega
                  exact cb_210
              · rcases Nat.lt_or_ge m 212 with h | h
                · obtain rfl : m = 211 := by omega
                  exact cb_211
                · obtain rfl : m = 212 := by omega
                  exact cb_212
            · rcases Nat.lt_or_ge m 215 with h | h
              · rcases Nat.lt_or_ge m 214 with h | h
                · obtain rfl : m = 213 := by omega
                  exact cb_213
                · obtain rfl : m = 214 := by omega
                  exact cb_214
              · rcases Nat.lt_or_ge m 216 with h | h
                · obtain rfl : m = 215 := by omega
                  exact cb_215
                · obtain rfl : m = 216 := by omega
                  exact cb_216
          · rcases Nat.lt_or_ge m 221 with h | h
            · rcases Nat.lt_or_ge m 219 with h | h
              · rcases Nat.lt_or_ge m 218 with h | h
                · obtain rfl : m = 217 := by omega
                  exact cb_217
                · obtain rfl : m = 218 := by omega
                  exact cb_218
              · rcases Nat.lt_or_ge m 220 with h | h
                · obtain rfl : m = 219 := by omega
                  exact cb_219
                · obtain rfl : m = 220 := by omega
                  exact cb_220
            · rcases Nat.lt_or_ge m 223 with h | h
              · rcases Nat.lt_or_ge m 222 with h | h
                · obtain rfl : m = 221 := by omega
                  exact cb_221
                · obtain rfl : m = 222 := by omega
                  exact cb_222
              · rcases Nat.lt_or_ge m 224 with h | h
                · obtain rfl : m = 223 := by omega
                  exact cb_223
                · rcases Nat.lt_or_ge m 225 with h | h
                  · obtain rfl : m = 224 := by omega
                    exact cb_224
                  · obtain rfl : m = 225 := by omega
                    exact cb_225
        · rcases Nat.lt_or_ge m 235 with h | h
          · rcases Nat.lt_or_ge m 230 with h | h
            · rcases Nat.lt_or_ge m 228 with h | h
              · rcases Nat.lt_or_ge m 227 with h | h
                · obtain rfl : m = 226 := by omega
                  exact cb_226
                · obtain rfl : m = 227 := by omega
                  exact cb_227
              · rcases Nat.lt_or_ge m 229 with h | h
                · obtain rfl : m = 228 := by omega
                  exact cb_228
                · obtain rfl : m = 229 := by omega
                  exact cb_229
            · rcases Nat.lt_or_ge m 232 with h | h
              · rcases Nat.lt_or_ge m 231 with h | h
                · obtain rfl : m = 230 := by omega
                  exact cb_230
                · obtain rfl : m = 231 := by omega
                  exact cb_231
              · rcases Nat.lt_or_ge m 233 with h | h
                · obtain rfl : m = 232 := by omega
                  exact cb_232
                · rcases Nat.lt_or_ge m 234 with h | h
                  · obtain rfl : m = 233 := by omega
                    exact cb_233
                  · obtain rfl : m = 234 := by omega
                    exact cb_234
          · rcases Nat.lt_or_ge m 239 with h | h
            · rcases Nat.lt_or_ge m 237 with h | h
              · rcases Nat.lt_or_ge m 236 with h | h
                · obtain rfl : m = 235 := by omega
                  exact cb_235
                · obtain rfl : m = 236 := by omega
                  exact cb_236
              · rcases Nat.lt_or_ge m 238 with h | h
                · obtain rfl : m = 237 := by omega
                  exact cb_237
                · obtain rfl : m = 238 := by omega
                  exact cb_238
            · rcases Nat.lt_or_ge m 241 with h | h
              · rcases Nat.lt_or_ge m 240 with h | h
                · obtain rfl : m = 239 := by omega
                  exact cb_239
                · obtain rfl : m = 240 := by omega
                  exact cb_240
              · rcases Nat.lt_or_ge m 242 with h | h
                · obtain rfl : m = 241 := by omega
                  exact cb_241
                · rcases Nat.lt_or_ge m 243 with h | h
                  · obtain rfl : m = 242 := by omega
                    exact cb_242
                  · obtain rfl : m = 243 := by omega
                    exact cb_243
      · rcases Nat.lt_or_ge m 261 with h | h
        · rcases Nat.lt_or_ge m 252 with h | h
          · rcases Nat.lt_or_ge m 248 with h | h
            · rcases Nat.lt_or_ge m 246 with h | h
              · rcases Nat.lt_or_ge m 245 with h | h
                · obtain rfl : m = 244 := by omega
                  exact cb_244
                · obtain rfl : m = 245 := by omega
                  exact cb_245
              · rcases Nat.lt_or_ge m 247 with h | h
                · obtain rfl : m = 246 := by omega
                  exact cb_246
                · obtain rfl : m = 247 := by omega
                  exact cb_247
            · rcases Nat.lt_or_ge m 250 with h | h
              · rcases Nat.lt_or_ge m 249 with h | h
                · obtain rfl : m = 248 := by omega
                  exact cb_248
                · obtain rfl : m = 249 := by omega
                  exact cb_249
              · rcases Nat.lt_or_ge m 251 with h | h
                · obtain rfl : m = 250 := by omega
                  exact cb_250
                · obtain rfl : m = 251 := by omega
                  exact cb_251
          · rcases Nat.lt_or_ge m 256 with h | h
            · rcases Nat.lt_or_ge m 254 with h | h
              · rcases Nat.lt_or_ge m 253 with h | h
                · obtain rfl : m = 252 := by omega
                  exact cb_252
                · obtain rfl : m = 253 := by omega
                  exact cb_253
              · rcases Nat.lt_or_ge m 255 with h | h
                · obtain rfl : m = 254 := by omega
                  exact cb_254
                · obtain rfl : m = 255 := by omega
                  exact cb_255
            · rcases Nat.lt_or_ge m 258 with h | h
              · rcases Nat.lt_or_ge m 257 with h | h
                · obtain rfl : m = 256 := by omega
                  exact cb_256
                · obtain rfl : m = 257 := by omega
                  exact cb_257
              · rcases Nat.lt_or_ge m 259 with h | h
                · obtain rfl : m = 258 := by omega
                  exact cb_258
                · rcases Nat.lt_or_ge m 260 with h | h
                  · obtain rfl : m = 259 := by omega
                    exact cb_259
                  · obtain rfl : m = 260 := by omega
                    exact cb_260
        · rcases Nat.lt_or_ge m 270 with h | h
          · rcases Nat.lt_or_ge m 265 with h | h
            · rcases Nat.lt_or_ge m 263 with h | h
              · rcases Nat.lt_or_ge m 262 with h | h
                · obtain rfl : m = 261 := by omega
                  exact cb_261
                · obtain rfl : m = 262 := by omega
                  exact cb_262
              · rcases Nat.lt_or_ge m 264 with h | h
                · obtain rfl : m = 263 := by omega
                  exact cb_263
                · obtain rfl : m = 264 := by omega
                  exact cb_264
            · rcases Nat.lt_or_ge m 267 with h | h
              · rcases Nat.lt_or_ge m 266 with h | h
                · obtain rfl : m = 265 := by omega
                  exact cb_265
                · obtain rfl : m = 266 := by omega
                  exact cb_266
              · rcases Nat.lt_or_ge m 268 with h | h
                · obtain rfl : m = 267 := by omega
                  exact cb_267
                · rcases Nat.lt_or_ge m 269 with h | h
                  · obtain rfl : m = 268 := by omega
                    exact cb_268
                  · obtain rfl : m = 269 := by omega
                    exact cb_269
          · rcases Nat.lt_or_ge m 274 with h | h
            · rcases Nat.lt_or_ge m 272 with h | h
              · rcases Nat.lt_or_ge m 271 with h | h
                · obtain rfl : m = 270 := by omega
                  exact cb_270
                · obtain rfl : m = 271 := by omega
                  exact cb_271
              · rcases Nat.lt_or_ge m 273 with h | h
                · obtain rfl : m = 272 := by omega
                  exact cb_272
                · obtain rfl : m = 273 := by omega
                  exact cb_273
            · rcases Nat.lt_or_ge m 276 with h | h
              · rcases Nat.lt_or_ge m 275 with h | h
                · obtain rfl : m = 274 := by omega
                  exact cb_274
                · obtain rfl : m = 275 := by omega
                  exact cb_275
              · rcases Nat.lt_or_ge m 277 with h | h
                · obtain rfl : m = 276 := by omega
                  exact cb_276
                · rcases Nat.lt_or_ge m 278 with h | h
                  · obtain rfl : m = 277 := by omega
                    exact cb_277
                  · obtain rfl : m = 278 := by omega
                    exact cb_278
theorem chkL_at (m : Nat) : ∀ (l : List am_I) (j i : Nat) (e : am_I), chkL m j l = true → l[i]? = some e → chkI m (j + i) e = true
  | [], _, _, _, _, h => by cases h
  | x :: t, j, 0, e, h, he => by
    simp only [chkL, Bool.and_eq_true] at h
    simp only [List.getElem?_cons_zero, Option.some.injEq] at he
    subst he
    exact h.1
  | x :: t, j, i + 1, e, h, he => by
    simp only [chkL, Bool.and_eq_true] at h
    simp only [List.getElem?_cons_succ] at he
    have := chkL_at m t (j + 1) i e h.2 he
    rw [show j + (i + 1) = j + 1 + i by omega]
    exact this
theorem chkB_at (m : Nat) : ∀ (l : List am_I) (i : Nat) (e : am_I), chkB m l = true → l[i]? = some e → e.1 ≠ .nop → chkD m e = true
  | [], _, _, _, h, _ => by cases h
  | x :: t, 0, e, h, he, hn => by
    simp only [chkB, Bool.and_eq_true] at h
    simp only [List.getElem?_cons_zero, Option.some.injEq] at he
    subst he
    have h1 := h.1
    split at h1
    · rename_i hx; exact absurd hx hn
    · exact h1
  | x :: t, i + 1, e, h, he, hn => by
    simp only [chkB, Bool.and_eq_true] at h
    simp only [List.getElem?_cons_succ] at he
    exact chkB_at m t i e h.2 he hn
theorem tf_dec {m i : Nat} {e : am_I} (hm : m < 279) (h : PP m i = some e) (hn : e.1 ≠ .nop) : decode (m_bytes m) e.2.1 = .ok (e.1, ilen e) := of_decide_eq_true (chkB_at m _ i e (cb_all m hm) h hn)
theorem tf_chk {m i : Nat} {e : am_I} (hm : m < 279) (h : PP m i = some e) (hn : e.1 ≠ .nop) : chkJ m i e = true ∧ chkW m e = true := by
  have h1 := chkL_at m (am_code m) 0 i e (ck_all m hm) h
  rw [Nat.zero_add] at h1
  unfold chkI at h1
  split at h1
  · rename_i hx; exact absurd hx hn
  · simpa only [Bool.and_eq_true] using h1
theorem tf_pc {m i : Nat} {e : am_I} (h : PP m i = some e) : pcA m i = e.2.1 := by
  have h : (am_code m)[i]? = some e := h
  unfold pcA
  rw [h]
