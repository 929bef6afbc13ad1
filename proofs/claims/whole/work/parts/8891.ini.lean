/-! the constructor of the reference -/
theorem v_M_init_0 (d : Nat) (σ : am_S) (K : am_S → Prop) (h :
  am_Runs PP MLL d m_M_init 5 [some (qr (31, 12, 89)), none] [] (putI σ 31 3 1) (kV K)) : am_Runs PP MLL d m_M_init 0 [some (qr (31, 12, 89)), none] [] σ (kV K) := am_wEC_ok (orc []) [5] 200 (⟨rfl, h⟩)
theorem v_M_init_5 (d : Nat) (z1 : Option am_V) (σ : am_S) (K : am_S → Prop) (h :
  am_Runs PP MLL d m_M_init 8 [some (qr (31, 12, 89)), z1] [] (putI σ 31 5 1) (kV K)) : am_Runs PP MLL d m_M_init 5 [some (qr (31, 12, 89)), z1] [] σ (kV K) := am_wEC_ok (orc []) [8] 200 (⟨rfl, h⟩)
theorem v_M_init_8 (d : Nat) (z1 : Option am_V) (σ : am_S) (K : am_S → Prop) (h :
  am_Runs PP MLL d m_M_init 12 [some (qr (31, 12, 89)), z1] [] (putR (newC σ 20 4) 31 6 (some (sN σ, 20, 4))) (kV K)) : am_Runs PP MLL d m_M_init 8 [some (qr (31, 12, 89)), z1] [] σ (kV K) := am_wEC_ok (orc []) [12] 200 (⟨⟨(by decide : (0 : Int) ≤ 4), (by decide : (4 : Int) ≤ 1000000)⟩, ⟨rfl, h⟩⟩)
theorem v_M_init_12 (d : Nat) (z1 : Option am_V) (σ : am_S) (K : am_S → Prop) (h :
  am_Runs PP MLL d m_M_init 16 [some (qr (31, 12, 89)), z1] [] (putR (newC σ 20 10000) 31 7 (some (sN σ, 20, 10000))) (kV K)) : am_Runs PP MLL d m_M_init 12 [some (qr (31, 12, 89)), z1] [] σ (kV K) := am_wEC_ok (orc []) [16] 200 (⟨⟨(by decide : (0 : Int) ≤ 10000), (by decide : (10000 : Int) ≤ 1000000)⟩, ⟨rfl, h⟩⟩)
theorem v_M_init_16 (d : Nat) (z1 : Option am_V) (σ : am_S) (K : am_S → Prop) (h :
  am_Runs PP MLL d m_M_init 20 [some (qr (31, 12, 89)), z1] [] (putR (newC σ 20 30000) 31 8 (some (sN σ, 20, 30000))) (kV K)) : am_Runs PP MLL d m_M_init 16 [some (qr (31, 12, 89)), z1] [] σ (kV K) := am_wEC_ok (orc []) [20] 200 (⟨⟨(by decide : (0 : Int) ≤ 30000), (by decide : (30000 : Int) ≤ 1000000)⟩, ⟨rfl, h⟩⟩)
theorem v_M_init_20 (d : Nat) (z1 : Option am_V) (σ : am_S) (K : am_S → Prop) (h :
  am_Runs PP MLL d m_M_init 24 [some (qr (31, 12, 89)), z1] [] (putR (newC σ 20 30000) 31 9 (some (sN σ, 20, 30000))) (kV K)) : am_Runs PP MLL d m_M_init 20 [some (qr (31, 12, 89)), z1] [] σ (kV K) := am_wEC_ok (orc []) [24] 200 (⟨⟨(by decide : (0 : Int) ≤ 30000), (by decide : (30000 : Int) ≤ 1000000)⟩, ⟨rfl, h⟩⟩)
theorem v_M_init_24 (d : Nat) (z1 : Option am_V) (σ : am_S) (K : am_S → Prop) (h :
  am_Runs PP MLL d m_M_init 28 [some (qr (31, 12, 89)), z1] [] (putR (newC σ 20 10000) 31 10 (some (sN σ, 20, 10000))) (kV K)) : am_Runs PP MLL d m_M_init 24 [some (qr (31, 12, 89)), z1] [] σ (kV K) := am_wEC_ok (orc []) [28] 200 (⟨⟨(by decide : (0 : Int) ≤ 10000), (by decide : (10000 : Int) ≤ 1000000)⟩, ⟨rfl, h⟩⟩)
theorem v_M_init_28 (d : Nat) (z1 : Option am_V) (σ : am_S) (K : am_S → Prop) (h :
  am_Runs PP MLL d m_M_init 32 [some (qr (31, 12, 89)), z1] [] (putR (newC σ 20 10000) 31 11 (some (sN σ, 20, 10000))) (kV K)) : am_Runs PP MLL d m_M_init 28 [some (qr (31, 12, 89)), z1] [] σ (kV K) := am_wEC_ok (orc []) [32] 200 (⟨⟨(by decide : (0 : Int) ≤ 10000), (by decide : (10000 : Int) ≤ 1000000)⟩, ⟨rfl, h⟩⟩)
theorem v_M_init_32 (d : Nat) (z1 : Option am_V) (σ : am_S) (K : am_S → Prop) (h :
  am_Runs PP MLL d m_M_init 36 [some (qr (31, 12, 89)), z1] [] (putR (newC σ 20 10000) 31 12 (some (sN σ, 20, 10000))) (kV K)) : am_Runs PP MLL d m_M_init 32 [some (qr (31, 12, 89)), z1] [] σ (kV K) := am_wEC_ok (orc []) [36] 200 (⟨⟨(by decide : (0 : Int) ≤ 10000), (by decide : (10000 : Int) ≤ 1000000)⟩, ⟨rfl, h⟩⟩)
theorem v_M_init_36 (d : Nat) (z1 : Option am_V) (σ : am_S) (K : am_S → Prop) (h :
  am_Runs PP MLL d m_M_init 40 [some (qr (31, 12, 89)), z1] [] (putR (newC σ 20 3) 31 14 (some (sN σ, 20, 3))) (kV K)) : am_Runs PP MLL d m_M_init 36 [some (qr (31, 12, 89)), z1] [] σ (kV K) := am_wEC_ok (orc []) [40] 200 (⟨⟨(by decide : (0 : Int) ≤ 3), (by decide : (3 : Int) ≤ 1000000)⟩, ⟨rfl, h⟩⟩)
theorem v_M_init_40 (d : Nat) (z1 : Option am_V) (σ : am_S) (K : am_S → Prop) (h :
  am_Runs PP MLL d m_M_init 44 [some (qr (31, 12, 89)), z1] [] (putR (newC σ 20 3) 31 15 (some (sN σ, 20, 3))) (kV K)) : am_Runs PP MLL d m_M_init 40 [some (qr (31, 12, 89)), z1] [] σ (kV K) := am_wEC_ok (orc []) [44] 200 (⟨⟨(by decide : (0 : Int) ≤ 3), (by decide : (3 : Int) ≤ 1000000)⟩, ⟨rfl, h⟩⟩)
theorem v_M_init_44 (d : Nat) (z1 : Option am_V) (σ : am_S) (K : am_S → Prop) (h :
  am_Runs PP MLL d m_M_init 48 [some (qr (31, 12, 89)), z1] [] (putR (newC σ 20 12) 31 17 (some (sN σ, 20, 12))) (kV K)) : am_Runs PP MLL d m_M_init 44 [some (qr (31, 12, 89)), z1] [] σ (kV K) := am_wEC_ok (orc []) [48] 200 (⟨⟨(by decide : (0 : Int) ≤ 12), (by decide : (12 : Int) ≤ 1000000)⟩, ⟨rfl, h⟩⟩)
theorem v_M_init_48 (d : Nat) (z1 : Option am_V) (σ : am_S) (K : am_S → Prop) (h :
  am_Runs PP MLL d m_M_init 52 [some (qr (31, 12, 89)), z1] [] (putR (newC σ 20 12) 31 18 (some (sN σ, 20, 12))) (kV K)) : am_Runs PP MLL d m_M_init 48 [some (qr (31, 12, 89)), z1] [] σ (kV K) := am_wEC_ok (orc []) [52] 200 (⟨⟨(by decide : (0 : Int) ≤ 12), (by decide : (12 : Int) ≤ 1000000)⟩, ⟨rfl, h⟩⟩)
theorem v_M_init_52 (d : Nat) (z1 : Option am_V) (σ : am_S) (K : am_S → Prop) (h :
  am_Runs PP MLL d m_M_init 56 [some (qr (31, 12, 89)), z1] [] (putR (newC σ 20 12) 31 19 (some (sN σ, 20, 12))) (kV K)) : am_Runs PP MLL d m_M_init 52 [some (qr (31, 12, 89)), z1] [] σ (kV K) := am_wEC_ok (orc []) [56] 200 (⟨⟨(by decide : (0 : Int) ≤ 12), (by decide : (12 : Int) ≤ 1000000)⟩, ⟨rfl, h⟩⟩)
theorem v_M_init_56 (d : Nat) (z1 : Option am_V) (σ : am_S) (K : am_S → Prop) (h :
  am_Runs PP MLL d m_M_init 60 [some (qr (31, 12, 89)), z1] [] (putR (newC σ 20 24) 31 20 (some (sN σ, 20, 24))) (kV K)) : am_Runs PP MLL d m_M_init 56 [some (qr (31, 12, 89)), z1] [] σ (kV K) := am_wEC_ok (orc []) [60] 200 (⟨⟨(by decide : (0 : Int) ≤ 24), (by decide : (24 : Int) ≤ 1000000)⟩, ⟨rfl, h⟩⟩)
theorem v_M_init_60 (d : Nat) (z1 : Option am_V) (σ : am_S) (K : am_S → Prop) (h :
  am_Runs PP MLL d m_M_init 64 [some (qr (31, 12, 89)), z1] [] (putR (newC σ 20 480) 31 21 (some (sN σ, 20, 480))) (kV K)) : am_Runs PP MLL d m_M_init 60 [some (qr (31, 12, 89)), z1] [] σ (kV K) := am_wEC_ok (orc []) [64] 200 (⟨⟨(by decide : (0 : Int) ≤ 480), (by decide : (480 : Int) ≤ 1000000)⟩, ⟨rfl, h⟩⟩)
theorem v_M_init_64 (d : Nat) (z1 : Option am_V) (σ : am_S) (K : am_S → Prop) (h :
  am_Runs PP MLL d m_M_init 68 [some (qr (31, 12, 89)), z1] [] (putR (newC σ 20 36) 31 22 (some (sN σ, 20, 36))) (kV K)) : am_Runs PP MLL d m_M_init 64 [some (qr (31, 12, 89)), z1] [] σ (kV K) := am_wEC_ok (orc []) [68] 200 (⟨⟨(by decide : (0 : Int) ≤ 36), (by decide : (36 : Int) ≤ 1000000)⟩, ⟨rfl, h⟩⟩)
theorem v_M_init_68 (d : Nat) (z1 : Option am_V) (σ : am_S) (K : am_S → Prop) (h :
  am_Runs PP MLL d m_M_init 72 [some (qr (31, 12, 89)), z1] [] (putR (newC σ 20 12) 31 23 (some (sN σ, 20, 12))) (kV K)) : am_Runs PP MLL d m_M_init 68 [some (qr (31, 12, 89)), z1] [] σ (kV K) := am_wEC_ok (orc []) [72] 200 (⟨⟨(by decide : (0 : Int) ≤ 12), (by decide : (12 : Int) ≤ 1000000)⟩, ⟨rfl, h⟩⟩)
theorem v_M_init_72 (d : Nat) (z1 : Option am_V) (σ : am_S) (K : am_S → Prop) (h :
  am_Runs PP MLL d m_M_init 76 [some (qr (31, 12, 89)), z1] [] (putR (newC σ 20 40) 31 24 (some (sN σ, 20, 40))) (kV K)) : am_Runs PP MLL d m_M_init 72 [some (qr (31, 12, 89)), z1] [] σ (kV K) := am_wEC_ok (orc []) [76] 200 (⟨⟨(by decide : (0 : Int) ≤ 40), (by decide : (40 : Int) ≤ 1000000)⟩, ⟨rfl, h⟩⟩)
theorem v_M_init_76 (d : Nat) (z1 : Option am_V) (σ : am_S) (K : am_S → Prop) (h :
  am_Runs PP MLL d m_M_init 80 [some (qr (31, 12, 89)), z1] [] (putR (newC σ 20 20) 31 27 (some (sN σ, 20, 20))) (kV K)) : am_Runs PP MLL d m_M_init 76 [some (qr (31, 12, 89)), z1] [] σ (kV K) := am_wEC_ok (orc []) [80] 200 (⟨⟨(by decide : (0 : Int) ≤ 20), (by decide : (20 : Int) ≤ 1000000)⟩, ⟨rfl, h⟩⟩)
theorem v_M_init_80 (d : Nat) (z1 : Option am_V) (σ : am_S) (K : am_S → Prop) (h :
  am_Runs PP MLL d m_M_init 84 [some (qr (31, 12, 89)), z1] [] (putR (newC σ 20 40) 31 29 (some (sN σ, 20, 40))) (kV K)) : am_Runs PP MLL d m_M_init 80 [some (qr (31, 12, 89)), z1] [] σ (kV K) := am_wEC_ok (orc []) [84] 200 (⟨⟨(by decide : (0 : Int) ≤ 40), (by decide : (40 : Int) ≤ 1000000)⟩, ⟨rfl, h⟩⟩)
theorem v_M_init_84 (d : Nat) (z1 : Option am_V) (σ : am_S) (K : am_S → Prop) (h :
  am_Runs PP MLL d m_M_init 88 [some (qr (31, 12, 89)), z1] [] (putR (newC σ 20 60) 31 41 (some (sN σ, 20, 60))) (kV K)) : am_Runs PP MLL d m_M_init 84 [some (qr (31, 12, 89)), z1] [] σ (kV K) := am_wEC_ok (orc []) [88] 200 (⟨⟨(by decide : (0 : Int) ≤ 60), (by decide : (60 : Int) ≤ 1000000)⟩, ⟨rfl, h⟩⟩)
theorem v_M_init_88 (d : Nat) (z1 : Option am_V) (σ : am_S) (K : am_S → Prop) (h :
  am_Runs PP MLL d m_M_init 92 [some (qr (31, 12, 89)), z1] [] (putR (newC σ 20 8640) 31 42 (some (sN σ, 20, 8640))) (kV K)) : am_Runs PP MLL d m_M_init 88 [some (qr (31, 12, 89)), z1] [] σ (kV K) := am_wEC_ok (orc []) [92] 200 (⟨⟨(by decide : (0 : Int) ≤ 8640), (by decide : (8640 : Int) ≤ 1000000)⟩, ⟨rfl, h⟩⟩)
theorem v_M_init_92 (d : Nat) (z1 : Option am_V) (σ : am_S) (K : am_S → Prop) (h :
  am_Runs PP MLL d m_M_init 96 [some (qr (31, 12, 89)), z1] [] (putR (newC σ 20 840) 31 43 (some (sN σ, 20, 840))) (kV K)) : am_Runs PP MLL d m_M_init 92 [some (qr (31, 12, 89)), z1] [] σ (kV K) := am_wEC_ok (orc []) [96] 200 (⟨⟨(by decide : (0 : Int) ≤ 840), (by decide : (840 : Int) ≤ 1000000)⟩, ⟨rfl, h⟩⟩)
theorem v_M_init_96 (d : Nat) (z1 : Option am_V) (σ : am_S) (K : am_S → Prop) (h :
  am_Runs PP MLL d m_M_init 100 [some (qr (31, 12, 89)), z1] [] (putR (newC σ 20 14) 31 44 (some (sN σ, 20, 14))) (kV K)) : am_Runs PP MLL d m_M_init 96 [some (qr (31, 12, 89)), z1] [] σ (kV K) := am_wEC_ok (orc []) [100] 200 (⟨⟨(by decide : (0 : Int) ≤ 14), (by decide : (14 : Int) ≤ 1000000)⟩, ⟨rfl, h⟩⟩)
theorem v_M_init_100 (d : Nat) (z1 : Option am_V) (σ : am_S) (K : am_S → Prop) (h :
  am_Runs PP MLL d m_M_init 104 [some (qr (31, 12, 89)), z1] [] (putR (newC σ 20 14) 31 45 (some (sN σ, 20, 14))) (kV K)) : am_Runs PP MLL d m_M_init 100 [some (qr (31, 12, 89)), z1] [] σ (kV K) := am_wEC_ok (orc []) [104] 200 (⟨⟨(by decide : (0 : Int) ≤ 14), (by decide : (14 : Int) ≤ 1000000)⟩, ⟨rfl, h⟩⟩)
theorem v_M_init_104 (d : Nat) (z1 : Option am_V) (σ : am_S) (K : am_S → Prop) (h :
  am_Runs PP MLL d m_M_init 108 [some (qr (31, 12, 89)), z1] [] (putR (newC σ 20 14) 31 46 (some (sN σ, 20, 14))) (kV K)) : am_Runs PP MLL d m_M_init 104 [some (qr (31, 12, 89)), z1] [] σ (kV K) := am_wEC_ok (orc []) [108] 200 (⟨⟨(by decide : (0 : Int) ≤ 14), (by decide : (14 : Int) ≤ 1000000)⟩, ⟨rfl, h⟩⟩)
theorem v_M_init_108 (d : Nat) (z1 : Option am_V) (σ : am_S) (K : am_S → Prop) (h :
  am_Runs PP MLL d m_M_init 112 [some (qr (31, 12, 89)), z1] [] (putR (newC σ 20 14) 31 47 (some (sN σ, 20, 14))) (kV K)) : am_Runs PP MLL d m_M_init 108 [some (qr (31, 12, 89)), z1] [] σ (kV K) := am_wEC_ok (orc []) [112] 200 (⟨⟨(by decide : (0 : Int) ≤ 14), (by decide : (14 : Int) ≤ 1000000)⟩, ⟨rfl, h⟩⟩)
theorem v_M_init_112 (d : Nat) (z1 : Option am_V) (σ : am_S) (K : am_S → Prop) (h :
  am_Runs PP MLL d m_M_init 116 [some (qr (31, 12, 89)), z1] [] (putR (newC σ 20 14) 31 48 (some (sN σ, 20, 14))) (kV K)) : am_Runs PP MLL d m_M_init 112 [some (qr (31, 12, 89)), z1] [] σ (kV K) := am_wEC_ok (orc []) [116] 200 (⟨⟨(by decide : (0 : Int) ≤ 14), (by decide : (14 : Int) ≤ 1000000)⟩, ⟨rfl, h⟩⟩)
theorem v_M_init_116 (d : Nat) (z1 : Option am_V) (σ : am_S) (K : am_S → Prop) (h :
  am_Runs PP MLL d m_M_init 120 [some (qr (31, 12, 89)), z1] [] (putR (newC σ 20 14) 31 49 (some (sN σ, 20, 14))) (kV K)) : am_Runs PP MLL d m_M_init 116 [some (qr (31, 12, 89)), z1] [] σ (kV K) := am_wEC_ok (orc []) [120] 200 (⟨⟨(by decide : (0 : Int) ≤ 14), (by decide : (14 : Int) ≤ 1000000)⟩, ⟨rfl, h⟩⟩)
theorem v_M_init_120 (d : Nat) (z1 : Option am_V) (σ : am_S) (K : am_S → Prop) (h :
  am_Runs PP MLL d m_M_init 124 [some (qr (31, 12, 89)), z1] [] (putR (newC σ 20 14) 31 50 (some (sN σ, 20, 14))) (kV K)) : am_Runs PP MLL d m_M_init 120 [some (qr (31, 12, 89)), z1] [] σ (kV K) := am_wEC_ok (orc []) [124] 200 (⟨⟨(by decide : (0 : Int) ≤ 14), (by decide : (14 : Int) ≤ 1000000)⟩, ⟨rfl, h⟩⟩)
theorem v_M_init_124 (d : Nat) (z1 : Option am_V) (σ : am_S) (K : am_S → Prop) (h :
  am_Runs PP MLL d m_M_init 128 [some (qr (31, 12, 89)), z1] [] (putR (newC σ 20 14) 31 51 (some (sN σ, 20, 14))) (kV K)) : am_Runs PP MLL d m_M_init 124 [some (qr (31, 12, 89)), z1] [] σ (kV K) := am_wEC_ok (orc []) [128] 200 (⟨⟨(by decide : (0 : Int) ≤ 14), (by decide : (14 : Int) ≤ 1000000)⟩, ⟨rfl, h⟩⟩)
theorem v_M_init_128 (d : Nat) (z1 : Option am_V) (σ : am_S) (K : am_S → Prop) (h :
  am_Runs PP MLL d m_M_init 132 [some (qr (31, 12, 89)), z1] [] (putR (newC σ 20 168) 31 52 (some (sN σ, 20, 168))) (kV K)) : am_Runs PP MLL d m_M_init 128 [some (qr (31, 12, 89)), z1] [] σ (kV K) := am_wEC_ok (orc []) [132] 200 (⟨⟨(by decide : (0 : Int) ≤ 168), (by decide : (168 : Int) ≤ 1000000)⟩, ⟨rfl, h⟩⟩)
theorem v_M_init_132 (d : Nat) (z1 : Option am_V) (σ : am_S) (K : am_S → Prop) (h :
  am_Runs PP MLL d m_M_init 136 [some (qr (31, 12, 89)), z1] [] (putR (newC σ 20 168) 31 53 (some (sN σ, 20, 168))) (kV K)) : am_Runs PP MLL d m_M_init 132 [some (qr (31, 12, 89)), z1] [] σ (kV K) := am_wEC_ok (orc []) [136] 200 (⟨⟨(by decide : (0 : Int) ≤ 168), (by decide : (168 : Int) ≤ 1000000)⟩, ⟨rfl, h⟩⟩)
theorem v_M_init_136 (d : Nat) (z1 : Option am_V) (σ : am_S) (K : am_S → Prop) (h :
  am_Runs PP MLL d m_M_init 140 [some (qr (31, 12, 89)), z1] [] (putR (newC σ 20 168) 31 54 (some (sN σ, 20, 168))) (kV K)) : am_Runs PP MLL d m_M_init 136 [some (qr (31, 12, 89)), z1] [] σ (kV K) := am_wEC_ok (orc []) [140] 200 (⟨⟨(by decide : (0 : Int) ≤ 168), (by decide : (168 : Int) ≤ 1000000)⟩, ⟨rfl, h⟩⟩)
theorem v_M_init_140 (d : Nat) (z1 : Option am_V) (σ : am_S) (K : am_S → Prop) (h :
  am_Runs PP MLL d m_M_init 144 [some (qr (31, 12, 89)), z1] [] (putR (newC σ 20 168) 31 55 (some (sN σ, 20, 168))) (kV K)) : am_Runs PP MLL d m_M_init 140 [some (qr (31, 12, 89)), z1] [] σ (kV K) := am_wEC_ok (orc []) [144] 200 (⟨⟨(by decide : (0 : Int) ≤ 168), (by decide : (168 : Int) ≤ 1000000)⟩, ⟨rfl, h⟩⟩)
theorem v_M_init_144 (d : Nat) (z1 : Option am_V) (σ : am_S) (K : am_S → Prop) (h :
  am_Runs PP MLL d m_M_init 148 [some (qr (31, 12, 89)), z1] [] (putR (newC σ 20 168) 31 56 (some (sN σ, 20, 168))) (kV K)) : am_Runs PP MLL d m_M_init 144 [some (qr (31, 12, 89)), z1] [] σ (kV K) := am_wEC_ok (orc []) [148] 200 (⟨⟨(by decide : (0 : Int) ≤ 168), (by decide : (168 : Int) ≤ 1000000)⟩, ⟨rfl, h⟩⟩)
theorem v_M_init_148 (d : Nat) (z1 : Option am_V) (σ : am_S) (K : am_S → Prop) (h :
  am_Runs PP MLL d m_M_init 152 [some (qr (31, 12, 89)), z1] [] (putR (newC σ 20 6000) 31 61 (some (sN σ, 20, 6000))) (kV K)) : am_Runs PP MLL d m_M_init 148 [some (qr (31, 12, 89)), z1] [] σ (kV K) := am_wEC_ok (orc []) [152] 200 (⟨⟨(by decide : (0 : Int) ≤ 6000), (by decide : (6000 : Int) ≤ 1000000)⟩, ⟨rfl, h⟩⟩)
theorem v_M_init_152 (d : Nat) (z1 : Option am_V) (σ : am_S) (K : am_S → Prop) (h :
  am_Runs PP MLL d m_M_init 156 [some (qr (31, 12, 89)), z1] [] (putR (newC σ 20 6000) 31 62 (some (sN σ, 20, 6000))) (kV K)) : am_Runs PP MLL d m_M_init 152 [some (qr (31, 12, 89)), z1] [] σ (kV K) := am_wEC_ok (orc []) [156] 200 (⟨⟨(by decide : (0 : Int) ≤ 6000), (by decide : (6000 : Int) ≤ 1000000)⟩, ⟨rfl, h⟩⟩)
theorem v_M_init_156 (d : Nat) (z1 : Option am_V) (σ : am_S) (K : am_S → Prop) (h :
  am_Runs PP MLL d m_M_init 160 [some (qr (31, 12, 89)), z1] [] (putR (newC σ 20 6000) 31 63 (some (sN σ, 20, 6000))) (kV K)) : am_Runs PP MLL d m_M_init 156 [some (qr (31, 12, 89)), z1] [] σ (kV K) := am_wEC_ok (orc []) [160] 200 (⟨⟨(by decide : (0 : Int) ≤ 6000), (by decide : (6000 : Int) ≤ 1000000)⟩, ⟨rfl, h⟩⟩)
theorem v_M_init_160 (d : Nat) (z1 : Option am_V) (σ : am_S) (K : am_S → Prop) (h :
  am_Runs PP MLL d m_M_init 164 [some (qr (31, 12, 89)), z1] [] (putR (newC σ 20 6000) 31 64 (some (sN σ, 20, 6000))) (kV K)) : am_Runs PP MLL d m_M_init 160 [some (qr (31, 12, 89)), z1] [] σ (kV K) := am_wEC_ok (orc []) [164] 200 (⟨⟨(by decide : (0 : Int) ≤ 6000), (by decide : (6000 : Int) ≤ 1000000)⟩, ⟨rfl, h⟩⟩)
theorem v_M_init_164 (d : Nat) (z1 : Option am_V) (σ : am_S) (K : am_S → Prop) (h :
  am_Runs PP MLL d m_M_init 168 [some (qr (31, 12, 89)), z1] [] (putR (newC σ 20 6000) 31 65 (some (sN σ, 20, 6000))) (kV K)) : am_Runs PP MLL d m_M_init 164 [some (qr (31, 12, 89)), z1] [] σ (kV K) := am_wEC_ok (orc []) [168] 200 (⟨⟨(by decide : (0 : Int) ≤ 6000), (by decide : (6000 : Int) ≤ 1000000)⟩, ⟨rfl, h⟩⟩)
theorem v_M_init_168 (d : Nat) (z1 : Option am_V) (σ : am_S) (K : am_S → Prop) (h :
  am_Runs PP MLL d m_M_init 172 [some (qr (31, 12, 89)), z1] [] (putR (newC σ 20 6000) 31 66 (some (sN σ, 20, 6000))) (kV K)) : am_Runs PP MLL d m_M_init 168 [some (qr (31, 12, 89)), z1] [] σ (kV K) := am_wEC_ok (orc []) [172] 200 (⟨⟨(by decide : (0 : Int) ≤ 6000), (by decide : (6000 : Int) ≤ 1000000)⟩, ⟨rfl, h⟩⟩)
theorem v_M_init_172 (d : Nat) (z1 : Option am_V) (σ : am_S) (K : am_S → Prop) (h :
  am_Runs PP MLL d m_M_init 176 [some (qr (31, 12, 89)), z1] [] (putR (newC σ 20 6000) 31 67 (some (sN σ, 20, 6000))) (kV K)) : am_Runs PP MLL d m_M_init 172 [some (qr (31, 12, 89)), z1] [] σ (kV K) := am_wEC_ok (orc []) [176] 200 (⟨⟨(by decide : (0 : Int) ≤ 6000), (by decide : (6000 : Int) ≤ 1000000)⟩, ⟨rfl, h⟩⟩)
theorem v_M_init_176 (d : Nat) (z1 : Option am_V) (σ : am_S) (K : am_S → Prop) (h :
  am_Runs PP MLL d m_M_init 180 [some (qr (31, 12, 89)), z1] [] (putR (newC σ 20 6000) 31 68 (some (sN σ, 20, 6000))) (kV K)) : am_Runs PP MLL d m_M_init 176 [some (qr (31, 12, 89)), z1] [] σ (kV K) := am_wEC_ok (orc []) [180] 200 (⟨⟨(by decide : (0 : Int) ≤ 6000), (by decide : (6000 : Int) ≤ 1000000)⟩, ⟨rfl, h⟩⟩)
theorem v_M_init_180 (d : Nat) (z1 : Option am_V) (σ : am_S) (K : am_S → Prop) (h :
  am_Runs PP MLL d m_M_init 184 [some (qr (31, 12, 89)), z1] [] (putR (newC σ 20 6000) 31 69 (some (sN σ, 20, 6000))) (kV K)) : am_Runs PP MLL d m_M_init 180 [some (qr (31, 12, 89)), z1] [] σ (kV K) := am_wEC_ok (orc []) [184] 200 (⟨⟨(by decide : (0 : Int) ≤ 6000), (by decide : (6000 : Int) ≤ 1000000)⟩, ⟨rfl, h⟩⟩)
theorem v_M_init_184 (d : Nat) (z1 : Option am_V) (σ : am_S) (K : am_S → Prop) (h :
  am_Runs PP MLL d m_M_init 188 [some (qr (31, 12, 89)), z1] [] (putR (newC σ 20 6000) 31 70 (some (sN σ, 20, 6000))) (kV K)) : am_Runs PP MLL d m_M_init 184 [some (qr (31, 12, 89)), z1] [] σ (kV K) := am_wEC_ok (orc []) [188] 200 (⟨⟨(by decide : (0 : Int) ≤ 6000), (by decide : (6000 : Int) ≤ 1000000)⟩, ⟨rfl, h⟩⟩)
theorem v_M_init_188 (d : Nat) (z1 : Option am_V) (σ : am_S) (K : am_S → Prop) (h :
  am_Runs PP MLL d m_M_init 192 [some (qr (31, 12, 89)), z1] [] (putR (newC σ 20 42000) 31 71 (some (sN σ, 20, 42000))) (kV K)) : am_Runs PP MLL d m_M_init 188 [some (qr (31, 12, 89)), z1] [] σ (kV K) := am_wEC_ok (orc []) [192] 200 (⟨⟨(by decide : (0 : Int) ≤ 42000), (by decide : (42000 : Int) ≤ 1000000)⟩, ⟨rfl, h⟩⟩)
theorem v_M_init_192 (d : Nat) (z1 : Option am_V) (σ : am_S) (K : am_S → Prop) (h :
  am_Runs PP MLL d m_M_init 196 [some (qr (31, 12, 89)), z1] [] (putR (newC σ 20 6000) 31 72 (some (sN σ, 20, 6000))) (kV K)) : am_Runs PP MLL d m_M_init 192 [some (qr (31, 12, 89)), z1] [] σ (kV K) := am_wEC_ok (orc []) [196] 200 (⟨⟨(by decide : (0 : Int) ≤ 6000), (by decide : (6000 : Int) ≤ 1000000)⟩, ⟨rfl, h⟩⟩)
theorem v_M_init_196 (d : Nat) (z1 : Option am_V) (σ : am_S) (K : am_S → Prop) (h :
  am_Runs PP MLL d m_M_init 200 [some (qr (31, 12, 89)), z1] [] (putR (newC σ 20 10000) 31 74 (some (sN σ, 20, 10000))) (kV K)) : am_Runs PP MLL d m_M_init 196 [some (qr (31, 12, 89)), z1] [] σ (kV K) := am_wEC_ok (orc []) [200] 200 (⟨⟨(by decide : (0 : Int) ≤ 10000), (by decide : (10000 : Int) ≤ 1000000)⟩, ⟨rfl, h⟩⟩)
theorem v_M_init_200 (d : Nat) (z1 : Option am_V) (σ : am_S) (K : am_S → Prop) (h :
  am_Runs PP MLL d m_M_init 204 [some (qr (31, 12, 89)), z1] [] (putR (newC σ 20 8) 31 75 (some (sN σ, 20, 8))) (kV K)) : am_Runs PP MLL d m_M_init 200 [some (qr (31, 12, 89)), z1] [] σ (kV K) := am_wEC_ok (orc []) [204] 200 (⟨⟨(by decide : (0 : Int) ≤ 8), (by decide : (8 : Int) ≤ 1000000)⟩, ⟨rfl, h⟩⟩)
theorem v_M_init_204 (d : Nat) (z1 : Option am_V) (σ : am_S) (K : am_S → Prop) (h :
  am_Runs PP MLL d m_M_init 208 [some (qr (31, 12, 89)), z1] [] (putR (newC σ 20 600) 31 79 (some (sN σ, 20, 600))) (kV K)) : am_Runs PP MLL d m_M_init 204 [some (qr (31, 12, 89)), z1] [] σ (kV K) := am_wEC_ok (orc []) [208] 200 (⟨⟨(by decide : (0 : Int) ≤ 600), (by decide : (600 : Int) ≤ 1000000)⟩, ⟨rfl, h⟩⟩)
theorem v_M_init_208 (d : Nat) (z1 : Option am_V) (σ : am_S) (K : am_S → Prop) (h :
  am_Runs PP MLL d m_M_init 212 [some (qr (31, 12, 89)), z1] [] (putR (newC σ 20 600) 31 80 (some (sN σ, 20, 600))) (kV K)) : am_Runs PP MLL d m_M_init 208 [some (qr (31, 12, 89)), z1] [] σ (kV K) := am_wEC_ok (orc []) [212] 200 (⟨⟨(by decide : (0 : Int) ≤ 600), (by decide : (600 : Int) ≤ 1000000)⟩, ⟨rfl, h⟩⟩)
theorem v_M_init_212 (d : Nat) (z1 : Option am_V) (σ : am_S) (K : am_S → Prop) (h :
  am_Runs PP MLL d m_M_init 216 [some (qr (31, 12, 89)), z1] [] (putR (newC σ 21 6) 31 81 (some (sN σ, 21, 6))) (kV K)) : am_Runs PP MLL d m_M_init 212 [some (qr (31, 12, 89)), z1] [] σ (kV K) := am_wEC_ok (orc []) [216] 200 (⟨⟨(by decide : (0 : Int) ≤ 6), (by decide : (6 : Int) ≤ 1000000)⟩, ⟨rfl, h⟩⟩)
theorem v_M_init_216 (d : Nat) (z1 : Option am_V) (σ : am_S) (K : am_S → Prop) (h :
  am_Runs PP MLL d m_M_init 220 [some (qr (31, 12, 89)), z1] [] (putR (newC σ 21 6) 31 82 (some (sN σ, 21, 6))) (kV K)) : am_Runs PP MLL d m_M_init 216 [some (qr (31, 12, 89)), z1] [] σ (kV K) := am_wEC_ok (orc []) [220] 200 (⟨⟨(by decide : (0 : Int) ≤ 6), (by decide : (6 : Int) ≤ 1000000)⟩, ⟨rfl, h⟩⟩)
theorem v_M_init_220 (d : Nat) (z1 : Option am_V) (σ : am_S) (K : am_S → Prop) (h :
  am_Runs PP MLL d m_M_init 224 [some (qr (31, 12, 89)), z1] [] (putR (newC σ 20 117649) 31 87 (some (sN σ, 20, 117649))) (kV K)) : am_Runs PP MLL d m_M_init 220 [some (qr (31, 12, 89)), z1] [] σ (kV K) := am_wEC_ok (orc []) [224] 200 (⟨⟨(by decide : (0 : Int) ≤ 117649), (by decide : (117649 : Int) ≤ 1000000)⟩, ⟨rfl, h⟩⟩)
theorem v_M_init_224 (d : Nat) (z1 : Option am_V) (σ : am_S) (K : am_S → Prop) (h :
  am_Runs PP MLL d m_M_init 228 [some (qr (31, 12, 89)), z1] [] (putR (newC σ 20 10000) 31 88 (some (sN σ, 20, 10000))) (kV K)) : am_Runs PP MLL d m_M_init 224 [some (qr (31, 12, 89)), z1] [] σ (kV K) := am_wEC_ok (orc []) [228] 200 (⟨⟨(by decide : (0 : Int) ≤ 10000), (by decide : (10000 : Int) ≤ 1000000)⟩, ⟨rfl, h⟩⟩)
theorem v_M_init_228 (d : Nat) (z1 : Option am_V) (σ : am_S) (K : am_S → Prop) (hF : MF σ) (h :
  am_Runs PP MLL d m_M_init 235 [some (qr (31, 12, 89)), some (qi 0)] [] (putI σ 37 0 (-1)) (kV K)) : am_Runs PP MLL d m_M_init 228 [some (qr (31, 12, 89)), z1] [] σ (kV K) := am_wEF_ok (orc [(229, 37, 20, 10000)]) 200 (⟨⟨rfl, (hF 11)⟩, ⟨⟨rfl, (by decide : (0 : Int) ≤ 0), (by decide : (0 : Int) < 10000)⟩, h⟩⟩)

theorem v_M_init_235 (d : Nat) (v1 : Int) (σ : am_S) (K : am_S → Prop) (hF : MF σ) (h :
  ((12 ≤ v1 →
    am_Runs PP MLL d m_M_init 247 [some (qr (31, 12, 89)), some (qi 0)] [] σ (kV K)) ∧
  (¬ (12 ≤ v1) →
    (0 ≤ v1 ∧ v1 < 12 ∧ -2147483648 ≤ v1 + 1 ∧ v1 + 1 < 2147483648) ∧
    am_Runs PP MLL d m_M_init 235 [some (qr (31, 12, 89)), some (qi (v1 + 1))] [] (putI σ 41 (Int.toNat v1) (-1)) (kV K)))) : am_Runs PP MLL d m_M_init 235 [some (qr (31, 12, 89)), some (qi v1)] [] σ (kV K) := am_wEF_ok (orc [(239, 41, 20, 12)]) 200 (⟨fun c2 => (h.1 c2), fun c2 => ⟨⟨rfl, (hF 17)⟩, ⟨⟨rfl, (h.2 c2).1.1, (h.2 c2).1.2.1⟩, ⟨⟨(h.2 c2).1.2.2.1, (h.2 c2).1.2.2.2⟩, (h.2 c2).2⟩⟩⟩⟩)

theorem v_M_init_247 (d : Nat) (v1 : Int) (σ : am_S) (K : am_S → Prop) (hF : MF σ) (h :
  ((24 ≤ v1 →
    K σ) ∧
  (¬ (24 ≤ v1) →
    (0 ≤ v1 ∧ v1 < 24 ∧ -2147483648 ≤ v1 + 1 ∧ v1 + 1 < 2147483648) ∧
    am_Runs PP MLL d m_M_init 247 [some (qr (31, 12, 89)), some (qi (v1 + 1))] [] (putI σ 44 (Int.toNat v1) (-1)) (kV K)))) : am_Runs PP MLL d m_M_init 247 [some (qr (31, 12, 89)), some (qi v1)] [] σ (kV K) := am_wEF_ok (orc [(251, 44, 20, 24)]) 200 (⟨fun c2 => (h.1 c2), fun c2 => ⟨⟨rfl, (hF 20)⟩, ⟨⟨rfl, (h.2 c2).1.1, (h.2 c2).1.2.1⟩, ⟨⟨(h.2 c2).1.2.2.1, (h.2 c2).1.2.2.2⟩, (h.2 c2).2⟩⟩⟩⟩)

theorem mi_0 (d : Nat) {xs : Nat → Int} {σ : am_S} {K : am_S → Prop} {RL : List (Nat × Nat × am_R)} {IL : List (Nat × Nat × Int)} (h : ILP xs σ 32 309 RL IL) (hk : ∀ s, ILP xs s 32 309 RL ((31, 3, (1 : Int)) :: IL) → am_Runs PP MLL d m_M_init 5 [some (qr (31, 12, 89)), none] [] s (kV K)) : am_Runs PP MLL d m_M_init 0 [some (qr (31, 12, 89)), none] [] σ (kV K) := v_M_init_0 d σ K (hk _ (P_I h (by decide) (by decide)))
theorem mi_5 (d : Nat) {z1 : Option am_V} {xs : Nat → Int} {σ : am_S} {K : am_S → Prop} {RL : List (Nat × Nat × am_R)} {IL : List (Nat × Nat × Int)} (h : ILP xs σ 32 309 RL IL) (hk : ∀ s, ILP xs s 32 309 RL ((31, 5, (1 : Int)) :: IL) → am_Runs PP MLL d m_M_init 8 [some (qr (31, 12, 89)), z1] [] s (kV K)) : am_Runs PP MLL d m_M_init 5 [some (qr (31, 12, 89)), z1] [] σ (kV K) := v_M_init_5 d z1 σ K (hk _ (P_I h (by decide) (by decide)))
theorem mi_8 (d : Nat) {z1 : Option am_V} {xs : Nat → Int} {σ : am_S} {K : am_S → Prop} {RL : List (Nat × Nat × am_R)} {IL : List (Nat × Nat × Int)} (h : ILP xs σ 32 309 RL IL) (hk : ∀ s, ILP xs s 33 313 ((31, 6, (32, 20, 4)) :: RL) IL → am_Runs PP MLL d m_M_init 12 [some (qr (31, 12, 89)), z1] [] s (kV K)) : am_Runs PP MLL d m_M_init 8 [some (qr (31, 12, 89)), z1] [] σ (kV K) := v_M_init_8 d z1 σ K (hk _ (P_F h (by decide)))
theorem mi_12 (d : Nat) {z1 : Option am_V} {xs : Nat → Int} {σ : am_S} {K : am_S → Prop} {RL : List (Nat × Nat × am_R)} {IL : List (Nat × Nat × Int)} (h : ILP xs σ 33 313 RL IL) (hk : ∀ s, ILP xs s 34 10313 ((31, 7, (33, 20, 10000)) :: RL) IL → am_Runs PP MLL d m_M_init 16 [some (qr (31, 12, 89)), z1] [] s (kV K)) : am_Runs PP MLL d m_M_init 12 [some (qr (31, 12, 89)), z1] [] σ (kV K) := v_M_init_12 d z1 σ K (hk _ (P_F h (by decide)))
theorem mi_16 (d : Nat) {z1 : Option am_V} {xs : Nat → Int} {σ : am_S} {K : am_S → Prop} {RL : List (Nat × Nat × am_R)} {IL : List (Nat × Nat × Int)} (h : ILP xs σ 34 10313 RL IL) (hk : ∀ s, ILP xs s 35 40313 ((31, 8, (34, 20, 30000)) :: RL) IL → am_Runs PP MLL d m_M_init 20 [some (qr (31, 12, 89)), z1] [] s (kV K)) : am_Runs PP MLL d m_M_init 16 [some (qr (31, 12, 89)), z1] [] σ (kV K) := v_M_init_16 d z1 σ K (hk _ (P_F h (by decide)))
theorem mi_20 (d : Nat) {z1 : Option am_V} {xs : Nat → Int} {σ : am_S} {K : am_S → Prop} {RL : List (Nat × Nat × am_R)} {IL : List (Nat × Nat × Int)} (h : ILP xs σ 35 40313 RL IL) (hk : ∀ s, ILP xs s 36 70313 ((31, 9, (35, 20, 30000)) :: RL) IL → am_Runs PP MLL d m_M_init 24 [some (qr (31, 12, 89)), z1] [] s (kV K)) : am_Runs PP MLL d m_M_init 20 [some (qr (31, 12, 89)), z1] [] σ (kV K) := v_M_init_20 d z1 σ K (hk _ (P_F h (by decide)))
theorem mi_24 (d : Nat) {z1 : Option am_V} {xs : Nat → Int} {σ : am_S} {K : am_S → Prop} {RL : List (Nat × Nat × am_R)} {IL : List (Nat × Nat × Int)} (h : ILP xs σ 36 70313 RL IL) (hk : ∀ s, ILP xs s 37 80313 ((31, 10, (36, 20, 10000)) :: RL) IL → am_Runs PP MLL d m_M_init 28 [some (qr (31, 12, 89)), z1] [] s (kV K)) : am_Runs PP MLL d m_M_init 24 [some (qr (31, 12, 89)), z1] [] σ (kV K) := v_M_init_24 d z1 σ K (hk _ (P_F h (by decide)))
theorem mi_28 (d : Nat) {z1 : Option am_V} {xs : Nat → Int} {σ : am_S} {K : am_S → Prop} {RL : List (Nat × Nat × am_R)} {IL : List (Nat × Nat × Int)} (h : ILP xs σ 37 80313 RL IL) (hk : ∀ s, ILP xs s 38 90313 ((31, 11, (37, 20, 10000)) :: RL) IL → am_Runs PP MLL d m_M_init 32 [some (qr (31, 12, 89)), z1] [] s (kV K)) : am_Runs PP MLL d m_M_init 28 [some (qr (31, 12, 89)), z1] [] σ (kV K) := v_M_init_28 d z1 σ K (hk _ (P_F h (by decide)))
theorem mi_32 (d : Nat) {z1 : Option am_V} {xs : Nat → Int} {σ : am_S} {K : am_S → Prop} {RL : List (Nat × Nat × am_R)} {IL : List (Nat × Nat × Int)} (h : ILP xs σ 38 90313 RL IL) (hk : ∀ s, ILP xs s 39 100313 ((31, 12, (38, 20, 10000)) :: RL) IL → am_Runs PP MLL d m_M_init 36 [some (qr (31, 12, 89)), z1] [] s (kV K)) : am_Runs PP MLL d m_M_init 32 [some (qr (31, 12, 89)), z1] [] σ (kV K) := v_M_init_32 d z1 σ K (hk _ (P_F h (by decide)))
theorem mi_36 (d : Nat) {z1 : Option am_V} {xs : Nat → Int} {σ : am_S} {K : am_S → Prop} {RL : List (Nat × Nat × am_R)} {IL : List (Nat × Nat × Int)} (h : ILP xs σ 39 100313 RL IL) (hk : ∀ s, ILP xs s 40 100316 ((31, 14, (39, 20, 3)) :: RL) IL → am_Runs PP MLL d m_M_init 40 [some (qr (31, 12, 89)), z1] [] s (kV K)) : am_Runs PP MLL d m_M_init 36 [some (qr (31, 12, 89)), z1] [] σ (kV K) := v_M_init_36 d z1 σ K (hk _ (P_F h (by decide)))
theorem mi_40 (d : Nat) {z1 : Option am_V} {xs : Nat → Int} {σ : am_S} {K : am_S → Prop} {RL : List (Nat × Nat × am_R)} {IL : List (Nat × Nat × Int)} (h : ILP xs σ 40 100316 RL IL) (hk : ∀ s, ILP xs s 41 100319 ((31, 15, (40, 20, 3)) :: RL) IL → am_Runs PP MLL d m_M_init 44 [some (qr (31, 12, 89)), z1] [] s (kV K)) : am_Runs PP MLL d m_M_init 40 [some (qr (31, 12, 89)), z1] [] σ (kV K) := v_M_init_40 d z1 σ K (hk _ (P_F h (by decide)))
theorem mi_44 (d : Nat) {z1 : Option am_V} {xs : Nat → Int} {σ : am_S} {K : am_S → Prop} {RL : List (Nat × Nat × am_R)} {IL : List (Nat × Nat × Int)} (h : ILP xs σ 41 100319 RL IL) (hk : ∀ s, ILP xs s 42 100331 ((31, 17, (41, 20, 12)) :: RL) IL → am_Runs PP MLL d m_M_init 48 [some (qr (31, 12, 89)), z1] [] s (kV K)) : am_Runs PP MLL d m_M_init 44 [some (qr (31, 12, 89)), z1] [] σ (kV K) := v_M_init_44 d z1 σ K (hk _ (P_F h (by decide)))
theorem mi_48 (d : Nat) {z1 : Option am_V} {xs : Nat → Int} {σ : am_S} {K : am_S → Prop} {RL : List (Nat × Nat × am_R)} {IL : List (Nat × Nat × Int)} (h : ILP xs σ 42 100331 RL IL) (hk : ∀ s, ILP xs s 43 100343 ((31, 18, (42, 20, 12)) :: RL) IL → am_Runs PP MLL d m_M_init 52 [some (qr (31, 12, 89)), z1] [] s (kV K)) : am_Runs PP MLL d m_M_init 48 [some (qr (31, 12, 89)), z1] [] σ (kV K) := v_M_init_48 d z1 σ K (hk _ (P_F h (by decide)))
theorem mi_52 (d : Nat) {z1 : Option am_V} {xs : Nat → Int} {σ : am_S} {K : am_S → Prop} {RL : List (Nat × Nat × am_R)} {IL : List (Nat × Nat × Int)} (h : ILP xs σ 43 100343 RL IL) (hk : ∀ s, ILP xs s 44 100355 ((31, 19, (43, 20, 12)) :: RL) IL → am_Runs PP MLL d m_M_init 56 [some (qr (31, 12, 89)), z1] [] s (kV K)) : am_Runs PP MLL d m_M_init 52 [some (qr (31, 12, 89)), z1] [] σ (kV K) := v_M_init_52 d z1 σ K (hk _ (P_F h (by decide)))
theorem mi_56 (d : Nat) {z1 : Option am_V} {xs : Nat → Int} {σ : am_S} {K : am_S → Prop} {RL : List (Nat × Nat × am_R)} {IL : List (Nat × Nat × Int)} (h : ILP xs σ 44 100355 RL IL) (hk : ∀ s, ILP xs s 45 100379 ((31, 20, (44, 20, 24)) :: RL) IL → am_Runs PP MLL d m_M_init 60 [some (qr (31, 12, 89)), z1] [] s (kV K)) : am_Runs PP MLL d m_M_init 56 [some (qr (31, 12, 89)), z1] [] σ (kV K) := v_M_init_56 d z1 σ K (hk _ (P_F h (by decide)))
theorem mi_60 (d : Nat) {z1 : Option am_V} {xs : Nat → Int} {σ : am_S} {K : am_S → Prop} {RL : List (Nat × Nat × am_R)} {IL : List (Nat × Nat × Int)} (h : ILP xs σ 45 100379 RL IL) (hk : ∀ s, ILP xs s 46 100859 ((31, 21, (45, 20, 480)) :: RL) IL → am_Runs PP MLL d m_M_init 64 [some (qr (31, 12, 89)), z1] [] s (kV K)) : am_Runs PP MLL d m_M_init 60 [some (qr (31, 12, 89)), z1] [] σ (kV K) := v_M_init_60 d z1 σ K (hk _ (P_F h (by decide)))
theorem mi_64 (d : Nat) {z1 : Option am_V} {xs : Nat → Int} {σ : am_S} {K : am_S → Prop} {RL : List (Nat × Nat × am_R)} {IL : List (Nat × Nat × Int)} (h : ILP xs σ 46 100859 RL IL) (hk : ∀ s, ILP xs s 47 100895 ((31, 22, (46, 20, 36)) :: RL) IL → am_Runs PP MLL d m_M_init 68 [some (qr (31, 12, 89)), z1] [] s (kV K)) : am_Runs PP MLL d m_M_init 64 [some (qr (31, 12, 89)), z1] [] σ (kV K) := v_M_init_64 d z1 σ K (hk _ (P_F h (by decide)))
theorem mi_68 (d : Nat) {z1 : Option am_V} {xs : Nat → Int} {σ : am_S} {K : am_S → Prop} {RL : List (Nat × Nat × am_R)} {IL : List (Nat × Nat × Int)} (h : ILP xs σ 47 100895 RL IL) (hk : ∀ s, ILP xs s 48 100907 ((31, 23, (47, 20, 12)) :: RL) IL → am_Runs PP MLL d m_M_init 72 [some (qr (31, 12, 89)), z1] [] s (kV K)) : am_Runs PP MLL d m_M_init 68 [some (qr (31, 12, 89)), z1] [] σ (kV K) := v_M_init_68 d z1 σ K (hk _ (P_F h (by decide)))
theorem mi_72 (d : Nat) {z1 : Option am_V} {xs : Nat → Int} {σ : am_S} {K : am_S → Prop} {RL : List (Nat × Nat × am_R)} {IL : List (Nat × Nat × Int)} (h : ILP xs σ 48 100907 RL IL) (hk : ∀ s, ILP xs s 49 100947 ((31, 24, (48, 20, 40)) :: RL) IL → am_Runs PP MLL d m_M_init 76 [some (qr (31, 12, 89)), z1] [] s (kV K)) : am_Runs PP MLL d m_M_init 72 [some (qr (31, 12, 89)), z1] [] σ (kV K) := v_M_init_72 d z1 σ K (hk _ (P_F h (by decide)))
theorem mi_76 (d : Nat) {z1 : Option am_V} {xs : Nat → Int} {σ : am_S} {K : am_S → Prop} {RL : List (Nat × Nat × am_R)} {IL : List (Nat × Nat × Int)} (h : ILP xs σ 49 100947 RL IL) (hk : ∀ s, ILP xs s 50 100967 ((31, 27, (49, 20, 20)) :: RL) IL → am_Runs PP MLL d m_M_init 80 [some (qr (31, 12, 89)), z1] [] s (kV K)) : am_Runs PP MLL d m_M_init 76 [some (qr (31, 12, 89)), z1] [] σ (kV K) := v_M_init_76 d z1 σ K (hk _ (P_F h (by decide)))
theorem mi_80 (d : Nat) {z1 : Option am_V} {xs : Nat → Int} {σ : am_S} {K : am_S → Prop} {RL : List (Nat × Nat × am_R)} {IL : List (Nat × Nat × Int)} (h : ILP xs σ 50 100967 RL IL) (hk : ∀ s, ILP xs s 51 101007 ((31, 29, (50, 20, 40)) :: RL) IL → am_Runs PP MLL d m_M_init 84 [some (qr (31, 12, 89)), z1] [] s (kV K)) : am_Runs PP MLL d m_M_init 80 [some (qr (31, 12, 89)), z1] [] σ (kV K) := v_M_init_80 d z1 σ K (hk _ (P_F h (by decide)))
theorem mi_84 (d : Nat) {z1 : Option am_V} {xs : Nat → Int} {σ : am_S} {K : am_S → Prop} {RL : List (Nat × Nat × am_R)} {IL : List (Nat × Nat × Int)} (h : ILP xs σ 51 101007 RL IL) (hk : ∀ s, ILP xs s 52 101067 ((31, 41, (51, 20, 60)) :: RL) IL → am_Runs PP MLL d m_M_init 88 [some (qr (31, 12, 89)), z1] [] s (kV K)) : am_Runs PP MLL d m_M_init 84 [some (qr (31, 12, 89)), z1] [] σ (kV K) := v_M_init_84 d z1 σ K (hk _ (P_F h (by decide)))
theorem mi_88 (d : Nat) {z1 : Option am_V} {xs : Nat → Int} {σ : am_S} {K : am_S → Prop} {RL : List (Nat × Nat × am_R)} {IL : List (Nat × Nat × Int)} (h : ILP xs σ 52 101067 RL IL) (hk : ∀ s, ILP xs s 53 109707 ((31, 42, (52, 20, 8640)) :: RL) IL → am_Runs PP MLL d m_M_init 92 [some (qr (31, 12, 89)), z1] [] s (kV K)) : am_Runs PP MLL d m_M_init 88 [some (qr (31, 12, 89)), z1] [] σ (kV K) := v_M_init_88 d z1 σ K (hk _ (P_F h (by decide)))
theorem mi_92 (d : Nat) {z1 : Option am_V} {xs : Nat → Int} {σ : am_S} {K : am_S → Prop} {RL : List (Nat × Nat × am_R)} {IL : List (Nat × Nat × Int)} (h : ILP xs σ 53 109707 RL IL) (hk : ∀ s, ILP xs s 54 110547 ((31, 43, (53, 20, 840)) :: RL) IL → am_Runs PP MLL d m_M_init 96 [some (qr (31, 12, 89)), z1] [] s (kV K)) : am_Runs PP MLL d m_M_init 92 [some (qr (31, 12, 89)), z1] [] σ (kV K) := v_M_init_92 d z1 σ K (hk _ (P_F h (by decide)))
theorem mi_96 (d : Nat) {z1 : Option am_V} {xs : Nat → Int} {σ : am_S} {K : am_S → Prop} {RL : List (Nat × Nat × am_R)} {IL : List (Nat × Nat × Int)} (h : ILP xs σ 54 110547 RL IL) (hk : ∀ s, ILP xs s 55 110561 ((31, 44, (54, 20, 14)) :: RL) IL → am_Runs PP MLL d m_M_init 100 [some (qr (31, 12, 89)), z1] [] s (kV K)) : am_Runs PP MLL d m_M_init 96 [some (qr (31, 12, 89)), z1] [] σ (kV K) := v_M_init_96 d z1 σ K (hk _ (P_F h (by decide)))
theorem mi_100 (d : Nat) {z1 : Option am_V} {xs : Nat → Int} {σ : am_S} {K : am_S → Prop} {RL : List (Nat × Nat × am_R)} {IL : List (Nat × Nat × Int)} (h : ILP xs σ 55 110561 RL IL) (hk : ∀ s, ILP xs s 56 110575 ((31, 45, (55, 20, 14)) :: RL) IL → am_Runs PP MLL d m_M_init 104 [some (qr (31, 12, 89)), z1] [] s (kV K)) : am_Runs PP MLL d m_M_init 100 [some (qr (31, 12, 89)), z1] [] σ (kV K) := v_M_init_100 d z1 σ K (hk _ (P_F h (by decide)))
theorem mi_104 (d : Nat) {z1 : Option am_V} {xs : Nat → Int} {σ : am_S} {K : am_S → Prop} {RL : List (Nat × Nat × am_R)} {IL : List (Nat × Nat × Int)} (h : ILP xs σ 56 110575 RL IL) (hk : ∀ s, ILP xs s 57 110589 ((31, 46, (56, 20, 14)) :: RL) IL → am_Runs PP MLL d m_M_init 108 [some (qr (31, 12, 89)), z1] [] s (kV K)) : am_Runs PP MLL d m_M_init 104 [some (qr (31, 12, 89)), z1] [] σ (kV K) := v_M_init_104 d z1 σ K (hk _ (P_F h (by decide)))
theorem mi_108 (d : Nat) {z1 : Option am_V} {xs : Nat → Int} {σ : am_S} {K : am_S → Prop} {RL : List (Nat × Nat × am_R)} {IL : List (Nat × Nat × Int)} (h : ILP xs σ 57 110589 RL IL) (hk : ∀ s, ILP xs s 58 110603 ((31, 47, (57, 20, 14)) :: RL) IL → am_Runs PP MLL d m_M_init 112 [some (qr (31, 12, 89)), z1] [] s (kV K)) : am_Runs PP MLL d m_M_init 108 [some (qr (31, 12, 89)), z1] [] σ (kV K) := v_M_init_108 d z1 σ K (hk _ (P_F h (by decide)))
theorem mi_112 (d : Nat) {z1 : Option am_V} {xs : Nat → Int} {σ : am_S} {K : am_S → Prop} {RL : List (Nat × Nat × am_R)} {IL : List (Nat × Nat × Int)} (h : ILP xs σ 58 110603 RL IL) (hk : ∀ s, ILP xs s 59 110617 ((31, 48, (58, 20, 14)) :: RL) IL → am_Runs PP MLL d m_M_init 116 [some (qr (31, 12, 89)), z1] [] s (kV K)) : am_Runs PP MLL d m_M_init 112 [some (qr (31, 12, 89)), z1] [] σ (kV K) := v_M_init_112 d z1 σ K (hk _ (P_F h (by decide)))
theorem mi_116 (d : Nat) {z1 : Option am_V} {xs : Nat → Int} {σ : am_S} {K : am_S → Prop} {RL : List (Nat × Nat × am_R)} {IL : List (Nat × Nat × Int)} (h : ILP xs σ 59 110617 RL IL) (hk : ∀ s, ILP xs s 60 110631 ((31, 49, (59, 20, 14)) :: RL) IL → am_Runs PP MLL d m_M_init 120 [some (qr (31, 12, 89)), z1] [] s (kV K)) : am_Runs PP MLL d m_M_init 116 [some (qr (31, 12, 89)), z1] [] σ (kV K) := v_M_init_116 d z1 σ K (hk _ (P_F h (by decide)))
theorem mi_120 (d : Nat) {z1 : Option am_V} {xs : Nat → Int} {σ : am_S} {K : am_S → Prop} {RL : List (Nat × Nat × am_R)} {IL : List (Nat × Nat × Int)} (h : ILP xs σ 60 110631 RL IL) (hk : ∀ s, ILP xs s 61 110645 ((31, 50, (60, 20, 14)) :: RL) IL → am_Runs PP MLL d m_M_init 124 [some (qr (31, 12, 89)), z1] [] s (kV K)) : am_Runs PP MLL d m_M_init 120 [some (qr (31, 12, 89)), z1] [] σ (kV K) := v_M_init_120 d z1 σ K (hk _ (P_F h (by decide)))
theorem mi_124 (d : Nat) {z1 : Option am_V} {xs : Nat → Int} {σ : am_S} {K : am_S → Prop} {RL : List (Nat × Nat × am_R)} {IL : List (Nat × Nat × Int)} (h : ILP xs σ 61 110645 RL IL) (hk : ∀ s, ILP xs s 62 110659 ((31, 51, (61, 20, 14)) :: RL) IL → am_Runs PP MLL d m_M_init 128 [some (qr (31, 12, 89)), z1] [] s (kV K)) : am_Runs PP MLL d m_M_init 124 [some (qr (31, 12, 89)), z1] [] σ (kV K) := v_M_init_124 d z1 σ K (hk _ (P_F h (by decide)))
theorem mi_128 (d : Nat) {z1 : Option am_V} {xs : Nat → Int} {σ : am_S} {K : am_S → Prop} {RL : List (Nat × Nat × am_R)} {IL : List (Nat × Nat × Int)} (h : ILP xs σ 62 110659 RL IL) (hk : ∀ s, ILP xs s 63 110827 ((31, 52, (62, 20, 168)) :: RL) IL → am_Runs PP MLL d m_M_init 132 [some (qr (31, 12, 89)), z1] [] s (kV K)) : am_Runs PP MLL d m_M_init 128 [some (qr (31, 12, 89)), z1] [] σ (kV K) := v_M_init_128 d z1 σ K (hk _ (P_F h (by decide)))
theorem mi_132 (d : Nat) {z1 : Option am_V} {xs : Nat → Int} {σ : am_S} {K : am_S → Prop} {RL : List (Nat × Nat × am_R)} {IL : List (Nat × Nat × Int)} (h : ILP xs σ 63 110827 RL IL) (hk : ∀ s, ILP xs s 64 110995 ((31, 53, (63, 20, 168)) :: RL) IL → am_Runs PP MLL d m_M_init 136 [some (qr (31, 12, 89)), z1] [] s (kV K)) : am_Runs PP MLL d m_M_init 132 [some (qr (31, 12, 89)), z1] [] σ (kV K) := v_M_init_132 d z1 σ K (hk _ (P_F h (by decide)))
theorem mi_136 (d : Nat) {z1 : Option am_V} {xs : Nat → Int} {σ : am_S} {K : am_S → Prop} {RL : List (Nat × Nat × am_R)} {IL : List (Nat × Nat × Int)} (h : ILP xs σ 64 110995 RL IL) (hk : ∀ s, ILP xs s 65 111163 ((31, 54, (64, 20, 168)) :: RL) IL → am_Runs PP MLL d m_M_init 140 [some (qr (31, 12, 89)), z1] [] s (kV K)) : am_Runs PP MLL d m_M_init 136 [some (qr (31, 12, 89)), z1] [] σ (kV K) := v_M_init_136 d z1 σ K (hk _ (P_F h (by decide)))
theorem mi_140 (d : Nat) {z1 : Option am_V} {xs : Nat → Int} {σ : am_S} {K : am_S → Prop} {RL : List (Nat × Nat × am_R)} {IL : List (Nat × Nat × Int)} (h : ILP xs σ 65 111163 RL IL) (hk : ∀ s, ILP xs s 66 111331 ((31, 55, (65, 20, 168)) :: RL) IL → am_Runs PP MLL d m_M_init 144 [some (qr (31, 12, 89)), z1] [] s (kV K)) : am_Runs PP MLL d m_M_init 140 [some (qr (31, 12, 89)), z1] [] σ (kV K) := v_M_init_140 d z1 σ K (hk _ (P_F h (by decide)))
theorem mi_144 (d : Nat) {z1 : Option am_V} {xs : Nat → Int} {σ : am_S} {K : am_S → Prop} {RL : List (Nat × Nat × am_R)} {IL : List (Nat × Nat × Int)} (h : ILP xs σ 66 111331 RL IL) (hk : ∀ s, ILP xs s 67 111499 ((31, 56, (66, 20, 168)) :: RL) IL → am_Runs PP MLL d m_M_init 148 [some (qr (31, 12, 89)), z1] [] s (kV K)) : am_Runs PP MLL d m_M_init 144 [some (qr (31, 12, 89)), z1] [] σ (kV K) := v_M_init_144 d z1 σ K (hk _ (P_F h (by decide)))
theorem mi_148 (d : Nat) {z1 : Option am_V} {xs : Nat → Int} {σ : am_S} {K : am_S → Prop} {RL : List (Nat × Nat × am_R)} {IL : List (Nat × Nat × Int)} (h : ILP xs σ 67 111499 RL IL) (hk : ∀ s, ILP xs s 68 117499 ((31, 61, (67, 20, 6000)) :: RL) IL → am_Runs PP MLL d m_M_init 152 [some (qr (31, 12, 89)), z1] [] s (kV K)) : am_Runs PP MLL d m_M_init 148 [some (qr (31, 12, 89)), z1] [] σ (kV K) := v_M_init_148 d z1 σ K (hk _ (P_F h (by decide)))
theorem mi_152 (d : Nat) {z1 : Option am_V} {xs : Nat → Int} {σ : am_S} {K : am_S → Prop} {RL : List (Nat × Nat × am_R)} {IL : List (Nat × Nat × Int)} (h : ILP xs σ 68 117499 RL IL) (hk : ∀ s, ILP xs s 69 123499 ((31, 62, (68, 20, 6000)) :: RL) IL → am_Runs PP MLL d m_M_init 156 [some (qr (31, 12, 89)), z1] [] s (kV K)) : am_Runs PP MLL d m_M_init 152 [some (qr (31, 12, 89)), z1] [] σ (kV K) := v_M_init_152 d z1 σ K (hk _ (P_F h (by decide)))
theorem mi_156 (d : Nat) {z1 : Option am_V} {xs : Nat → Int} {σ : am_S} {K : am_S → Prop} {RL : List (Nat × Nat × am_R)} {IL : List (Nat × Nat × Int)} (h : ILP xs σ 69 123499 RL IL) (hk : ∀ s, ILP xs s 70 129499 ((31, 63, (69, 20, 6000)) :: RL) IL → am_Runs PP MLL d m_M_init 160 [some (qr (31, 12, 89)), z1] [] s (kV K)) : am_Runs PP MLL d m_M_init 156 [some (qr (31, 12, 89)), z1] [] σ (kV K) := v_M_init_156 d z1 σ K (hk _ (P_F h (by decide)))
theorem mi_160 (d : Nat) {z1 : Option am_V} {xs : Nat → Int} {σ : am_S} {K : am_S → Prop} {RL : List (Nat × Nat × am_R)} {IL : List (Nat × Nat × Int)} (h : ILP xs σ 70 129499 RL IL) (hk : ∀ s, ILP xs s 71 135499 ((31, 64, (70, 20, 6000)) :: RL) IL → am_Runs PP MLL d m_M_init 164 [some (qr (31, 12, 89)), z1] [] s (kV K)) : am_Runs PP MLL d m_M_init 160 [some (qr (31, 12, 89)), z1] [] σ (kV K) := v_M_init_160 d z1 σ K (hk _ (P_F h (by decide)))
theorem mi_164 (d : Nat) {z1 : Option am_V} {xs : Nat → Int} {σ : am_S} {K : am_S → Prop} {RL : List (Nat × Nat × am_R)} {IL : List (Nat × Nat × Int)} (h : ILP xs σ 71 135499 RL IL) (hk : ∀ s, ILP xs s 72 141499 ((31, 65, (71, 20, 6000)) :: RL) IL → am_Runs PP MLL d m_M_init 168 [some (qr (31, 12, 89)), z1] [] s (kV K)) : am_Runs PP MLL d m_M_init 164 [some (qr (31, 12, 89)), z1] [] σ (kV K) := v_M_init_164 d z1 σ K (hk _ (P_F h (by decide)))
theorem mi_168 (d : Nat) {z1 : Option am_V} {xs : Nat → Int} {σ : am_S} {K : am_S → Prop} {RL : List (Nat × Nat × am_R)} {IL : List (Nat × Nat × Int)} (h : ILP xs σ 72 141499 RL IL) (hk : ∀ s, ILP xs s 73 147499 ((31, 66, (72, 20, 6000)) :: RL) IL → am_Runs PP MLL d m_M_init 172 [some (qr (31, 12, 89)), z1] [] s (kV K)) : am_Runs PP MLL d m_M_init 168 [some (qr (31, 12, 89)), z1] [] σ (kV K) := v_M_init_168 d z1 σ K (hk _ (P_F h (by decide)))
theorem mi_172 (d : Nat) {z1 : Option am_V} {xs : Nat → Int} {σ : am_S} {K : am_S → Prop} {RL : List (Nat × Nat × am_R)} {IL : List (Nat × Nat × Int)} (h : ILP xs σ 73 147499 RL IL) (hk : ∀ s, ILP xs s 74 153499 ((31, 67, (73, 20, 6000)) :: RL) IL → am_Runs PP MLL d m_M_init 176 [some (qr (31, 12, 89)), z1] [] s (kV K)) : am_Runs PP MLL d m_M_init 172 [some (qr (31, 12, 89)), z1] [] σ (kV K) := v_M_init_172 d z1 σ K (hk _ (P_F h (by decide)))
theorem mi_176 (d : Nat) {z1 : Option am_V} {xs : Nat → Int} {σ : am_S} {K : am_S → Prop} {RL : List (Nat × Nat × am_R)} {IL : List (Nat × Nat × Int)} (h : ILP xs σ 74 153499 RL IL) (hk : ∀ s, ILP xs s 75 159499 ((31, 68, (74, 20, 6000)) :: RL) IL → am_Runs PP MLL d m_M_init 180 [some (qr (31, 12, 89)), z1] [] s (kV K)) : am_Runs PP MLL d m_M_init 176 [some (qr (31, 12, 89)), z1] [] σ (kV K) := v_M_init_176 d z1 σ K (hk _ (P_F h (by decide)))
theorem mi_180 (d : Nat) {z1 : Option am_V} {xs : Nat → Int} {σ : am_S} {K : am_S → Prop} {RL : List (Nat × Nat × am_R)} {IL : List (Nat × Nat × Int)} (h : ILP xs σ 75 159499 RL IL) (hk : ∀ s, ILP xs s 76 165499 ((31, 69, (75, 20, 6000)) :: RL) IL → am_Runs PP MLL d m_M_init 184 [some (qr (31, 12, 89)), z1] [] s (kV K)) : am_Runs PP MLL d m_M_init 180 [some (qr (31, 12, 89)), z1] [] σ (kV K) := v_M_init_180 d z1 σ K (hk _ (P_F h (by decide)))
theorem mi_184 (d : Nat) {z1 : Option am_V} {xs : Nat → Int} {σ : am_S} {K : am_S → Prop} {RL : List (Nat × Nat × am_R)} {IL : List (Nat × Nat × Int)} (h : ILP xs σ 76 165499 RL IL) (hk : ∀ s, ILP xs s 77 171499 ((31, 70, (76, 20, 6000)) :: RL) IL → am_Runs PP MLL d m_M_init 188 [some (qr (31, 12, 89)), z1] [] s (kV K)) : am_Runs PP MLL d m_M_init 184 [some (qr (31, 12, 89)), z1] [] σ (kV K) := v_M_init_184 d z1 σ K (hk _ (P_F h (by decide)))
theorem mi_188 (d : Nat) {z1 : Option am_V} {xs : Nat → Int} {σ : am_S} {K : am_S → Prop} {RL : List (Nat × Nat × am_R)} {IL : List (Nat × Nat × Int)} (h : ILP xs σ 77 171499 RL IL) (hk : ∀ s, ILP xs s 78 213499 ((31, 71, (77, 20, 42000)) :: RL) IL → am_Runs PP MLL d m_M_init 192 [some (qr (31, 12, 89)), z1] [] s (kV K)) : am_Runs PP MLL d m_M_init 188 [some (qr (31, 12, 89)), z1] [] σ (kV K) := v_M_init_188 d z1 σ K (hk _ (P_F h (by decide)))
theorem mi_192 (d : Nat) {z1 : Option am_V} {xs : Nat → Int} {σ : am_S} {K : am_S → Prop} {RL : List (Nat × Nat × am_R)} {IL : List (Nat × Nat × Int)} (h : ILP xs σ 78 213499 RL IL) (hk : ∀ s, ILP xs s 79 219499 ((31, 72, (78, 20, 6000)) :: RL) IL → am_Runs PP MLL d m_M_init 196 [some (qr (31, 12, 89)), z1] [] s (kV K)) : am_Runs PP MLL d m_M_init 192 [some (qr (31, 12, 89)), z1] [] σ (kV K) := v_M_init_192 d z1 σ K (hk _ (P_F h (by decide)))
theorem mi_196 (d : Nat) {z1 : Option am_V} {xs : Nat → Int} {σ : am_S} {K : am_S → Prop} {RL : List (Nat × Nat × am_R)} {IL : List (Nat × Nat × Int)} (h : ILP xs σ 79 219499 RL IL) (hk : ∀ s, ILP xs s 80 229499 ((31, 74, (79, 20, 10000)) :: RL) IL → am_Runs PP MLL d m_M_init 200 [some (qr (31, 12, 89)), z1] [] s (kV K)) : am_Runs PP MLL d m_M_init 196 [some (qr (31, 12, 89)), z1] [] σ (kV K) := v_M_init_196 d z1 σ K (hk _ (P_F h (by decide)))
theorem mi_200 (d : Nat) {z1 : Option am_V} {xs : Nat → Int} {σ : am_S} {K : am_S → Prop} {RL : List (Nat × Nat × am_R)} {IL : List (Nat × Nat × Int)} (h : ILP xs σ 80 229499 RL IL) (hk : ∀ s, ILP xs s 81 229507 ((31, 75, (80, 20, 8)) :: RL) IL → am_Runs PP MLL d m_M_init 204 [some (qr (31, 12, 89)), z1] [] s (kV K)) : am_Runs PP MLL d m_M_init 200 [some (qr (31, 12, 89)), z1] [] σ (kV K) := v_M_init_200 d z1 σ K (hk _ (P_F h (by decide)))
theorem mi_204 (d : Nat) {z1 : Option am_V} {xs : Nat → Int} {σ : am_S} {K : am_S → Prop} {RL : List (Nat × Nat × am_R)} {IL : List (Nat × Nat × Int)} (h : ILP xs σ 81 229507 RL IL) (hk : ∀ s, ILP xs s 82 230107 ((31, 79, (81, 20, 600)) :: RL) IL → am_Runs PP MLL d m_M_init 208 [some (qr (31, 12, 89)), z1] [] s (kV K)) : am_Runs PP MLL d m_M_init 204 [some (qr (31, 12, 89)), z1] [] σ (kV K) := v_M_init_204 d z1 σ K (hk _ (P_F h (by decide)))
theorem mi_208 (d : Nat) {z1 : Option am_V} {xs : Nat → Int} {σ : am_S} {K : am_S → Prop} {RL : List (Nat × Nat × am_R)} {IL : List (Nat × Nat × Int)} (h : ILP xs σ 82 230107 RL IL) (hk : ∀ s, ILP xs s 83 230707 ((31, 80, (82, 20, 600)) :: RL) IL → am_Runs PP MLL d m_M_init 212 [some (qr (31, 12, 89)), z1] [] s (kV K)) : am_Runs PP MLL d m_M_init 208 [some (qr (31, 12, 89)), z1] [] σ (kV K) := v_M_init_208 d z1 σ K (hk _ (P_F h (by decide)))
theorem mi_212 (d : Nat) {z1 : Option am_V} {xs : Nat → Int} {σ : am_S} {K : am_S → Prop} {RL : List (Nat × Nat × am_R)} {IL : List (Nat × Nat × Int)} (h : ILP xs σ 83 230707 RL IL) (hk : ∀ s, ILP xs s 84 230713 ((31, 81, (83, 21, 6)) :: RL) IL → am_Runs PP MLL d m_M_init 216 [some (qr (31, 12, 89)), z1] [] s (kV K)) : am_Runs PP MLL d m_M_init 212 [some (qr (31, 12, 89)), z1] [] σ (kV K) := v_M_init_212 d z1 σ K (hk _ (P_F h (by decide)))
theorem mi_216 (d : Nat) {z1 : Option am_V} {xs : Nat → Int} {σ : am_S} {K : am_S → Prop} {RL : List (Nat × Nat × am_R)} {IL : List (Nat × Nat × Int)} (h : ILP xs σ 84 230713 RL IL) (hk : ∀ s, ILP xs s 85 230719 ((31, 82, (84, 21, 6)) :: RL) IL → am_Runs PP MLL d m_M_init 220 [some (qr (31, 12, 89)), z1] [] s (kV K)) : am_Runs PP MLL d m_M_init 216 [some (qr (31, 12, 89)), z1] [] σ (kV K) := v_M_init_216 d z1 σ K (hk _ (P_F h (by decide)))
theorem mi_220 (d : Nat) {z1 : Option am_V} {xs : Nat → Int} {σ : am_S} {K : am_S → Prop} {RL : List (Nat × Nat × am_R)} {IL : List (Nat × Nat × Int)} (h : ILP xs σ 85 230719 RL IL) (hk : ∀ s, ILP xs s 86 348368 ((31, 87, (85, 20, 117649)) :: RL) IL → am_Runs PP MLL d m_M_init 224 [some (qr (31, 12, 89)), z1] [] s (kV K)) : am_Runs PP MLL d m_M_init 220 [some (qr (31, 12, 89)), z1] [] σ (kV K) := v_M_init_220 d z1 σ K (hk _ (P_F h (by decide)))
theorem mi_224 (d : Nat) {z1 : Option am_V} {xs : Nat → Int} {σ : am_S} {K : am_S → Prop} {RL : List (Nat × Nat × am_R)} {IL : List (Nat × Nat × Int)} (h : ILP xs σ 86 348368 RL IL) (hk : ∀ s, ILP xs s 87 358368 ((31, 88, (86, 20, 10000)) :: RL) IL → am_Runs PP MLL d m_M_init 228 [some (qr (31, 12, 89)), z1] [] s (kV K)) : am_Runs PP MLL d m_M_init 224 [some (qr (31, 12, 89)), z1] [] σ (kV K) := v_M_init_224 d z1 σ K (hk _ (P_F h (by decide)))
def RLf : List (Nat × Nat × am_R) := [(31, 88, (86, 20, 10000)), (31, 87, (85, 20, 117649)), (31, 82, (84, 21, 6)), (31, 81, (83, 21, 6)), (31, 80, (82, 20, 600)), (31, 79, (81, 20, 600)), (31, 75, (80, 20, 8)), (31, 74, (79, 20, 10000)), (31, 72, (78, 20, 6000)), (31, 71, (77, 20, 42000)), (31, 70, (76, 20, 6000)), (31, 69, (75, 20, 6000)), (31, 68, (74, 20, 6000)), (31, 67, (73, 20, 6000)), (31, 66, (72, 20, 6000)), (31, 65, (71, 20, 6000)), (31, 64, (70, 20, 6000)), (31, 63, (69, 20, 6000)), (31, 62, (68, 20, 6000)), (31, 61, (67, 20, 6000)), (31, 56, (66, 20, 168)), (31, 55, (65, 20, 168)), (31, 54, (64, 20, 168)), (31, 53, (63, 20, 168)), (31, 52, (62, 20, 168)), (31, 51, (61, 20, 14)), (31, 50, (60, 20, 14)), (31, 49, (59, 20, 14)), (31, 48, (58, 20, 14)), (31, 47, (57, 20, 14)), (31, 46, (56, 20, 14)), (31, 45, (55, 20, 14)), (31, 44, (54, 20, 14)), (31, 43, (53, 20, 840)), (31, 42, (52, 20, 8640)), (31, 41, (51, 20, 60)), (31, 29, (50, 20, 40)), (31, 27, (49, 20, 20)), (31, 24, (48, 20, 40)), (31, 23, (47, 20, 12)), (31, 22, (46, 20, 36)), (31, 21, (45, 20, 480)), (31, 20, (44, 20, 24)), (31, 19, (43, 20, 12)), (31, 18, (42, 20, 12)), (31, 17, (41, 20, 12)), (31, 15, (40, 20, 3)), (31, 14, (39, 20, 3)), (31, 12, (38, 20, 10000)), (31, 11, (37, 20, 10000)), (31, 10, (36, 20, 10000)), (31, 9, (35, 20, 30000)), (31, 8, (34, 20, 30000)), (31, 7, (33, 20, 10000)), (31, 6, (32, 20, 4)), (2, 4, (26, 1, 8)), (26, 7, (30, 20, 0)), (26, 6, (29, 20, 0)), (26, 1, (28, 21, 6)), (26, 0, (27, 21, 6)), (2, 3, (12, 5, 18)), (12, 0, (3, 9, 11)), (12, 5, (23, 4, 3)), (23, 1, (25, 20, 0)), (23, 0, (24, 20, 0)), (12, 4, (20, 4, 3)), (20, 1, (22, 20, 0)), (20, 0, (21, 20, 0)), (12, 3, (18, 8, 2)), (18, 0, (19, 20, 0)), (12, 2, (17, 23, 0)), (12, 1, (13, 6, 5)), (13, 4, (16, 20, 0)), (13, 1, (15, 20, 60)), (13, 0, (14, 20, 60)), (2, 2, (10, 7, 3)), (10, 0, (11, 20, 6)), (2, 1, (9, 22, 12)), (2, 0, (3, 9, 11)), (3, 10, (8, 20, 3)), (3, 9, (7, 20, 1)), (3, 8, (6, 20, 1)), (3, 7, (5, 21, 1)), (3, 6, (4, 21, 1))]
def ILm : List (Nat × Nat × Int) := [(37, 0, -1), (31, 5, 1), (31, 3, 1), (3, 5, 1), (3, 2, 1), (3, 1, 1)]
def ngs (a : Nat) (L : List (Nat × Nat × Int)) : Nat → List (Nat × Nat × Int)
  | 0 => L
  | i + 1 => (a, i, -1) :: ngs a L i
def ILf : List (Nat × Nat × Int) := ngs 44 (ngs 41 ILm 12) 24
theorem getD_ge : ∀ (L : List (Option am_R)) (j : Nat), L.length ≤ j → L.getD j none = none
  | [], _, _ => rfl
  | _ :: t, 0, h => absurd h (Nat.not_succ_le_zero _)
  | _ :: t, j + 1, h => getD_ge t j (Nat.le_of_succ_le_succ h)
theorem rlf_lt : ∀ j, j < 89 → rlk RLf 31 j = mref j := by decide +kernel
theorem rlf_89 : ∀ q, q ∈ RLf → q.2.1 < 89 := by decide +kernel
theorem mref_len : mrefL.length = 89 := by decide +kernel
theorem rlf_m (j : Nat) : rlk RLf 31 j = mref j := by
  by_cases h : j < 89
  · exact rlf_lt j h
  · unfold mref
    rw [getD_ge mrefL j (by rw [mref_len]; omega), rlk_no]
    intro q hq hh
    have := rlf_89 q hq
    omega
theorem MF_of {xs : Nat → Int} {σ : am_S} {N U : Nat} {IL : List (Nat × Nat × Int)} (h : ILP xs σ N U RLf IL) : MF σ := fun j => (h.2.2.1 31 j).trans (rlf_m j)
theorem i_Mb (d : Nat) {z1 : Option am_V} {xs : Nat → Int} {σ : am_S} {K : am_S → Prop} {IL : List (Nat × Nat × Int)} (h : ILP xs σ 87 358368 RLf IL) (hk : ∀ s, ILP xs s 87 358368 RLf (ngs 44 (ngs 41 ((37, 0, (-1 : Int)) :: IL) 12) 24) → K s) : am_Runs PP MLL d m_M_init 228 [some (qr (31, 12, 89)), z1] [] σ (kV K) := by
  obtain ⟨I1, e1⟩ : ∃ I1, I1 = (37, 0, (-1 : Int)) :: IL := ⟨_, rfl⟩
  obtain ⟨I2, e2⟩ : ∃ I2, I2 = ngs 41 I1 12 := ⟨_, rfl⟩
  rw [← e1, ← e2] at hk
  have l2 : ∀ i : Nat, i ≤ 24 → ∀ s, ILP xs s 87 358368 RLf (ngs 44 I2 i) → am_Runs PP MLL d m_M_init 247 [some (qr (31, 12, 89)), some (qi (i : Int))] [] s (kV K) := by
    refine lp ?_ ?_
    · intro s hs
      exact v_M_init_247 d _ s K (MF_of hs) ⟨fun _ => hk s hs, fun e => absurd (by decide) e⟩
    · intro i hi ih s hs
      refine v_M_init_247 d _ s K (MF_of hs) ⟨fun e => absurd e (by omega), fun _ => ⟨by omega, ?_⟩⟩
      rw [Int.toNat_natCast]
      exact ih _ (P_I hs (by decide) (by decide))
  have l1 : ∀ i : Nat, i ≤ 12 → ∀ s, ILP xs s 87 358368 RLf (ngs 41 I1 i) → am_Runs PP MLL d m_M_init 235 [some (qr (31, 12, 89)), some (qi (i : Int))] [] s (kV K) := by
    refine lp ?_ ?_
    · intro s hs
      rw [← e2] at hs
      exact v_M_init_235 d _ s K (MF_of hs) ⟨fun _ => l2 0 (Nat.zero_le _) s hs, fun e => absurd (by decide) e⟩
    · intro i hi ih s hs
      refine v_M_init_235 d _ s K (MF_of hs) ⟨fun e => absurd e (by omega), fun _ => ⟨by omega, ?_⟩⟩
      rw [Int.toNat_natCast]
      exact ih _ (P_I hs (by decide) (by decide))
  refine v_M_init_228 d _ σ K (MF_of h) ?_
  have h := P_I (a := 37) (j := 0) (v := -1) h (by decide) (by decide)
  rw [← e1] at h
  exact l1 0 (Nat.zero_le _) _ h
theorem i_M (d : Nat) {xs : Nat → Int} {σ : am_S} {K : am_S → Prop} (h : ILP xs σ 32 309 RLc ILc) (hk : ∀ s, ILP xs s 87 358368 RLf ILf → K s) : am_Calls PP MLL (d + 1) m_M_init [qr (31, 12, 89)] σ (kV K) := by
  refine mi_0 d h (fun s h => ?_)
  refine mi_5 d h (fun s h => ?_)
  refine mi_8 d h (fun s h => ?_)
  refine mi_12 d h (fun s h => ?_)
  refine mi_16 d h (fun s h => ?_)
  refine mi_20 d h (fun s h => ?_)
  refine mi_24 d h (fun s h => ?_)
  refine mi_28 d h (fun s h => ?_)
  refine mi_32 d h (fun s h => ?_)
  refine mi_36 d h (fun s h => ?_)
  refine mi_40 d h (fun s h => ?_)
  refine mi_44 d h (fun s h => ?_)
  refine mi_48 d h (fun s h => ?_)
  refine mi_52 d h (fun s h => ?_)
  refine mi_56 d h (fun s h => ?_)
  refine mi_60 d h (fun s h => ?_)
  refine mi_64 d h (fun s h => ?_)
  refine mi_68 d h (fun s h => ?_)
  refine mi_72 d h (fun s h => ?_)
  refine mi_76 d h (fun s h => ?_)
  refine mi_80 d h (fun s h => ?_)
  refine mi_84 d h (fun s h => ?_)
  refine mi_88 d h (fun s h => ?_)
  refine mi_92 d h (fun s h => ?_)
  refine mi_96 d h (fun s h => ?_)
  refine mi_100 d h (fun s h => ?_)
  refine mi_104 d h (fun s h => ?_)
  refine mi_108 d h (fun s h => ?_)
  refine mi_112 d h (fun s h => ?_)
  refine mi_116 d h (fun s h => ?_)
  refine mi_120 d h (fun s h => ?_)
  refine mi_124 d h (fun s h => ?_)
  refine mi_128 d h (fun s h => ?_)
  refine mi_132 d h (fun s h => ?_)
  refine mi_136 d h (fun s h => ?_)
  refine mi_140 d h (fun s h => ?_)
  refine mi_144 d h (fun s h => ?_)
  refine mi_148 d h (fun s h => ?_)
  refine mi_152 d h (fun s h => ?_)
  refine mi_156 d h (fun s h => ?_)
  refine mi_160 d h (fun s h => ?_)
  refine mi_164 d h (fun s h => ?_)
  refine mi_168 d h (fun s h => ?_)
  refine mi_172 d h (fun s h => ?_)
  refine mi_176 d h (fun s h => ?_)
  refine mi_180 d h (fun s h => ?_)
  refine mi_184 d h (fun s h => ?_)
  refine mi_188 d h (fun s h => ?_)
  refine mi_192 d h (fun s h => ?_)
  refine mi_196 d h (fun s h => ?_)
  refine mi_200 d h (fun s h => ?_)
  refine mi_204 d h (fun s h => ?_)
  refine mi_208 d h (fun s h => ?_)
  refine mi_212 d h (fun s h => ?_)
  refine mi_216 d h (fun s h => ?_)
  refine mi_220 d h (fun s h => ?_)
  refine mi_224 d h (fun s h => ?_)
  exact i_Mb d h hk
