/-! the reference: rankOf, swapRanked, exchanged -/
/-- the way's number out of the signs -/
def ws (g : Nat → Int) : Nat → Nat
  | 0 => 0
  | i + 1 => 2 * ws g i + (if 0 ≤ g i then 0 else 1)
theorem ws_lt (g : Nat → Int) : ∀ i, ws g i < 2 ^ i
  | 0 => by show 0 < 2 ^ 0; decide
  | i + 1 => by
    have h := ws_lt g i
    unfold ws
    rw [Nat.pow_succ]
    split <;> omega
def px (n f x : Nat) : Nat := if f = 2 then C2 n - C2 (n - x) else C3 n - C3 (n - x)
theorem v_M_rankOf_0 (d : Nat) (p1 : Int) (σ : am_S) (K : Int → am_S → Prop) (hF : MF σ) (h :
  ((p1 = 1 →
    am_Runs PP MLL (d + 1) m_M_rankOf 86 [some (qr (31, 12, 89)), some (qi p1), some (qi (sI σ 39 0)), some (qi (sI σ 39 0)), some (qi (sI σ 39 1)), some (qi 0), some (qi 0)] [] σ (kI K)) ∧
  (¬ (p1 = 1) →
    ((p1 ≤ 1 →
      am_Runs PP MLL (d + 1) m_M_rankOf 86 [some (qr (31, 12, 89)), some (qi p1), some (qi 0), some (qi (sI σ 39 0)), some (qi (sI σ 39 1)), some (qi 0), some (qi 0)] [] σ (kI K)) ∧
    (¬ (p1 ≤ 1) →
      am_Runs PP MLL (d + 1) m_M_rankOf 23 [some (qr (31, 12, 89)), some (qi p1), some (qi 0), some (qi (sI σ 39 0)), some (qi (sI σ 39 1)), some (qi 0), none] [] σ (kI K)))))) : am_Runs PP MLL (d + 1) m_M_rankOf 0 [some (qr (31, 12, 89)), some (qi p1), none, none, none, none, none] [] σ (kI K) := am_wEC_ok (orc [(3, 39, 20, 3), (8, 39, 20, 3)]) [80, 104] 200 (⟨⟨rfl, (hF 14)⟩, ⟨⟨rfl, (by decide : (0 : Int) ≤ 0), (by decide : (0 : Int) < 3)⟩, ⟨⟨rfl, (hF 14)⟩, ⟨⟨rfl, (by decide : (0 : Int) ≤ 1), (by decide : (1 : Int) < 3)⟩, ⟨fun c3 => (h.1 c3), fun c3 => ⟨fun c5 => ((h.2 c3).1 c5), fun c5 => ((h.2 c3).2 c5)⟩⟩⟩⟩⟩⟩)

theorem v_M_rankOf_23 (d : Nat) (p1 v2 v3 v4 v5 : Int) (z6 : Option am_V) (σ : am_S) (K : Int → am_S → Prop) (hF : MF σ) (h :
  ((v3 ≤ v5 →
    (-2147483648 ≤ v3 + 1 ∧ v3 + 1 < 2147483648) ∧
    am_Runs PP MLL (d + 1) m_M_rankOf 45 [some (qr (31, 12, 89)), some (qi p1), some (qi v2), some (qi v3), some (qi v4), some (qi (v3 + 1)), z6] [] σ (kI K)) ∧
  (¬ (v3 ≤ v5) →
    (-2147483648 ≤ (sI σ 31 2) - 1 ∧ (sI σ 31 2) - 1 < 2147483648 ∧ -2147483648 ≤ ((sI σ 31 2) - 1) - v5 ∧ ((sI σ 31 2) - 1) - v5 < 2147483648 ∧ -2147483648 ≤ p1 - 1 ∧ p1 - 1 < 2147483648) ∧
    am_Calls PP MLL (d + 1) m_M_choose [qi (((sI σ 31 2) - 1) - v5), qi (p1 - 1)] σ (kI fun x3 s3 =>
      (MF s3) ∧
      (-2147483648 ≤ v2 + x3 ∧ v2 + x3 < 2147483648 ∧ -2147483648 ≤ v5 + 1 ∧ v5 + 1 < 2147483648) ∧
      am_Runs PP MLL (d + 1) m_M_rankOf 23 [some (qr (31, 12, 89)), some (qi p1), some (qi (v2 + x3)), some (qi v3), some (qi v4), some (qi (v5 + 1)), z6] [] s3 (kI K))))) : am_Runs PP MLL (d + 1) m_M_rankOf 23 [some (qr (31, 12, 89)), some (qi p1), some (qi v2), some (qi v3), some (qi v4), some (qi v5), z6] [] σ (kI K) := am_wEC_ok (orc []) [80, 104] 200 (⟨fun c2 => ⟨⟨(h.1 c2).1.1, (h.1 c2).1.2⟩, (h.1 c2).2⟩, fun c2 => ⟨rfl, ⟨⟨(h.2 c2).1.1, (h.2 c2).1.2.1⟩, ⟨⟨(h.2 c2).1.2.2.1, (h.2 c2).1.2.2.2.1⟩, ⟨⟨(h.2 c2).1.2.2.2.2.1, (h.2 c2).1.2.2.2.2.2⟩, (am_cI (h.2 c2).2 fun x3 s3 h3 => ⟨⟨h3.2.1.1, h3.2.1.2.1⟩, ⟨⟨h3.2.1.2.2.1, h3.2.1.2.2.2⟩, h3.2.2⟩⟩)⟩⟩⟩⟩⟩)

theorem v_M_rankOf_45 (d : Nat) (p1 v2 v3 v4 v5 : Int) (z6 : Option am_V) (σ : am_S) (K : Int → am_S → Prop) (hF : MF σ) (h :
  ((v4 ≤ v5 →
    (((p1 = 2) → -2147483648 ≤ v4 - v3) ∧ ((p1 = 2) → v4 - v3 < 2147483648) ∧ ((p1 = 2) → -2147483648 ≤ (v4 - v3) - 1) ∧ ((p1 = 2) → (v4 - v3) - 1 < 2147483648) ∧ (¬ (p1 = 2) → -2147483648 ≤ (sI σ 39 2) - v4) ∧ (¬ (p1 = 2) → (sI σ 39 2) - v4 < 2147483648) ∧ (¬ (p1 = 2) → -2147483648 ≤ ((sI σ 39 2) - v4) - 1) ∧ (¬ (p1 = 2) → ((sI σ 39 2) - v4) - 1 < 2147483648)) ∧
    (-2147483648 ≤ v2 + (if p1 = 2 then ((v4 - v3) - 1 : Int) else (((sI σ 39 2) - v4) - 1)) ∧ v2 + (if p1 = 2 then ((v4 - v3) - 1 : Int) else (((sI σ 39 2) - v4) - 1)) < 2147483648) ∧
    am_Runs PP MLL (d + 1) m_M_rankOf 86 [some (qr (31, 12, 89)), some (qi p1), some (qi (v2 + (if p1 = 2 then ((v4 - v3) - 1 : Int) else (((sI σ 39 2) - v4) - 1)))), some (qi v3), some (qi v4), some (qi 0), some (qi 0)] [] σ (kI K)) ∧
  (¬ (v4 ≤ v5) →
    ((p1 = 3 →
      (-2147483648 ≤ (sI σ 31 2) - 1 ∧ (sI σ 31 2) - 1 < 2147483648 ∧ -2147483648 ≤ ((sI σ 31 2) - 1) - v5 ∧ ((sI σ 31 2) - 1) - v5 < 2147483648 ∧ -2147483648 ≤ v2 + (((sI σ 31 2) - 1) - v5) ∧ v2 + (((sI σ 31 2) - 1) - v5) < 2147483648 ∧ -2147483648 ≤ v5 + 1 ∧ v5 + 1 < 2147483648) ∧
      am_Runs PP MLL (d + 1) m_M_rankOf 45 [some (qr (31, 12, 89)), some (qi p1), some (qi (v2 + (((sI σ 31 2) - 1) - v5))), some (qi v3), some (qi v4), some (qi (v5 + 1)), z6] [] σ (kI K)) ∧
    (¬ (p1 = 3) →
      (((p1 = 2) → -2147483648 ≤ v4 - v3) ∧ ((p1 = 2) → v4 - v3 < 2147483648) ∧ ((p1 = 2) → -2147483648 ≤ (v4 - v3) - 1) ∧ ((p1 = 2) → (v4 - v3) - 1 < 2147483648) ∧ (¬ (p1 = 2) → -2147483648 ≤ (sI σ 39 2) - v4) ∧ (¬ (p1 = 2) → (sI σ 39 2) - v4 < 2147483648) ∧ (¬ (p1 = 2) → -2147483648 ≤ ((sI σ 39 2) - v4) - 1) ∧ (¬ (p1 = 2) → ((sI σ 39 2) - v4) - 1 < 2147483648)) ∧
      (-2147483648 ≤ v2 + (if p1 = 2 then ((v4 - v3) - 1 : Int) else (((sI σ 39 2) - v4) - 1)) ∧ v2 + (if p1 = 2 then ((v4 - v3) - 1 : Int) else (((sI σ 39 2) - v4) - 1)) < 2147483648) ∧
      am_Runs PP MLL (d + 1) m_M_rankOf 86 [some (qr (31, 12, 89)), some (qi p1), some (qi (v2 + (if p1 = 2 then ((v4 - v3) - 1 : Int) else (((sI σ 39 2) - v4) - 1)))), some (qi v3), some (qi v4), some (qi 0), some (qi 0)] [] σ (kI K)))))) : am_Runs PP MLL (d + 1) m_M_rankOf 45 [some (qr (31, 12, 89)), some (qi p1), some (qi v2), some (qi v3), some (qi v4), some (qi v5), z6] [] σ (kI K) := am_wEC_ok (orc [(73, 39, 20, 3)]) [80, 104] 200 (⟨fun c3 => am_use (fun H5 => ⟨fun c4 => ⟨⟨((h.1 c3).1.1 c4), ((h.1 c3).1.2.1 c4)⟩, ⟨⟨((h.1 c3).1.2.2.1 c4), ((h.1 c3).1.2.2.2.1 c4)⟩, (Eq.mp (congrArg (fun z => am_Runs _ _ _ _ _ _ (qi z :: _) _ _) (if_pos c4 : (if p1 = 2 then ((v4 - v3) - 1 : Int) else ((sI σ 39 2) - v4) - 1) = (v4 - v3) - 1)) H5)⟩⟩, fun c4 => ⟨⟨rfl, (hF 14)⟩, ⟨⟨rfl, (by decide : (0 : Int) ≤ 2), (by decide : (2 : Int) < 3)⟩, ⟨⟨((h.1 c3).1.2.2.2.2.1 c4), ((h.1 c3).1.2.2.2.2.2.1 c4)⟩, ⟨⟨((h.1 c3).1.2.2.2.2.2.2.1 c4), ((h.1 c3).1.2.2.2.2.2.2.2 c4)⟩, (Eq.mp (congrArg (fun z => am_Runs _ _ _ _ _ _ (qi z :: _) _ _) (if_neg c4 : (if p1 = 2 then ((v4 - v3) - 1 : Int) else ((sI σ 39 2) - v4) - 1) = ((sI σ 39 2) - v4) - 1)) H5)⟩⟩⟩⟩⟩) (am_wEC_ok (orc []) [80, 104] 200 (⟨⟨(h.1 c3).2.1.1, (h.1 c3).2.1.2⟩, (h.1 c3).2.2⟩)), fun c3 => ⟨fun c7 => ⟨rfl, ⟨⟨((h.2 c3).1 c7).1.1, ((h.2 c3).1 c7).1.2.1⟩, ⟨⟨((h.2 c3).1 c7).1.2.2.1, ((h.2 c3).1 c7).1.2.2.2.1⟩, ⟨⟨((h.2 c3).1 c7).1.2.2.2.2.1, ((h.2 c3).1 c7).1.2.2.2.2.2.1⟩, ⟨⟨((h.2 c3).1 c7).1.2.2.2.2.2.2.1, ((h.2 c3).1 c7).1.2.2.2.2.2.2.2⟩, ((h.2 c3).1 c7).2⟩⟩⟩⟩⟩, fun c7 => am_use (fun H9 => ⟨fun c8 => ⟨⟨(((h.2 c3).2 c7).1.1 c8), (((h.2 c3).2 c7).1.2.1 c8)⟩, ⟨⟨(((h.2 c3).2 c7).1.2.2.1 c8), (((h.2 c3).2 c7).1.2.2.2.1 c8)⟩, (Eq.mp (congrArg (fun z => am_Runs _ _ _ _ _ _ (qi z :: _) _ _) (if_pos c8 : (if p1 = 2 then ((v4 - v3) - 1 : Int) else ((sI σ 39 2) - v4) - 1) = (v4 - v3) - 1)) H9)⟩⟩, fun c8 => ⟨⟨rfl, (hF 14)⟩, ⟨⟨rfl, (by decide : (0 : Int) ≤ 2), (by decide : (2 : Int) < 3)⟩, ⟨⟨(((h.2 c3).2 c7).1.2.2.2.2.1 c8), (((h.2 c3).2 c7).1.2.2.2.2.2.1 c8)⟩, ⟨⟨(((h.2 c3).2 c7).1.2.2.2.2.2.2.1 c8), (((h.2 c3).2 c7).1.2.2.2.2.2.2.2 c8)⟩, (Eq.mp (congrArg (fun z => am_Runs _ _ _ _ _ _ (qi z :: _) _ _) (if_neg c8 : (if p1 = 2 then ((v4 - v3) - 1 : Int) else ((sI σ 39 2) - v4) - 1) = ((sI σ 39 2) - v4) - 1)) H9)⟩⟩⟩⟩⟩) (am_wEC_ok (orc []) [80, 104] 200 (⟨⟨((h.2 c3).2 c7).2.1.1, ((h.2 c3).2 c7).2.1.2⟩, ((h.2 c3).2 c7).2.2⟩))⟩⟩)

theorem v_M_rankOf_86 (d : Nat) (p1 v2 v5 v6 : Int) (z3 z4 : Option am_V) (σ : am_S) (K : Int → am_S → Prop) (hF : MF σ) (h :
  ((p1 ≤ v6 →
    (0 ≤ p1 ∧ p1 < 4) ∧
    (-2147483648 ≤ v2 * (if (sI σ 31 3) = 3 then (a_shl 1 p1 : Int) else 1) ∧ v2 * (if (sI σ 31 3) = 3 then (a_shl 1 p1 : Int) else 1) < 2147483648 ∧ -2147483648 ≤ (sI σ 32 (Int.toNat p1)) + (v2 * (if (sI σ 31 3) = 3 then (a_shl 1 p1 : Int) else 1)) ∧ (sI σ 32 (Int.toNat p1)) + (v2 * (if (sI σ 31 3) = 3 then (a_shl 1 p1 : Int) else 1)) < 2147483648 ∧ -2147483648 ≤ ((sI σ 32 (Int.toNat p1)) + (v2 * (if (sI σ 31 3) = 3 then (a_shl 1 p1 : Int) else 1))) + v5 ∧ ((sI σ 32 (Int.toNat p1)) + (v2 * (if (sI σ 31 3) = 3 then (a_shl 1 p1 : Int) else 1))) + v5 < 2147483648) ∧
    K (((sI σ 32 (Int.toNat p1)) + (v2 * (if (sI σ 31 3) = 3 then (a_shl 1 p1 : Int) else 1))) + v5) σ) ∧
  (¬ (p1 ≤ v6) →
    (((sI σ 31 3) = 3 →
      (-2147483648 ≤ 2 * v5 ∧ 2 * v5 < 2147483648 ∧ 0 ≤ v6 ∧ v6 < 3) ∧
      (-2147483648 ≤ (2 * v5) + (if 0 ≤ (sI σ 40 (Int.toNat v6)) then (0 : Int) else 1) ∧ (2 * v5) + (if 0 ≤ (sI σ 40 (Int.toNat v6)) then (0 : Int) else 1) < 2147483648 ∧ -2147483648 ≤ v6 + 1 ∧ v6 + 1 < 2147483648) ∧
      am_Runs PP MLL (d + 1) m_M_rankOf 86 [some (qr (31, 12, 89)), some (qi p1), some (qi v2), z3, (am_cl z4), some (qi ((2 * v5) + (if 0 ≤ (sI σ 40 (Int.toNat v6)) then (0 : Int) else 1))), some (qi (v6 + 1))] [] σ (kI K)) ∧
    (¬ ((sI σ 31 3) = 3) →
      (0 ≤ p1 ∧ p1 < 4) ∧
      (-2147483648 ≤ v2 * 1 ∧ v2 * 1 < 2147483648 ∧ -2147483648 ≤ (sI σ 32 (Int.toNat p1)) + (v2 * 1) ∧ (sI σ 32 (Int.toNat p1)) + (v2 * 1) < 2147483648 ∧ -2147483648 ≤ ((sI σ 32 (Int.toNat p1)) + (v2 * 1)) + v5 ∧ ((sI σ 32 (Int.toNat p1)) + (v2 * 1)) + v5 < 2147483648) ∧
      K (((sI σ 32 (Int.toNat p1)) + (v2 * 1)) + v5) σ))))) : am_Runs PP MLL (d + 1) m_M_rankOf 86 [some (qr (31, 12, 89)), some (qi p1), some (qi v2), z3, z4, some (qi v5), some (qi v6)] [] σ (kI K) := am_wEC_ok (orc [(97, 40, 20, 3), (109, 32, 20, 4)]) [80, 104] 200 (⟨fun c4 => ⟨⟨rfl, (hF 6)⟩, ⟨⟨rfl, (h.1 c4).1.1, (h.1 c4).1.2⟩, ⟨rfl, am_wEC_ok (orc []) [8] 200 (am_use (fun H6 => ⟨fun c5 => (Eq.mp (congrArg (fun z => am_Runs _ _ _ _ _ _ (qi z :: _) _ _) (if_pos c5 : (if (sI σ 31 3) = 3 then (a_shl 1 p1 : Int) else 1) = a_shl 1 p1)) H6), fun c5 => (Eq.mp (congrArg (fun z => am_Runs _ _ _ _ _ _ (qi z :: _) _ _) (if_neg c5 : (if (sI σ 31 3) = 3 then (a_shl 1 p1 : Int) else 1) = 1)) H6)⟩) (am_wEC_ok (orc []) [8] 200 (⟨⟨(h.1 c4).2.1.1, (h.1 c4).2.1.2.1⟩, ⟨⟨(h.1 c4).2.1.2.2.1, (h.1 c4).2.1.2.2.2.1⟩, ⟨⟨(h.1 c4).2.1.2.2.2.2.1, (h.1 c4).2.1.2.2.2.2.2⟩, (h.1 c4).2.2⟩⟩⟩)))⟩⟩⟩, fun c4 => ⟨rfl, ⟨fun c9 => ⟨⟨((h.2 c4).1 c9).1.1, ((h.2 c4).1 c9).1.2.1⟩, ⟨⟨rfl, (hF 15)⟩, ⟨⟨rfl, ((h.2 c4).1 c9).1.2.2.1, ((h.2 c4).1 c9).1.2.2.2⟩, am_use (fun H11 => ⟨fun c10 => (Eq.mp (congrArg (fun z => am_Runs _ _ _ _ _ _ (qi z :: _) _ _) (if_pos c10 : (if 0 ≤ (sI σ 40 (Int.toNat v6)) then (0 : Int) else 1) = 0)) H11), fun c10 => (Eq.mp (congrArg (fun z => am_Runs _ _ _ _ _ _ (qi z :: _) _ _) (if_neg c10 : (if 0 ≤ (sI σ 40 (Int.toNat v6)) then (0 : Int) else 1) = 1)) H11)⟩) (am_wEC_ok (orc []) [80, 104] 200 (⟨⟨((h.2 c4).1 c9).2.1.1, ((h.2 c4).1 c9).2.1.2.1⟩, ⟨⟨((h.2 c4).1 c9).2.1.2.2.1, ((h.2 c4).1 c9).2.1.2.2.2⟩, ((h.2 c4).1 c9).2.2⟩⟩))⟩⟩⟩, fun c9 => ⟨⟨rfl, (hF 6)⟩, ⟨⟨rfl, ((h.2 c4).2 c9).1.1, ((h.2 c4).2 c9).1.2⟩, ⟨rfl, am_wEC_ok (orc []) [8] 200 (⟨fun c => absurd c c9, fun _ => am_wEC_ok (orc []) [8] 200 (⟨⟨((h.2 c4).2 c9).2.1.1, ((h.2 c4).2 c9).2.1.2.1⟩, ⟨⟨((h.2 c4).2 c9).2.1.2.2.1, ((h.2 c4).2 c9).2.1.2.2.2.1⟩, ⟨⟨((h.2 c4).2 c9).2.1.2.2.2.2.1, ((h.2 c4).2 c9).2.1.2.2.2.2.2⟩, ((h.2 c4).2 c9).2.2⟩⟩⟩)⟩)⟩⟩⟩⟩⟩⟩)

theorem rk_nn {n f x y z : Nat} {kd : Int} (hn : n ≤ 40) (hf : f ≤ 3) (h1 : 1 ≤ f → x < n) (h2 : 2 ≤ f → x < y ∧ y < n) (h3 : 3 ≤ f → y < z ∧ z < n) : rk n f x y z ≤ 9880 ∧ rk n f x y z * wy kd f ≤ 79040 := by
  have a := rk_lt hf h1 h2 h3
  have h := ch_bd n (by omega)
  have hc : ch n f ≤ 9880 := by
    unfold ch
    (repeat' split) <;> omega
  have b : rk n f x y z * wy kd f ≤ 9880 * 8 := Nat.mul_le_mul (by omega) (wy_le hf)
  exact ⟨by omega, b⟩
theorem c_M_rankOf (d : Nat) {n f x y z : Nat} {kd b : Int} {g : Nat → Int} {σ : am_S} {K : Int → am_S → Prop} (hF : MF σ) (hn : sI σ 31 2 = n) (hn2 : n ≤ 40) (hkd : sI σ 31 3 = kd) (hf1 : 1 ≤ f) (hf : f ≤ 3) (h1 : 1 ≤ f → x < n) (h2 : 2 ≤ f → x < y ∧ y < n) (h3 : 3 ≤ f → y < z ∧ z < n) (hx : sI σ 39 0 = x) (hy : 2 ≤ f → sI σ 39 1 = y) (hz : 3 ≤ f → sI σ 39 2 = z) (hg : ∀ i, i < f → sI σ 40 i = g i) (hb : sI σ 32 f = b) (hb2 : 0 ≤ b ∧ b ≤ 100000)
    (h : K (b + ((rk n f x y z * wy kd f : Nat) : Int) + (if kd = 3 then (ws g f : Int) else 0)) σ) :
    am_Calls PP MLL (d + 2) m_M_rankOf [qr (31, 12, 89), qi (f : Int)] σ (kI K) := by
  have hrk := rk_nn (kd := kd) hn2 hf h1 h2 h3
  have h86 : ∀ z3 z4, am_Runs PP MLL (d + 1) m_M_rankOf 86 [some (qr (31, 12, 89)), some (qi (f : Int)), some (qi (rk n f x y z : Int)), z3, z4, some (qi 0), some (qi 0)] [] σ (kI K) := by
    by_cases hk3 : kd = 3
    · have hS : ∀ i : Nat, i ≤ f → ∀ z3 z4, am_Runs PP MLL (d + 1) m_M_rankOf 86 [some (qr (31, 12, 89)), some (qi (f : Int)), some (qi (rk n f x y z : Int)), z3, z4, some (qi (ws g i : Int)), some (qi (i : Int))] [] σ (kI K) := by
        refine lp ?_ ?_
        · intro z3 z4
          have hw := ws_lt g f
          have h8 : 2 ^ f ≤ 8 := by rcases (show f = 0 ∨ f = 1 ∨ f = 2 ∨ f = 3 by omega) with rfl | rfl | rfl | rfl <;> decide
          refine v_M_rankOf_86 d f _ _ _ z3 z4 σ K hF ⟨fun _ => ?_, fun c => absurd (Int.le_refl _) c⟩
          rw [hkd, wy_eq hf, Int.toNat_natCast, hb, ← Int.natCast_mul]
          rw [if_pos hk3] at h
          exact ⟨by omega, by omega, h⟩
        · intro i hi ih z3 z4
          have hw := ws_lt g i
          have h8 : 2 ^ i ≤ 8 := by rcases (show i = 0 ∨ i = 1 ∨ i = 2 ∨ i = 3 by omega) with rfl | rfl | rfl | rfl <;> decide
          refine v_M_rankOf_86 d f _ _ _ z3 z4 σ K hF ⟨fun c => absurd c (by omega), fun _ => ⟨fun _ => ?_, fun c => absurd (hkd.trans hk3) c⟩⟩
          rw [Int.toNat_natCast, hg i hi]
          refine ⟨by omega, by split <;> omega, ?_⟩
          have ih := ih z3 (am_cl z4)
          have e : 2 * (ws g i : Int) + (if 0 ≤ g i then (0 : Int) else 1) = ((ws g (i + 1) : Nat) : Int) := by
            have es : ws g (i + 1) = 2 * ws g i + (if 0 ≤ g i then 0 else 1) := rfl
            rw [es]
            by_cases h0 : 0 ≤ g i
            · rw [if_pos h0, if_pos h0]; omega
            · rw [if_neg h0, if_neg h0]; omega
          rw [e]
          exact ih
      exact hS 0 (Nat.zero_le _)
    · intro z3 z4
      have e1 : wy kd f = 1 := if_neg hk3
      rw [if_neg hk3, e1, Nat.mul_one, Int.add_zero] at h
      refine v_M_rankOf_86 d f _ _ _ z3 z4 σ K hF ⟨fun c => absurd c (by omega), fun _ => ⟨fun c => absurd (hkd.symm.trans c) hk3, fun _ => ?_⟩⟩
      rw [Int.toNat_natCast, hb]
      refine ⟨by omega, by omega, kEq h ?_ rfl⟩
      omega
  refine v_M_rankOf_0 d f σ K hF ⟨fun c => ?_, fun c => ⟨fun c2 => absurd c2 (by omega), fun _ => ?_⟩⟩
  · have hf' : f = 1 := by omega
    subst hf'
    rw [hx]
    exact h86 _ _
  · have hf2 : 2 ≤ f := by omega
    have h2 := h2 hf2
    have hy := hy hf2
    rw [hx, hy]
    have hcb := ch_bd n (by omega)
    have h45 : ∀ j : Nat, j ≤ y → x + 1 ≤ j → f = 3 → ∀ z6, am_Runs PP MLL (d + 1) m_M_rankOf 45 [some (qr (31, 12, 89)), some (qi (f : Int)), some (qi ((C3 n - C3 (n - x) + (C2 (n - 1 - x) - C2 (n - j)) : Nat) : Int)), some (qi (x : Int)), some (qi (y : Int)), some (qi (j : Int)), z6] [] σ (kI K) := by
      refine lp ?_ ?_
      · intro _ hf3 z6
        have h3 := h3 (by omega)
        have hz := hz (by omega)
        have hr : rk n f x y z = C3 n - C3 (n - x) + (C2 (n - 1 - x) - C2 (n - y)) + (z - y - 1) := by subst hf3; rfl
        refine v_M_rankOf_45 d f _ _ _ _ z6 σ K hF ⟨fun _ => ?_, fun c => absurd (Int.le_refl _) c⟩
        rw [if_neg (show ¬ (f : Int) = 2 by omega), hz]
        refine ⟨by omega, by omega, ?_⟩
        have e : ((C3 n - C3 (n - x) + (C2 (n - 1 - x) - C2 (n - y)) : Nat) : Int) + ((z : Int) - (y : Int) - 1) = (rk n f x y z : Int) := by
          rw [hr]; omega
        rw [e]
        exact h86 _ _
      · intro j hj ih hxj hf3 z6
        have ih := ih (by omega) hf3 z6
        have a1 := C2_s (show n - j = n - (j + 1) + 1 by omega)
        have a2 := C2_mono (show n - j ≤ n - 1 - x by omega)
        have a3 := C2_mono (show n - 1 - x ≤ n by omega)
        refine v_M_rankOf_45 d f _ _ _ _ z6 σ K hF ⟨fun c => absurd c (by omega), fun _ => ⟨fun _ => ?_, fun c => absurd (by omega) c⟩⟩
        rw [hn]
        refine ⟨by omega, ?_⟩
        have e : ((C3 n - C3 (n - x) + (C2 (n - 1 - x) - C2 (n - j)) : Nat) : Int) + ((n : Int) - 1 - (j : Int)) = ((C3 n - C3 (n - x) + (C2 (n - 1 - x) - C2 (n - (j + 1))) : Nat) : Int) := by omega
        rw [e]
        exact ih
    have h23 : ∀ i : Nat, i ≤ x → ∀ z6, am_Runs PP MLL (d + 1) m_M_rankOf 23 [some (qr (31, 12, 89)), some (qi (f : Int)), some (qi (px n f i : Int)), some (qi (x : Int)), some (qi (y : Int)), some (qi (i : Int)), z6] [] σ (kI K) := by
      refine lp ?_ ?_
      · intro z6
        refine v_M_rankOf_23 d f _ _ _ _ z6 σ K hF ⟨fun _ => ⟨by omega, ?_⟩, fun c => absurd (Int.le_refl _) c⟩
        by_cases hf3 : f = 3
        · have h0 := h45 (x + 1) (by omega) (by omega) hf3 z6
          have e : C3 n - C3 (n - x) + (C2 (n - 1 - x) - C2 (n - (x + 1))) = px n f x := by
            unfold px
            rw [if_neg (by omega), show n - 1 - x = n - (x + 1) by omega]
            omega
          rw [e] at h0
          exact h0
        · have hf2' : f = 2 := by omega
          have hr : rk n f x y z = px n f x + (y - x - 1) := by subst hf2'; rfl
          have e : (px n f x : Int) + (if (f : Int) = 2 then (((y : Int) - (x : Int)) - 1 : Int) else ((sI σ 39 2) - (y : Int)) - 1) = (rk n f x y z : Int) := by
            rw [if_pos (by omega), hr]; omega
          refine v_M_rankOf_45 d f _ _ _ _ z6 σ K hF ⟨fun _ => ?_, fun _ => ⟨fun c => absurd c (by omega), fun _ => ?_⟩⟩
          · rw [e]
            exact ⟨by omega, by omega, h86 _ _⟩
          · rw [e]
            exact ⟨by omega, by omega, h86 _ _⟩
      · intro i hi ih z6
        have ih := ih z6
        have ec : (n : Int) - 1 - (i : Int) = ((n - 1 - i : Nat) : Int) := by omega
        have ef : (f : Int) - 1 = ((f - 1 : Nat) : Int) := by omega
        refine v_M_rankOf_23 d f _ _ _ _ z6 σ K hF ⟨fun c => absurd c (by omega), fun _ => ?_⟩
        rw [hn, ec, ef]
        refine ⟨by omega, ?_⟩
        have a1 := C2_s (show n - i = n - (i + 1) + 1 by omega)
        have a2 := C3_s (show n - i = n - (i + 1) + 1 by omega)
        have a3 := C2_mono (show n - i ≤ n by omega)
        have a4 := C3_mono (show n - i ≤ n by omega)
        have e : px n f i + ch (n - 1 - i) (f - 1) = px n f (i + 1) := by
          rw [show n - 1 - i = n - (i + 1) by omega]
          unfold px ch
          by_cases hf3 : f = 3
          · subst hf3
            show C3 n - C3 (n - i) + C2 (n - (i + 1)) = C3 n - C3 (n - (i + 1))
            omega
          · have hf2' : f = 2 := by omega
            subst hf2'
            show C2 n - C2 (n - i) + (n - (i + 1)) = C2 n - C2 (n - (i + 1))
            omega
        have hpx : px n f (i + 1) ≤ 9880 := by
          unfold px
          split <;> omega
        refine c_M_choose d (by omega) (by omega) ⟨hF, ?_⟩
        rw [← Int.natCast_add, e]
        exact ⟨by omega, ih⟩
    have h0 := h23 0 (Nat.zero_le _) none
    have e : px n f 0 = 0 := by
      unfold px
      rw [Nat.sub_zero]
      split <;> omega
    rw [e] at h0
    exact h0
theorem v_M_swapRanked_0 (d : Nat) (p1 p2 : Int) (σ : am_S) (K : am_S → Prop) (hF : MF σ) (h :
  (0 ≤ p1 ∧ p1 < 3 ∧ 0 ≤ p2 ∧ p2 < 3) ∧
  (((sI σ 39 (Int.toNat p1)) ≤ (sI σ 39 (Int.toNat p2)) →
    K σ) ∧
  (¬ ((sI σ 39 (Int.toNat p1)) ≤ (sI σ 39 (Int.toNat p2))) →
    K (putI (putI (putI (putI σ 39 (Int.toNat p1) (sI σ 39 (Int.toNat p2))) 39 (Int.toNat p2) (sI σ 39 (Int.toNat p1))) 40 (Int.toNat p1) (sI σ 40 (Int.toNat p2))) 40 (Int.toNat p2) (sI σ 40 (Int.toNat p1)))))) : am_Runs PP MLL d m_M_swapRanked 0 [some (qr (31, 12, 89)), some (qi p1), some (qi p2), none, none] [] σ (kV K) := am_wEF_ok (orc [(1, 39, 20, 3), (5, 39, 20, 3), (10, 39, 20, 3), (15, 39, 20, 3), (18, 39, 20, 3), (23, 39, 20, 3), (28, 40, 20, 3), (33, 40, 20, 3), (36, 40, 20, 3), (41, 40, 20, 3)]) 200 (⟨⟨rfl, (hF 14)⟩, ⟨⟨rfl, h.1.1, h.1.2.1⟩, ⟨⟨rfl, (hF 14)⟩, ⟨⟨rfl, h.1.2.2.1, h.1.2.2.2⟩, ⟨fun c2 => (h.2.1 c2), fun c2 => ⟨⟨rfl, (hF 14)⟩, ⟨⟨rfl, h.1.1, h.1.2.1⟩, ⟨⟨rfl, (hF 14)⟩, ⟨⟨rfl, (hF 14)⟩, ⟨⟨rfl, h.1.2.2.1, h.1.2.2.2⟩, ⟨⟨rfl, h.1.1, h.1.2.1⟩, ⟨⟨rfl, (hF 14)⟩, ⟨⟨rfl, h.1.2.2.1, h.1.2.2.2⟩, ⟨⟨rfl, (hF 15)⟩, ⟨⟨rfl, h.1.1, h.1.2.1⟩, ⟨⟨rfl, (hF 15)⟩, ⟨⟨rfl, (hF 15)⟩, ⟨⟨rfl, h.1.2.2.1, h.1.2.2.2⟩, ⟨⟨rfl, h.1.1, h.1.2.1⟩, ⟨⟨rfl, (hF 15)⟩, ⟨⟨rfl, h.1.2.2.1, h.1.2.2.2⟩, (h.2.2 c2)⟩⟩⟩⟩⟩⟩⟩⟩⟩⟩⟩⟩⟩⟩⟩⟩⟩⟩⟩⟩⟩)

/-- nothing changed but the rows ranked and rankedSign -/
def frR (s σ : am_S) : Prop := s.2 = σ.2 ∧ ∀ a, a ≠ 39 → a ≠ 40 → sI s a = sI σ a
theorem frR_tr {s t u : am_S} (h : frR s t) (h2 : frR t u) : frR s u := ⟨h.1.trans h2.1, fun a ha hb => (h.2 a ha hb).trans (h2.2 a ha hb)⟩
theorem frR_MF {s σ : am_S} (h : frR s σ) (hF : MF σ) : MF s := by
  intro j
  have : sR s 31 j = sR σ 31 j := by
    show s.2.1 31 j = σ.2.1 31 j
    rw [h.1]
  exact this.trans (hF j)
theorem c_M_swapRanked (d : Nat) {i j : Nat} {σ : am_S} {K : am_S → Prop} (hF : MF σ) (hi : i < 3) (hj : j < 3) (hij : i ≠ j) (h : ∀ s, frR s σ → (∀ k, k ≠ i → k ≠ j → sI s 39 k = sI σ 39 k ∧ sI s 40 k = sI σ 40 k) → ((sI σ 39 i ≤ sI σ 39 j ∧ sI s 39 i = sI σ 39 i ∧ sI s 39 j = sI σ 39 j ∧ sI s 40 i = sI σ 40 i ∧ sI s 40 j = sI σ 40 j) ∨ (sI σ 39 j < sI σ 39 i ∧ sI s 39 i = sI σ 39 j ∧ sI s 39 j = sI σ 39 i ∧ sI s 40 i = sI σ 40 j ∧ sI s 40 j = sI σ 40 i)) → K s) : am_Calls PP MLL (d + 1) m_M_swapRanked [qr (31, 12, 89), qi (i : Int), qi (j : Int)] σ (kV K) := by
  refine v_M_swapRanked_0 d i j σ K hF ⟨by omega, fun c => ?_, fun c => ?_⟩
  · rw [Int.toNat_natCast, Int.toNat_natCast] at c
    exact h σ ⟨rfl, fun _ _ _ => rfl⟩ (fun _ _ _ => ⟨rfl, rfl⟩) (Or.inl ⟨c, rfl, rfl, rfl, rfl⟩)
  · rw [Int.toNat_natCast, Int.toNat_natCast] at c ⊢
    refine h _ ⟨rfl, fun a ha hb => ?_⟩ (fun k h1 h2 => ⟨?_, ?_⟩) (Or.inr ⟨by omega, ?_, ?_, ?_, ?_⟩)
    · rw [put_ne hb, put_ne hb, put_ne ha, put_ne ha]
    · rw [put_ne (by decide), put_ne (by decide), put_at, if_neg h2, put_at, if_neg h1]
    · rw [put_at, if_neg h2, put_at, if_neg h1, put_ne (by decide), put_ne (by decide)]
    · rw [put_ne (by decide), put_ne (by decide), put_at, if_neg hij, put_at, if_pos rfl]
    · rw [put_ne (by decide), put_ne (by decide), put_at, if_pos rfl]
    · rw [put_at, if_neg hij, put_at, if_pos rfl]
    · rw [put_at, if_pos rfl]
