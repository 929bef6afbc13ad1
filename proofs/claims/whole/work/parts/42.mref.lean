/-! the reference: judge -/
theorem wr_eq {σ : am_S} {b n t : Nat} {T : Int} (hq : QV σ n) (hb : b < n) (ht : T = t) : (if sI σ 41 b = 6 then (sI σ 46 (Int.toNat (3 * (b : Int) + Int.tmod T (sI σ 47 b))) : Int) else (b : Int)) = ((wr σ b t : Nat) : Int) := by
  unfold wr
  split
  · rename_i h6
    have h := hq b hb h6
    have hm : t % (sI σ 47 b).toNat < (sI σ 47 b).toNat := Nat.mod_lt _ (by omega)
    have h2 := h.2.2 (t % (sI σ 47 b).toNat) (by omega)
    have e : Int.toNat (3 * (b : Int) + Int.tmod T (sI σ 47 b)) = 3 * b + t % (sI σ 47 b).toNat := by
      rw [ht, Int.tmod_eq_emod_of_nonneg (by omega)]
      have e2 : (t : Int) % sI σ 47 b = ((t % (sI σ 47 b).toNat : Nat) : Int) := by
        rw [Int.natCast_emod, Int.toNat_of_nonneg (by omega)]
      rw [e2]; omega
    rw [e]; omega
  · rfl
theorem wr_gd {σ : am_S} {b n t : Nat} {T : Int} (hq : QV σ n) (hb : b < n) (ht : T = t) : sI σ 41 b = 6 → sI σ 47 b ≠ 0 ∧ 0 ≤ Int.tmod T (sI σ 47 b) ∧ Int.tmod T (sI σ 47 b) < 3 := by
  intro h6
  have h := hq b hb h6
  rw [ht, Int.tmod_eq_emod_of_nonneg (by omega)]
  refine ⟨by omega, Int.emod_nonneg _ (by omega), ?_⟩
  have := Int.emod_lt_of_pos (t : Int) (show 0 < sI σ 47 b by omega)
  omega
theorem tdiv2_3 {x : Int} (h : -3 ≤ x ∧ x ≤ 3) : -1 ≤ Int.tdiv x 2 ∧ Int.tdiv x 2 ≤ 1 := by
  by_cases h0 : 0 ≤ x
  · rw [Int.tdiv_eq_ediv_of_nonneg h0]; omega
  · have e : Int.tdiv x 2 = -(Int.tdiv (-x) 2) := by rw [Int.neg_tdiv, Int.neg_neg]
    rw [e, Int.tdiv_eq_ediv_of_nonneg (show 0 ≤ -x by omega)]; omega
theorem tl_mo {k x : Int} (h : -3 ≤ x ∧ x ≤ 3) : -mo k ≤ tl k x ∧ tl k x ≤ mo k := by
  have := tdiv2_3 h
  unfold tl mo sgn
  (repeat' split) <;> omega
theorem mo_13 (k : Int) : mo k = 1 ∨ mo k = 3 := by
  unfold mo
  split <;> omega
/-- the difference under a weighing told ahead -/
def jd (σ : am_S) (k t : Nat) : Int := df (fun c => bt (sI σ 83 k).toNat c - bt (sI σ 84 k).toNat c) (sI σ 33) (sI σ 34) (sI σ 35) t
/-- a truth's row as a number -/
def jr (σ : am_S) (b t : Nat) : Nat → Int
  | 0 => 0
  | k + 1 => 7 * jr σ b t k + tl (sI σ 41 (wr σ b k)) (jd σ k t) + 3
theorem p7 {j : Nat} (h : j ≤ 6) : (7 : Int) ^ j ≤ 117649 := by
  rcases (show j = 0 ∨ j = 1 ∨ j = 2 ∨ j = 3 ∨ j = 4 ∨ j = 5 ∨ j = 6 by omega) with rfl | rfl | rfl | rfl | rfl | rfl | rfl <;> decide
theorem bt_pm (x y c : Nat) : -1 ≤ bt x c - bt y c ∧ bt x c - bt y c ≤ 1 := by
  have h1 := bt_01 x c
  have h2 := bt_01 y c
  omega
theorem jd_bd {σ : am_S} {k t : Nat} (hv : TVt (sI σ 33) (sI σ 34) (sI σ 35) 40 t) : -3 ≤ jd σ k t ∧ jd σ k t ≤ 3 := df_bd hv (fun c => bt_pm _ _ c)
theorem jr_bd {σ : am_S} {b t : Nat} (hv : TVt (sI σ 33) (sI σ 34) (sI σ 35) 40 t) : ∀ k, 0 ≤ jr σ b t k ∧ jr σ b t k < 7 ^ k
  | 0 => by unfold jr; omega
  | k + 1 => by
    have h := jr_bd (b := b) hv k
    have h1 := tl_mo (k := sI σ 41 (wr σ b k)) (jd_bd (k := k) hv)
    have h2 := mo_13 (sI σ 41 (wr σ b k))
    unfold jr
    rw [Int.pow_succ]
    omega

theorem v_M_judgedRow_0 (d : Nat) (p1 p2 p3 : Int) (σ : am_S) (K : Int → am_S → Prop) (hF : MF σ) (hT : (sI σ 31 26) = 0) (h :
  am_Runs PP MLL (d + 2) m_M_judgedRow 4 [some (qr (31, 12, 89)), some (qi p1), some (qi p2), some (qi p3), some (qi 0), some (qi 0), none, none, none] [] σ (kI K)) : am_Runs PP MLL (d + 2) m_M_judgedRow 0 [some (qr (31, 12, 89)), some (qi p1), some (qi p2), some (qi p3), none, none, none, none, none] [] σ (kI K) := am_wEC_ok (orc []) [85] 200 (h)

theorem v_M_judgedRow_4 (d : Nat) (p1 p2 p3 v4 v5 : Int) (z6 z7 z8 : Option am_V) (σ : am_S) (K : Int → am_S → Prop) (hF : MF σ) (hT : (sI σ 31 26) = 0) (h :
  ((p2 ≤ v5 →
    K v4 σ) ∧
  (¬ (p2 ≤ v5) →
    am_Runs PP MLL (d + 2) m_M_judgedRow 11 [some (qr (31, 12, 89)), some (qi p1), some (qi p2), some (qi p3), some (qi v4), some (qi v5), some (qi 0), some (qi 0), z8] [] σ (kI K)))) : am_Runs PP MLL (d + 2) m_M_judgedRow 4 [some (qr (31, 12, 89)), some (qi p1), some (qi p2), some (qi p3), some (qi v4), some (qi v5), z6, z7, z8] [] σ (kI K) := am_wEC_ok (orc []) [85] 200 (⟨fun c2 => (h.1 c2), fun c2 => (h.2 c2)⟩)

theorem v_M_judgedRow_11 (d : Nat) (p1 p2 p3 v4 v5 v6 v7 : Int) (z8 : Option am_V) (σ : am_S) (K : Int → am_S → Prop) (hF : MF σ) (hT : (sI σ 31 26) = 0) (h :
  (0 ≤ p3 ∧ p3 < 10000) ∧
  (((sI σ 33 (Int.toNat p3)) ≤ v7 →
    (-2147483648 ≤ 7 * v4 ∧ 7 * v4 < 2147483648 ∧ 0 ≤ p1 ∧ p1 < 12) ∧
    ((((sI σ 41 (Int.toNat p1)) = 6) → -2147483648 ≤ 3 * p1) ∧ (((sI σ 41 (Int.toNat p1)) = 6) → 3 * p1 < 2147483648) ∧ (((sI σ 41 (Int.toNat p1)) = 6) → (sI σ 47 (Int.toNat p1)) ≠ 0) ∧ (((sI σ 41 (Int.toNat p1)) = 6) → -2147483648 ≤ (3 * p1) + (Int.tmod v5 (sI σ 47 (Int.toNat p1)))) ∧ (((sI σ 41 (Int.toNat p1)) = 6) → (3 * p1) + (Int.tmod v5 (sI σ 47 (Int.toNat p1))) < 2147483648) ∧ (((sI σ 41 (Int.toNat p1)) = 6) → 0 ≤ ((3 * p1) + (Int.tmod v5 (sI σ 47 (Int.toNat p1))))) ∧ (((sI σ 41 (Int.toNat p1)) = 6) → ((3 * p1) + (Int.tmod v5 (sI σ 47 (Int.toNat p1)))) < 36)) ∧
    (0 ≤ (if (sI σ 41 (Int.toNat p1)) = 6 then (sI σ 46 (Int.toNat ((3 * p1) + (Int.tmod v5 (sI σ 47 (Int.toNat p1))))) : Int) else p1) ∧ (if (sI σ 41 (Int.toNat p1)) = 6 then (sI σ 46 (Int.toNat ((3 * p1) + (Int.tmod v5 (sI σ 47 (Int.toNat p1))))) : Int) else p1) < 12) ∧
    (-100 ≤ v6 ∧ v6 ≤ 100) ∧
    (-2147483648 ≤ (7 * v4) + (tl (sI σ 41 (Int.toNat (if (sI σ 41 (Int.toNat p1)) = 6 then (sI σ 46 (Int.toNat ((3 * p1) + (Int.tmod v5 (sI σ 47 (Int.toNat p1))))) : Int) else p1))) v6) ∧ (7 * v4) + (tl (sI σ 41 (Int.toNat (if (sI σ 41 (Int.toNat p1)) = 6 then (sI σ 46 (Int.toNat ((3 * p1) + (Int.tmod v5 (sI σ 47 (Int.toNat p1))))) : Int) else p1))) v6) < 2147483648 ∧ -2147483648 ≤ ((7 * v4) + (tl (sI σ 41 (Int.toNat (if (sI σ 41 (Int.toNat p1)) = 6 then (sI σ 46 (Int.toNat ((3 * p1) + (Int.tmod v5 (sI σ 47 (Int.toNat p1))))) : Int) else p1))) v6)) + 3 ∧ ((7 * v4) + (tl (sI σ 41 (Int.toNat (if (sI σ 41 (Int.toNat p1)) = 6 then (sI σ 46 (Int.toNat ((3 * p1) + (Int.tmod v5 (sI σ 47 (Int.toNat p1))))) : Int) else p1))) v6)) + 3 < 2147483648 ∧ -2147483648 ≤ v5 + 1 ∧ v5 + 1 < 2147483648) ∧
    am_Runs PP MLL (d + 2) m_M_judgedRow 4 [some (qr (31, 12, 89)), some (qi p1), some (qi p2), some (qi p3), some (qi (((7 * v4) + (tl (sI σ 41 (Int.toNat (if (sI σ 41 (Int.toNat p1)) = 6 then (sI σ 46 (Int.toNat ((3 * p1) + (Int.tmod v5 (sI σ 47 (Int.toNat p1))))) : Int) else p1))) v6)) + 3)), some (qi (v5 + 1)), some (qi v6), some (qi v7), z8] [] σ (kI K)) ∧
  (¬ ((sI σ 33 (Int.toNat p3)) ≤ v7) →
    (-2147483648 ≤ 3 * p3 ∧ 3 * p3 < 2147483648 ∧ -2147483648 ≤ (3 * p3) + v7 ∧ (3 * p3) + v7 < 2147483648 ∧ 0 ≤ ((3 * p3) + v7) ∧ ((3 * p3) + v7) < 30000 ∧ 0 ≤ v5 ∧ v5 < 6 ∧ -2147483648 ≤ (w32 (w64 ((a_land (a_lshr (sI σ 83 (Int.toNat v5)) (sI σ 34 (Int.toNat ((3 * p3) + v7)))) 1) - (a_land (a_lshr (sI σ 84 (Int.toNat v5)) (sI σ 34 (Int.toNat ((3 * p3) + v7)))) 1)))) * (sI σ 35 (Int.toNat ((3 * p3) + v7))) ∧ (w32 (w64 ((a_land (a_lshr (sI σ 83 (Int.toNat v5)) (sI σ 34 (Int.toNat ((3 * p3) + v7)))) 1) - (a_land (a_lshr (sI σ 84 (Int.toNat v5)) (sI σ 34 (Int.toNat ((3 * p3) + v7)))) 1)))) * (sI σ 35 (Int.toNat ((3 * p3) + v7))) < 2147483648 ∧ -2147483648 ≤ v6 + ((w32 (w64 ((a_land (a_lshr (sI σ 83 (Int.toNat v5)) (sI σ 34 (Int.toNat ((3 * p3) + v7)))) 1) - (a_land (a_lshr (sI σ 84 (Int.toNat v5)) (sI σ 34 (Int.toNat ((3 * p3) + v7)))) 1)))) * (sI σ 35 (Int.toNat ((3 * p3) + v7)))) ∧ v6 + ((w32 (w64 ((a_land (a_lshr (sI σ 83 (Int.toNat v5)) (sI σ 34 (Int.toNat ((3 * p3) + v7)))) 1) - (a_land (a_lshr (sI σ 84 (Int.toNat v5)) (sI σ 34 (Int.toNat ((3 * p3) + v7)))) 1)))) * (sI σ 35 (Int.toNat ((3 * p3) + v7)))) < 2147483648 ∧ -2147483648 ≤ v7 + 1 ∧ v7 + 1 < 2147483648) ∧
    am_Runs PP MLL (d + 2) m_M_judgedRow 11 [some (qr (31, 12, 89)), some (qi p1), some (qi p2), some (qi p3), some (qi v4), some (qi v5), some (qi (v6 + ((w32 (w64 ((a_land (a_lshr (sI σ 83 (Int.toNat v5)) (sI σ 34 (Int.toNat ((3 * p3) + v7)))) 1) - (a_land (a_lshr (sI σ 84 (Int.toNat v5)) (sI σ 34 (Int.toNat ((3 * p3) + v7)))) 1)))) * (sI σ 35 (Int.toNat ((3 * p3) + v7)))))), some (qi (v7 + 1)), some (qi (sI σ 34 (Int.toNat ((3 * p3) + v7))))] [] σ (kI K)))) : am_Runs PP MLL (d + 2) m_M_judgedRow 11 [some (qr (31, 12, 89)), some (qi p1), some (qi p2), some (qi p3), some (qi v4), some (qi v5), some (qi v6), some (qi v7), z8] [] σ (kI K) := am_wEC_ok (orc [(13, 33, 20, 10000), (18, 34, 20, 30000), (28, 83, 21, 6), (36, 84, 21, 6), (46, 35, 20, 30000), (63, 41, 20, 12), (65, 41, 20, 12), (71, 46, 20, 36), (77, 47, 20, 12)]) [85] 200 (⟨⟨rfl, (hF 7)⟩, ⟨⟨rfl, h.1.1, h.1.2⟩, ⟨fun c2 => ⟨⟨(h.2.1 c2).1.1, (h.2.1 c2).1.2.1⟩, ⟨⟨rfl, (hF 17)⟩, ⟨⟨rfl, (hF 17)⟩, ⟨⟨rfl, (h.2.1 c2).1.2.2.1, (h.2.1 c2).1.2.2.2⟩, am_use (fun H4 => ⟨fun c3 => ⟨⟨rfl, (hF 22)⟩, ⟨⟨((h.2.1 c2).2.1.1 c3), ((h.2.1 c2).2.1.2.1 c3)⟩, ⟨⟨rfl, (hF 23)⟩, ⟨⟨rfl, (h.2.1 c2).1.2.2.1, (h.2.1 c2).1.2.2.2⟩, ⟨((h.2.1 c2).2.1.2.2.1 c3), ⟨⟨((h.2.1 c2).2.1.2.2.2.1 c3), ((h.2.1 c2).2.1.2.2.2.2.1 c3)⟩, ⟨⟨rfl, ((h.2.1 c2).2.1.2.2.2.2.2.1 c3), ((h.2.1 c2).2.1.2.2.2.2.2.2 c3)⟩, (Eq.mp (congrArg (fun z => am_Runs _ _ _ _ _ _ (qi z :: _) _ _) (if_pos c3 : (if (sI σ 41 (Int.toNat p1)) = 6 then (sI σ 46 (Int.toNat ((3 * p1) + (Int.tmod v5 (sI σ 47 (Int.toNat p1))))) : Int) else p1) = sI σ 46 (Int.toNat ((3 * p1) + (Int.tmod v5 (sI σ 47 (Int.toNat p1))))))) H4)⟩⟩⟩⟩⟩⟩⟩, fun c3 => (Eq.mp (congrArg (fun z => am_Runs _ _ _ _ _ _ (qi z :: _) _ _) (if_neg c3 : (if (sI σ 41 (Int.toNat p1)) = 6 then (sI σ 46 (Int.toNat ((3 * p1) + (Int.tmod v5 (sI σ 47 (Int.toNat p1))))) : Int) else p1) = p1)) H4)⟩) (am_wEC_ok (orc []) [85] 200 (⟨⟨rfl, (h.2.1 c2).2.2.1.1, (h.2.1 c2).2.2.1.2⟩, ⟨rfl, c_M_tells _ hF hT (h.2.1 c2).2.2.2.1 (⟨⟨(h.2.1 c2).2.2.2.2.1.1, (h.2.1 c2).2.2.2.2.1.2.1⟩, ⟨⟨(h.2.1 c2).2.2.2.2.1.2.2.1, (h.2.1 c2).2.2.2.2.1.2.2.2.1⟩, ⟨⟨(h.2.1 c2).2.2.2.2.1.2.2.2.2.1, (h.2.1 c2).2.2.2.2.1.2.2.2.2.2⟩, (h.2.1 c2).2.2.2.2.2⟩⟩⟩)⟩⟩))⟩⟩⟩⟩, fun c2 => ⟨⟨rfl, (hF 8)⟩, ⟨⟨(h.2.2 c2).1.1, (h.2.2 c2).1.2.1⟩, ⟨⟨(h.2.2 c2).1.2.2.1, (h.2.2 c2).1.2.2.2.1⟩, ⟨⟨rfl, (h.2.2 c2).1.2.2.2.2.1, (h.2.2 c2).1.2.2.2.2.2.1⟩, ⟨⟨rfl, (hF 81)⟩, ⟨⟨rfl, (h.2.2 c2).1.2.2.2.2.2.2.1, (h.2.2 c2).1.2.2.2.2.2.2.2.1⟩, ⟨⟨rfl, (hF 82)⟩, ⟨⟨rfl, (h.2.2 c2).1.2.2.2.2.2.2.1, (h.2.2 c2).1.2.2.2.2.2.2.2.1⟩, ⟨⟨rfl, (hF 9)⟩, ⟨⟨(h.2.2 c2).1.1, (h.2.2 c2).1.2.1⟩, ⟨⟨(h.2.2 c2).1.2.2.1, (h.2.2 c2).1.2.2.2.1⟩, ⟨⟨rfl, (h.2.2 c2).1.2.2.2.2.1, (h.2.2 c2).1.2.2.2.2.2.1⟩, ⟨⟨(h.2.2 c2).1.2.2.2.2.2.2.2.2.1, (h.2.2 c2).1.2.2.2.2.2.2.2.2.2.1⟩, ⟨⟨(h.2.2 c2).1.2.2.2.2.2.2.2.2.2.2.1, (h.2.2 c2).1.2.2.2.2.2.2.2.2.2.2.2.1⟩, ⟨⟨(h.2.2 c2).1.2.2.2.2.2.2.2.2.2.2.2.2.1, (h.2.2 c2).1.2.2.2.2.2.2.2.2.2.2.2.2.2⟩, (h.2.2 c2).2⟩⟩⟩⟩⟩⟩⟩⟩⟩⟩⟩⟩⟩⟩⟩⟩⟩⟩)

theorem c_M_judgedRow (d : Nat) {b n k t : Nat} {σ : am_S} {K : Int → am_S → Prop} (hF : MF σ) (hT : sI σ 31 26 = 0) (hn : n ≤ 12) (hb : b < n) (hq : QV σ n) (hk : k ≤ 6) (ht : t < 10000) (hv : TVt (sI σ 33) (sI σ 34) (sI σ 35) 40 t) (hx : ∀ j, 0 ≤ sI σ 83 j ∧ sI σ 83 j < 1099511627776 ∧ 0 ≤ sI σ 84 j ∧ sI σ 84 j < 1099511627776) (h : K (jr σ b t k) σ) : am_Calls PP MLL (d + 3) m_M_judgedRow [qr (31, 12, 89), qi (b : Int), qi (k : Int), qi (t : Int)] σ (kI K) := by
  refine v_M_judgedRow_0 d b k t σ K hF hT ?_
  have hS : ∀ j : Nat, j ≤ k → ∀ z6 z7 z8, am_Runs PP MLL (d + 2) m_M_judgedRow 4 [some (qr (31, 12, 89)), some (qi (b : Int)), some (qi (k : Int)), some (qi (t : Int)), some (qi (jr σ b t j)), some (qi (j : Int)), z6, z7, z8] [] σ (kI K) := by
    refine lp ?_ ?_
    · intro z6 z7 z8
      exact v_M_judgedRow_4 d b k t _ _ z6 z7 z8 σ K hF hT ⟨fun _ => h, fun c => absurd (Int.le_refl _) c⟩
    · intro j hj ih z6 z7 z8
      refine v_M_judgedRow_4 d b k t _ _ z6 z7 z8 σ K hF hT ⟨fun c => absurd c (by omega), fun _ => ?_⟩
      have hI : ∀ i : Nat, i ≤ (sI σ 33 t).toNat → ∀ z8, am_Runs PP MLL (d + 2) m_M_judgedRow 11 [some (qr (31, 12, 89)), some (qi (b : Int)), some (qi (k : Int)), some (qi (t : Int)), some (qi (jr σ b t j)), some (qi (j : Int)), some (qi (sm (fun i => (fun c => bt (sI σ 83 j).toNat c - bt (sI σ 84 j).toNat c) (sI σ 34 (3 * t + i)).toNat * sI σ 35 (3 * t + i)) i)), some (qi (i : Int)), z8] [] σ (kI K) := by
        refine lp ?_ ?_
        · intro z8
          have hbd := jd_bd (k := j) hv
          have hjr := jr_bd (b := b) hv j
          have hp : (7 : Int) ^ j ≤ 117649 := p7 (by omega)
          have h1 := tl_mo (k := sI σ 41 (wr σ b j)) hbd
          have h2 := mo_13 (sI σ 41 (wr σ b j))
          have hw := wr_lt (turn := j) hq hb
          have hg := wr_gd (T := (j : Int)) hq hb rfl
          refine v_M_judgedRow_11 d b k t _ j _ _ z8 σ K hF hT ⟨by omega, fun _ => ?_, fun c => absurd ?_ c⟩
          · rw [Int.toNat_natCast, wr_eq hq hb rfl, Int.toNat_natCast]
            have ej : sm (fun i => (fun c => bt (sI σ 83 j).toNat c - bt (sI σ 84 j).toNat c) (sI σ 34 (3 * t + i)).toNat * sI σ 35 (3 * t + i)) (sI σ 33 t).toNat = jd σ j t := rfl
            rw [ej]
            exact ⟨by omega, by omega, by omega, by omega, by omega, ih _ _ _⟩
          · rw [Int.toNat_natCast]; omega
        · intro i hi ih z8
          have hm := hv.2.1
          have hvi := hv.2.2 i (by omega)
          have hp := df_part hv (fun c => bt_pm (sI σ 83 j).toNat (sI σ 84 j).toNat c) i (by omega)
          have e3 : Int.toNat (3 * (t : Int) + (i : Int)) = 3 * t + i := by omega
          have hpm := mul_pm (bt_pm (sI σ 83 j).toNat (sI σ 84 j).toNat (sI σ 34 (3 * t + i)).toNat) hvi.2.2
          have hxj := hx j
          obtain ⟨c, hc⟩ := nn hvi.1
          obtain ⟨x, hx1⟩ := nn hxj.1
          obtain ⟨y, hy1⟩ := nn hxj.2.2.1
          refine v_M_judgedRow_11 d b k t _ j _ _ z8 σ K hF hT ⟨by omega, fun c => absurd c (by rw [Int.toNat_natCast]; omega), fun _ => ?_⟩
          have ih := ih (some (qi (sI σ 34 (3 * t + i))))
          have es : ∀ f : Nat → Int, sm f (i + 1) = sm f i + f i := fun f => rfl
          rw [es] at ih
          rw [e3, Int.toNat_natCast]
          rw [hx1, hy1, hc] at hpm ⊢
          rw [hx1, hy1] at hp
          rw [hx1, hy1, hc] at ih
          have hbx := bt_01 x c
          have hby := bt_01 y c
          rw [lbit (by omega) (by omega), lbit (by omega) (by omega), w64_id (by omega) (by omega), w32_id (by omega) (by omega)]
          rw [Int.toNat_natCast, Int.toNat_natCast, Int.toNat_natCast] at hpm
          rw [Int.toNat_natCast, Int.toNat_natCast] at hp
          simp only [Int.toNat_natCast] at ih ⊢
          exact ⟨by omega, ih⟩
      exact hI 0 (Nat.zero_le _) z8
  exact hS 0 (Nat.zero_le _) none none none
