/-! the class: numbers of truths, differences -/
/-- the truths' rows -/
def TR (σ : am_S) (aH nH aL nL aY nY aS nS : Nat) : Prop := CF σ ∧ sR σ 3 6 = some (aH, 21, nH) ∧ sR σ 3 7 = some (aL, 21, nL) ∧ sR σ 3 8 = some (aY, 20, nY) ∧ sR σ 3 9 = some (aS, 20, nS)
theorem c_lbcI (d : Nat) {v : Int} {σ : am_S} {K : Int → am_S → Prop} (h0 : 0 ≤ v) (h1 : v < 1099511627776) (h : K (pc v.toNat) σ) : am_Calls PP MLL (d + 1) m_Lng_bitCount [ql v] σ (kI K) := by
  obtain ⟨x, rfl⟩ := nn h0
  rw [Int.toNat_natCast] at h
  exact c_lbitCount d (by omega) h
theorem pc_32 {x : Nat} (hx : x < 4294967296) : sm (bt x) 32 = pc x := by
  unfold pc
  rw [show 40 = 32 + 8 from rfl, sm_add]
  have : sm (fun c => bt x (32 + c)) 8 = sm (fun _ => 0) 8 := by
    refine sm_congr 8 (fun c _ => ?_)
    have h : x < 2 ^ (32 + c) := Nat.lt_of_lt_of_le hx (Nat.pow_le_pow_right (n := 2) (i := 32) (by omega) (by omega))
    rw [bt_tb, Nat.testBit_lt_two_pow h]; rfl
  rw [this, sm_zero]; omega
theorem c_ibcI (d : Nat) {v : Int} {σ : am_S} {K : Int → am_S → Prop} (h0 : 0 ≤ v) (h1 : v < 1073741824) (h : K (pc v.toNat) σ) : am_Calls PP MLL (d + 1) m_Int_bitCount [qi v] σ (kI K) := by
  obtain ⟨x, rfl⟩ := nn h0
  rw [Int.toNat_natCast] at h
  refine c_ibitCount d (by omega) ?_
  rw [pc_32 (by omega)]
  exact h
theorem v_Truths_choices_0 (d : Nat) (p0 p1 : Int) (σ : am_S) (K : Int → am_S → Prop) (h :
  ((p1 = 0 →
    K 1 σ) ∧
  (¬ (p1 = 0) →
  ((p1 = 1 →
    K p0 σ) ∧
  (¬ (p1 = 1) →
  ((p1 = 2 →
    (-2147483648 ≤ p0 - 1 ∧ p0 - 1 < 2147483648 ∧ -2147483648 ≤ p0 * (p0 - 1) ∧ p0 * (p0 - 1) < 2147483648 ∧ -2147483648 ≤ Int.tdiv (p0 * (p0 - 1)) 2 ∧ Int.tdiv (p0 * (p0 - 1)) 2 < 2147483648) ∧
    K (Int.tdiv (p0 * (p0 - 1)) 2) σ) ∧
  (¬ (p1 = 2) →
  (-2147483648 ≤ p0 - 1 ∧ p0 - 1 < 2147483648 ∧ -2147483648 ≤ p0 * (p0 - 1) ∧ p0 * (p0 - 1) < 2147483648 ∧ -2147483648 ≤ p0 - 2 ∧ p0 - 2 < 2147483648 ∧ -2147483648 ≤ (p0 * (p0 - 1)) * (p0 - 2) ∧ (p0 * (p0 - 1)) * (p0 - 2) < 2147483648 ∧ -2147483648 ≤ Int.tdiv ((p0 * (p0 - 1)) * (p0 - 2)) 6 ∧ Int.tdiv ((p0 * (p0 - 1)) * (p0 - 2)) 6 < 2147483648) ∧
  K (Int.tdiv ((p0 * (p0 - 1)) * (p0 - 2)) 6) σ))))))) : am_Runs PP MLL d m_Truths_choices 0 [some (qi p0), some (qi p1)] [] σ (kI K) := am_wEF_ok (orc []) 200 (⟨fun c1 => (h.1 c1), fun c1 => ⟨fun c2 => ((h.2 c1).1 c2), fun c2 => ⟨fun c3 => ⟨⟨(((h.2 c1).2 c2).1 c3).1.1, (((h.2 c1).2 c2).1 c3).1.2.1⟩, ⟨⟨(((h.2 c1).2 c2).1 c3).1.2.2.1, (((h.2 c1).2 c2).1 c3).1.2.2.2.1⟩, ⟨⟨(by decide : (2 : Int) ≠ 0), (((h.2 c1).2 c2).1 c3).1.2.2.2.2.1, (((h.2 c1).2 c2).1 c3).1.2.2.2.2.2⟩, (((h.2 c1).2 c2).1 c3).2⟩⟩⟩, fun c3 => ⟨⟨(((h.2 c1).2 c2).2 c3).1.1, (((h.2 c1).2 c2).2 c3).1.2.1⟩, ⟨⟨(((h.2 c1).2 c2).2 c3).1.2.2.1, (((h.2 c1).2 c2).2 c3).1.2.2.2.1⟩, ⟨⟨(((h.2 c1).2 c2).2 c3).1.2.2.2.2.1, (((h.2 c1).2 c2).2 c3).1.2.2.2.2.2.1⟩, ⟨⟨(((h.2 c1).2 c2).2 c3).1.2.2.2.2.2.2.1, (((h.2 c1).2 c2).2 c3).1.2.2.2.2.2.2.2.1⟩, ⟨⟨(by decide : (6 : Int) ≠ 0), (((h.2 c1).2 c2).2 c3).1.2.2.2.2.2.2.2.2.1, (((h.2 c1).2 c2).2 c3).1.2.2.2.2.2.2.2.2.2⟩, (((h.2 c1).2 c2).2 c3).2⟩⟩⟩⟩⟩⟩⟩⟩)

theorem ch_j2 : ∀ n : Nat, n < 41 → Int.tdiv ((n : Int) * ((n : Int) - 1)) 2 = C2 n ∧ Int.tdiv ((n : Int) * ((n : Int) - 1) * ((n : Int) - 2)) 6 = C3 n ∧ -1000000 ≤ (n : Int) * ((n : Int) - 1) ∧ (n : Int) * ((n : Int) - 1) ≤ 1000000 ∧ -1000000 ≤ (n : Int) * ((n : Int) - 1) * ((n : Int) - 2) ∧ (n : Int) * ((n : Int) - 1) * ((n : Int) - 2) ≤ 1000000 := by decide +kernel
theorem c_choices (d : Nat) {n f : Nat} {σ : am_S} {K : Int → am_S → Prop} (hn : n ≤ 40) (hf : f ≤ 3) (h : K (ch n f : Int) σ) : am_Calls PP MLL (d + 1) m_Truths_choices [qi (n : Int), qi (f : Int)] σ (kI K) := by
  obtain ⟨e1, e2, b1, b2, b3, b4⟩ := ch_j2 n (by omega)
  have hb := ch_bd n (by omega)
  unfold ch at h
  refine v_Truths_choices_0 d n f σ K ?_
  rw [e1, e2]
  refine ⟨fun c => ?_, fun c => ⟨fun c1 => ?_, fun c1 => ⟨fun c2 => ⟨by omega, ?_⟩, fun c2 => ⟨by omega, ?_⟩⟩⟩⟩
  · rw [if_pos (by omega)] at h; exact h
  · rw [if_neg (by omega), if_pos (by omega)] at h; exact h
  · rw [if_neg (by omega), if_neg (by omega), if_pos (by omega)] at h; exact h
  · rw [if_neg (by omega), if_neg (by omega), if_neg (by omega)] at h; exact h
theorem v_Truths_howMany_0 (d : Nat) (p0 p1 p2 p3 : Int) (σ : am_S) (K : Int → am_S → Prop) (h :
  am_Runs PP MLL (d + 1) m_Truths_howMany 4 [some (qi p0), some (qi p1), some (qi p2), some (qi p3), some (qi 0), some (qi p1)] [] σ (kI K)) : am_Runs PP MLL (d + 1) m_Truths_howMany 0 [some (qi p0), some (qi p1), some (qi p2), some (qi p3), none, none] [] σ (kI K) := am_wEF_ok (orc []) 200 (h)

theorem v_Truths_howMany_4 (d : Nat) (p0 p2 p3 v4 v5 : Int) (z1 : Option am_V) (σ : am_S) (K : Int → am_S → Prop) (h :
  ((p2 < v5 →
    K v4 σ) ∧
  (¬ (p2 < v5) →
    am_Calls PP MLL (d + 1) m_Truths_choices [qi p0, qi v5] σ (kI fun x3 s3 =>
      (-2147483648 ≤ x3 * (if p3 = 3 then (a_shl 1 v5 : Int) else 1) ∧ x3 * (if p3 = 3 then (a_shl 1 v5 : Int) else 1) < 2147483648 ∧ -2147483648 ≤ v4 + (x3 * (if p3 = 3 then (a_shl 1 v5 : Int) else 1)) ∧ v4 + (x3 * (if p3 = 3 then (a_shl 1 v5 : Int) else 1)) < 2147483648 ∧ -2147483648 ≤ v5 + 1 ∧ v5 + 1 < 2147483648) ∧
      am_Runs PP MLL (d + 1) m_Truths_howMany 4 [some (qi p0), z1, some (qi p2), some (qi p3), some (qi (v4 + (x3 * (if p3 = 3 then (a_shl 1 v5 : Int) else 1)))), some (qi (v5 + 1))] [] s3 (kI K))))) : am_Runs PP MLL (d + 1) m_Truths_howMany 4 [some (qi p0), z1, some (qi p2), some (qi p3), some (qi v4), some (qi v5)] [] σ (kI K) := am_wEF_ok (orc []) 200 (⟨fun c2 => (h.1 c2), fun c2 => (am_cI (h.2 c2) fun x3 s3 h3 => am_wEC_ok (orc []) [8] 200 (am_use (fun H5 => ⟨fun c4 => (Eq.mp (congrArg (fun z => am_Runs _ _ _ _ _ _ (qi z :: _) _ _) (if_pos c4 : (if p3 = 3 then (a_shl 1 v5 : Int) else 1) = a_shl 1 v5)) H5), fun c4 => (Eq.mp (congrArg (fun z => am_Runs _ _ _ _ _ _ (qi z :: _) _ _) (if_neg c4 : (if p3 = 3 then (a_shl 1 v5 : Int) else 1) = 1)) H5)⟩) (am_wEC_ok (orc []) [8] 200 (⟨⟨h3.1.1, h3.1.2.1⟩, ⟨⟨h3.1.2.2.1, h3.1.2.2.2.1⟩, ⟨⟨h3.1.2.2.2.2.1, h3.1.2.2.2.2.2⟩, h3.2⟩⟩⟩))))⟩)

theorem c_howMany (d : Nat) {n l : Nat} {e : Int} {kd : Int} {σ : am_S} {K : Int → am_S → Prop} (hn : n ≤ 40) (he : -1 ≤ e ∧ e ≤ 3) (h : K (bs n l kd (e + 1).toNat : Nat) σ) : am_Calls PP MLL (d + 2) m_Truths_howMany [qi (n : Int), qi (l : Int), qi e, qi kd] σ (kI K) := by
  refine v_Truths_howMany_0 d n l e kd σ K ?_
  by_cases hl : (l : Int) ≤ e
  · have hS : ∀ f : Nat, f ≤ (e + 1).toNat → l ≤ f → ∀ z, am_Runs PP MLL (d + 1) m_Truths_howMany 4 [some (qi (n : Int)), z, some (qi e), some (qi kd), some (qi ((bs n l kd f : Nat) : Int)), some (qi (f : Int))] [] σ (kI K) := by
      refine lp ?_ ?_
      · intro _ z
        exact v_Truths_howMany_4 d n e kd _ _ z σ K ⟨fun _ => h, fun c => absurd (by omega) c⟩
      · intro f hf ih hlf z
        have hb := bs_bd (n := n) (l := l) (kd := kd) hn (show f + 1 ≤ 4 by omega)
        rw [bs_s hlf] at hb
        refine v_Truths_howMany_4 d n e kd _ _ z σ K ⟨fun c => absurd c (by omega), fun _ => ?_⟩
        refine c_choices d hn (by omega) ?_
        rw [wy_eq (by omega), ← Int.natCast_mul]
        refine ⟨by omega, ?_⟩
        have ih := ih (by omega) z
        rw [bs_s hlf] at ih
        rw [← Int.natCast_add]
        exact ih
    have h0 := hS l (by omega) (Nat.le_refl _) (some (qi (l : Int)))
    rw [bs_l] at h0
    exact h0
  · refine v_Truths_howMany_4 d n e kd _ _ _ σ K ⟨fun _ => ?_, fun c => absurd (by omega) c⟩
    have ez : bs n l kd (e + 1).toNat = 0 := by
      obtain ⟨k, hk⟩ : ∃ k, k = (e + 1).toNat := ⟨_, rfl⟩
      rw [← hk]
      cases k with
      | zero => rfl
      | succ k => exact if_neg (by omega)
    rw [ez] at h
    exact h
theorem v_Truths_falsehood_0 (d : Nat) (aH nH aL nL aY nY aS nS : Nat) (p1 p2 : Int) (σ : am_S) (K : Int → am_S → Prop) (hR : TR σ aH nH aL nL aY nY aS nS) (h :
  (0 ≤ p1 ∧ p1 < ((nH : Nat) : Int) ∧ p1 < ((nL : Nat) : Int) ∧ -2147483648 ≤ (w32 (a_land (a_lshr (sI σ aH (Int.toNat p1)) p2) 1)) - (w32 (a_land (a_lshr (sI σ aL (Int.toNat p1)) p2) 1)) ∧ (w32 (a_land (a_lshr (sI σ aH (Int.toNat p1)) p2) 1)) - (w32 (a_land (a_lshr (sI σ aL (Int.toNat p1)) p2) 1)) < 2147483648) ∧
  K ((w32 (a_land (a_lshr (sI σ aH (Int.toNat p1)) p2) 1)) - (w32 (a_land (a_lshr (sI σ aL (Int.toNat p1)) p2) 1))) σ) : am_Runs PP MLL d m_Truths_falsehood 0 [some (qr (3, 9, 11)), some (qi p1), some (qi p2)] [] σ (kI K) := am_wEF_ok (orc [(1, aH, 21, nH), (10, aL, 21, nL)]) 200 (⟨⟨rfl, hR.2.1⟩, ⟨⟨rfl, h.1.1, h.1.2.1⟩, ⟨⟨rfl, hR.2.2.1⟩, ⟨⟨rfl, h.1.1, h.1.2.2.1⟩, ⟨⟨h.1.2.2.2.1, h.1.2.2.2.2⟩, h.2⟩⟩⟩⟩⟩)

theorem c_falsehood (d : Nat) {aH nH aL nL aY nY aS nS : Nat} {t c H L : Nat} {σ : am_S} {K : Int → am_S → Prop} (hR : TR σ aH nH aL nL aY nY aS nS) (ht : t < nH) (ht2 : t < nL) (hH : sI σ aH t = H) (hL : sI σ aL t = L) (h1 : H < 1099511627776) (h2 : L < 1099511627776) (hc : c < 64) (h : K (bt H c - bt L c) σ) : am_Calls PP MLL (d + 1) m_Truths_falsehood [qr (3, 9, 11), qi (t : Int), qi (c : Int)] σ (kI K) := by
  refine v_Truths_falsehood_0 d aH nH aL nL aY nY aS nS t c σ K hR ?_
  have q1 := bt_01 H c
  have q2 := bt_01 L c
  rw [Int.toNat_natCast, hH, hL, lbit (by omega) hc, lbit (by omega) hc, w32_id (by omega) (by omega), w32_id (by omega) (by omega)]
  exact ⟨by omega, h⟩
theorem v_Truths_difference_0 (d : Nat) (aH nH aL nL aY nY aS nS : Nat) (p1 p2 p4 : Int) (σ : am_S) (K : Int → am_S → Prop) (hR : TR σ aH nH aL nL aY nY aS nS) (h :
  (0 ≤ p1 ∧ p1 < ((nH : Nat) : Int) ∧ p1 < ((nL : Nat) : Int)) ∧
  (0 ≤ (a_lor (a_land (sI σ aH (Int.toNat p1)) p2) (a_land (sI σ aL (Int.toNat p1)) p4)) ∧ (a_lor (a_land (sI σ aH (Int.toNat p1)) p2) (a_land (sI σ aL (Int.toNat p1)) p4)) < 1099511627776) ∧
  (0 ≤ (a_lor (a_land (sI σ aH (Int.toNat p1)) p4) (a_land (sI σ aL (Int.toNat p1)) p2)) ∧ (a_lor (a_land (sI σ aH (Int.toNat p1)) p4) (a_land (sI σ aL (Int.toNat p1)) p2)) < 1099511627776) ∧
  (-2147483648 ≤ (pc (Int.toNat (a_lor (a_land (sI σ aH (Int.toNat p1)) p2) (a_land (sI σ aL (Int.toNat p1)) p4)))) - (pc (Int.toNat (a_lor (a_land (sI σ aH (Int.toNat p1)) p4) (a_land (sI σ aL (Int.toNat p1)) p2)))) ∧ (pc (Int.toNat (a_lor (a_land (sI σ aH (Int.toNat p1)) p2) (a_land (sI σ aL (Int.toNat p1)) p4)))) - (pc (Int.toNat (a_lor (a_land (sI σ aH (Int.toNat p1)) p4) (a_land (sI σ aL (Int.toNat p1)) p2)))) < 2147483648) ∧
  K ((pc (Int.toNat (a_lor (a_land (sI σ aH (Int.toNat p1)) p2) (a_land (sI σ aL (Int.toNat p1)) p4)))) - (pc (Int.toNat (a_lor (a_land (sI σ aH (Int.toNat p1)) p4) (a_land (sI σ aL (Int.toNat p1)) p2))))) σ) : am_Runs PP MLL (d + 1) m_Truths_difference 0 [some (qr (3, 9, 11)), some (qi p1), some (ql p2), none, some (ql p4), none, none, none, none, none] [] σ (kI K) := am_wEF_ok (orc [(1, aH, 21, nH), (7, aL, 21, nL), (15, aH, 21, nH), (21, aL, 21, nL)]) 200 (⟨⟨rfl, hR.2.1⟩, ⟨⟨rfl, h.1.1, h.1.2.1⟩, ⟨⟨rfl, hR.2.2.1⟩, ⟨⟨rfl, h.1.1, h.1.2.2⟩, ⟨⟨rfl, hR.2.1⟩, ⟨⟨rfl, h.1.1, h.1.2.1⟩, ⟨⟨rfl, hR.2.2.1⟩, ⟨⟨rfl, h.1.1, h.1.2.2⟩, c_lbcI _ h.2.1.1 h.2.1.2 (c_lbcI _ h.2.2.1.1 h.2.2.1.2 (⟨⟨h.2.2.2.1.1, h.2.2.2.1.2⟩, h.2.2.2.2⟩))⟩⟩⟩⟩⟩⟩⟩⟩)

theorem c_difference (d : Nat) {aH nH aL nL aY nY aS nS : Nat} {t H L lf rt : Nat} {σ : am_S} {K : Int → am_S → Prop} (hR : TR σ aH nH aL nL aY nY aS nS) (ht : t < nH) (ht2 : t < nL) (hH : sI σ aH t = H) (hL : sI σ aL t = L) (h1 : H < 1099511627776) (h2 : L < 1099511627776) (hl : lf < 1099511627776) (hr : rt < 1099511627776) (h : K (pc ((H &&& lf) ||| (L &&& rt)) - pc ((H &&& rt) ||| (L &&& lf))) σ) : am_Calls PP MLL (d + 2) m_Truths_difference [qr (3, 9, 11), qi (t : Int), ql (lf : Int), ql (rt : Int)] σ (kI K) := by
  refine v_Truths_difference_0 d aH nH aL nL aY nY aS nS t lf rt σ K hR ?_
  have b1 : (H &&& lf) < 1099511627776 := Nat.lt_of_le_of_lt Nat.and_le_left h1
  have b2 : (L &&& rt) < 1099511627776 := Nat.lt_of_le_of_lt Nat.and_le_left h2
  have b3 : (H &&& rt) < 1099511627776 := Nat.lt_of_le_of_lt Nat.and_le_left h1
  have b4 : (L &&& lf) < 1099511627776 := Nat.lt_of_le_of_lt Nat.and_le_left h2
  have b5 : ((H &&& lf) ||| (L &&& rt)) < 1099511627776 := Nat.or_lt_two_pow (n := 40) b1 b2
  have b6 : ((H &&& rt) ||| (L &&& lf)) < 1099511627776 := Nat.or_lt_two_pow (n := 40) b3 b4
  have p1 := pc_bd ((H &&& lf) ||| (L &&& rt))
  have p2 := pc_bd ((H &&& rt) ||| (L &&& lf))
  rw [Int.toNat_natCast, hH, hL, a_land_n (by omega) (by omega), a_land_n (by omega) (by omega), a_land_n (by omega) (by omega), a_land_n (by omega) (by omega), a_lor_n (by omega) (by omega), a_lor_n (by omega) (by omega), Int.toNat_natCast, Int.toNat_natCast]
  repeat' first | apply And.intro | intro _
  all_goals first | exact h | omega
theorem v_Balance_isLoadedFairly_0 (d : Nat) (β μ κ ρ : Nat → Nat) (me : Nat → Nat → Nat) (b n : Nat) (σ : am_S) (K : Int → am_S → Prop) (hB : BS σ β μ κ ρ me n) (h :
  b < n ∧
  am_Calls PP MLL (d + 1) m_Pan_bits [qr (ρ b, 2, 2)] σ (kL fun x1 s1 =>
    (BS s1 β μ κ ρ me n) ∧
    am_Calls PP MLL (d + 1) m_Pan_bits [qr (ρ b + 2, 2, 2)] s1 (kL fun x2 s2 =>
      (BS s2 β μ κ ρ me n) ∧
      am_Calls PP MLL (d + 1) m_Pan_load [qr (ρ b, 2, 2)] s2 (kI fun x3 s3 =>
        (BS s3 β μ κ ρ me n) ∧
        ((x3 = 0 →
          K 0 s3) ∧
        (¬ (x3 = 0) →
          am_Calls PP MLL (d + 1) m_Pan_load [qr (ρ b + 2, 2, 2)] s3 (kI fun x5 s5 =>
            (BS s5 β μ κ ρ me n) ∧
            ((x3 = x5 →
              (((a_cmp (a_land x1 x2) 0) = 0 →
                (0 ≤ x1 ∧ x1 < 1099511627776) ∧
                ((((pc (Int.toNat x1)) = x3) → 0 ≤ x2) ∧ (((pc (Int.toNat x1)) = x3) → x2 < 1099511627776)) ∧
                ((if (pc (Int.toNat x1)) = x3 then (if (pc (Int.toNat x2)) = x3 then (1 : Int) else 0 : Int) else 0) = 0 ∨ (if (pc (Int.toNat x1)) = x3 then (if (pc (Int.toNat x2)) = x3 then (1 : Int) else 0 : Int) else 0) = 1) ∧
                K (if (pc (Int.toNat x1)) = x3 then (if (pc (Int.toNat x2)) = x3 then (1 : Int) else 0 : Int) else 0) s5) ∧
              (¬ ((a_cmp (a_land x1 x2) 0) = 0) →
                K 0 s5))) ∧
            (¬ (x3 = x5) →
              K 0 s5))))))))) : am_Runs PP MLL (d + 1) m_Balance_isLoadedFairly 0 [some (qr (β b, 0, 9)), none, none, none, none, none] [] σ (kI K) := am_wEC_ok (orc [(1, ρ b, 2, 2), (5, ρ b + 2, 2, 2), (9, ρ b, 2, 2), (16, ρ b + 2, 2, 2)]) [38] 200 (⟨⟨rfl, (hB b h.1).2.2.2.1⟩, ⟨rfl, (am_cL h.2 fun x1 s1 h1 => ⟨⟨rfl, (h1.1 b h.1).2.2.2.2.1⟩, ⟨rfl, (am_cL h1.2 fun x2 s2 h2 => ⟨⟨rfl, (h2.1 b h.1).2.2.2.1⟩, ⟨rfl, (am_cI h2.2 fun x3 s3 h3 => ⟨fun c4 => ⟨(Or.inl rfl), (h3.2.1 c4)⟩, fun c4 => ⟨⟨rfl, (h3.1 b h.1).2.2.2.2.1⟩, ⟨rfl, (am_cI (h3.2.2 c4) fun x5 s5 h5 => ⟨fun c6 => ⟨fun c7 => c_lbcI _ ((h5.2.1 c6).1 c7).1.1 ((h5.2.1 c6).1 c7).1.2 (am_use (fun H10 => ⟨fun c8 => c_lbcI _ (((h5.2.1 c6).1 c7).2.1.1 c8) (((h5.2.1 c6).1 c7).2.1.2 c8) (⟨fun c9 => (Eq.mp (congrArg (fun z => am_Runs _ _ _ _ _ _ (qi z :: _) _ _) (Eq.trans (if_pos c8 : (if (pc (Int.toNat x1)) = x3 then (if (pc (Int.toNat x2)) = x3 then (1 : Int) else 0 : Int) else 0) = if (pc (Int.toNat x2)) = x3 then (1 : Int) else 0) (if_pos c9 : (if (pc (Int.toNat x2)) = x3 then (1 : Int) else 0) = 1))) H10), fun c9 => (Eq.mp (congrArg (fun z => am_Runs _ _ _ _ _ _ (qi z :: _) _ _) (Eq.trans (if_pos c8 : (if (pc (Int.toNat x1)) = x3 then (if (pc (Int.toNat x2)) = x3 then (1 : Int) else 0 : Int) else 0) = if (pc (Int.toNat x2)) = x3 then (1 : Int) else 0) (if_neg c9 : (if (pc (Int.toNat x2)) = x3 then (1 : Int) else 0) = 0))) H10)⟩), fun c8 => (Eq.mp (congrArg (fun z => am_Runs _ _ _ _ _ _ (qi z :: _) _ _) (if_neg c8 : (if (pc (Int.toNat x1)) = x3 then (if (pc (Int.toNat x2)) = x3 then (1 : Int) else 0 : Int) else 0) = 0)) H10)⟩) (am_wEC_ok (orc []) [38] 200 (⟨((h5.2.1 c6).1 c7).2.2.1, ((h5.2.1 c6).1 c7).2.2.2⟩))), fun c7 => ⟨(Or.inl rfl), ((h5.2.1 c6).2 c7)⟩⟩, fun c6 => ⟨(Or.inl rfl), (h5.2.2 c6)⟩⟩)⟩⟩⟩)⟩⟩)⟩⟩)⟩⟩)

