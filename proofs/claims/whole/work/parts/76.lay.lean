/-! the class: layCoins, advance -/
/-- how many of the first i coins are of group g -/
def cng (G : Nat → Nat) (g i : Nat) : Int := sm (fun q => if G q = g then 1 else 0) i
theorem cng_bd (G : Nat → Nat) (g i : Nat) : 0 ≤ cng G g i ∧ cng G g i ≤ i := by
  have h := sm_bd (f := fun q => if G q = g then 1 else 0) (c := 1) i (fun j _ => by split <;> omega)
  unfold cng
  omega
theorem cng_s (G : Nat → Nat) (g i : Nat) : cng G g (i + 1) = cng G g i + (if G i = g then 1 else 0) := rfl
theorem cng_0 {G : Nat → Nat} {g : Nat} : ∀ i, (∀ q, q < i → G q ≠ g) → cng G g i = 0
  | 0, _ => rfl
  | i + 1, h => by
    rw [cng_s, cng_0 i (fun q hq => h q (by omega)), if_neg (h i (by omega))]
    rfl
theorem cng_mono {G : Nat → Nat} {g : Nat} : ∀ i j, i ≤ j → cng G g i ≤ cng G g j
  | i, j, h => by
    obtain ⟨k, rfl⟩ := Nat.le.dest h
    induction k with
    | zero => exact Int.le_refl _
    | succ k ih =>
      have := ih (by omega)
      rw [← Nat.add_assoc, cng_s]
      split <;> omega
/-- bits so far -/
def LB (G : Nat → Nat) (L : Nat → Int) (g i x x0 : Nat) : Prop := x < 4096 ∧ ∀ c, bt x c = if c < i ∧ G c = g ∧ cng G g c < L g then 1 else bt x0 c
def RB (G : Nat → Nat) (L R : Nat → Int) (g i x x0 : Nat) : Prop := x < 4096 ∧ ∀ c, bt x c = if c < i ∧ G c = g ∧ L g ≤ cng G g c ∧ cng G g c < L g + R g then 1 else bt x0 c
theorem a_orshl {x i : Nat} (hx : x < 4096) (hi : i < 12) : a_or (x : Int) (a_shl 1 (i : Int)) = ((x ||| 2 ^ i : Nat) : Int) ∧ (x ||| 2 ^ i) < 4096 := by
  have h2 : 2 ^ i < 4096 := Nat.pow_lt_pow_right (a := 2) (n := 12) (by omega) hi
  have e := a_shl_n (x := 1) (k := i) (by omega) (by omega)
  rw [Nat.one_mul] at e
  have e2 : a_shl 1 (i : Int) = ((2 ^ i : Nat) : Int) := e
  rw [e2, a_or_n (by omega) (by omega)]
  exact ⟨rfl, Nat.or_lt_two_pow (n := 12) hx h2⟩

theorem v_Weighings_layGroup_0 (d : Nat) (w : Nat) (p1 : Int) (σ : am_S) (K : am_S → Prop) (hW : WF σ w) (h :
  (0 ≤ p1 ∧ p1 < 12 ∧ -2147483648 ≤ (sI σ (w + 4) (Int.toNat p1)) + (sI σ (w + 5) (Int.toNat p1)) ∧ (sI σ (w + 4) (Int.toNat p1)) + (sI σ (w + 5) (Int.toNat p1)) < 2147483648) ∧
  am_Runs PP MLL d m_Weighings_layGroup 17 [some (qr (w, 10, 11)), some (qi p1), some (qi 0), some (qi ((sI σ (w + 4) (Int.toNat p1)) + (sI σ (w + 5) (Int.toNat p1)))), some (qi (sI σ (w + 2) (Int.toNat p1)))] [] σ (kV K)) : am_Runs PP MLL d m_Weighings_layGroup 0 [some (qr (w, 10, 11)), some (qi p1), none, none, none] [] σ (kV K) := am_wEF_ok (orc [(3, w + 4, 20, 12), (7, w + 5, 20, 12), (13, w + 2, 20, 12)]) 200 (⟨⟨rfl, hW.2.2.2.1⟩, ⟨⟨rfl, h.1.1, h.1.2.1⟩, ⟨⟨rfl, hW.2.2.2.2⟩, ⟨⟨rfl, h.1.1, h.1.2.1⟩, ⟨⟨h.1.2.2.1, h.1.2.2.2⟩, ⟨⟨rfl, hW.2.1⟩, ⟨⟨rfl, h.1.1, h.1.2.1⟩, h.2⟩⟩⟩⟩⟩⟩⟩)

theorem v_Weighings_layGroup_17 (d : Nat) (w : Nat) (p1 v2 v3 v4 : Int) (σ : am_S) (K : am_S → Prop) (hW : WF σ w) (h :
  (((sI σ w 5) ≤ v4 →
    K σ) ∧
  (¬ ((sI σ w 5) ≤ v4) →
    ((v3 ≤ v2 →
      K σ) ∧
    (¬ (v3 ≤ v2) →
      (0 ≤ v4 ∧ v4 < 12) ∧
      (((sI σ (w + 1) (Int.toNat v4)) = p1 →
        (0 ≤ p1 ∧ p1 < 12) ∧
        (((sI σ (w + 4) (Int.toNat p1)) ≤ v2 →
          (-2147483648 ≤ v2 + 1 ∧ v2 + 1 < 2147483648 ∧ -2147483648 ≤ v4 + 1 ∧ v4 + 1 < 2147483648) ∧
          am_Runs PP MLL d m_Weighings_layGroup 17 [some (qr (w, 10, 11)), some (qi p1), some (qi (v2 + 1)), some (qi v3), some (qi (v4 + 1))] [] (putI σ w 10 (a_or (sI σ w 10) (a_shl 1 v4))) (kV K)) ∧
        (¬ ((sI σ (w + 4) (Int.toNat p1)) ≤ v2) →
          (-2147483648 ≤ v2 + 1 ∧ v2 + 1 < 2147483648 ∧ -2147483648 ≤ v4 + 1 ∧ v4 + 1 < 2147483648) ∧
          am_Runs PP MLL d m_Weighings_layGroup 17 [some (qr (w, 10, 11)), some (qi p1), some (qi (v2 + 1)), some (qi v3), some (qi (v4 + 1))] [] (putI σ w 9 (a_or (sI σ w 9) (a_shl 1 v4))) (kV K)))) ∧
      (¬ ((sI σ (w + 1) (Int.toNat v4)) = p1) →
        (-2147483648 ≤ v4 + 1 ∧ v4 + 1 < 2147483648) ∧
        am_Runs PP MLL d m_Weighings_layGroup 17 [some (qr (w, 10, 11)), some (qi p1), some (qi v2), some (qi v3), some (qi (v4 + 1))] [] σ (kV K)))))))) : am_Runs PP MLL d m_Weighings_layGroup 17 [some (qr (w, 10, 11)), some (qi p1), some (qi v2), some (qi v3), some (qi v4)] [] σ (kV K) := am_wEF_ok (orc [(25, w + 1, 20, 12), (33, w + 4, 20, 12)]) 200 (⟨rfl, ⟨fun c5 => (h.1 c5), fun c5 => ⟨fun c9 => ((h.2 c5).1 c9), fun c9 => ⟨⟨rfl, hW.1⟩, ⟨⟨rfl, ((h.2 c5).2 c9).1.1, ((h.2 c5).2 c9).1.2⟩, ⟨fun c12 => ⟨⟨rfl, hW.2.2.2.1⟩, ⟨⟨rfl, (((h.2 c5).2 c9).2.1 c12).1.1, (((h.2 c5).2 c9).2.1 c12).1.2⟩, ⟨fun c14 => ⟨rfl, ⟨rfl, ⟨⟨((((h.2 c5).2 c9).2.1 c12).2.1 c14).1.1, ((((h.2 c5).2 c9).2.1 c12).2.1 c14).1.2.1⟩, ⟨⟨((((h.2 c5).2 c9).2.1 c12).2.1 c14).1.2.2.1, ((((h.2 c5).2 c9).2.1 c12).2.1 c14).1.2.2.2⟩, ((((h.2 c5).2 c9).2.1 c12).2.1 c14).2⟩⟩⟩⟩, fun c14 => ⟨rfl, ⟨rfl, ⟨⟨((((h.2 c5).2 c9).2.1 c12).2.2 c14).1.1, ((((h.2 c5).2 c9).2.1 c12).2.2 c14).1.2.1⟩, ⟨⟨((((h.2 c5).2 c9).2.1 c12).2.2 c14).1.2.2.1, ((((h.2 c5).2 c9).2.1 c12).2.2 c14).1.2.2.2⟩, ((((h.2 c5).2 c9).2.1 c12).2.2 c14).2⟩⟩⟩⟩⟩⟩⟩, fun c12 => ⟨⟨(((h.2 c5).2 c9).2.2 c12).1.1, (((h.2 c5).2 c9).2.2 c12).1.2⟩, (((h.2 c5).2 c9).2.2 c12).2⟩⟩⟩⟩⟩⟩⟩)

theorem c_layGroup (d : Nat) {w g n N l0 r0 lst : Nat} {G : Nat → Nat} {σ : am_S} {K : am_S → Prop} (hW : WF σ w) (hN : sI σ w 5 = N) (hN2 : N ≤ 12) (hg : g < n) (hn : n ≤ 12) (hG : ∀ c, c < N → sI σ (w + 1) c = G c) (hlst : sI σ (w + 2) g = lst) (hl1 : lst < N) (hl2 : ∀ q, q < lst → G q ≠ g) (hL : 0 ≤ sI σ (w + 4) g ∧ sI σ (w + 4) g ≤ 12) (hR : 0 ≤ sI σ (w + 5) g ∧ sI σ (w + 5) g ≤ 12) (h9 : sI σ w 9 = l0) (h10 : sI σ w 10 = r0) (hl0 : l0 < 4096) (hr0 : r0 < 4096)
    (h : ∀ l r, LB G (sI σ (w + 4)) g N l l0 → RB G (sI σ (w + 4)) (sI σ (w + 5)) g N r r0 → K (putI (putI σ w 9 (l : Int)) w 10 (r : Int))) : am_Calls PP MLL (d + 1) m_Weighings_layGroup [qr (w, 10, 11), qi (g : Int)] σ (kV K) := by
  obtain ⟨L, eL⟩ : ∃ L, L = sI σ (w + 4) := ⟨_, rfl⟩
  obtain ⟨R, eR⟩ : ∃ R, R = sI σ (w + 5) := ⟨_, rfl⟩
  rw [← eL, ← eR] at h
  rw [← eL] at hL
  rw [← eR] at hR
  refine v_Weighings_layGroup_0 d w g σ K hW ?_
  rw [Int.toNat_natCast, ← eL, ← eR, hlst]
  refine ⟨by omega, ?_⟩
  have o1 : ∀ (l r : Int) x, x ≠ w → sI (putI (putI σ w 9 l) w 10 r) x = sI σ x := fun l r x hx => by rw [put_ne hx, put_ne hx]
  have o5 : ∀ (l r : Int) j, j ≠ 9 → j ≠ 10 → sI (putI (putI σ w 9 l) w 10 r) w j = sI σ w j := fun l r j q1 q2 => by rw [put_at, if_neg q2, put_at, if_neg q1]
  have fin : ∀ (i l r : Nat), i ≤ N → (i = N ∨ L g + R g ≤ cng G g i) → LB G L g i l l0 → RB G L R g i r r0 → K (putI (putI σ w 9 (l : Int)) w 10 (r : Int)) := by
    intro i l r hi hc hl hr
    refine h l r ⟨hl.1, fun c => ?_⟩ ⟨hr.1, fun c => ?_⟩
    · rw [hl.2 c]
      by_cases e : c < i ∧ G c = g ∧ cng G g c < L g
      · rw [if_pos e, if_pos ⟨by omega, e.2⟩]
      · rw [if_neg e]
        by_cases e2 : c < N ∧ G c = g ∧ cng G g c < L g
        · exfalso
          have hci : i ≤ c := by
            rcases Nat.lt_or_ge c i with q | q
            · exact absurd ⟨q, e2.2⟩ e
            · exact q
          have := cng_mono (G := G) (g := g) i c hci
          omega
        · rw [if_neg e2]
    · rw [hr.2 c]
      by_cases e : c < i ∧ G c = g ∧ L g ≤ cng G g c ∧ cng G g c < L g + R g
      · rw [if_pos e, if_pos ⟨by omega, e.2⟩]
      · rw [if_neg e]
        by_cases e2 : c < N ∧ G c = g ∧ L g ≤ cng G g c ∧ cng G g c < L g + R g
        · exfalso
          have hci : i ≤ c := by
            rcases Nat.lt_or_ge c i with q | q
            · exact absurd ⟨q, e2.2⟩ e
            · exact q
          have := cng_mono (G := G) (g := g) i c hci
          omega
        · rw [if_neg e2]
  have lp0 : ∀ i : Nat, i ≤ N → ∀ l r : Nat, cng G g i ≤ L g + R g → LB G L g i l l0 → RB G L R g i r r0 → am_Runs PP MLL d m_Weighings_layGroup 17 [some (qr (w, 10, 11)), some (qi (g : Int)), some (qi (cng G g i)), some (qi (L g + R g)), some (qi (i : Int))] [] (putI (putI σ w 9 (l : Int)) w 10 (r : Int)) (kV K) := by
    refine lp ?_ ?_
    · intro l r hc hl hr
      refine v_Weighings_layGroup_17 d w g _ _ _ _ K hW ⟨fun _ => fin N l r (Nat.le_refl _) (Or.inl rfl) hl hr, fun c => absurd ?_ c⟩
      rw [o5 _ _ _ (by decide) (by decide)]
      omega
    · intro i hi ih l r hc hl hr
      have hcb := cng_bd G g i
      refine v_Weighings_layGroup_17 d w g _ _ _ _ K hW ⟨fun c => absurd c ?_, fun _ => ⟨fun c1 => fin i l r (by omega) (Or.inr c1) hl hr, fun c1 => ?_⟩⟩
      · rw [o5 _ _ _ (by decide) (by decide)]
        omega
      · rw [Int.toNat_natCast, Int.toNat_natCast, o1 _ _ _ (show w + 1 ≠ w by omega), hG i hi]
        have es := cng_s G g i
        refine ⟨by omega, fun c2 => ⟨by omega, fun c3 => ⟨by omega, ?_⟩, fun c3 => ⟨by omega, ?_⟩⟩, fun c2 => ⟨by omega, ?_⟩⟩
        · have c2' : G i = g := by omega
          rw [o1 _ _ _ (show w + 4 ≠ w by omega), ← eL] at c3
          rw [if_pos c2'] at es
          obtain ⟨q1, q2⟩ := a_orshl (x := r) hr.1 (show i < 12 by omega)
          have e10 : sI (putI (putI σ w 9 (l : Int)) w 10 (r : Int)) w 10 = r := by rw [put_at, if_pos rfl]
          rw [e10, q1, ← es]
          have hl' : LB G L g (i + 1) l l0 := ⟨hl.1, fun c => by
            rw [hl.2 c]
            by_cases e : c = i
            · rw [if_neg (by omega), e, if_neg (by omega)]
            · by_cases e2 : c < i
              · have : (c < i ∧ G c = g ∧ cng G g c < L g) ↔ (c < i + 1 ∧ G c = g ∧ cng G g c < L g) := by omega
                simp only [this]
              · rw [if_neg (by omega), if_neg (by omega)]⟩
          have hr' : RB G L R g (i + 1) (r ||| 2 ^ i) r0 := ⟨q2, fun c => by
            rw [bt_or, bt_pow, hr.2 c]
            by_cases e : c = i
            · rw [if_pos e, e, if_neg (by omega), if_pos (by omega)]
              omega
            · rw [if_neg e]
              by_cases e2 : c < i
              · have : (c < i ∧ G c = g ∧ L g ≤ cng G g c ∧ cng G g c < L g + R g) ↔ (c < i + 1 ∧ G c = g ∧ L g ≤ cng G g c ∧ cng G g c < L g + R g) := by omega
                simp only [this]
                omega
              · rw [if_neg (by omega), if_neg (by omega)]
                omega⟩
          refine runs_st ?_ (ih l (r ||| 2 ^ i) (by omega) hl' hr')
          refine sto_ext (fun x y => ?_) rfl
          by_cases ex : x = w
          · rw [ex, put_at, put_at, put_at, put_at, put_at]
            (repeat' split) <;> first | rfl | omega
          · rw [put_ne ex, put_ne ex, put_ne ex, put_ne ex, put_ne ex]
        · have c2' : G i = g := by omega
          rw [o1 _ _ _ (show w + 4 ≠ w by omega), ← eL] at c3
          rw [if_pos c2'] at es
          obtain ⟨q1, q2⟩ := a_orshl (x := l) hl.1 (show i < 12 by omega)
          have e9 : sI (putI (putI σ w 9 (l : Int)) w 10 (r : Int)) w 9 = l := by rw [put_at, if_neg (by decide), put_at, if_pos rfl]
          rw [e9, q1, ← es]
          have hr' : RB G L R g (i + 1) r r0 := ⟨hr.1, fun c => by
            rw [hr.2 c]
            by_cases e : c = i
            · rw [if_neg (by omega), e, if_neg (by omega)]
            · by_cases e2 : c < i
              · have : (c < i ∧ G c = g ∧ L g ≤ cng G g c ∧ cng G g c < L g + R g) ↔ (c < i + 1 ∧ G c = g ∧ L g ≤ cng G g c ∧ cng G g c < L g + R g) := by omega
                simp only [this]
              · rw [if_neg (by omega), if_neg (by omega)]⟩
          have hl' : LB G L g (i + 1) (l ||| 2 ^ i) l0 := ⟨q2, fun c => by
            rw [bt_or, bt_pow, hl.2 c]
            by_cases e : c = i
            · rw [if_pos e, e, if_neg (by omega), if_pos (by omega)]
              omega
            · rw [if_neg e]
              by_cases e2 : c < i
              · have : (c < i ∧ G c = g ∧ cng G g c < L g) ↔ (c < i + 1 ∧ G c = g ∧ cng G g c < L g) := by omega
                simp only [this]
                omega
              · rw [if_neg (by omega), if_neg (by omega)]
                omega⟩
          refine runs_st ?_ (ih (l ||| 2 ^ i) r (by omega) hl' hr')
          refine sto_ext (fun x y => ?_) rfl
          by_cases ex : x = w
          · rw [ex, put_at, put_at, put_at, put_at, put_at]
            (repeat' split) <;> first | rfl | omega
          · rw [put_ne ex, put_ne ex, put_ne ex, put_ne ex, put_ne ex]
        · have c2' : ¬ G i = g := by omega
          rw [if_neg c2', Int.add_zero] at es
          rw [← es]
          refine ih l r (by omega) ⟨hl.1, fun c => ?_⟩ ⟨hr.1, fun c => ?_⟩
          · rw [hl.2 c]
            have : (c < i ∧ G c = g ∧ cng G g c < L g) ↔ (c < i + 1 ∧ G c = g ∧ cng G g c < L g) := by
              by_cases e : c = i
              · rw [e]
                constructor
                · intro q; omega
                · intro q; exact absurd q.2.1 c2'
              · omega
            simp only [this]
          · rw [hr.2 c]
            have : (c < i ∧ G c = g ∧ L g ≤ cng G g c ∧ cng G g c < L g + R g) ↔ (c < i + 1 ∧ G c = g ∧ L g ≤ cng G g c ∧ cng G g c < L g + R g) := by
              by_cases e : c = i
              · rw [e]
                constructor
                · intro q; omega
                · intro q; exact absurd q.2.1 c2'
              · omega
            simp only [this]
  have hc0 := cng_0 (G := G) (g := g) lst hl2
  have st := lp0 lst (by omega) l0 r0 (by omega) ⟨hl0, fun c => by rw [if_neg (fun q => hl2 c q.1 q.2.1)]⟩ ⟨hr0, fun c => by rw [if_neg (fun q => hl2 c q.1 q.2.1)]⟩
  rw [hc0] at st
  refine runs_st ?_ st
  refine sto_ext (fun x y => ?_) rfl
  by_cases ex : x = w
  · rw [ex, put_at, put_at]
    by_cases e1 : y = 10
    · rw [if_pos e1, e1, h10]
    · rw [if_neg e1]
      by_cases e2 : y = 9
      · rw [if_pos e2, e2, h9]
      · rw [if_neg e2]
  · rw [put_ne ex, put_ne ex]
theorem v_Weighings_layCoins_0 (d : Nat) (w : Nat) (σ : am_S) (K : am_S → Prop) (hW : WF σ w) (h :
  am_Runs PP MLL (d + 1) m_Weighings_layCoins 8 [some (qr (w, 10, 11)), some (qi 0)] [] (putI (putI σ w 9 0) w 10 0) (kV K)) : am_Runs PP MLL (d + 1) m_Weighings_layCoins 0 [some (qr (w, 10, 11)), none] [] σ (kV K) := am_wEF_ok (orc []) 200 (⟨rfl, ⟨rfl, h⟩⟩)

theorem v_Weighings_layCoins_8 (d : Nat) (w : Nat) (v1 : Int) (σ : am_S) (K : am_S → Prop) (hW : WF σ w) (h :
  (((sI σ w 6) ≤ v1 →
    K σ) ∧
  (¬ ((sI σ w 6) ≤ v1) →
    am_Calls PP MLL (d + 1) m_Weighings_layGroup [qr (w, 10, 11), qi v1] σ (kV fun s3 =>
      (WF s3 w) ∧
      (-2147483648 ≤ v1 + 1 ∧ v1 + 1 < 2147483648) ∧
      am_Runs PP MLL (d + 1) m_Weighings_layCoins 8 [some (qr (w, 10, 11)), some (qi (v1 + 1))] [] s3 (kV K))))) : am_Runs PP MLL (d + 1) m_Weighings_layCoins 8 [some (qr (w, 10, 11)), some (qi v1)] [] σ (kV K) := am_wEF_ok (orc []) 200 (⟨rfl, ⟨fun c2 => (h.1 c2), fun c2 => ⟨rfl, (am_cV (h.2 c2) fun s3 h3 => ⟨⟨h3.2.1.1, h3.2.1.2⟩, h3.2.2⟩)⟩⟩⟩)

