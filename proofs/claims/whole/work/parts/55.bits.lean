/-! bits as numbers: and, or, xor, sums over bits -/
theorem bt_tb (x c : Nat) : bt x c = if x.testBit c then 1 else 0 := by
  unfold bt
  rw [Nat.testBit_eq_decide_div_mod_eq]
  by_cases h : x / 2 ^ c % 2 = 1
  · rw [h, decide_eq_true rfl]; rfl
  · have : x / 2 ^ c % 2 = 0 := by omega
    rw [this]; rfl
theorem bt_and (x y c : Nat) : bt (x &&& y) c = bt x c * bt y c := by
  rw [bt_tb, bt_tb, bt_tb, Nat.testBit_and]
  cases x.testBit c <;> cases y.testBit c <;> rfl
theorem bt_or (x y c : Nat) : bt (x ||| y) c = bt x c + bt y c - bt x c * bt y c := by
  rw [bt_tb, bt_tb, bt_tb, Nat.testBit_or]
  cases x.testBit c <;> cases y.testBit c <;> rfl
theorem bt_xor (x y c : Nat) : bt (x ^^^ y) c = bt x c + bt y c - 2 * (bt x c * bt y c) := by
  rw [bt_tb, bt_tb, bt_tb, Nat.testBit_xor]
  cases x.testBit c <;> cases y.testBit c <;> rfl
theorem bt_0 (c : Nat) : bt 0 c = 0 := by
  unfold bt
  rw [Nat.zero_div]; rfl
theorem bt_pow (k c : Nat) : bt (2 ^ k) c = if c = k then 1 else 0 := by
  rw [bt_tb, Nat.testBit_two_pow]
  by_cases h : k = c
  · rw [decide_eq_true h, if_pos rfl, if_pos h.symm]
  · rw [decide_eq_false h, if_neg (c := c = k) (fun e => h e.symm)]; rfl
theorem bt_big {x c : Nat} (hx : x < 1099511627776) (hc : 40 ≤ c) : bt x c = 0 := by
  have h : x < 2 ^ c := Nat.lt_of_lt_of_le hx (Nat.pow_le_pow_right (n := 2) (i := 40) (by omega) hc)
  rw [bt_tb, Nat.testBit_lt_two_pow h]; rfl
theorem bt_ext {x y : Nat} (h : ∀ c, bt x c = bt y c) : x = y := by
  refine Nat.eq_of_testBit_eq fun c => ?_
  have := h c
  rw [bt_tb, bt_tb] at this
  cases hx : x.testBit c <;> cases hy : y.testBit c <;> rw [hx, hy] at this <;> first | rfl | (exfalso; revert this; decide)
/-- how many bits -/
def pc (x : Nat) : Int := sm (bt x) 40
theorem sm_lin (f g : Nat → Int) : ∀ n, sm (fun c => f c + g c) n = sm f n + sm g n
  | 0 => rfl
  | n + 1 => by
    show sm (fun c => f c + g c) n + (f n + g n) = (sm f n + f n) + (sm g n + g n)
    rw [sm_lin f g n]; omega
theorem sm_sub (f g : Nat → Int) : ∀ n, sm (fun c => f c - g c) n = sm f n - sm g n
  | 0 => rfl
  | n + 1 => by
    show sm (fun c => f c - g c) n + (f n - g n) = (sm f n + f n) - (sm g n + g n)
    rw [sm_sub f g n]; omega
theorem sm_zero : ∀ n, sm (fun _ => 0) n = 0
  | 0 => rfl
  | n + 1 => by
    show sm (fun _ => 0) n + 0 = 0
    rw [sm_zero n]; rfl
theorem sm_one {k : Nat} {v : Int} : ∀ n, sm (fun c => if c = k then v else 0) n = if k < n then v else 0
  | 0 => rfl
  | n + 1 => by
    show sm (fun c => if c = k then v else 0) n + (if n = k then v else 0) = _
    rw [sm_one n]
    by_cases h : n = k
    · rw [if_neg (by omega), if_pos h, if_pos (by omega), Int.zero_add]
    · rw [if_neg h, Int.add_zero]
      by_cases h2 : k < n
      · rw [if_pos h2, if_pos (by omega)]
      · rw [if_neg h2, if_neg (by omega)]
theorem pc_bd (x : Nat) : 0 ≤ pc x ∧ pc x ≤ 40 := by
  have h := sm_bd (f := bt x) (c := 1) 40 (fun i _ => bt_01 x i)
  unfold pc
  omega
/-- the difference of pans by bits -/
theorem pc_diff {H L l r : Nat} (h1 : ∀ c, bt H c * bt L c = 0) (h2 : ∀ c, bt l c * bt r c = 0) : pc ((H &&& l) ||| (L &&& r)) - pc ((H &&& r) ||| (L &&& l)) = sm (fun c => (bt l c - bt r c) * (bt H c - bt L c)) 40 := by
  unfold pc
  rw [← sm_sub]
  refine sm_congr 40 (fun c _ => ?_)
  have a := h1 c
  have b := h2 c
  rw [bt_or, bt_or, bt_and, bt_and, bt_and, bt_and]
  have q1 := bt_01 H c
  have q2 := bt_01 L c
  have q3 := bt_01 l c
  have q4 := bt_01 r c
  rcases (show bt H c = 0 ∨ bt H c = 1 by omega) with e1 | e1 <;> rcases (show bt L c = 0 ∨ bt L c = 1 by omega) with e2 | e2 <;> rcases (show bt l c = 0 ∨ bt l c = 1 by omega) with e3 | e3 <;> rcases (show bt r c = 0 ∨ bt r c = 1 by omega) with e4 | e4 <;> rw [e1, e2] at a <;> rw [e3, e4] at b <;> rw [e1, e2, e3, e4] <;> first | rfl | (exfalso; revert a; decide) | (exfalso; revert b; decide)
/-- the sum over the coins is the sum over the false coins -/
theorem sm_sig {n f x y z w : Nat} {kd : Int} {s : Nat → Int} (hn : n ≤ 40) (hf : f ≤ 3) (h1 : 1 ≤ f → x < n) (h2 : 2 ≤ f → x < y ∧ y < n) (h3 : 3 ≤ f → y < z ∧ z < n) : sm (fun c => s c * sig f x y z kd w c) 40 = sm (fun i => s (cni x y z i).toNat * sgw kd f w i) f := by
  have e : ∀ c, s c * sig f x y z kd w c = ((if c = x then (if 0 < f then s x * sgw kd f w 0 else 0) else 0) + (if c = y then (if 1 < f then s y * sgw kd f w 1 else 0) else 0)) + (if c = z then (if 2 < f then s z * sgw kd f w 2 else 0) else 0) := by
    intro c
    unfold sig
    rcases (show f = 0 ∨ f = 1 ∨ f = 2 ∨ f = 3 by omega) with rfl | rfl | rfl | rfl
    · simp
    · by_cases q : c = x
      · subst q; simp
      · simp [q]
    · have h2 := h2 (by omega)
      by_cases q : c = x
      · subst q
        have : ¬ c = y := by omega
        simp [this]
      · by_cases q2 : c = y
        · subst q2; simp [q]
        · simp [q, q2]
    · have h2 := h2 (by omega)
      have h3 := h3 (by omega)
      by_cases q : c = x
      · subst q
        have : ¬ c = y := by omega
        have : ¬ c = z := by omega
        simp [*]
      · by_cases q2 : c = y
        · subst q2
          have : ¬ c = z := by omega
          simp [*]
        · by_cases q3 : c = z
          · subst q3; simp [q, q2]
          · simp [q, q2, q3]
  rw [sm_congr 40 (fun c _ => e c), sm_lin, sm_lin, sm_one, sm_one, sm_one]
  have c0 : (cni x y z 0).toNat = x := by unfold cni; rw [if_pos rfl]; omega
  have c1 : (cni x y z 1).toNat = y := by unfold cni; rw [if_neg (by decide), if_pos rfl]; omega
  have c2 : (cni x y z 2).toNat = z := by unfold cni; rw [if_neg (by decide), if_neg (by decide)]; omega
  rcases (show f = 0 ∨ f = 1 ∨ f = 2 ∨ f = 3 by omega) with rfl | rfl | rfl | rfl
  · simp [sm]
  · have h1 := h1 (by omega)
    show (if x < 40 then _ else _) + _ + _ = 0 + s (cni x y z 0).toNat * sgw kd 1 w 0
    rw [c0, if_pos (by omega), if_pos (by omega)]
    simp
  · have h1 := h1 (by omega)
    have h2 := h2 (by omega)
    show (if x < 40 then _ else _) + _ + _ = (0 + s (cni x y z 0).toNat * sgw kd 2 w 0) + s (cni x y z 1).toNat * sgw kd 2 w 1
    rw [c0, c1, if_pos (by omega), if_pos (by omega), if_pos (by omega), if_pos (by omega)]
    simp
  · have h1 := h1 (by omega)
    have h2 := h2 (by omega)
    have h3 := h3 (by omega)
    show (if x < 40 then _ else _) + _ + _ = ((0 + s (cni x y z 0).toNat * sgw kd 3 w 0) + s (cni x y z 1).toNat * sgw kd 3 w 1) + s (cni x y z 2).toNat * sgw kd 3 w 2
    rw [c0, c1, c2, if_pos (by omega), if_pos (by omega), if_pos (by omega), if_pos (by omega), if_pos (by omega), if_pos (by omega)]
    simp
/-- the class's bits of a truth -/
def HB (H L f x y z w : Nat) (kd : Int) : Prop := H < 1099511627776 ∧ L < 1099511627776 ∧ ∀ c, bt H c - bt L c = sig f x y z kd w c ∧ bt H c * bt L c = 0
theorem HB_diff {σ : am_S} {n l m t H L f x y z w lf rt : Nat} {kd : Int} (hn : n ≤ 40) (hv : Vc n l m kd f x y z w) (hc : CT σ t f x y z kd w) (hb : HB H L f x y z w kd) (hlr : ∀ c, bt lf c * bt rt c = 0) : pc ((H &&& lf) ||| (L &&& rt)) - pc ((H &&& rt) ||| (L &&& lf)) = df (fun c => bt lf c - bt rt c) (sI σ 33) (sI σ 34) (sI σ 35) t := by
  rw [pc_diff (fun c => (hb.2.2 c).2) hlr]
  have e : sm (fun c => (bt lf c - bt rt c) * (bt H c - bt L c)) 40 = sm (fun c => (bt lf c - bt rt c) * sig f x y z kd w c) 40 := sm_congr 40 (fun c _ => by rw [(hb.2.2 c).1])
  rw [e, sm_sig hn hv.2.2.1 hv.2.2.2.1 hv.2.2.2.2.1 hv.2.2.2.2.2.1]
  unfold df
  rw [hc.1, Int.toNat_natCast]
  exact sm_congr f (fun i hi => by rw [(hc.2 i hi).1, (hc.2 i hi).2])
theorem df_congr {s s' m c g : Nat → Int} {N : Int} {t : Nat} (hv : TVt m c g N t) (hN : N ≤ 40) (h : ∀ k, k < 40 → s k = s' k) : df s m c g t = df s' m c g t := by
  unfold df
  refine sm_congr _ (fun i hi => ?_)
  have := hv.2.2 i (by omega)
  rw [h _ (by omega)]
