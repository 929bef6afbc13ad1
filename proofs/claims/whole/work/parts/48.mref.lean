/-! the reference: exchanged, alike -/
/-- what a coin is under a set and way -/
def sig (f x y z : Nat) (kd : Int) (w c : Nat) : Int := if 0 < f ∧ c = x then sgw kd f w 0 else if 1 < f ∧ c = y then sgw kd f w 1 else if 2 < f ∧ c = z then sgw kd f w 2 else 0
def ex (a b c : Nat) : Nat := if c = a then b else if c = b then a else c
theorem ex_iff {a b c x : Nat} : c = ex a b x ↔ ex a b c = x := by
  unfold ex
  constructor <;> intro h <;> (repeat' split at h) <;> (repeat' split) <;> omega
theorem ex_lt {a b c n : Nat} (ha : a < n) (hb : b < n) (hc : c < n) : ex a b c < n := by
  unfold ex
  (repeat' split) <;> omega
theorem ex_inj {a b x y : Nat} (h : ex a b x = ex a b y) : x = y := by
  unfold ex at h
  (repeat' split at h) <;> omega
def CT (s : am_S) (t f x y z : Nat) (kd : Int) (w : Nat) : Prop := sI s 33 t = f ∧ ∀ i, i < f → sI s 34 (3 * t + i) = cni x y z i ∧ sI s 35 (3 * t + i) = sgw kd f w i
def EX (n l m : Nat) (kd : Int) (f x y z w a b u : Nat) : Prop := ∃ x' y' z' w', Vc n l m kd f x' y' z' w' ∧ u = Nm n l kd f x' y' z' w' ∧ ∀ c, sig f x' y' z' kd w' c = sig f x y z kd w (ex a b c)
/-- a sign that a kind allows -/
def okg (kd g : Int) : Prop := if kd = 1 then g = 1 else if kd = 2 then g = -1 else g = 1 ∨ g = -1
theorem sgw_ok (kd : Int) (f w i : Nat) : okg kd (sgw kd f w i) := by
  unfold okg sgw
  split
  · rfl
  · split
    · rfl
    · split
      · exact Or.inl rfl
      · exact Or.inr rfl
theorem sgw_ws {kd : Int} {f : Nat} {g : Nat → Int} (hk : kd = 1 ∨ kd = 2 ∨ kd = 3) (hf : f ≤ 3) (hg : ∀ i, i < f → okg kd (g i)) : (if kd = 3 then ws g f else 0) < wy kd f ∧ ∀ i, i < f → sgw kd f (if kd = 3 then ws g f else 0) i = g i := by
  rcases hk with rfl | rfl | rfl
  · refine ⟨by rw [if_neg (by decide)]; exact wy_pos _ _, fun i hi => ?_⟩
    have := hg i hi
    unfold okg at this
    rw [if_pos rfl] at this
    rw [this]; rfl
  · refine ⟨by rw [if_neg (by decide)]; exact wy_pos _ _, fun i hi => ?_⟩
    have := hg i hi
    unfold okg at this
    rw [if_neg (by decide), if_pos rfl] at this
    rw [this]; rfl
  · have hg : ∀ i, i < f → g i = 1 ∨ g i = -1 := by
      intro i hi
      have := hg i hi
      unfold okg at this
      rw [if_neg (by decide), if_neg (by decide)] at this
      exact this
    rw [if_pos rfl]
    refine ⟨ws_lt g f, ?_⟩
    rcases (show f = 0 ∨ f = 1 ∨ f = 2 ∨ f = 3 by omega) with rfl | rfl | rfl | rfl
    · intro i hi; omega
    · intro i hi
      have hi : i = 0 := by omega
      subst hi
      rcases hg 0 (by omega) with h0 | h0 <;> (unfold ws ws; rw [h0]; decide)
    · intro i hi
      rcases hg 0 (by omega) with h0 | h0 <;> rcases hg 1 (by omega) with h1 | h1 <;> rcases (show i = 0 ∨ i = 1 by omega) with rfl | rfl <;> (unfold ws ws ws; rw [h0, h1]; decide)
    · intro i hi
      rcases hg 0 (by omega) with h0 | h0 <;> rcases hg 1 (by omega) with h1 | h1 <;> rcases hg 2 (by omega) with h2 | h2 <;> rcases (show i = 0 ∨ i = 1 ∨ i = 2 by omega) with rfl | rfl | rfl <;> (unfold ws ws ws ws; rw [h0, h1, h2]; decide)
def gg (u v : Int) (i : Nat) : Int := if i = 0 then u else v
def asg (x y z g0 g1 g2 c : Int) : Int := if c = x then g0 else if c = y then g1 else if c = z then g2 else 0
theorem sort3 {p q r g0 g1 g2 p1 q1 r1 h0 h1 h2 p2 q2 r2 k0 k1 k2 p3 q3 r3 l0 l1 l2 : Int} (hpq : p ≠ q) (hpr : p ≠ r) (hqr : q ≠ r)
    (s1 : (p ≤ q ∧ p1 = p ∧ q1 = q ∧ h0 = g0 ∧ h1 = g1) ∨ (q < p ∧ p1 = q ∧ q1 = p ∧ h0 = g1 ∧ h1 = g0)) (t1 : r1 = r ∧ h2 = g2)
    (s2 : (q1 ≤ r1 ∧ q2 = q1 ∧ r2 = r1 ∧ k1 = h1 ∧ k2 = h2) ∨ (r1 < q1 ∧ q2 = r1 ∧ r2 = q1 ∧ k1 = h2 ∧ k2 = h1)) (t2 : p2 = p1 ∧ k0 = h0)
    (s3 : (p2 ≤ q2 ∧ p3 = p2 ∧ q3 = q2 ∧ l0 = k0 ∧ l1 = k1) ∨ (q2 < p2 ∧ p3 = q2 ∧ q3 = p2 ∧ l0 = k1 ∧ l1 = k0)) (t3 : r3 = r2 ∧ l2 = k2) :
    p3 < q3 ∧ q3 < r3 ∧ (∀ c, asg p3 q3 r3 l0 l1 l2 c = asg p q r g0 g1 g2 c) ∧ (∀ Q : Int → Prop, Q g0 → Q g1 → Q g2 → Q l0 ∧ Q l1 ∧ Q l2) ∧ (∀ Q : Int → Prop, Q p → Q q → Q r → Q p3 ∧ Q q3 ∧ Q r3) := by
  obtain ⟨t1, t1'⟩ := t1
  obtain ⟨t2, t2'⟩ := t2
  obtain ⟨t3, t3'⟩ := t3
  subst t1 t1' t2 t2' t3 t3'
  rcases s1 with ⟨a1, rfl, rfl, rfl, rfl⟩ | ⟨a1, rfl, rfl, rfl, rfl⟩ <;> rcases s2 with ⟨a2, rfl, rfl, rfl, rfl⟩ | ⟨a2, rfl, rfl, rfl, rfl⟩ <;> rcases s3 with ⟨a3, rfl, rfl, rfl, rfl⟩ | ⟨a3, rfl, rfl, rfl, rfl⟩ <;>
    (refine ⟨by omega, by omega, fun c => ?_, fun Q x y z => ⟨by assumption, by assumption, by assumption⟩, fun Q x y z => ⟨by assumption, by assumption, by assumption⟩⟩
     unfold asg
     (repeat' split) <;> first | rfl | omega)

theorem v_M_exchanged_0 (d : Nat) (p1 p2 p3 : Int) (σ : am_S) (K : Int → am_S → Prop) (hF : MF σ) (h :
  (0 ≤ p1 ∧ p1 < 10000) ∧
  am_Runs PP MLL (d + 2) m_M_exchanged 7 [some (qr (31, 12, 89)), some (qi p1), some (qi p2), some (qi p3), some (qi (sI σ 33 (Int.toNat p1))), some (qi 0), none] [] σ (kI K)) : am_Runs PP MLL (d + 2) m_M_exchanged 0 [some (qr (31, 12, 89)), some (qi p1), some (qi p2), some (qi p3), none, none, none] [] σ (kI K) := am_wEC_ok (orc [(1, 33, 20, 10000)]) [33] 200 (⟨⟨rfl, (hF 7)⟩, ⟨⟨rfl, h.1.1, h.1.2⟩, h.2⟩⟩)

theorem v_M_exchanged_7 (d : Nat) (p1 p2 p3 v4 v5 : Int) (z6 : Option am_V) (σ : am_S) (K : Int → am_S → Prop) (hF : MF σ) (h :
  ((v4 ≤ v5 →
    ((v4 ≤ 1 →
      ((v4 ≤ 2 →
        ((v4 = 0 →
          K p1 σ) ∧
        (¬ (v4 = 0) →
          am_Calls PP MLL (d + 2) m_M_rankOf [qr (31, 12, 89), qi v4] σ (kI fun x10 s10 =>
            (MF s10) ∧
            K x10 s10)))) ∧
      (¬ (v4 ≤ 2) →
        am_Calls PP MLL (d + 2) m_M_swapRanked [qr (31, 12, 89), qi 1, qi 2] σ (kV fun s11 =>
          (MF s11) ∧
          am_Calls PP MLL (d + 2) m_M_swapRanked [qr (31, 12, 89), qi 0, qi 1] s11 (kV fun s12 =>
            (MF s12) ∧
            ((v4 = 0 →
              K p1 s12) ∧
            (¬ (v4 = 0) →
              am_Calls PP MLL (d + 2) m_M_rankOf [qr (31, 12, 89), qi v4] s12 (kI fun x15 s15 =>
                (MF s15) ∧
                K x15 s15)))))))) ∧
    (¬ (v4 ≤ 1) →
      am_Calls PP MLL (d + 2) m_M_swapRanked [qr (31, 12, 89), qi 0, qi 1] σ (kV fun s16 =>
        (MF s16) ∧
        ((v4 ≤ 2 →
          ((v4 = 0 →
            K p1 s16) ∧
          (¬ (v4 = 0) →
            am_Calls PP MLL (d + 2) m_M_rankOf [qr (31, 12, 89), qi v4] s16 (kI fun x21 s21 =>
              (MF s21) ∧
              K x21 s21)))) ∧
        (¬ (v4 ≤ 2) →
          am_Calls PP MLL (d + 2) m_M_swapRanked [qr (31, 12, 89), qi 1, qi 2] s16 (kV fun s22 =>
            (MF s22) ∧
            am_Calls PP MLL (d + 2) m_M_swapRanked [qr (31, 12, 89), qi 0, qi 1] s22 (kV fun s23 =>
              (MF s23) ∧
              ((v4 = 0 →
                K p1 s23) ∧
              (¬ (v4 = 0) →
                am_Calls PP MLL (d + 2) m_M_rankOf [qr (31, 12, 89), qi v4] s23 (kI fun x26 s26 =>
                  (MF s26) ∧
                  K x26 s26))))))))))) ∧
  (¬ (v4 ≤ v5) →
    (-2147483648 ≤ 3 * p1 ∧ 3 * p1 < 2147483648 ∧ -2147483648 ≤ (3 * p1) + v5 ∧ (3 * p1) + v5 < 2147483648 ∧ 0 ≤ ((3 * p1) + v5) ∧ ((3 * p1) + v5) < 30000) ∧
    (0 ≤ v5 ∧ v5 < 3 ∧ -2147483648 ≤ v5 + 1 ∧ v5 + 1 < 2147483648) ∧
    am_Runs PP MLL (d + 2) m_M_exchanged 7 [some (qr (31, 12, 89)), some (qi p1), some (qi p2), some (qi p3), some (qi v4), some (qi (v5 + 1)), some (qi (sI σ 34 (Int.toNat ((3 * p1) + v5))))] [] (putI (putI σ 39 (Int.toNat v5) (if (sI σ 34 (Int.toNat ((3 * p1) + v5))) = p2 then (p3 : Int) else (if (sI σ 34 (Int.toNat ((3 * p1) + v5))) = p3 then (p2 : Int) else (sI σ 34 (Int.toNat ((3 * p1) + v5)))))) 40 (Int.toNat v5) (sI σ 35 (Int.toNat ((3 * p1) + v5)))) (kI K)))) : am_Runs PP MLL (d + 2) m_M_exchanged 7 [some (qr (31, 12, 89)), some (qi p1), some (qi p2), some (qi p3), some (qi v4), some (qi v5), z6] [] σ (kI K) := am_wEC_ok (orc [(11, 34, 20, 30000), (20, 39, 20, 3)]) [33] 200 (⟨fun c3 => ⟨fun c5 => ⟨fun c7 => ⟨fun c9 => ((((h.1 c3).1 c5).1 c7).1 c9), fun c9 => ⟨rfl, (am_cI ((((h.1 c3).1 c5).1 c7).2 c9) fun x10 s10 h10 => h10.2)⟩⟩, fun c7 => ⟨rfl, (am_cV (((h.1 c3).1 c5).2 c7) fun s11 h11 => ⟨rfl, (am_cV h11.2 fun s12 h12 => ⟨fun c14 => (h12.2.1 c14), fun c14 => ⟨rfl, (am_cI (h12.2.2 c14) fun x15 s15 h15 => h15.2)⟩⟩)⟩)⟩⟩, fun c5 => ⟨rfl, (am_cV ((h.1 c3).2 c5) fun s16 h16 => ⟨fun c18 => ⟨fun c20 => ((h16.2.1 c18).1 c20), fun c20 => ⟨rfl, (am_cI ((h16.2.1 c18).2 c20) fun x21 s21 h21 => h21.2)⟩⟩, fun c18 => ⟨rfl, (am_cV (h16.2.2 c18) fun s22 h22 => ⟨rfl, (am_cV h22.2 fun s23 h23 => ⟨fun c25 => (h23.2.1 c25), fun c25 => ⟨rfl, (am_cI (h23.2.2 c25) fun x26 s26 h26 => h26.2)⟩⟩)⟩)⟩⟩)⟩⟩, fun c3 => ⟨⟨rfl, (hF 8)⟩, ⟨⟨(h.2 c3).1.1, (h.2 c3).1.2.1⟩, ⟨⟨(h.2 c3).1.2.2.1, (h.2 c3).1.2.2.2.1⟩, ⟨⟨rfl, (h.2 c3).1.2.2.2.2.1, (h.2 c3).1.2.2.2.2.2⟩, ⟨⟨rfl, (hF 14)⟩, am_use (fun H29 => ⟨fun c27 => (Eq.mp (congrArg (fun z => am_Runs _ _ _ _ _ _ (qi z :: _) _ _) (if_pos c27 : (if (sI σ 34 (Int.toNat ((3 * p1) + v5))) = p2 then (p3 : Int) else if (sI σ 34 (Int.toNat ((3 * p1) + v5))) = p3 then (p2 : Int) else (sI σ 34 (Int.toNat ((3 * p1) + v5)))) = p3)) H29), fun c27 => ⟨fun c28 => (Eq.mp (congrArg (fun z => am_Runs _ _ _ _ _ _ (qi z :: _) _ _) (Eq.trans (if_neg c27 : (if (sI σ 34 (Int.toNat ((3 * p1) + v5))) = p2 then (p3 : Int) else if (sI σ 34 (Int.toNat ((3 * p1) + v5))) = p3 then (p2 : Int) else (sI σ 34 (Int.toNat ((3 * p1) + v5)))) = if (sI σ 34 (Int.toNat ((3 * p1) + v5))) = p3 then (p2 : Int) else (sI σ 34 (Int.toNat ((3 * p1) + v5)))) (if_pos c28 : (if (sI σ 34 (Int.toNat ((3 * p1) + v5))) = p3 then (p2 : Int) else sI σ 34 (Int.toNat ((3 * p1) + v5))) = p2))) H29), fun c28 => (Eq.mp (congrArg (fun z => am_Runs _ _ _ _ _ _ (qi z :: _) _ _) (Eq.trans (if_neg c27 : (if (sI σ 34 (Int.toNat ((3 * p1) + v5))) = p2 then (p3 : Int) else if (sI σ 34 (Int.toNat ((3 * p1) + v5))) = p3 then (p2 : Int) else (sI σ 34 (Int.toNat ((3 * p1) + v5)))) = if (sI σ 34 (Int.toNat ((3 * p1) + v5))) = p3 then (p2 : Int) else (sI σ 34 (Int.toNat ((3 * p1) + v5)))) (if_neg c28 : (if (sI σ 34 (Int.toNat ((3 * p1) + v5))) = p3 then (p2 : Int) else sI σ 34 (Int.toNat ((3 * p1) + v5))) = sI σ 34 (Int.toNat ((3 * p1) + v5))))) H29)⟩⟩) (am_wEC_ok (orc [(35, 40, 20, 3), (38, 35, 20, 30000)]) [33] 200 (⟨⟨rfl, (h.2 c3).2.1.1, (h.2 c3).2.1.2.1⟩, ⟨⟨rfl, (hF 15)⟩, ⟨⟨rfl, (hF 9)⟩, ⟨⟨(h.2 c3).1.1, (h.2 c3).1.2.1⟩, ⟨⟨(h.2 c3).1.2.2.1, (h.2 c3).1.2.2.2.1⟩, ⟨⟨rfl, (h.2 c3).1.2.2.2.2.1, (h.2 c3).1.2.2.2.2.2⟩, ⟨⟨rfl, (h.2 c3).2.1.1, (h.2 c3).2.1.2.1⟩, ⟨⟨(h.2 c3).2.1.2.2.1, (h.2 c3).2.1.2.2.2⟩, (h.2 c3).2.2⟩⟩⟩⟩⟩⟩⟩⟩))⟩⟩⟩⟩⟩⟩)

theorem c_M_exchanged (d : Nat) {n l m t f x y z w a b : Nat} {kd : Int} {σ : am_S} {K : Int → am_S → Prop} (hF : MF σ) (hn : sI σ 31 2 = n) (hn2 : n ≤ 40) (hkd : sI σ 31 3 = kd) (hk : kd = 1 ∨ kd = 2 ∨ kd = 3) (ht : t < 10000) (hv : Vc n l m kd f x y z w) (hc : CT σ t f x y z kd w) (hbs : sI σ 32 f = bs n l kd f) (htN : t = Nm n l kd f x y z w) (ha : a < n) (hb : b < n)
    (h : ∀ s u, frR s σ → EX n l m kd f x y z w a b u → K (u : Int) s) : am_Calls PP MLL (d + 3) m_M_exchanged [qr (31, 12, 89), qi (t : Int), qi (a : Int), qi (b : Int)] σ (kI K) := by
  have hv0 := hv
  obtain ⟨v1, v2, v3, v4, v5, v6, v7, v8, v9, v10⟩ := hv
  refine v_M_exchanged_0 d t a b σ K hF ?_
  rw [Int.toNat_natCast, hc.1]
  refine ⟨by omega, ?_⟩
  have hbb := bs_bd (n := n) (l := l) (kd := kd) hn2 (show f ≤ 4 by omega)
  have hS : ∀ i : Nat, i ≤ f → ∀ s, frR s σ → (∀ j, j < i → sI s 39 j = (ex a b (cni x y z j).toNat : Nat) ∧ sI s 40 j = sgw kd f w j) → ∀ z6, am_Runs PP MLL (d + 2) m_M_exchanged 7 [some (qr (31, 12, 89)), some (qi (t : Int)), some (qi (a : Int)), some (qi (b : Int)), some (qi (f : Int)), some (qi (i : Int)), z6] [] s (kI K) := by
    refine lp ?_ ?_
    · intro s hfr hr z6
      have hFs := frR_MF hfr hF
      have e2 : ∀ s', frR s' s → sI s' 31 2 = n := fun s' q => by rw [q.2 31 (by decide) (by decide), hfr.2 31 (by decide) (by decide)]; exact hn
      have e3 : ∀ s', frR s' s → sI s' 31 3 = kd := fun s' q => by rw [q.2 31 (by decide) (by decide), hfr.2 31 (by decide) (by decide)]; exact hkd
      have e32 : ∀ s', frR s' s → sI s' 32 f = bs n l kd f := fun s' q => by rw [q.2 32 (by decide) (by decide), hfr.2 32 (by decide) (by decide)]; exact hbs
      -- the tail: the number of a sorted set
      have tail : ∀ (s' : am_S) (x' y' z' : Nat) (g : Nat → Int), frR s' s → 1 ≤ f → x' < n → (2 ≤ f → x' < y' ∧ y' < n) → (3 ≤ f → y' < z' ∧ z' < n) → (f < 2 → y' = 0) → (f < 3 → z' = 0) → sI s' 39 0 = x' → (2 ≤ f → sI s' 39 1 = y') → (3 ≤ f → sI s' 39 2 = z') → (∀ i, i < f → sI s' 40 i = g i) → (∀ i, i < f → okg kd (g i)) → (∀ c, (if 0 < f ∧ c = x' then g 0 else if 1 < f ∧ c = y' then g 1 else if 2 < f ∧ c = z' then g 2 else 0) = sig f x y z kd w (ex a b c)) → am_Calls PP MLL (d + 2) m_M_rankOf [qr (31, 12, 89), qi (f : Int)] s' (kI fun x10 s10 => (MF s10) ∧ K x10 s10) := by
        intro s' x' y' z' g q hf1 hx' hy' hz' hy0 hz0 r0 r1 r2 hg hgo hsig
        have hws := sgw_ws hk v3 hgo
        refine c_M_rankOf d (frR_MF q hFs) (e2 s' q) hn2 (e3 s' q) hf1 v3 (fun _ => hx') hy' hz' r0 r1 r2 hg (e32 s' q) (by omega) ⟨frR_MF q hFs, ?_⟩
        have hu : ((bs n l kd f : Int) + ((rk n f x' y' z' * wy kd f : Nat) : Int) + (if kd = 3 then (ws g f : Int) else 0)) = ((Nm n l kd f x' y' z' (if kd = 3 then ws g f else 0) : Nat) : Int) := by
          unfold Nm
          split <;> omega
        rw [hu]
        refine h s' _ (frR_tr q hfr) ⟨x', y', z', (if kd = 3 then ws g f else 0), ⟨v1, v2, v3, fun _ => hx', hy', hz', fun c => absurd c (by omega), hy0, hz0, hws.1⟩, rfl, fun c => ?_⟩
        rw [← hsig c]
        unfold sig
        by_cases q0 : 0 < f ∧ c = x'
        · rw [if_pos q0, if_pos q0, hws.2 0 q0.1]
        · rw [if_neg q0, if_neg q0]
          by_cases q1 : 1 < f ∧ c = y'
          · rw [if_pos q1, if_pos q1, hws.2 1 q1.1]
          · rw [if_neg q1, if_neg q1]
            by_cases q2 : 2 < f ∧ c = z'
            · rw [if_pos q2, if_pos q2, hws.2 2 q2.1]
            · rw [if_neg q2, if_neg q2]
      refine v_M_exchanged_7 d t a b f _ z6 s K hFs ⟨fun _ => ⟨fun c1 => ⟨fun c2 => ⟨fun c3 => ?_, fun c3 => ?_⟩, fun c2 => absurd (by omega) c2⟩, fun c1 => ?_⟩, fun c => absurd (Int.le_refl _) c⟩
      · -- none is false
        have hf0 : f = 0 := by omega
        refine h s t hfr ⟨x, y, z, w, hv0, htN, fun c => ?_⟩
        subst hf0
        rfl
      · -- one
        have hf1 : f = 1 := by omega
        subst hf1
        have r0 := hr 0 (by omega)
        have c0 : (cni x y z 0).toNat = x := by unfold cni; rw [if_pos rfl]; omega
        rw [c0] at r0
        refine tail s (ex a b x) 0 0 (fun i => sgw kd 1 w i) ⟨rfl, fun _ _ _ => rfl⟩ (by omega) (ex_lt ha hb (v4 (by omega))) (fun c => absurd c (by omega)) (fun c => absurd c (by omega)) (fun _ => rfl) (fun _ => rfl) r0.1 (fun c => absurd c (by omega)) (fun c => absurd c (by omega)) (fun i hi => (hr i hi).2) (fun i _ => sgw_ok kd 1 w i) (fun c => ?_)
        unfold sig
        by_cases q : c = ex a b x
        · rw [if_pos ⟨by omega, q⟩, if_pos ⟨by omega, ex_iff.mp q⟩]
        · rw [if_neg (fun u => q u.2), if_neg (fun u => absurd u.1 (by omega)), if_neg (fun u => absurd u.1 (by omega)), if_neg (fun u => q (ex_iff.mpr u.2)), if_neg (fun u => absurd u.1 (by omega)), if_neg (fun u => absurd u.1 (by omega))]
      · have hf2 : 2 ≤ f := by omega
        have r0 := hr 0 (by omega)
        have r1 := hr 1 (by omega)
        have c0 : (cni x y z 0).toNat = x := by unfold cni; rw [if_pos rfl]; omega
        have c1 : (cni x y z 1).toNat = y := by unfold cni; rw [if_neg (by decide), if_pos rfl]; omega
        rw [c0] at r0
        rw [c1] at r1
        have hxy := v5 hf2
        have hd : ex a b x ≠ ex a b y := fun q => by have := ex_inj q; omega
        have lx := ex_lt ha hb (v4 (by omega))
        have ly := ex_lt ha hb hxy.2
        refine c_M_swapRanked (d + 1) (i := 0) (j := 1) hFs (by omega) (by omega) (by omega) (fun s1 f1 o1 p1 => ⟨frR_MF f1 hFs, fun c2 => ⟨fun c3 => absurd c3 (by omega), fun c3 => ?_⟩, fun c2 => ?_⟩)
        · -- two
          have hf2' : f = 2 := by omega
          subst hf2'
          rw [r0.1, r0.2, r1.1, r1.2] at p1
          rcases p1 with ⟨a1, a2, a3, a4, a5⟩ | ⟨a1, a2, a3, a4, a5⟩
          · refine tail s1 (ex a b x) (ex a b y) 0 (gg (sgw kd 2 w 0) (sgw kd 2 w 1)) f1 (by omega) lx (fun _ => ⟨by omega, ly⟩) (fun c => absurd c (by omega)) (fun c => absurd c (by omega)) (fun _ => rfl) a2 (fun _ => a3) (fun c => absurd c (by omega)) (fun i hi => ?_) (fun i _ => ?_) (fun c => ?_)
            · rcases (show i = 0 ∨ i = 1 by omega) with rfl | rfl
              · exact a4
              · exact a5
            · unfold gg; split <;> exact sgw_ok kd 2 w _
            · unfold sig
              have i1 := ex_iff (a := a) (b := b) (c := c) (x := x)
              have i2 := ex_iff (a := a) (b := b) (c := c) (x := y)
              by_cases q1 : c = ex a b x
              · rw [if_pos ⟨by omega, q1⟩, if_pos ⟨by omega, i1.mp q1⟩]; rfl
              · rw [if_neg (fun u => q1 u.2), if_neg (c := 0 < 2 ∧ ex a b c = x) (fun u => q1 (i1.mpr u.2))]
                by_cases q2 : c = ex a b y
                · rw [if_pos ⟨by omega, q2⟩, if_pos ⟨by omega, i2.mp q2⟩]; rfl
                · rw [if_neg (fun u => q2 u.2), if_neg (fun u => absurd u.1 (by omega)), if_neg (fun u => q2 (i2.mpr u.2)), if_neg (fun u => absurd u.1 (by omega))]
          · refine tail s1 (ex a b y) (ex a b x) 0 (gg (sgw kd 2 w 1) (sgw kd 2 w 0)) f1 (by omega) ly (fun _ => ⟨by omega, lx⟩) (fun c => absurd c (by omega)) (fun c => absurd c (by omega)) (fun _ => rfl) a2 (fun _ => a3) (fun c => absurd c (by omega)) (fun i hi => ?_) (fun i _ => ?_) (fun c => ?_)
            · rcases (show i = 0 ∨ i = 1 by omega) with rfl | rfl
              · exact a4
              · exact a5
            · unfold gg; split <;> exact sgw_ok kd 2 w _
            · unfold sig
              have i1 := ex_iff (a := a) (b := b) (c := c) (x := x)
              have i2 := ex_iff (a := a) (b := b) (c := c) (x := y)
              by_cases q1 : c = ex a b x
              · rw [if_neg (fun u => hd (q1.symm.trans u.2)), if_pos ⟨by omega, q1⟩, if_pos ⟨by omega, i1.mp q1⟩]; rfl
              · rw [if_neg (c := 0 < 2 ∧ ex a b c = x) (fun u => q1 (i1.mpr u.2))]
                by_cases q2 : c = ex a b y
                · rw [if_pos ⟨by omega, q2⟩, if_pos ⟨by omega, i2.mp q2⟩]; rfl
                · rw [if_neg (fun u => q2 u.2), if_neg (fun u => q1 u.2), if_neg (fun u => absurd u.1 (by omega)), if_neg (fun u => q2 (i2.mpr u.2)), if_neg (fun u => absurd u.1 (by omega))]
        · -- three
          have hf3 : f = 3 := by omega
          subst hf3
          have r2 := hr 2 (by omega)
          have c2 : (cni x y z 2).toNat = z := by unfold cni; rw [if_neg (by decide), if_neg (by decide)]; omega
          rw [c2] at r2
          have hyz := v6 (by omega)
          have hd2 : ex a b x ≠ ex a b z := fun q => by have := ex_inj q; omega
          have hd3 : ex a b y ≠ ex a b z := fun q => by have := ex_inj q; omega
          have lz := ex_lt ha hb hyz.2
          refine c_M_swapRanked (d + 1) (i := 1) (j := 2) (frR_MF f1 hFs) (by omega) (by omega) (by omega) (fun s2 f2 o2 p2 => ⟨frR_MF (frR_tr f2 f1) hFs, ?_⟩)
          refine c_M_swapRanked (d + 1) (i := 0) (j := 1) (frR_MF (frR_tr f2 f1) hFs) (by omega) (by omega) (by omega) (fun s3 f3 o3 p3 => ⟨frR_MF (frR_tr f3 (frR_tr f2 f1)) hFs, fun c => absurd c (by omega), fun _ => ?_⟩)
          rw [r0.1, r0.2, r1.1, r1.2] at p1
          have o1 := o1 2 (by decide) (by decide)
          rw [r2.1, r2.2] at o1
          obtain ⟨w1, w2, w3, w4, w5⟩ := sort3 (show ((ex a b x : Nat) : Int) ≠ ((ex a b y : Nat) : Int) by omega) (show ((ex a b x : Nat) : Int) ≠ ((ex a b z : Nat) : Int) by omega) (show ((ex a b y : Nat) : Int) ≠ ((ex a b z : Nat) : Int) by omega) p1 o1 p2 (o2 0 (by decide) (by decide)) p3 (o3 2 (by decide) (by decide))
          have w5 := w5 (fun v => 0 ≤ v ∧ v < n) (by omega) (by omega) (by omega)
          have w4 := w4 (okg kd) (sgw_ok kd 3 w 0) (sgw_ok kd 3 w 1) (sgw_ok kd 3 w 2)
          refine tail s3 (sI s3 39 0).toNat (sI s3 39 1).toNat (sI s3 39 2).toNat (fun i => sI s3 40 i) (frR_tr f3 (frR_tr f2 f1)) (by omega) (by omega) (fun _ => by omega) (fun _ => by omega) (fun c => absurd c (by omega)) (fun c => absurd c (by omega)) (by omega) (fun _ => by omega) (fun _ => by omega) (fun i _ => rfl) (fun i hi => ?_) (fun c => ?_)
          · rcases (show i = 0 ∨ i = 1 ∨ i = 2 by omega) with rfl | rfl | rfl
            · exact w4.1
            · exact w4.2.1
            · exact w4.2.2
          · have w3 := w3 c
            unfold asg at w3
            unfold sig
            have i1 := ex_iff (a := a) (b := b) (c := c) (x := x)
            have i2 := ex_iff (a := a) (b := b) (c := c) (x := y)
            have i3 := ex_iff (a := a) (b := b) (c := c) (x := z)
            have k1 : ((c : Int) = ((ex a b x : Nat) : Int)) = (0 < 3 ∧ ex a b c = x) := propext ⟨fun u => ⟨by omega, i1.mp (by omega)⟩, fun u => by have := i1.mpr u.2; omega⟩
            have k2 : ((c : Int) = ((ex a b y : Nat) : Int)) = (1 < 3 ∧ ex a b c = y) := propext ⟨fun u => ⟨by omega, i2.mp (by omega)⟩, fun u => by have := i2.mpr u.2; omega⟩
            have k3 : ((c : Int) = ((ex a b z : Nat) : Int)) = (2 < 3 ∧ ex a b c = z) := propext ⟨fun u => ⟨by omega, i3.mp (by omega)⟩, fun u => by have := i3.mpr u.2; omega⟩
            have m1 : ((c : Int) = sI s3 39 0) = (0 < 3 ∧ c = (sI s3 39 0).toNat) := propext ⟨fun u => ⟨by omega, by omega⟩, fun u => by omega⟩
            have m2 : ((c : Int) = sI s3 39 1) = (1 < 3 ∧ c = (sI s3 39 1).toNat) := propext ⟨fun u => ⟨by omega, by omega⟩, fun u => by omega⟩
            have m3 : ((c : Int) = sI s3 39 2) = (2 < 3 ∧ c = (sI s3 39 2).toNat) := propext ⟨fun u => ⟨by omega, by omega⟩, fun u => by omega⟩
            simp only [k1, k2, k3, m1, m2, m3] at w3
            exact w3
    · intro i hi ih s hfr hr z6
      have hFs := frR_MF hfr hF
      have hci := hc.2 i hi
      have e34 : sI s 34 (3 * t + i) = cni x y z i := by rw [hfr.2 34 (by decide) (by decide)]; exact hci.1
      have e35 : sI s 35 (3 * t + i) = sgw kd f w i := by rw [hfr.2 35 (by decide) (by decide)]; exact hci.2
      have e3 : Int.toNat (3 * (t : Int) + (i : Int)) = 3 * t + i := by omega
      have hcn : 0 ≤ cni x y z i := by unfold cni; (repeat' split) <;> omega
      refine v_M_exchanged_7 d t a b f _ z6 s K hFs ⟨fun c => absurd c (by omega), fun _ => ?_⟩
      rw [e3, e34, e35, Int.toNat_natCast]
      refine ⟨by omega, by omega, ?_⟩
      refine ih _ ?_ (fun j hj => ?_) _
      · refine ⟨hfr.1, fun q h1 h2 => ?_⟩
        rw [put_ne h2, put_ne h1]; exact hfr.2 q h1 h2
      · have ev : (if cni x y z i = (a : Int) then (b : Int) else (if cni x y z i = (b : Int) then (a : Int) else cni x y z i)) = ((ex a b (cni x y z i).toNat : Nat) : Int) := by
          unfold ex
          (repeat' split) <;> omega
        rw [ev]
        by_cases q : j = i
        · subst q
          exact ⟨by rw [put_ne (by decide), put_at, if_pos rfl], by rw [put_at, if_pos rfl]⟩
        · have := hr j (by omega)
          exact ⟨by rw [put_ne (by decide), put_at, if_neg q]; exact this.1, by rw [put_at, if_neg q, put_ne (by decide)]; exact this.2⟩
  exact hS 0 (Nat.zero_le _) σ ⟨rfl, fun _ _ _ => rfl⟩ (fun j hj => absurd hj (Nat.not_lt_zero j)) none
