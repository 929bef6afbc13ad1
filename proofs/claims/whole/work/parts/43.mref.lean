/-! the reference: judge -/
/-- how many of the first i truths that are left have row v -/
def cn (s r : Nat → Int) (i : Nat) (v : Int) : Int := sm (fun u => if s u < 0 ∧ r u = v then 1 else 0) i
/-- how many rows that are unlike -/
def un (s r : Nat → Int) (i : Nat) : Int := sm (fun t => if s t < 0 ∧ cn s r t (r t) = 0 then 1 else 0) i
/-- the most truths of one row -/
def lg (s r : Nat → Int) : Nat → Int
  | 0 => 0
  | i + 1 => if s i < 0 then (if cn s r i (r i) + 1 ≤ lg s r i then lg s r i else cn s r i (r i) + 1) else lg s r i
/-- how many have their row alone (from the last truth on, k of them) -/
def al (s r : Nat → Int) (n : Nat) : Nat → Int
  | 0 => 0
  | k + 1 => al s r n k + (if s (n - 1 - k) < 0 ∧ cn s r n (r (n - 1 - k)) = 1 then 1 else 0)
def sh (s r : Nat → Int) (n : Nat) : Nat → Int
  | 0 => -1000
  | k + 1 => if s (n - 1 - k) < 0 ∧ ¬ cn s r n (r (n - 1 - k)) = 1 then ((n - 1 - k : Nat) : Int) else sh s r n k
theorem cn_bd (s r : Nat → Int) (i : Nat) (v : Int) : 0 ≤ cn s r i v ∧ cn s r i v ≤ i := by
  have h := sm_bd (f := fun u => if s u < 0 ∧ r u = v then 1 else 0) (c := 1) i (fun j _ => by split <;> omega)
  unfold cn
  omega
theorem un_bd (s r : Nat → Int) (i : Nat) : 0 ≤ un s r i ∧ un s r i ≤ i := by
  have h := sm_bd (f := fun t => if s t < 0 ∧ cn s r t (r t) = 0 then 1 else 0) (c := 1) i (fun j _ => by split <;> omega)
  unfold un
  omega
theorem al_bd (s r : Nat → Int) (n : Nat) : ∀ k : Nat, 0 ≤ al s r n k ∧ al s r n k ≤ k
  | 0 => by simp [al]
  | k + 1 => by
    have h := al_bd s r n k
    unfold al
    split <;> omega
theorem cn_succ {s r : Nat → Int} {i : Nat} {v : Int} : cn s r (i + 1) v = cn s r i v + (if s i < 0 ∧ r i = v then 1 else 0) := rfl
def JS (σ : am_S) (r86 r85 : Nat → Int) (u l s84 : Int) : am_S := putI (putI (putI (rowI (rowI σ 86 r86) 85 r85) 31 85 u) 31 86 l) 31 84 s84
theorem JS_86 {σ : am_S} {a b : Nat → Int} {u l w : Int} : sI (JS σ a b u l w) 86 = a := by
  unfold JS
  rw [put_ne (by decide), put_ne (by decide), put_ne (by decide), row_ne (by decide), row_at]
theorem JS_85 {σ : am_S} {a b : Nat → Int} {u l w : Int} : sI (JS σ a b u l w) 85 = b := by
  unfold JS
  rw [put_ne (by decide), put_ne (by decide), put_ne (by decide), row_at]
theorem JS_o {σ : am_S} {a b : Nat → Int} {u l w : Int} {x : Nat} (h1 : x ≠ 86) (h2 : x ≠ 85) (h3 : x ≠ 31) : sI (JS σ a b u l w) x = sI σ x := by
  unfold JS
  rw [put_ne h3, put_ne h3, put_ne h3, row_ne h2, row_ne h1]
theorem JS_is {σ T : am_S} {a b : Nat → Int} {u l w : Int} (h2 : T.2 = σ.2) (h86 : sI T 86 = a) (h85 : sI T 85 = b) (hu : sI T 31 85 = u) (hl : sI T 31 86 = l) (hw : sI T 31 84 = w) (ho : ∀ j, j ≠ 84 → j ≠ 85 → j ≠ 86 → sI T 31 j = sI σ 31 j) (hx : ∀ x, x ≠ 86 → x ≠ 85 → x ≠ 31 → sI T x = sI σ x) : T = JS σ a b u l w := by
  refine sto_ext (fun x y => ?_) h2
  by_cases e1 : x = 86
  · subst e1; rw [h86, JS_86]
  · by_cases e2 : x = 85
    · subst e2; rw [h85, JS_85]
    · by_cases e3 : x = 31
      · subst e3
        unfold JS
        rw [put_at, put_at, put_at, row_ne (by decide), row_ne (by decide)]
        (repeat' split) <;> simp_all
      · rw [hx x e1 e2 e3, JS_o e1 e2 e3]
theorem wr_congr {σ T : am_S} {b k : Nat} (h1 : sI T 41 = sI σ 41) (h2 : sI T 46 = sI σ 46) (h3 : sI T 47 = sI σ 47) : wr T b k = wr σ b k := by
  unfold wr
  rw [h1, h2, h3]
theorem jr_congr {σ T : am_S} {b t : Nat} (h : ∀ x, x ≠ 86 → x ≠ 85 → x ≠ 31 → sI T x = sI σ x) : ∀ k, jr T b t k = jr σ b t k
  | 0 => rfl
  | k + 1 => by
    unfold jr jd
    rw [jr_congr h k, wr_congr (h 41 (by decide) (by decide) (by decide)) (h 46 (by decide) (by decide) (by decide)) (h 47 (by decide) (by decide) (by decide)), h 41 (by decide) (by decide) (by decide), h 83 (by decide) (by decide) (by decide), h 84 (by decide) (by decide) (by decide), h 33 (by decide) (by decide) (by decide), h 34 (by decide) (by decide) (by decide), h 35 (by decide) (by decide) (by decide)]

theorem v_M_judge_0 (d : Nat) (p1 p2 : Int) (σ : am_S) (K : Int → am_S → Prop) (hF : MF σ) (hT : (sI σ 31 26) = 0) (h :
  (-2147483648 ≤ (sI σ 31 16) - 1 ∧ (sI σ 31 16) - 1 < 2147483648) ∧
  ((p1 < 0 →
    K (-1001) σ) ∧
  (¬ (p1 < 0) →
    ((((sI σ 31 16) - 1) < p1 →
      K (-1001) σ) ∧
    (¬ (((sI σ 31 16) - 1) < p1) →
      ((p2 < 1 →
        K (-1001) σ) ∧
      (¬ (p2 < 1) →
        ((6 < p2 →
          K (-1001) σ) ∧
        (¬ (6 < p2) →
          am_Runs PP MLL (d + 3) m_M_judge 13 [some (qr (31, 12, 89)), some (qi p1), some (qi p2), some (qi 0), none, none, none] [] σ (kI K)))))))))) : am_Runs PP MLL (d + 3) m_M_judge 0 [some (qr (31, 12, 89)), some (qi p1), some (qi p2), none, none, none, none] [] σ (kI K) := am_wEC_ok (orc []) [112, 137, 169, 176, 185] 200 (⟨rfl, am_wEF_ok (orc []) 200 (⟨rfl, ⟨⟨h.1.1, h.1.2⟩, am_wEF_ok (orc []) 200 (⟨fun c1 => ⟨(Or.inl rfl), ⟨(Or.inl rfl), ⟨fun _ => (h.2.1 c1), fun c => absurd (by decide : (0 : Int) = 0) c⟩⟩⟩, fun c1 => ⟨fun c2 => ⟨(Or.inl rfl), ⟨(Or.inl rfl), ⟨fun _ => ((h.2.2 c1).1 c2), fun c => absurd (by decide : (0 : Int) = 0) c⟩⟩⟩, fun c2 => ⟨(Or.inr rfl), ⟨(Or.inr rfl), ⟨fun c => absurd c (by decide : ¬ ((1 : Int) = 0)), fun _ => am_wEF_ok (orc []) 200 (⟨fun c3 => ⟨(Or.inl rfl), ⟨fun _ => (((h.2.2 c1).2 c2).1 c3), fun c => absurd (by decide : (0 : Int) = 0) c⟩⟩, fun c3 => ⟨fun c4 => ⟨(Or.inl rfl), ⟨fun _ => ((((h.2.2 c1).2 c2).2 c3).1 c4), fun c => absurd (by decide : (0 : Int) = 0) c⟩⟩, fun c4 => ⟨(Or.inr rfl), ⟨fun c => absurd c (by decide : ¬ ((1 : Int) = 0)), fun _ => ((((h.2.2 c1).2 c2).2 c3).2 c4)⟩⟩⟩⟩)⟩⟩⟩⟩⟩)⟩⟩)⟩)

theorem v_M_judge_13 (d : Nat) (p1 p2 v3 : Int) (z4 z5 z6 : Option am_V) (σ : am_S) (K : Int → am_S → Prop) (hF : MF σ) (hT : (sI σ 31 26) = 0) (h :
  ((p2 ≤ v3 →
    (0 ≤ p1 ∧ p1 < 12) ∧
    ((0 ≤ (sI σ 41 (Int.toNat p1)) →
      am_Runs PP MLL (d + 3) m_M_judge 33 [some (qr (31, 12, 89)), some (qi p1), some (qi p2), some (qi 1), some (qi 0), z5, z6] [] σ (kI K)) ∧
    (¬ (0 ≤ (sI σ 41 (Int.toNat p1))) →
      am_Runs PP MLL (d + 3) m_M_judge 33 [some (qr (31, 12, 89)), some (qi p1), some (qi p2), some (qi 0), some (qi 0), z5, z6] [] σ (kI K)))) ∧
  (¬ (p2 ≤ v3) →
    (0 ≤ v3 ∧ v3 < 6) ∧
    (((a_cmp (sI σ 83 (Int.toNat v3)) 0) = 0 →
      K (-1002) σ) ∧
    (¬ ((a_cmp (sI σ 83 (Int.toNat v3)) 0) = 0) →
      (-2147483648 ≤ v3 + 1 ∧ v3 + 1 < 2147483648) ∧
      am_Runs PP MLL (d + 3) m_M_judge 13 [some (qr (31, 12, 89)), some (qi p1), some (qi p2), some (qi (v3 + 1)), z4, z5, z6] [] σ (kI K)))))) : am_Runs PP MLL (d + 3) m_M_judge 13 [some (qr (31, 12, 89)), some (qi p1), some (qi p2), some (qi v3), z4, z5, z6] [] σ (kI K) := am_wEC_ok (orc [(17, 83, 21, 6)]) [112, 137, 169, 176, 185] 200 (⟨fun c1 => ⟨rfl, c_M_isThere _ hF (h.1 c1).1.1 (h.1 c1).1.2 (fun c2 => ((h.1 c1).2.1 c2)) (fun c2 => ((h.1 c1).2.2 c2))⟩, fun c1 => ⟨⟨rfl, (hF 81)⟩, ⟨⟨rfl, (h.2 c1).1.1, (h.2 c1).1.2⟩, ⟨fun c3 => ((h.2 c1).2.1 c3), fun c3 => ⟨⟨((h.2 c1).2.2 c3).1.1, ((h.2 c1).2.2 c3).1.2⟩, ((h.2 c1).2.2 c3).2⟩⟩⟩⟩⟩)

theorem v_M_judge_33 (d : Nat) (p1 p2 v3 v4 : Int) (z5 z6 : Option am_V) (σ : am_S) (K : Int → am_S → Prop) (hF : MF σ) (hT : (sI σ 31 26) = 0) (h :
  ((v3 = 0 →
    am_Calls PP MLL (d + 3) m_M_finds [qr (31, 12, 89), qi p1, qi 1] σ (kI fun x6 s6 =>
      (MF s6) ∧
      K x6 s6)) ∧
  (¬ (v3 = 0) →
    (0 ≤ p1 ∧ p1 < 12) ∧
    (((sI σ 41 (Int.toNat p1)) = 6 →
      ((p2 ≤ v4 →
        am_Runs PP MLL (d + 3) m_M_judge 77 [some (qr (31, 12, 89)), some (qi p1), some (qi p2), some (qi v3), some (qi 0), z5, z6] [] (putI (putI σ 31 85 0) 31 86 0) (kI K)) ∧
      (¬ (p2 ≤ v4) →
        (-2147483648 ≤ 3 * p1 ∧ 3 * p1 < 2147483648 ∧ (sI σ 47 (Int.toNat p1)) ≠ 0 ∧ -2147483648 ≤ (3 * p1) + (Int.tmod v4 (sI σ 47 (Int.toNat p1))) ∧ (3 * p1) + (Int.tmod v4 (sI σ 47 (Int.toNat p1))) < 2147483648 ∧ 0 ≤ ((3 * p1) + (Int.tmod v4 (sI σ 47 (Int.toNat p1)))) ∧ ((3 * p1) + (Int.tmod v4 (sI σ 47 (Int.toNat p1)))) < 36) ∧
        (0 ≤ (sI σ 46 (Int.toNat ((3 * p1) + (Int.tmod v4 (sI σ 47 (Int.toNat p1)))))) ∧ (sI σ 46 (Int.toNat ((3 * p1) + (Int.tmod v4 (sI σ 47 (Int.toNat p1)))))) < 12) ∧
        ((0 ≤ (sI σ 41 (Int.toNat (sI σ 46 (Int.toNat ((3 * p1) + (Int.tmod v4 (sI σ 47 (Int.toNat p1)))))))) →
          (-2147483648 ≤ v4 + 1 ∧ v4 + 1 < 2147483648) ∧
          am_Runs PP MLL (d + 3) m_M_judge 33 [some (qr (31, 12, 89)), some (qi p1), some (qi p2), some (qi 1), some (qi (v4 + 1)), z5, z6] [] σ (kI K)) ∧
        (¬ (0 ≤ (sI σ 41 (Int.toNat (sI σ 46 (Int.toNat ((3 * p1) + (Int.tmod v4 (sI σ 47 (Int.toNat p1))))))))) →
          (-2147483648 ≤ v4 + 1 ∧ v4 + 1 < 2147483648) ∧
          am_Runs PP MLL (d + 3) m_M_judge 33 [some (qr (31, 12, 89)), some (qi p1), some (qi p2), some (qi 0), some (qi (v4 + 1)), z5, z6] [] σ (kI K)))))) ∧
    (¬ ((sI σ 41 (Int.toNat p1)) = 6) →
      am_Runs PP MLL (d + 3) m_M_judge 77 [some (qr (31, 12, 89)), some (qi p1), some (qi p2), some (qi v3), some (qi 0), z5, z6] [] (putI (putI σ 31 85 0) 31 86 0) (kI K)))))) : am_Runs PP MLL (d + 3) m_M_judge 33 [some (qr (31, 12, 89)), some (qi p1), some (qi p2), some (qi v3), some (qi v4), z5, z6] [] σ (kI K) := am_wEC_ok (orc [(36, 41, 20, 12), (46, 46, 20, 36), (52, 47, 20, 12)]) [112, 137, 169, 176, 185] 200 (⟨fun c5 => ⟨fun _ => ⟨rfl, (am_cI (h.1 c5) fun x6 s6 h6 => h6.2)⟩, fun c => absurd c5 c⟩, fun c5 => ⟨⟨rfl, (hF 17)⟩, ⟨⟨rfl, (h.2 c5).1.1, (h.2 c5).1.2⟩, ⟨fun c10 => ⟨fun c13 => ⟨fun c => absurd c c5, fun _ => ⟨rfl, ⟨rfl, (((h.2 c5).2.1 c10).1 c13)⟩⟩⟩, fun c13 => ⟨⟨rfl, (hF 22)⟩, ⟨⟨(((h.2 c5).2.1 c10).2 c13).1.1, (((h.2 c5).2.1 c10).2 c13).1.2.1⟩, ⟨⟨rfl, (hF 23)⟩, ⟨⟨rfl, (h.2 c5).1.1, (h.2 c5).1.2⟩, ⟨(((h.2 c5).2.1 c10).2 c13).1.2.2.1, ⟨⟨(((h.2 c5).2.1 c10).2 c13).1.2.2.2.1, (((h.2 c5).2.1 c10).2 c13).1.2.2.2.2.1⟩, ⟨⟨rfl, (((h.2 c5).2.1 c10).2 c13).1.2.2.2.2.2.1, (((h.2 c5).2.1 c10).2 c13).1.2.2.2.2.2.2⟩, ⟨rfl, c_M_isThere _ hF (((h.2 c5).2.1 c10).2 c13).2.1.1 (((h.2 c5).2.1 c10).2 c13).2.1.2 (fun c14 => ⟨⟨((((h.2 c5).2.1 c10).2 c13).2.2.1 c14).1.1, ((((h.2 c5).2.1 c10).2 c13).2.2.1 c14).1.2⟩, ((((h.2 c5).2.1 c10).2 c13).2.2.1 c14).2⟩) (fun c14 => ⟨⟨((((h.2 c5).2.1 c10).2 c13).2.2.2 c14).1.1, ((((h.2 c5).2.1 c10).2 c13).2.2.2 c14).1.2⟩, ((((h.2 c5).2.1 c10).2 c13).2.2.2 c14).2⟩)⟩⟩⟩⟩⟩⟩⟩⟩⟩, fun c10 => ⟨fun c => absurd c c5, fun _ => ⟨rfl, ⟨rfl, ((h.2 c5).2.2 c10)⟩⟩⟩⟩⟩⟩⟩)

theorem v_M_judge_77 (d : Nat) (p1 p2 v4 : Int) (z3 z5 z6 : Option am_V) (σ : am_S) (K : Int → am_S → Prop) (hF : MF σ) (hT : (sI σ 31 26) = 0) (h :
  (((sI σ 31 5) ≤ v4 →
    (-2147483648 ≤ (sI σ 31 5) - 1 ∧ (sI σ 31 5) - 1 < 2147483648) ∧
    am_Runs PP MLL (d + 3) m_M_judge 150 [some (qr (31, 12, 89)), some (qi p1), some (qi p2), (am_cl z3), some (qi 0), some (qi ((sI σ 31 5) - 1)), z6] [] (putI σ 31 84 (-1000)) (kI K)) ∧
  (¬ ((sI σ 31 5) ≤ v4) →
    (0 ≤ v4 ∧ v4 < 10000) ∧
    (((sI σ 37 (Int.toNat v4)) < 0 →
      am_Calls PP MLL (d + 3) m_M_judgedRow [qr (31, 12, 89), qi p1, qi p2, qi v4] (putI σ 86 (Int.toNat v4) (-1)) (kI fun x5 s5 =>
        (MF s5) ∧
        (0 ≤ x5 ∧ x5 < 117649) ∧
        (-2147483648 ≤ (sI s5 31 85) + (if (sI s5 85 (Int.toNat x5)) = 0 then (1 : Int) else 0) ∧ (sI s5 31 85) + (if (sI s5 85 (Int.toNat x5)) = 0 then (1 : Int) else 0) < 2147483648 ∧ -2147483648 ≤ (sI s5 85 (Int.toNat x5)) + 1 ∧ (sI s5 85 (Int.toNat x5)) + 1 < 2147483648) ∧
        (-2147483648 ≤ v4 + 1 ∧ v4 + 1 < 2147483648) ∧
        am_Runs PP MLL (d + 3) m_M_judge 77 [some (qr (31, 12, 89)), some (qi p1), some (qi p2), (am_cl z3), some (qi (v4 + 1)), some (qi x5), z6] [] (putI (putI (putI (putI s5 86 (Int.toNat v4) x5) 31 85 ((sI s5 31 85) + (if (sI s5 85 (Int.toNat x5)) = 0 then (1 : Int) else 0))) 85 (Int.toNat x5) ((sI s5 85 (Int.toNat x5)) + 1)) 31 86 (if (sI (putI (putI (putI s5 86 (Int.toNat v4) x5) 31 85 ((sI s5 31 85) + (if (sI s5 85 (Int.toNat x5)) = 0 then (1 : Int) else 0))) 85 (Int.toNat x5) ((sI s5 85 (Int.toNat x5)) + 1)) 85 (Int.toNat x5)) ≤ (sI s5 31 86) then (sI s5 31 86 : Int) else (sI (putI (putI (putI s5 86 (Int.toNat v4) x5) 31 85 ((sI s5 31 85) + (if (sI s5 85 (Int.toNat x5)) = 0 then (1 : Int) else 0))) 85 (Int.toNat x5) ((sI s5 85 (Int.toNat x5)) + 1)) 85 (Int.toNat x5)))) (kI K))) ∧
    (¬ ((sI σ 37 (Int.toNat v4)) < 0) →
      (-2147483648 ≤ v4 + 1 ∧ v4 + 1 < 2147483648) ∧
      am_Runs PP MLL (d + 3) m_M_judge 77 [some (qr (31, 12, 89)), some (qi p1), some (qi p2), (am_cl z3), some (qi (v4 + 1)), z5, z6] [] (putI σ 86 (Int.toNat v4) (-1)) (kI K)))))) : am_Runs PP MLL (d + 3) m_M_judge 77 [some (qr (31, 12, 89)), some (qi p1), some (qi p2), z3, some (qi v4), z5, z6] [] σ (kI K) := am_wEC_ok (orc [(82, 86, 20, 10000), (97, 86, 20, 10000), (105, 85, 20, 117649)]) [112, 137, 169, 176, 185] 200 (⟨rfl, ⟨fun c2 => ⟨rfl, ⟨rfl, ⟨⟨(h.1 c2).1.1, (h.1 c2).1.2⟩, (h.1 c2).2⟩⟩⟩, fun c2 => ⟨⟨rfl, (hF 88)⟩, ⟨⟨rfl, (h.2 c2).1.1, (h.2 c2).1.2⟩, ⟨rfl, c_M_isLeft _ hF (h.2 c2).1.1 (h.2 c2).1.2 (fun c4 => ⟨fun c => absurd c (by decide : ¬ ((1 : Int) = 0)), fun _ => ⟨rfl, (am_cI ((h.2 c2).2.1 c4) fun x5 s5 h5 => ⟨⟨rfl, (h5.1 88)⟩, ⟨⟨rfl, (h.2 c2).1.1, (h.2 c2).1.2⟩, ⟨rfl, ⟨⟨rfl, (h5.1 87)⟩, ⟨⟨rfl, h5.2.1.1, h5.2.1.2⟩, am_use (fun H9 => ⟨fun c6 => (Eq.mp (congrArg (fun z => am_Runs _ _ _ _ _ _ (qi z :: _) _ _) (if_pos c6 : (if (sI s5 85 (Int.toNat x5)) = 0 then (1 : Int) else 0) = 1)) H9), fun c6 => (Eq.mp (congrArg (fun z => am_Runs _ _ _ _ _ _ (qi z :: _) _ _) (if_neg c6 : (if (sI s5 85 (Int.toNat x5)) = 0 then (1 : Int) else 0) = 0)) H9)⟩) (am_wEC_ok (orc [(115, 85, 20, 117649), (124, 85, 20, 117649), (131, 85, 20, 117649)]) [112, 137, 169, 176, 185] 200 (⟨⟨h5.2.2.1.1, h5.2.2.1.2.1⟩, ⟨rfl, ⟨⟨rfl, (h5.1 87)⟩, ⟨⟨rfl, h5.2.1.1, h5.2.1.2⟩, ⟨⟨h5.2.2.1.2.2.1, h5.2.2.1.2.2.2⟩, ⟨⟨rfl, h5.2.1.1, h5.2.1.2⟩, ⟨⟨rfl, (h5.1 87)⟩, ⟨⟨rfl, h5.2.1.1, h5.2.1.2⟩, ⟨rfl, am_use (fun H8 => ⟨fun c7 => ⟨rfl, (Eq.mp (congrArg (fun z => am_Runs _ _ _ _ _ _ (qi z :: _) _ _) (if_pos c7 : (if (sI (putI (putI (putI s5 86 (Int.toNat v4) x5) 31 85 ((sI s5 31 85) + (if (sI s5 85 (Int.toNat x5)) = 0 then (1 : Int) else 0))) 85 (Int.toNat x5) ((sI s5 85 (Int.toNat x5)) + 1)) 85 (Int.toNat x5)) ≤ (sI s5 31 86) then (sI s5 31 86 : Int) else sI (putI (putI (putI s5 86 (Int.toNat v4) x5) 31 85 ((sI s5 31 85) + (if (sI s5 85 (Int.toNat x5)) = 0 then (1 : Int) else 0))) 85 (Int.toNat x5) ((sI s5 85 (Int.toNat x5)) + 1)) 85 (Int.toNat x5)) = sI s5 31 86)) H8)⟩, fun c7 => ⟨⟨rfl, (h5.1 87)⟩, ⟨⟨rfl, h5.2.1.1, h5.2.1.2⟩, (Eq.mp (congrArg (fun z => am_Runs _ _ _ _ _ _ (qi z :: _) _ _) (if_neg c7 : (if (sI (putI (putI (putI s5 86 (Int.toNat v4) x5) 31 85 ((sI s5 31 85) + (if (sI s5 85 (Int.toNat x5)) = 0 then (1 : Int) else 0))) 85 (Int.toNat x5) ((sI s5 85 (Int.toNat x5)) + 1)) 85 (Int.toNat x5)) ≤ (sI s5 31 86) then (sI s5 31 86 : Int) else sI (putI (putI (putI s5 86 (Int.toNat v4) x5) 31 85 ((sI s5 31 85) + (if (sI s5 85 (Int.toNat x5)) = 0 then (1 : Int) else 0))) 85 (Int.toNat x5) ((sI s5 85 (Int.toNat x5)) + 1)) 85 (Int.toNat x5)) = sI (putI (putI (putI s5 86 (Int.toNat v4) x5) 31 85 ((sI s5 31 85) + (if (sI s5 85 (Int.toNat x5)) = 0 then (1 : Int) else 0))) 85 (Int.toNat x5) ((sI s5 85 (Int.toNat x5)) + 1)) 85 (Int.toNat x5))) H8)⟩⟩⟩) (am_wEC_ok (orc []) [112, 137, 169, 176, 185] 200 (⟨rfl, ⟨⟨h5.2.2.2.1.1, h5.2.2.2.1.2⟩, h5.2.2.2.2⟩⟩))⟩⟩⟩⟩⟩⟩⟩⟩⟩))⟩⟩⟩⟩⟩)⟩⟩) (fun c4 => ⟨fun _ => ⟨⟨((h.2 c2).2.2 c4).1.1, ((h.2 c2).2.2 c4).1.2⟩, ((h.2 c2).2.2 c4).2⟩, fun c => absurd (by decide : (0 : Int) = 0) c⟩)⟩⟩⟩⟩⟩)

theorem v_M_judge_150 (d : Nat) (v4 v5 : Int) (z1 z2 z3 z6 : Option am_V) (σ : am_S) (K : Int → am_S → Prop) (hF : MF σ) (hT : (sI σ 31 26) = 0) (h :
  ((v5 < 0 →
    am_Runs PP MLL (d + 3) m_M_judge 190 [some (qr (31, 12, 89)), z1, z2, z3, some (qi v4), some (qi 0), z6] [] σ (kI K)) ∧
  (¬ (v5 < 0) →
    (0 ≤ v5 ∧ v5 < 10000) ∧
    (((sI σ 86 (Int.toNat v5)) < 0 →
      (-2147483648 ≤ v5 + (-1) ∧ v5 + (-1) < 2147483648) ∧
      am_Runs PP MLL (d + 3) m_M_judge 150 [some (qr (31, 12, 89)), z1, z2, z3, some (qi v4), some (qi (v5 + (-1))), z6] [] σ (kI K)) ∧
    (¬ ((sI σ 86 (Int.toNat v5)) < 0) →
      (0 ≤ (sI σ 86 (Int.toNat v5)) ∧ (sI σ 86 (Int.toNat v5)) < 117649) ∧
      (-2147483648 ≤ v4 + (if (if (sI σ 85 (Int.toNat (sI σ 86 (Int.toNat v5)))) = 1 then (1 : Int) else 0) = 0 then (0 : Int) else 1) ∧ v4 + (if (if (sI σ 85 (Int.toNat (sI σ 86 (Int.toNat v5)))) = 1 then (1 : Int) else 0) = 0 then (0 : Int) else 1) < 2147483648) ∧
      (-2147483648 ≤ v5 + (-1) ∧ v5 + (-1) < 2147483648) ∧
      am_Runs PP MLL (d + 3) m_M_judge 150 [some (qr (31, 12, 89)), z1, z2, (am_cl z3), some (qi (v4 + (if (if (sI σ 85 (Int.toNat (sI σ 86 (Int.toNat v5)))) = 1 then (1 : Int) else 0) = 0 then (0 : Int) else 1))), some (qi (v5 + (-1))), some (qi (if (sI σ 85 (Int.toNat (sI σ 86 (Int.toNat v5)))) = 1 then (1 : Int) else 0))] [] (putI σ 31 84 (if (if (sI σ 85 (Int.toNat (sI σ 86 (Int.toNat v5)))) = 1 then (1 : Int) else 0) = 0 then (v5 : Int) else (sI σ 31 84))) (kI K)))))) : am_Runs PP MLL (d + 3) m_M_judge 150 [some (qr (31, 12, 89)), z1, z2, z3, some (qi v4), some (qi v5), z6] [] σ (kI K) := am_wEC_ok (orc [(153, 86, 20, 10000), (158, 85, 20, 117649), (160, 86, 20, 10000)]) [112, 137, 169, 176, 185] 200 (⟨fun c3 => (h.1 c3), fun c3 => ⟨⟨rfl, (hF 88)⟩, ⟨⟨rfl, (h.2 c3).1.1, (h.2 c3).1.2⟩, ⟨fun c6 => ⟨⟨((h.2 c3).2.1 c6).1.1, ((h.2 c3).2.1 c6).1.2⟩, ((h.2 c3).2.1 c6).2⟩, fun c6 => ⟨⟨rfl, (hF 87)⟩, ⟨⟨rfl, (hF 88)⟩, ⟨⟨rfl, (h.2 c3).1.1, (h.2 c3).1.2⟩, ⟨⟨rfl, ((h.2 c3).2.2 c6).1.1, ((h.2 c3).2.2 c6).1.2⟩, am_use (fun H12 => ⟨fun c7 => (Eq.mp (congrArg (fun z => am_Runs _ _ _ _ _ _ (qi z :: _) _ _) (if_pos c7 : (if (sI σ 85 (Int.toNat (sI σ 86 (Int.toNat v5)))) = 1 then (1 : Int) else 0) = 1)) H12), fun c7 => (Eq.mp (congrArg (fun z => am_Runs _ _ _ _ _ _ (qi z :: _) _ _) (if_neg c7 : (if (sI σ 85 (Int.toNat (sI σ 86 (Int.toNat v5)))) = 1 then (1 : Int) else 0) = 0)) H12)⟩) (am_wEC_ok (orc []) [112, 137, 169, 176, 185] 200 (am_use (fun H11 => ⟨fun c8 => (Eq.mp (congrArg (fun z => am_Runs _ _ _ _ _ _ (qi z :: _) _ _) (if_pos c8 : (if (if (sI σ 85 (Int.toNat (sI σ 86 (Int.toNat v5)))) = 1 then (1 : Int) else 0) = 0 then (0 : Int) else 1) = 0)) H11), fun c8 => (Eq.mp (congrArg (fun z => am_Runs _ _ _ _ _ _ (qi z :: _) _ _) (if_neg c8 : (if (if (sI σ 85 (Int.toNat (sI σ 86 (Int.toNat v5)))) = 1 then (1 : Int) else 0) = 0 then (0 : Int) else 1) = 1)) H11)⟩) (am_wEC_ok (orc []) [112, 137, 169, 176, 185] 200 (⟨⟨((h.2 c3).2.2 c6).2.1.1, ((h.2 c3).2.2 c6).2.1.2⟩, am_use (fun H10 => ⟨fun c9 => (Eq.mp (congrArg (fun z => am_Runs _ _ _ _ _ _ (qi z :: _) _ _) (if_pos c9 : (if (if (sI σ 85 (Int.toNat (sI σ 86 (Int.toNat v5)))) = 1 then (1 : Int) else 0) = 0 then (v5 : Int) else sI σ 31 84) = v5)) H10), fun c9 => ⟨rfl, (Eq.mp (congrArg (fun z => am_Runs _ _ _ _ _ _ (qi z :: _) _ _) (if_neg c9 : (if (if (sI σ 85 (Int.toNat (sI σ 86 (Int.toNat v5)))) = 1 then (1 : Int) else 0) = 0 then (v5 : Int) else sI σ 31 84) = sI σ 31 84)) H10)⟩⟩) (am_wEC_ok (orc []) [112, 137, 169, 176, 185] 200 (⟨rfl, ⟨⟨((h.2 c3).2.2 c6).2.2.1.1, ((h.2 c3).2.2 c6).2.2.1.2⟩, ((h.2 c3).2.2 c6).2.2.2⟩⟩))⟩))))⟩⟩⟩⟩⟩⟩⟩⟩)

theorem v_M_judge_190 (d : Nat) (v4 v5 : Int) (z1 z2 z3 z6 : Option am_V) (σ : am_S) (K : Int → am_S → Prop) (hF : MF σ) (hT : (sI σ 31 26) = 0) (h :
  (((sI σ 31 5) ≤ v5 →
    K v4 (putI σ 31 83 1)) ∧
  (¬ ((sI σ 31 5) ≤ v5) →
    (0 ≤ v5 ∧ v5 < 10000) ∧
    (((sI σ 86 (Int.toNat v5)) < 0 →
      (-2147483648 ≤ v5 + 1 ∧ v5 + 1 < 2147483648) ∧
      am_Runs PP MLL (d + 3) m_M_judge 190 [some (qr (31, 12, 89)), z1, z2, z3, some (qi v4), some (qi (v5 + 1)), z6] [] σ (kI K)) ∧
    (¬ ((sI σ 86 (Int.toNat v5)) < 0) →
      (0 ≤ (sI σ 86 (Int.toNat v5)) ∧ (sI σ 86 (Int.toNat v5)) < 117649 ∧ -2147483648 ≤ v5 + 1 ∧ v5 + 1 < 2147483648) ∧
      am_Runs PP MLL (d + 3) m_M_judge 190 [some (qr (31, 12, 89)), z1, z2, z3, some (qi v4), some (qi (v5 + 1)), z6] [] (putI σ 85 (Int.toNat (sI σ 86 (Int.toNat v5))) 0) (kI K)))))) : am_Runs PP MLL (d + 3) m_M_judge 190 [some (qr (31, 12, 89)), z1, z2, z3, some (qi v4), some (qi v5), z6] [] σ (kI K) := am_wEC_ok (orc [(195, 86, 20, 10000), (200, 85, 20, 117649), (202, 86, 20, 10000)]) [112, 137, 169, 176, 185] 200 (⟨rfl, ⟨fun c3 => ⟨⟨rfl, (Or.inr rfl)⟩, (h.1 c3)⟩, fun c3 => ⟨⟨rfl, (hF 88)⟩, ⟨⟨rfl, (h.2 c3).1.1, (h.2 c3).1.2⟩, ⟨fun c5 => ⟨⟨((h.2 c3).2.1 c5).1.1, ((h.2 c3).2.1 c5).1.2⟩, ((h.2 c3).2.1 c5).2⟩, fun c5 => ⟨⟨rfl, (hF 87)⟩, ⟨⟨rfl, (hF 88)⟩, ⟨⟨rfl, (h.2 c3).1.1, (h.2 c3).1.2⟩, ⟨⟨rfl, ((h.2 c3).2.2 c5).1.1, ((h.2 c3).2.2 c5).1.2.1⟩, ⟨⟨((h.2 c3).2.2 c5).1.2.2.1, ((h.2 c3).2.2 c5).1.2.2.2⟩, ((h.2 c3).2.2 c5).2⟩⟩⟩⟩⟩⟩⟩⟩⟩⟩)

/-- the reference's store behind judge -/
def mJudge (σ : am_S) (r : Nat → Int) (n : Nat) : am_S := putI (JS σ (up (sI σ 86) (fun t => if sI σ 37 t < 0 then r t else -1) n) (fun _ => 0) (un (sI σ 37) r n) (lg (sI σ 37) r n) (sh (sI σ 37) r n n)) 31 83 1
theorem l_M_judge (d : Nat) {b m k n : Nat} {σ : am_S} {K : Int → am_S → Prop} (hF : MF σ) (hT : sI σ 31 26 = 0) (hm : m ≤ 12) (hb : b < m) (hq : QV σ m) (hk : k ≤ 6) (hn : sI σ 31 5 = n) (hn2 : n ≤ 10000) (hv : ∀ t, t < n → TVt (sI σ 33) (sI σ 34) (sI σ 35) 40 t) (hx : ∀ j, 0 ≤ sI σ 83 j ∧ sI σ 83 j < 1099511627776 ∧ 0 ≤ sI σ 84 j ∧ sI σ 84 j < 1099511627776) (hz : ∀ v, sI σ 85 v = 0)
    (h : K (al (sI σ 37) (fun t => jr σ b t k) n n) (mJudge σ (fun t => jr σ b t k) n)) (z3 z5 z6 : Option am_V) :
    am_Runs PP MLL (d + 3) m_M_judge 77 [some (qr (31, 12, 89)), some (qi (b : Int)), some (qi (k : Int)), z3, some (qi 0), z5, z6] [] (putI (putI σ 31 85 0) 31 86 0) (kI K) := by
  obtain ⟨r, hr⟩ : ∃ r : Nat → Int, r = fun t => jr σ b t k := ⟨_, rfl⟩
  obtain ⟨s, hs⟩ : ∃ s : Nat → Int, s = sI σ 37 := ⟨_, rfl⟩
  have hrb : ∀ t, t < n → 0 ≤ r t ∧ r t < 117649 := by
    intro t ht
    have h1 := jr_bd (b := b) (hv t ht) k
    have h2 := p7 hk
    rw [hr]
    exact ⟨h1.1, Int.lt_of_lt_of_le h1.2 h2⟩
  rw [← hr, ← hs] at h
  have hq31 : ∀ (a c : Nat → Int) (u l w : Int) (j : Nat), j ≠ 84 → j ≠ 85 → j ≠ 86 → sI (JS σ a c u l w) 31 j = sI σ 31 j := by
    intro a c u l w j h1 h2 h3
    unfold JS
    rw [put_at, if_neg h1, put_at, if_neg h3, put_at, if_neg h2, row_ne (by decide), row_ne (by decide)]
  -- the last loop
  have h3 : ∀ i : Nat, i ≤ n → ∀ z1 z2 z3 z6, am_Runs PP MLL (d + 3) m_M_judge 190 [some (qr (31, 12, 89)), z1, z2, z3, some (qi (al s r n n)), some (qi (i : Int)), z6] [] (JS σ (up (sI σ 86) (fun t => if s t < 0 then r t else -1) n) (fun v => if cn s r i v = 0 then cn s r n v else 0) (un s r n) (lg s r n) (sh s r n n)) (kI K) := by
    refine lp ?_ ?_
    · intro z1 z2 z3 z6
      refine v_M_judge_190 d _ _ z1 z2 z3 z6 _ K hF (by rw [hq31 _ _ _ _ _ _ (by decide) (by decide) (by decide)]; exact hT) ⟨fun _ => ?_, fun c => absurd (by rw [hq31 _ _ _ _ _ _ (by decide) (by decide) (by decide)]; omega) c⟩
      have e : (fun v : Nat => if cn s r n v = 0 then cn s r n v else 0) = (fun _ => 0) := by
        funext v
        split
        · rename_i hh; exact hh
        · rfl
      rw [e]
      unfold mJudge at h
      rw [← hs] at h
      exact h
    · intro i hi ih z1 z2 z3 z6
      refine v_M_judge_190 d _ _ z1 z2 z3 z6 _ K hF (by rw [hq31 _ _ _ _ _ _ (by decide) (by decide) (by decide)]; exact hT) ⟨fun c => absurd c (by rw [hq31 _ _ _ _ _ _ (by decide) (by decide) (by decide)]; omega), fun _ => ?_⟩
      have e86 : up (sI σ 86) (fun t => if s t < 0 then r t else -1) n i = if s i < 0 then r i else -1 := if_pos hi
      have hri := hrb i hi
      rw [Int.toNat_natCast, JS_86, e86]
      refine ⟨by omega, fun c => ⟨by omega, ?_⟩, fun c => ?_⟩
      · have hsi : ¬ s i < 0 := by
          intro hh
          rw [if_pos hh] at c
          omega
        have e : (fun v : Nat => if cn s r (i + 1) v = 0 then cn s r n v else 0) = (fun v : Nat => if cn s r i v = 0 then cn s r n v else 0) := by
          funext v
          have e0 : (if s i < 0 ∧ r i = (v : Int) then (1 : Int) else 0) = 0 := if_neg (fun q => hsi q.1)
          rw [cn_succ, e0, Int.add_zero]
        rw [e] at ih
        exact ih z1 z2 z3 z6
      · have hsi : s i < 0 := by
          by_cases hh : s i < 0
          · exact hh
          · rw [if_neg hh] at c
            omega
        rw [if_pos hsi]
        refine ⟨by omega, ?_⟩
        refine runs_st (JS_is ?_ ?_ ?_ ?_ ?_ ?_ ?_ ?_) (ih z1 z2 z3 z6)
        · rfl
        · rw [put_ne (by decide), JS_86]
        · funext v
          rw [put_at, JS_85, cn_succ]
          have hc := cn_bd s r i v
          by_cases e : v = (r i).toNat
          · have e0 : (if s i < 0 ∧ r i = (v : Int) then (1 : Int) else 0) = 1 := if_pos ⟨hsi, by omega⟩
            rw [if_pos e, e0, if_neg (by omega)]
          · have e0 : (if s i < 0 ∧ r i = (v : Int) then (1 : Int) else 0) = 0 := if_neg (fun q => e (by omega))
            rw [if_neg e, e0, Int.add_zero]
        · rfl
        · rfl
        · rfl
        · intro j h1 h2 h3
          rw [put_ne (by decide), hq31 _ _ _ _ _ _ h1 h2 h3]
        · intro x h1 h2 h3
          rw [put_ne h2, JS_o h1 h2 h3]
  -- the middle loop, downwards
  have h2 : ∀ q : Nat, q ≤ n → ∀ z1 z2 z3 z6, am_Runs PP MLL (d + 3) m_M_judge 150 [some (qr (31, 12, 89)), z1, z2, z3, some (qi (al s r n q)), some (qi ((n : Int) - 1 - q)), z6] [] (JS σ (up (sI σ 86) (fun t => if s t < 0 then r t else -1) n) (fun v => cn s r n v) (un s r n) (lg s r n) (sh s r n q)) (kI K) := by
    refine lp ?_ ?_
    · intro z1 z2 z3 z6
      refine v_M_judge_150 d _ _ z1 z2 z3 z6 _ K hF (by rw [hq31 _ _ _ _ _ _ (by decide) (by decide) (by decide)]; exact hT) ⟨fun _ => ?_, fun c => absurd (by omega) c⟩
      have h30 := h3 0 (Nat.zero_le _) z1 z2 z3 z6
      have e : (fun v : Nat => if cn s r 0 v = 0 then cn s r n v else 0) = (fun v : Nat => cn s r n v) := by
        funext v
        exact if_pos rfl
      rw [e] at h30
      exact h30
    · intro q hq2 ih z1 z2 z3 z6
      have et : Int.toNat ((n : Int) - 1 - q) = n - 1 - q := by omega
      have ec : (((n - 1 - q : Nat) : Int)) = (n : Int) - 1 - q := by omega
      have e86 : up (sI σ 86) (fun t => if s t < 0 then r t else -1) n (n - 1 - q) = if s (n - 1 - q) < 0 then r (n - 1 - q) else -1 := if_pos (by omega)
      have hri := hrb (n - 1 - q) (by omega)
      have hcn := cn_bd s r n (r (n - 1 - q))
      have hal := al_bd s r n q
      have en : (n : Int) - 1 - q + -1 = (n : Int) - 1 - ((q + 1 : Nat) : Int) := by omega
      refine v_M_judge_150 d _ _ z1 z2 z3 z6 _ K hF (by rw [hq31 _ _ _ _ _ _ (by decide) (by decide) (by decide)]; exact hT) ⟨fun c => absurd c (by omega), fun _ => ?_⟩
      rw [et, JS_86, e86]
      refine ⟨by omega, fun c => ⟨by omega, ?_⟩, fun c => ?_⟩
      · have hsi : ¬ s (n - 1 - q) < 0 := by
          intro hh
          rw [if_pos hh] at c
          omega
        have ih := ih z1 z2 z3 z6
        unfold al sh at ih
        rw [if_neg (fun w => hsi w.1), if_neg (fun w => hsi w.1), Int.add_zero] at ih
        rw [en]
        exact ih
      · have hsi : s (n - 1 - q) < 0 := by
          by_cases hh : s (n - 1 - q) < 0
          · exact hh
          · rw [if_neg hh] at c
            omega
        rw [if_pos hsi]
        have e85 : sI (JS σ (up (sI σ 86) (fun t => if s t < 0 then r t else -1) n) (fun v => cn s r n v) (un s r n) (lg s r n) (sh s r n q)) 85 (r (n - 1 - q)).toNat = cn s r n (r (n - 1 - q)) := by
          rw [JS_85, Int.toNat_of_nonneg hri.1]
        rw [e85, en]
        have ih := ih z1 z2 (am_cl z3)
        unfold al sh at ih
        refine ⟨by omega, ?_, by omega, ?_⟩
        · (repeat' split) <;> omega
        · by_cases h1 : cn s r n (r (n - 1 - q)) = 1
          · rw [if_pos h1]
            rw [if_neg (by decide), if_neg (by decide)]
            have ih := ih (some (qi 1))
            rw [if_pos ⟨hsi, h1⟩, if_neg (fun w => w.2 h1)] at ih
            refine runs_st ?_ ih
            exact putI_self rfl
          · rw [if_neg h1]
            rw [if_pos rfl, if_pos rfl]
            have ih := ih (some (qi 0))
            rw [if_neg (fun w => h1 w.2), if_pos ⟨hsi, h1⟩, ec] at ih
            refine runs_st (JS_is ?_ ?_ ?_ ?_ ?_ ?_ ?_ ?_) ih
            · rfl
            · rw [put_ne (by decide), JS_86]
            · rw [put_ne (by decide), JS_85]
            · rfl
            · rfl
            · rfl
            · intro j h1 h2 h3
              rw [put_at, if_neg h1, hq31 _ _ _ _ _ _ h1 h2 h3]
            · intro x h1 h2 h3
              rw [put_ne h3, JS_o h1 h2 h3]
  -- the first loop
  have h1 : ∀ i : Nat, i ≤ n → ∀ z3 z5 z6, am_Runs PP MLL (d + 3) m_M_judge 77 [some (qr (31, 12, 89)), some (qi (b : Int)), some (qi (k : Int)), z3, some (qi (i : Int)), z5, z6] [] (JS σ (up (sI σ 86) (fun t => if s t < 0 then r t else -1) i) (fun v => cn s r i v) (un s r i) (lg s r i) (sI σ 31 84)) (kI K) := by
    refine lp ?_ ?_
    · intro z3 z5 z6
      refine v_M_judge_77 d b k _ z3 z5 z6 _ K hF (by rw [hq31 _ _ _ _ _ _ (by decide) (by decide) (by decide)]; exact hT) ⟨fun _ => ?_, fun c => absurd (by rw [hq31 _ _ _ _ _ _ (by decide) (by decide) (by decide)]; omega) c⟩
      rw [hq31 _ _ _ _ _ _ (by decide) (by decide) (by decide), hn]
      refine ⟨by omega, ?_⟩
      have h20 := h2 0 (Nat.zero_le _) (some (qi (b : Int))) (some (qi (k : Int))) (am_cl z3) z6
      have en : (n : Int) - 1 - ((0 : Nat) : Int) = (n : Int) - 1 := by omega
      rw [en] at h20
      refine runs_st (JS_is ?_ ?_ ?_ ?_ ?_ ?_ ?_ ?_) h20
      · rfl
      · rw [put_ne (by decide), JS_86]
      · rw [put_ne (by decide), JS_85]
      · rfl
      · rfl
      · rfl
      · intro j h1 h2 h3
        rw [put_at, if_neg h1, hq31 _ _ _ _ _ _ h1 h2 h3]
      · intro x h1 h2 h3
        rw [put_ne h3, JS_o h1 h2 h3]
    · intro i hi ih z3 z5 z6
      have hri := hrb i hi
      have hcn := cn_bd s r i (r i)
      have hun := un_bd s r i
      have e37 : sI (JS σ (up (sI σ 86) (fun t => if s t < 0 then r t else -1) i) (fun v => cn s r i v) (un s r i) (lg s r i) (sI σ 31 84)) 37 i = s i := by
        rw [JS_o (by decide) (by decide) (by decide), hs]
      refine v_M_judge_77 d b k _ z3 z5 z6 _ K hF (by rw [hq31 _ _ _ _ _ _ (by decide) (by decide) (by decide)]; exact hT) ⟨fun c => absurd c (by rw [hq31 _ _ _ _ _ _ (by decide) (by decide) (by decide)]; omega), fun _ => ?_⟩
      rw [Int.toNat_natCast, e37]
      refine ⟨by omega, fun c => ?_, fun c => ⟨by omega, ?_⟩⟩
      · -- a truth that is left
        obtain ⟨A, hA⟩ : ∃ A, A = JS σ (up (sI σ 86) (fun t => if s t < 0 then r t else -1) i) (fun v => cn s r i v) (un s r i) (lg s r i) (sI σ 31 84) := ⟨_, rfl⟩
        rw [← hA]
        have ho : ∀ x, x ≠ 86 → x ≠ 85 → x ≠ 31 → sI (putI A 86 i (-1)) x = sI σ x := by
          intro x h1 h2 h3
          rw [put_ne h1, hA, JS_o h1 h2 h3]
        have hA2 : (putI A 86 i (-1)).2 = σ.2 := by rw [hA]; rfl
        have hAR : ∀ a j, sR (putI A 86 i (-1)) a j = sR σ a j := by rw [hA]; intro a j; rfl
        have hAF : MF (putI A 86 i (-1)) := fun j => (hAR 31 j).trans (hF j)
        have hQ : QV (putI A 86 i (-1)) m := by
          unfold QV
          rw [ho 41 (by decide) (by decide) (by decide), ho 46 (by decide) (by decide) (by decide), ho 47 (by decide) (by decide) (by decide)]
          exact hq
        have hV : TVt (sI (putI A 86 i (-1)) 33) (sI (putI A 86 i (-1)) 34) (sI (putI A 86 i (-1)) 35) 40 i := by
          rw [ho 33 (by decide) (by decide) (by decide), ho 34 (by decide) (by decide) (by decide), ho 35 (by decide) (by decide) (by decide)]
          exact hv i hi
        have hX : ∀ j, 0 ≤ sI (putI A 86 i (-1)) 83 j ∧ sI (putI A 86 i (-1)) 83 j < 1099511627776 ∧ 0 ≤ sI (putI A 86 i (-1)) 84 j ∧ sI (putI A 86 i (-1)) 84 j < 1099511627776 := by
          rw [ho 83 (by decide) (by decide) (by decide), ho 84 (by decide) (by decide) (by decide)]
          exact hx
        have hTT : sI (putI A 86 i (-1)) 31 26 = 0 := by
          rw [put_ne (by decide), hA, hq31 _ _ _ _ _ _ (by decide) (by decide) (by decide)]
          exact hT
        refine c_M_judgedRow d hAF hTT hm hb hQ hk (by omega) hV hX ⟨hAF, ?_⟩
        have er : jr (putI A 86 i (-1)) b i k = r i := by
          rw [jr_congr ho k, hr]
        have e1 : sI (putI A 86 i (-1)) 31 85 = un s r i := by rw [hA]; rfl
        have e2 : sI (putI A 86 i (-1)) 31 86 = lg s r i := by rw [hA]; rfl
        have e3 : sI (putI A 86 i (-1)) 85 (r i).toNat = cn s r i (r i) := by
          rw [put_ne (by decide), hA, JS_85, Int.toNat_of_nonneg hri.1]
        have e86 : sI A 86 = up (sI σ 86) (fun t => if s t < 0 then r t else -1) i := by rw [hA, JS_86]
        have e85 : sI A 85 = (fun v : Nat => cn s r i v) := by rw [hA, JS_85]
        have e31 : ∀ j, j ≠ 84 → j ≠ 85 → j ≠ 86 → sI A 31 j = sI σ 31 j := by
          intro j h1 h2 h3
          rw [hA, hq31 _ _ _ _ _ _ h1 h2 h3]
        have eA2 : A.2 = σ.2 := by rw [hA]; rfl
        have e84 : sI A 31 84 = sI σ 31 84 := by rw [hA]; rfl
        have e5 : ∀ (X : am_S) (v : Int), sI (putI X 85 (r i).toNat v) 85 (r i).toNat = v := fun X v => by rw [put_at, if_pos rfl]
        rw [er, e1, e2, e3, e5]
        refine ⟨by omega, ?_, by omega, ?_⟩
        · split <;> omega
        · refine runs_st (JS_is ?_ ?_ ?_ ?_ ?_ ?_ ?_ ?_) (ih (am_cl z3) (some (qi (r i))) z6)
          · exact eA2
          · funext v
            rw [put_ne (by decide), put_ne (by decide), put_ne (by decide), put_at, put_at, e86, up_succ]
            by_cases e : v = i
            · rw [if_pos e, if_pos e, e, if_pos c]
            · rw [if_neg e, if_neg e, if_neg e]
          · funext v
            rw [put_ne (by decide), put_at, put_ne (by decide), put_ne (by decide), put_ne (by decide), e85, cn_succ]
            by_cases e : v = (r i).toNat
            · rw [if_pos e, if_pos ⟨c, by omega⟩, e, Int.toNat_of_nonneg hri.1]
            · rw [if_neg e, if_neg (fun q => e (by omega)), Int.add_zero]
          · show un s r i + (if cn s r i (r i) = 0 then 1 else 0) = un s r i + (if s i < 0 ∧ cn s r i (r i) = 0 then 1 else 0)
            by_cases e : cn s r i (r i) = 0
            · rw [if_pos e, if_pos ⟨c, e⟩]
            · rw [if_neg e, if_neg (fun q => e q.2)]
          · show (if cn s r i (r i) + 1 ≤ lg s r i then lg s r i else cn s r i (r i) + 1) = (if s i < 0 then (if cn s r i (r i) + 1 ≤ lg s r i then lg s r i else cn s r i (r i) + 1) else lg s r i)
            rw [if_pos c]
          · exact e84
          · intro j h1 h2 h3
            rw [put_at, if_neg h3, put_ne (by decide), put_at, if_neg h2, put_ne (by decide), put_ne (by decide), e31 j h1 h2 h3]
          · intro x h1 h2 h3
            rw [put_ne h3, put_ne h2, put_ne h3, put_ne h1, ho x h1 h2 h3]
      · -- one that is struck
        refine runs_st (JS_is ?_ ?_ ?_ ?_ ?_ ?_ ?_ ?_) (ih (am_cl z3) z5 z6)
        · rfl
        · funext v
          rw [put_at, JS_86, up_succ]
          by_cases e : v = i
          · rw [if_pos e, if_pos e, e, if_neg c]
          · rw [if_neg e, if_neg e]
        · funext v
          rw [put_ne (by decide), JS_85, cn_succ, if_neg (fun q => c q.1), Int.add_zero]
        · show un s r i = un s r i + (if s i < 0 ∧ cn s r i (r i) = 0 then 1 else 0)
          rw [if_neg (fun q => c q.1), Int.add_zero]
        · show lg s r i = (if s i < 0 then (if cn s r i (r i) + 1 ≤ lg s r i then lg s r i else cn s r i (r i) + 1) else lg s r i)
          rw [if_neg c]
        · rfl
        · intro j h1 h2 h3
          rw [put_ne (by decide), hq31 _ _ _ _ _ _ h1 h2 h3]
        · intro x h1 h2 h3
          rw [put_ne h1, JS_o h1 h2 h3]
  refine runs_st (JS_is ?_ ?_ ?_ ?_ ?_ ?_ ?_ ?_) (h1 0 (Nat.zero_le _) z3 z5 z6)
  · rfl
  · rw [put_ne (by decide), put_ne (by decide), up_0]
  · funext v
    rw [put_ne (by decide), put_ne (by decide), hz]
    rfl
  · rfl
  · rfl
  · rfl
  · intro j h1 h2 h3
    rw [put_at, if_neg h3, put_at, if_neg h2]
  · intro x h1 h2 h3
    rw [put_ne h3, put_ne h3]
