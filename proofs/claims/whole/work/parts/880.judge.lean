/-! judging: rows as numbers in both -/
theorem v_Jury_hasAll_0 (d : Nat) (β μ κ ρ : Nat → Nat) (me : Nat → Nat → Nat) (aH nH aL nL aY nY aS nS n : Nat) (p1 : Int) (σ : am_S) (K : Int → am_S → Prop) (hR : TR σ aH nH aL nL aY nY aS nS) (hB : BS σ β μ κ ρ me n) (h :
  am_Runs PP MLL d m_Jury_hasAll 2 [some (qr (26, 1, 8)), some (qi p1), some (qi 0)] [] σ (kI K)) : am_Runs PP MLL d m_Jury_hasAll 0 [some (qr (26, 1, 8)), some (qi p1), none] [] σ (kI K) := am_wEF_ok (orc []) 200 (h)

theorem v_Jury_hasAll_2 (d : Nat) (β μ κ ρ : Nat → Nat) (me : Nat → Nat → Nat) (aH nH aL nL aY nY aS nS n : Nat) (p1 v2 : Int) (σ : am_S) (K : Int → am_S → Prop) (hR : TR σ aH nH aL nL aY nY aS nS) (hB : BS σ β μ κ ρ me n) (h :
  ((p1 ≤ v2 →
    K 1 σ) ∧
  (¬ (p1 ≤ v2) →
    (0 ≤ v2 ∧ v2 < 6) ∧
    (((a_cmp (sI σ 27 (Int.toNat v2)) 0) = 0 →
      K 0 σ) ∧
    (¬ ((a_cmp (sI σ 27 (Int.toNat v2)) 0) = 0) →
      (-2147483648 ≤ v2 + 1 ∧ v2 + 1 < 2147483648) ∧
      am_Runs PP MLL d m_Jury_hasAll 2 [some (qr (26, 1, 8)), some (qi p1), some (qi (v2 + 1))] [] σ (kI K)))))) : am_Runs PP MLL d m_Jury_hasAll 2 [some (qr (26, 1, 8)), some (qi p1), some (qi v2)] [] σ (kI K) := am_wEF_ok (orc [(6, 27, 21, 6)]) 200 (⟨fun c1 => ⟨(Or.inr rfl), (h.1 c1)⟩, fun c1 => ⟨⟨rfl, (hR.1 26 0 _ rfl)⟩, ⟨⟨rfl, (h.2 c1).1.1, (h.2 c1).1.2⟩, ⟨fun c2 => ⟨(Or.inl rfl), ((h.2 c1).2.1 c2)⟩, fun c2 => ⟨⟨((h.2 c1).2.2 c2).1.1, ((h.2 c1).2.2 c2).1.2⟩, ((h.2 c1).2.2 c2).2⟩⟩⟩⟩⟩)

/-- two numberings of rows that tell the same apart -/
def same (r q : Nat → Int) (T : Nat) : Prop := ∀ t u, t < T → u < T → (r t = r u ↔ q t = q u)
theorem cn_same {s r q : Nat → Int} {T t : Nat} (h : same r q T) (ht : t < T) : ∀ i, i ≤ T → cn s r i (r t) = cn s q i (q t) := by
  intro i hi
  unfold cn
  refine sm_congr i (fun u hu => ?_)
  have := h u t (by omega) ht
  by_cases e : s u < 0 ∧ r u = r t
  · rw [if_pos e, if_pos ⟨e.1, this.1 e.2⟩]
  · rw [if_neg e, if_neg (fun p => e ⟨p.1, this.2 p.2⟩)]
theorem un_same {s r q : Nat → Int} {T : Nat} (h : same r q T) : un s r T = un s q T := by
  unfold un
  refine sm_congr T (fun t ht => ?_)
  rw [cn_same h ht t (by omega)]
theorem lg_same {s r q : Nat → Int} {T : Nat} (h : same r q T) : ∀ i, i ≤ T → lg s r i = lg s q i
  | 0, _ => rfl
  | i + 1, hi => by
    show (if s i < 0 then (if cn s r i (r i) + 1 ≤ lg s r i then lg s r i else cn s r i (r i) + 1) else lg s r i) = (if s i < 0 then (if cn s q i (q i) + 1 ≤ lg s q i then lg s q i else cn s q i (q i) + 1) else lg s q i)
    rw [lg_same h i (by omega), cn_same h (show i < T by omega) i (by omega)]
theorem al_same {s r q : Nat → Int} {T : Nat} (h : same r q T) : ∀ k, k ≤ T → al s r T k = al s q T k
  | 0, _ => rfl
  | k + 1, hk => by
    show al s r T k + (if s (T - 1 - k) < 0 ∧ cn s r T (r (T - 1 - k)) = 1 then 1 else 0) = al s q T k + (if s (T - 1 - k) < 0 ∧ cn s q T (q (T - 1 - k)) = 1 then 1 else 0)
    rw [al_same h k (by omega), cn_same h (show T - 1 - k < T by omega) T (Nat.le_refl _)]
theorem sh_same {s r q : Nat → Int} {T : Nat} (h : same r q T) : ∀ k, k ≤ T → sh s r T k = sh s q T k
  | 0, _ => rfl
  | k + 1, hk => by
    show (if s (T - 1 - k) < 0 ∧ ¬ cn s r T (r (T - 1 - k)) = 1 then ((T - 1 - k : Nat) : Int) else sh s r T k) = (if s (T - 1 - k) < 0 ∧ ¬ cn s q T (q (T - 1 - k)) = 1 then ((T - 1 - k : Nat) : Int) else sh s q T k)
    rw [sh_same h k (by omega), cn_same h (show T - 1 - k < T by omega) T (Nat.le_refl _)]
/-- one figure more -/
theorem dig_inj {D a b x y : Int} (hx : 0 ≤ x ∧ x < D) (hy : 0 ≤ y ∧ y < D) : D * a + x = D * b + y ↔ a = b ∧ x = y := by
  constructor
  · intro h
    have hD : 0 < D := by omega
    have e1 : (D * a + x) / D = a := by rw [Int.add_comm, Int.add_mul_ediv_left _ _ (by omega), Int.ediv_eq_zero_of_lt hx.1 hx.2, Int.zero_add]
    have e2 : (D * b + y) / D = b := by rw [Int.add_comm, Int.add_mul_ediv_left _ _ (by omega), Int.ediv_eq_zero_of_lt hy.1 hy.2, Int.zero_add]
    have e3 : a = b := by rw [← e1, ← e2, h]
    refine ⟨e3, ?_⟩
    rw [e3] at h
    omega
  · rintro ⟨e1, e2⟩
    rw [e1, e2]
theorem tl_moB {k x : Int} (hx : -3 ≤ x ∧ x ≤ 3) : -mo k ≤ tl k x ∧ tl k x ≤ mo k := by
  have : x = -3 ∨ x = -2 ∨ x = -1 ∨ x = 0 ∨ x = 1 ∨ x = 2 ∨ x = 3 := by omega
  unfold tl mo sgn
  rcases this with e | e | e | e | e | e | e <;> subst e <;> (repeat' split) <;> first | omega | decide
/-- the class's number and the reference's tell the same truths apart -/
theorem cr_jr {σ : am_S} {β κ : Nat → Nat} {me : Nat → Nat → Nat} {b n T : Nat} (hv : ∀ t, t < T → TVt (sI σ 33) (sI σ 34) (sI σ 35) 40 t) : ∀ k, JH σ β κ me b n k → (∀ i, i < k → sI σ 27 i = sI σ 83 i ∧ sI σ 28 i = sI σ 84 i ∧ sI σ 41 (wr σ b i) = sI σ (β (cw κ me b i)) 0) → same (fun t => cr σ β κ me b t k) (fun t => jr σ b t k) T
  | 0, _, _ => fun t u _ _ => ⟨fun _ => rfl, fun _ => rfl⟩
  | k + 1, hJ, he => fun t u ht hu => by
    have ih := cr_jr hv k (fun i hi => hJ i (by omega)) (fun i hi => he i (by omega)) t u ht hu
    obtain ⟨j1, j2, j3, j4, j5, j6, j7⟩ := hJ k (by omega)
    obtain ⟨g1, g2, g3⟩ := he k (by omega)
    have hd : ∀ t, t < T → -3 ≤ jd σ k t ∧ jd σ k t ≤ 3 := fun t ht => df_bd (hv t ht) (fun c => bt_pm _ _ c)
    have ec : ∀ t, ctl σ β κ me b t k = tl (sI σ 41 (wr σ b k)) (jd σ k t) := fun t => by
      unfold ctl jd
      rw [g1, g2, g3]
    have bt' := tl_moB (k := sI σ 41 (wr σ b k)) (hd t ht)
    have bu' := tl_moB (k := sI σ 41 (wr σ b k)) (hd u hu)
    have hm : 1 ≤ mo (sI σ 41 (wr σ b k)) ∧ mo (sI σ 41 (wr σ b k)) ≤ 3 := by unfold mo; split <;> omega
    rw [g3] at bt' bu' hm
    show cdg σ β κ me b k * cr σ β κ me b t k + sI σ (β (cw κ me b k)) 5 + ctl σ β κ me b t k = cdg σ β κ me b k * cr σ β κ me b u k + sI σ (β (cw κ me b k)) 5 + ctl σ β κ me b u k ↔ 7 * jr σ b t k + tl (sI σ 41 (wr σ b k)) (jd σ k t) + 3 = 7 * jr σ b u k + tl (sI σ 41 (wr σ b k)) (jd σ k u) + 3
    rw [ec, ec, g3, j2]
    have i1 := @dig_inj (cdg σ β κ me b k) (cr σ β κ me b t k) (cr σ β κ me b u k) (mo (sI σ (β (cw κ me b k)) 0) + tl (sI σ (β (cw κ me b k)) 0) (jd σ k t)) (mo (sI σ (β (cw κ me b k)) 0) + tl (sI σ (β (cw κ me b k)) 0) (jd σ k u)) (by unfold cdg; rw [j2]; omega) (by unfold cdg; rw [j2]; omega)
    have ih' : cr σ β κ me b t k = cr σ β κ me b u k ↔ jr σ b t k = jr σ b u k := ih
    rw [Int.add_assoc, Int.add_assoc, i1, ih']
    constructor
    · rintro ⟨a, b⟩
      omega
    · intro h
      omega
/-- all weighings told ahead are there -/
theorem c_hasAll (d : Nat) {β μ κ ρ : Nat → Nat} {me : Nat → Nat → Nat} {n aH nH aL nL aY nY aS nS k : Nat} {σ : am_S} {K : Int → am_S → Prop} (hR : TR σ aH nH aL nL aY nY aS nS) (hB : BS σ β μ κ ρ me n) (hk : k ≤ 6) (hy : (∀ i, i < k → sI σ 27 i ≠ 0) → K 1 σ) (hn : (∃ i, i < k ∧ sI σ 27 i = 0) → K 0 σ) : am_Calls PP MLL (d + 1) m_Jury_hasAll [qr (26, 1, 8), qi (k : Int)] σ (kI K) := by
  refine v_Jury_hasAll_0 d β μ κ ρ me aH nH aL nL aY nY aS nS n (k : Int) σ K hR hB ?_
  have key : ∀ j i : Nat, i + j = k → (∀ q, q < i → sI σ 27 q ≠ 0) → am_Runs PP MLL d m_Jury_hasAll 2 [some (qr (26, 1, 8)), some (qi (k : Int)), some (qi (i : Int))] [] σ (kI K) := by
    intro j
    induction j with
    | zero =>
      intro i hi hq
      exact v_Jury_hasAll_2 d β μ κ ρ me aH nH aL nL aY nY aS nS n _ _ σ K hR hB ⟨fun _ => hy (fun q hq' => hq q (by omega)), fun q => by omega⟩
    | succ j ih =>
      intro i hi hq
      refine v_Jury_hasAll_2 d β μ κ ρ me aH nH aL nL aY nY aS nS n _ _ σ K hR hB ?_
      rw [Int.toNat_natCast, cmp0]
      refine ⟨fun q => by omega, fun _ => ⟨by omega, fun z => hn ⟨i, by omega, z⟩, fun z => ⟨by omega, ?_⟩⟩⟩
      exact ih (i + 1) (by omega) (fun q hq' => by
        by_cases e : q = i
        · rw [e]; exact z
        · exact hq q (by omega))
  exact key k 0 (by omega) (fun q hq => absurd hq (Nat.not_lt_zero q))
