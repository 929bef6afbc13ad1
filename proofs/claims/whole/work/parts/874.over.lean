/-! a search that is over: rows -/
theorem getD_in {L : List (Int × Int)} {i : Nat} (h : i < L.length) : L.getD i (0, 0) ∈ L := by
  rw [List.getD_eq_getElem?_getD, List.getElem?_eq_getElem h]
  exact List.getElem_mem h
theorem rwl_in {X : sX} {f : Nat → List (Int × Int)} {q : Int × Int} : ∀ J, q ∈ rwl X f J → ∃ j, j < J ∧ q ∈ f j
  | 0, h => by cases h
  | J + 1, h => by
    rcases List.mem_append.1 h with h | h
    · obtain ⟨j, a, b⟩ := rwl_in J h
      exact ⟨j, by omega, b⟩
    · exact ⟨J, by omega, h⟩
theorem fo_bd {X : sX} {n : Nat} {c : Nat → Int} {k : Nat} {w : sW} : -10 ≤ fo X n c k w ∧ fo X n c k w ≤ 10 := by
  have hm : 1 ≤ mo (xK X k) ∧ mo (xK X k) ≤ 3 := by unfold mo; split <;> omega
  obtain ⟨s1, s2, s3, s4⟩ := ff_spec (fun i => ¬ can X n (mkc X c k (sdw X c w) (-mo (xK X k) + (i : Int))) (k + 1)) (2 * mo (xK X k) + 1).toNat 0
  unfold fo fon
  omega
theorem rws_bd {X : sX} (hX : XV X) : ∀ n (c : Nat → Int) k q, q ∈ rws X n c k → -1000 ≤ q.2 ∧ q.2 ≤ 1000 := by
  have one : ∀ (c : Nat → Int) (q : Int × Int), q ∈ [((-1 : Int), mn X c)] → -1000 ≤ q.2 ∧ q.2 ≤ 1000 := fun c q h => by
    have e : q = ((-1 : Int), mn X c) := by
      rcases List.mem_singleton.1 h with rfl
      rfl
    rw [e]
    have := mn_bd X c
    have := hX.2.1
    show -1000 ≤ mn X c ∧ mn X c ≤ 1000
    omega
  intro n
  induction n with
  | zero => exact fun c _ q h => one c q h
  | succ n ih =>
    intro c k q h
    by_cases b : big X (n + 1) c
    · rw [rws_b b] at h
      exact one c q h
    · rw [rws_s b] at h
      obtain ⟨j, _, hj⟩ := rwl_in _ h
      rcases List.mem_cons.1 hj with e | e
      · rw [e]
        have := @fo_bd X n c k (wAt X c j)
        show -1000 ≤ fo X n c k (wAt X c j) ∧ fo X n c k (wAt X c j) ≤ 1000
        omega
      · exact ih _ _ q e
theorem rwl_1 {X : sX} {f : Nat → List (Int × Int)} {J : Nat} (h : 0 < J) (h1 : 1 ≤ (f 0).length) : 1 ≤ (rwl X f J).length := by
  obtain ⟨j, rfl⟩ : ∃ j, J = j + 1 := ⟨J - 1, by omega⟩
  clear h
  induction j with
  | zero =>
    show 1 ≤ ([] ++ f 0).length
    rw [List.nil_append]
    exact h1
  | succ j ih =>
    show 1 ≤ (rwl X f (j + 1) ++ f (j + 1)).length
    rw [List.length_append]
    omega
/-- rows that show why fewer don't do are there -/
theorem rws_p {X : sX} (hX : XV X) {n : Nat} {c : Nat → Int} {k : Nat} (h : can X (n + 1) c k) (hn : ¬ can X n c k) : 1 ≤ (rws X n c k).length := by
  have h2 : ¬ mn X c < 2 := fun q => hn (can_2 q)
  have hw : 0 < wct X c := by
    have := yj_lt hX h h2
    omega
  cases n with
  | zero => exact Nat.le_refl _
  | succ n =>
    by_cases b : big X (n + 1) c
    · rw [rws_b b]
      exact Nat.le_refl _
    · rw [rws_s b]
      refine rwl_1 hw ?_
      show 1 ≤ (_ :: _).length
      rw [List.length_cons]
      omega
theorem cki_cg {f g : Nat → Nat → Option Nat} (h : ∀ j a, f j a = g j a) : ∀ q j a, cki f q j a = cki g q j a := by
  have : f = g := by funext j a; exact h j a
  intro q j a
  rw [this]
/-- rows that are alike are gone through alike -/
theorem ck_cg {X : sX} {r1 r2 s1 s2 : Nat → Int} {m : Nat} (h1 : ∀ i, i < m → r1 i = s1 i) (h2 : ∀ i, i < m → r2 i = s2 i) : ∀ n (c : Nat → Int) k a, ck X r1 r2 m n c k a = ck X s1 s2 m n c k a := by
  have one : ∀ (c : Nat → Int) a, ck1 X r1 r2 m c a = ck1 X s1 s2 m c a := fun c a => by
    unfold ck1
    by_cases e : a < m
    · rw [h1 a e, h2 a e]
    · rw [if_neg (fun q => e q.1), if_neg (fun q => e q.1)]
  intro n
  induction n with
  | zero =>
    intro c k a
    show (if mn X c < 2 then none else ck1 X r1 r2 m c a) = (if mn X c < 2 then none else ck1 X s1 s2 m c a)
    rw [one]
  | succ n ih =>
    intro c k a
    by_cases e : mn X c < 2
    · rw [ck_2q e, ck_2q e]
    · by_cases b : big X (n + 1) c
      · rw [ck_b e b, ck_b e b, one]
      · rw [ck_s e b, ck_s e b]
        refine cki_cg (fun j a' => ?_) _ _ _
        unfold ckF
        by_cases e' : a' < m
        · rw [h1 a' e', h2 a' e', ih]
        · rw [if_neg (fun q => e' q.1), if_neg (fun q => e' q.1)]
/-- a search that is over, after changes that leave its tree alone -/
theorem IS_over {σ t : am_S} {own : Nat → Nat} {T n ob nb k0 aQ st n0 : Nat} {X : sX} {tr : Nat → Nat} {c0 : Nat → Int} (hF : MF σ) (hb : SBs σ own T n X ob nb tr c0 k0 aQ st) (q1 : n0 ≤ 6) (q2 : sI σ 12 13 = 1 ∧ sI σ 12 16 = n0) (q3 : ∀ m, m < n0 → ¬ can X m c0 k0) (q4 : can X n0 c0 k0) (q5 : TC X tr (tcl σ) n0 c0 k0 0 0) (q6 : TV σ own (tsz X n0 c0 k0)) (q7 : sI σ 18 1 = tsz X n0 c0 k0) (q8 : sI σ 31 34 = 1 ∧ sI σ 31 35 = n0 ∧ sI σ 31 73 = tsz X n0 c0 k0 ∧ sI σ 31 60 = tsz X n0 c0 k0) (q9 : RS σ X tr n0 c0 k0 0 0 0) (q10 : hBT σ X n0 c0 k0 0) (q11 : hNT σ X n0 c0 k0 0 0)
    (h2 : t.2 = σ.2) (hI : ∀ x, x < sN σ → x ≠ 12 → x ≠ 31 → ¬ (53 ≤ x ∧ x ≤ 66) → x ≠ 81 → x ≠ 82 → ¬ (20 ≤ own x ∧ own x ≤ 25) → own x < 2000 → sI t x = sI σ x) (h12 : ∀ j, j ≠ 14 → j ≠ 17 → sI t 12 j = sI σ 12 j) (h31 : ∀ j, j ≠ 57 → j ≠ 58 → j ≠ 59 → j ≠ 76 → j ≠ 77 → j ≠ 78 → sI t 31 j = sI σ 31 j) (o : ORw t own X c0 k0 n0) : ISs t own T n := by
  obtain ⟨b1, b2, b3, b4, b5, b6, b7, b8, b9, b10, b11, b12, b13⟩ := hb
  have o1 := SE_87 b1
  have h87 := b1.1.2.2.2.1
  obtain ⟨r1, r2, r3⟩ := R2 h2
  have ri : ∀ x, x < 87 → ¬ (x = 12 ∨ (20 ≤ x ∧ x ≤ 25) ∨ x = 31 ∨ (53 ≤ x ∧ x ≤ 66) ∨ x = 81 ∨ x = 82) → sI t x = sI σ x := fun x hx hr => hI x (by omega) (by omega) (by omega) (by omega) (by omega) (by omega) (by rw [o1 x hx]; omega) (by rw [o1 x hx]; omega)
  have Ft : MF t := MF_I hF h2
  -- the class alone
  obtain ⟨τ, eτ⟩ : ∃ τ : am_S, τ = (fun x j => if x < 31 ∨ 87 ≤ x then t.1 x j else σ.1 x j, σ.2) := ⟨_, rfl⟩
  have τ2 : τ.2 = σ.2 := by rw [eτ]
  have τa : ∀ x, (x < 31 ∨ 87 ≤ x) → sI τ x = sI t x := fun x hx => by funext j; rw [eτ]; exact if_pos hx
  have τb : ∀ x, ¬ (x < 31 ∨ 87 ≤ x) → sI τ x = sI σ x := fun x hx => by funext j; rw [eτ]; exact if_neg hx
  have Eτ : SE τ own aQ k0 tr X c0 := by
    refine SE_I b1 τ2 (fun x hx hp => ?_) (by rw [τa 12 (by omega)]; exact ⟨h12 7 (by decide) (by decide), h12 8 (by decide) (by decide), h12 9 (by decide) (by decide)⟩)
    by_cases e : x < 31 ∨ 87 ≤ x
    · rw [τa x e]
      by_cases e2 : x < 87
      · exact ri x e2 (by unfold p0 at hp; rw [o1 x e2] at hp; omega)
      · exact hI x hx (by omega) (by omega) (by omega) (by omega) (by omega) (by unfold p0 at hp; omega) (by unfold p0 at hp; omega)
    · exact τb x e
  have Et : SE t own aQ k0 tr X c0 := by
    obtain ⟨s1, s2, s3⟩ := R2 (h2.trans τ2.symm)
    refine SE_y Eτ ⟨⟨by omega, fun _ _ => rfl⟩, fun x hx hr => ?_, fun x _ _ _ j => s1 x j, ⟨fun j _ => s1 9 j, fun j _ => s1 26 j⟩, fun x g hx hr => ?_, by rw [τa 10 (by omega)], fun j hj => by rw [τb 31 (by omega)]; exact h31 j (by omega) (by omega) (by omega) (by omega) (by omega) (by omega), trivial, trivial, trivial⟩
    · by_cases e : x < 31 ∨ 87 ≤ x
      · rw [τa x e]
      · rw [τb x e]
        have := o1 x (by omega)
        exact ri x (by omega) (by omega)
    · by_cases e : x < 31 ∨ 87 ≤ x
      · rw [τa x e]; exact ⟨rfl, rfl⟩
      · have := o1 x (by omega)
        omega
  -- the reference alone
  obtain ⟨ν, eν⟩ : ∃ ν : am_S, ν = (fun x j => if x < 31 ∨ 87 ≤ x then σ.1 x j else t.1 x j, σ.2) := ⟨_, rfl⟩
  have ν2 : ν.2 = σ.2 := by rw [eν]
  have νa : ∀ x, (x < 31 ∨ 87 ≤ x) → sI ν x = sI σ x := fun x hx => by funext j; rw [eν]; exact if_pos hx
  have νb : ∀ x, ¬ (x < 31 ∨ 87 ≤ x) → sI ν x = sI t x := fun x hx => by funext j; rw [eν]; exact if_neg hx
  have Mν : MX ν X ob nb tr := MX_fr b2 (fun x hx h31' => by
    by_cases e : x < 31 ∨ 87 ≤ x
    · exact νa x e
    · rw [νb x e]; exact ri x (by omega) (by omega)) (fun j hj => by rw [νb 31 (by omega)]; exact h31 j (by omega) (by omega) (by omega) (by omega) (by omega) (by omega))
  have Mt : MX t X ob nb tr := MX_y (n := nb) ⟨Ft, fun x hx => (νb x (by omega)).symm, fun j _ => by rw [νb 31 (by omega)], fun b _ => by rw [νb 41 (by omega), νb 47 (by omega)]; exact ⟨rfl, rfl⟩, fun i _ => by rw [νb 46 (by omega)]⟩ (Nat.le_refl _) Mν
  have e18 := ri 18 (by decide) (by omega)
  refine Or.inr ⟨X, ob, nb, tr, c0, k0, aQ, st, ⟨Et, Mt, b3, b4, b5, by rw [h31 13 (by decide) (by decide) (by decide) (by decide) (by decide) (by decide)]; exact b6, fun p hp => by rw [ri 36 (by decide) (by omega)]; exact b7 p hp, fun x hx hl => by rw [ri 37 (by decide) (by omega)] at hl; exact b8 x hx hl, by rw [h31 33 (by decide) (by decide) (by decide) (by decide) (by decide) (by decide)]; exact b9, by rw [h31 37 (by decide) (by decide) (by decide) (by decide) (by decide) (by decide)]; exact b10, by rw [h12 15 (by decide) (by decide)]; exact b11, by rw [h31 38 (by decide) (by decide) (by decide) (by decide) (by decide) (by decide)]; exact b12, by rw [h31 39 (by decide) (by decide) (by decide) (by decide) (by decide) (by decide)]; exact b13⟩, Or.inr (Or.inl ⟨n0, q1, by rw [h12 13 (by decide) (by decide), h12 16 (by decide) (by decide)]; exact q2, q3, q4, ?_, ?_, by rw [e18]; exact q7, by rw [h31 34 (by decide) (by decide) (by decide) (by decide) (by decide) (by decide), h31 35 (by decide) (by decide) (by decide) (by decide) (by decide) (by decide), h31 73 (by decide) (by decide) (by decide) (by decide) (by decide) (by decide), h31 60 (by decide) (by decide) (by decide) (by decide) (by decide) (by decide)]; exact q8, RS_fr n0 _ _ _ _ _ b4 (fun x x1 x2 j _ _ => by rw [ri x (by omega) (by omega)]) q9, hBT_fr n0 _ _ _ b4 (fun j _ _ => by rw [ri 74 (by decide) (by omega)]) (fun j _ _ => by rw [ri 77 (by decide) (by omega)]) q10, hNT_fr n0 _ _ _ _ b4 (fun j _ _ => by rw [ri 75 (by decide) (by omega)]) (fun j _ _ => by rw [ri 78 (by decide) (by omega)]) q11, o⟩)⟩
  · have : tcl t = tcl σ := by
      obtain ⟨⟨a, n', r18, oa, la, cap, nle⟩, _⟩ := q6
      funext i
      unfold tcl
      rw [r1, r18]
      simp only [rg_some]
      have na : ∀ x, x < 87 → x ≠ 19 → a ≠ x := fun x hx h19 e => by
        have := o1 x hx
        rw [← e, oa] at this
        omega
      rw [hI a la (na 12 (by decide) (by decide)) (na 31 (by decide) (by decide)) (fun q => na a (by omega) (by omega) rfl) (na 81 (by decide) (by decide)) (na 82 (by decide) (by decide)) (by omega) (by omega)]
    rw [this]
    exact q5
  · obtain ⟨⟨a, n', r18, oa, la, cap, nle⟩, c1, c2, c3, c4⟩ := q6
    exact ⟨⟨a, n', by rw [r1]; exact r18, oa, by omega, cap, nle⟩, c1, c2, c3, by omega⟩
