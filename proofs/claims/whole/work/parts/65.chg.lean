/-! the class: charge -/
theorem sR_putR {σ : am_S} {a j b k : Nat} {v : Option am_R} : sR (putR σ a j v) b k = if b = a ∧ k = j then v else sR σ b k := rfl
theorem crefF_mem : ∀ (L : List (Nat × Nat × am_R)) (a j : Nat) (r : am_R), crefF L a j = some r → (a, j, r) ∈ L
  | [], _, _, _, h => by cases h
  | q :: L, a, j, r, h => by
    unfold crefF at h
    cases hb : Nat.beq q.1 a && Nat.beq q.2.1 j with
    | true =>
      rw [hb] at h
      have h1 := (Bool.and_eq_true _ _).mp hb
      have e1 := Nat.eq_of_beq_eq_true h1.1
      have e2 := Nat.eq_of_beq_eq_true h1.2
      have e3 : q.2.2 = r := Option.some.inj h
      have : q = (a, j, r) := by
        obtain ⟨x, y, z⟩ := q
        dsimp only at e1 e2 e3
        rw [e1, e2, e3]
      rw [this]
      exact List.mem_cons_self
    | false =>
      rw [hb] at h
      exact List.mem_cons_of_mem _ (crefF_mem L a j r h)
theorem cref_dec : ∀ q ∈ crefL, q.1 < 31 ∧ (q.1 = 3 → q.2.1 = 10) ∧ (q.1 = 12 → q.2.1 = 0 ∨ q.2.1 = 1 ∨ q.2.1 = 3) ∧ (q.1 = 13 → q.2.1 < 2) ∧ (q.1 = 26 → q.2.1 < 2) ∧ q.1 ≠ 9 ∧ q.1 ≠ 18 ∧ q.1 ≠ 20 ∧ q.1 ≠ 23 := by decide
theorem CF_fr {σ s : am_S} (hC : CF σ) (h : ∀ a j, a < 31 → (a = 3 → j = 10) → (a = 12 → j = 0 ∨ j = 1 ∨ j = 3) → (a = 13 → j < 2) → (a = 26 → j < 2) → a ≠ 9 → a ≠ 18 → a ≠ 20 → a ≠ 23 → sR s a j = sR σ a j) : CF s := by
  intro a j r hr
  obtain ⟨q1, q2, q3, q4, q5, q6, q7, q8, q9⟩ := cref_dec _ (crefF_mem _ a j r hr)
  exact (h a j q1 q2 q3 q4 q5 q6 q7 q8 q9).trans (hC a j r hr)
theorem RM_a {σ s : am_S} {a n a' n' need : Nat} (ha : a < sN σ) (h : RM σ s a n a' n' need) : (a' = a ∨ sN σ ≤ a') ∧ a' < sN s ∧ n ≤ n' ∧ sN s + n ≤ sN σ + n' ∧ sU s + 2 * n ≤ sU σ + 2 * n' ∧ sN σ ≤ sN s := by
  obtain ⟨h1, h2, h3, h4, h5⟩ := h
  rcases h5 with ⟨e1, e2, e3⟩ | ⟨e1, e2, e3, e4, e5, _⟩
  · subst e1 e2 e3
    exact ⟨Or.inl rfl, ha, Nat.le_refl _, Nat.le_refl _, Nat.le_refl _, Nat.le_refl _⟩
  · exact ⟨Or.inr (by omega), by omega, by omega, by omega, by omega, by omega⟩
/-- what charge leaves -/
def ChP (σ s : am_S) (own own' : Nat → Nat) (nH nL nY nS aH' nH' aL' nL' aY' nY' aS' nS' n l m : Nat) (kd : Int) (T : Nat) : Prop :=
  TR s aH' nH' aL' nL' aY' nY' aS' nS' ∧ OW own' aH' aL' aY' aS' ∧ (∀ x, x < sN σ → own' x = own x) ∧ (aH' < sN s ∧ aL' < sN s ∧ aY' < sN s ∧ aS' < sN s) ∧ (T ≤ nH' ∧ T ≤ nL' ∧ T ≤ nY' ∧ T ≤ nS')
  ∧ (sI s 3 0 = n ∧ sI s 3 1 = T ∧ sI s 3 2 = T ∧ sI s 3 3 = 0 ∧ sI s 3 4 = l ∧ sI s 3 5 = kd) ∧ KTt s aH' aL' n l m kd T ∧ (∀ t, t < T → sI s aY' t = 0 ∧ sI s aS' t = 0)
  ∧ (∀ x, x < sN σ → own x ≠ 3 → own x ≠ 8 → own x ≠ 4 → own x ≠ 5 → own x ≠ 6 → own x ≠ 7 → sI s x = sI σ x) ∧ (∀ x, x < sN σ → x ≠ 3 → ∀ j, sR s x j = sR σ x j) ∧ (∀ j, j ≠ 6 → j ≠ 7 → j ≠ 8 → j ≠ 9 → sR s 3 j = sR σ 3 j)
  ∧ sN σ ≤ sN s ∧ sN s + (nH + nL + nY + nS) ≤ sN σ + (nH' + nL' + nY' + nS') ∧ sU s + 2 * (nH + nL + nY + nS) ≤ sU σ + 2 * (nH' + nL' + nY' + nS') ∧ (nH' ≤ 20000 ∧ nL' ≤ 20000 ∧ nY' ≤ 20000 ∧ nS' ≤ 20000)

theorem v_Truths_charge_0 (d : Nat) (p1 p2 p3 p4 : Int) (σ : am_S) (K : am_S → Prop) (hC : CF σ) (h :
  am_Calls PP MLL (d + 3) m_Truths_howMany [qi p1, qi p2, qi p3, qi p4] (putI (putI (putI (putI σ 3 0 p1) 3 4 p2) 3 5 p4) 3 3 0) (kI fun x1 s1 =>
    (CF s1) ∧
    am_Calls PP MLL (d + 3) m_C_roomFor_AJIAJ [qo (sR (putI s1 3 2 x1) 3 6), qi x1] (putI s1 3 2 x1) (kO fun x2 s2 =>
      (CF s2) ∧
      am_Calls PP MLL (d + 3) m_C_roomFor_AJIAJ [qo (sR (putR s2 3 6 x2) 3 7), qi (sI s2 3 2)] (putR s2 3 6 x2) (kO fun x3 s3 =>
        (CF s3) ∧
        am_Calls PP MLL (d + 3) m_C_roomFor_AIIAI [qo (sR (putR s3 3 7 x3) 3 8), qi (sI s3 3 2)] (putR s3 3 7 x3) (kO fun x4 s4 =>
          (CF s4) ∧
          am_Calls PP MLL (d + 3) m_C_roomFor_AIIAI [qo (sR (putR s4 3 8 x4) 3 9), qi (sI s4 3 2)] (putR s4 3 8 x4) (kO fun x5 s5 =>
            (CF s5) ∧
            am_Runs PP MLL (d + 3) m_Truths_charge 52 [some (qr (3, 9, 11)), some (qi p1), some (qi p2), some (qi p3), some (qi p4), some (qi p2)] [] (putI (putR s5 3 9 x5) 3 1 0) (kV K))))))) : am_Runs PP MLL (d + 3) m_Truths_charge 0 [some (qr (3, 9, 11)), some (qi p1), some (qi p2), some (qi p3), some (qi p4), none] [] σ (kV K) := am_wEF_ok (orc []) 200 (⟨rfl, ⟨rfl, ⟨rfl, ⟨rfl, (am_cI h fun x1 s1 h1 => ⟨rfl, ⟨rfl, ⟨rfl, (am_cO h1.2 fun x2 s2 h2 => ⟨rfl, ⟨rfl, ⟨rfl, (am_cO h2.2 fun x3 s3 h3 => ⟨rfl, ⟨rfl, ⟨rfl, (am_cO h3.2 fun x4 s4 h4 => ⟨rfl, ⟨rfl, ⟨rfl, (am_cO h4.2 fun x5 s5 h5 => ⟨rfl, ⟨rfl, h5.2⟩⟩)⟩⟩⟩)⟩⟩⟩)⟩⟩⟩)⟩⟩⟩)⟩⟩⟩⟩)

theorem v_Truths_charge_52 (d : Nat) (p3 v5 : Int) (z1 z2 z4 : Option am_V) (σ : am_S) (K : am_S → Prop) (hC : CF σ) (h :
  ((p3 < v5 →
    K σ) ∧
  (¬ (p3 < v5) →
    am_Calls PP MLL (d + 3) m_Truths_addAllWith [qr (3, 9, 11), qi v5] σ (kV fun s3 =>
      (CF s3) ∧
      (-2147483648 ≤ v5 + 1 ∧ v5 + 1 < 2147483648) ∧
      am_Runs PP MLL (d + 3) m_Truths_charge 52 [some (qr (3, 9, 11)), z1, z2, some (qi p3), (am_cl z4), some (qi (v5 + 1))] [] s3 (kV K))))) : am_Runs PP MLL (d + 3) m_Truths_charge 52 [some (qr (3, 9, 11)), z1, z2, some (qi p3), z4, some (qi v5)] [] σ (kV K) := am_wEF_ok (orc []) 200 (⟨fun c2 => (h.1 c2), fun c2 => ⟨rfl, (am_cV (h.2 c2) fun s3 h3 => ⟨⟨h3.2.1.1, h3.2.1.2⟩, h3.2.2⟩)⟩⟩)

theorem c_charge (d : Nat) {own : Nat → Nat} {aH nH aL nL aY nY aS nS : Nat} {n l m T : Nat} {kd : Int} {σ : am_S} {K : am_S → Prop} (hR : TR σ aH nH aL nL aY nY aS nS) (hO : OW own aH aL aY aS) (h87 : 87 ≤ sN σ) (hlt : aH < sN σ ∧ aL < sN σ ∧ aY < sN σ ∧ aS < sN σ) (hle : nH ≤ 20000 ∧ nL ≤ 20000 ∧ nY ≤ 20000 ∧ nS ≤ 20000) (hn : n ≤ 40) (hk : kd = 1 ∨ kd = 2 ∨ kd = 3) (hlm : l ≤ m) (hm : m ≤ 3) (hmn : m ≤ n) (hT : T = bs n l kd (m + 1)) (hT2 : T ≤ 10000)
    (h : ∀ s own' aH' nH' aL' nL' aY' nY' aS' nS', ChP σ s own own' nH nL nY nS aH' nH' aL' nL' aY' nY' aS' nS' n l m kd T → K s) : am_Calls PP MLL (d + 4) m_Truths_charge [qr (3, 9, 11), qi (n : Int), qi (l : Int), qi (m : Int), qi kd] σ (kV K) := by
  obtain ⟨hCF, r6, r7, r8, r9⟩ := hR
  have hO0 := hO
  obtain ⟨o1, o2, o3, o4, o5⟩ := hO
  refine v_Truths_charge_0 d n l m kd σ K hCF ?_
  refine c_howMany (d + 1) hn (by omega) ⟨hCF, ?_⟩
  rw [show ((m : Int) + 1).toNat = m + 1 by omega, ← hT]
  obtain ⟨A1, hA1⟩ : ∃ A1, A1 = putI (putI (putI (putI (putI σ 3 0 (n : Int)) 3 4 (l : Int)) 3 5 kd) 3 3 0) 3 2 (T : Int) := ⟨_, rfl⟩
  rw [← hA1]
  have nA1 : sN A1 = sN σ := by rw [hA1]; rfl
  have uA1 : sU A1 = sU σ := by rw [hA1]; rfl
  have RA1 : ∀ x j, sR A1 x j = sR σ x j := by rw [hA1]; intro x j; rfl
  have IA1 : ∀ x, x ≠ 3 → sI A1 x = sI σ x := by
    intro x hx
    rw [hA1, put_ne hx, put_ne hx, put_ne hx, put_ne hx, put_ne hx]
  have FA1 : sI A1 3 0 = n ∧ sI A1 3 2 = T ∧ sI A1 3 3 = 0 ∧ sI A1 3 4 = l ∧ sI A1 3 5 = kd := by
    rw [hA1]
    refine ⟨?_, ?_, ?_, ?_, ?_⟩
    · rw [put_at, if_neg (by decide), put_at, if_neg (by decide), put_at, if_neg (by decide), put_at, if_neg (by decide), put_at, if_pos rfl]
    · rw [put_at, if_pos rfl]
    · rw [put_at, if_neg (by decide), put_at, if_pos rfl]
    · rw [put_at, if_neg (by decide), put_at, if_neg (by decide), put_at, if_neg (by decide), put_at, if_pos rfl]
    · rw [put_at, if_neg (by decide), put_at, if_neg (by decide), put_at, if_pos rfl]
  rw [show sR A1 3 6 = some (aH, 21, nH) from (RA1 3 6).trans r6]
  refine c_rmL d (by omega) (by omega) (by omega) ?_
  intro s2 aH' nH' m2
  obtain ⟨p2, lt2, le2, N2, U2, M2⟩ := RM_a (by omega) m2
  have F2 := m2.1.1
  have c2 : CF s2 := CF_fr hCF (fun a j q _ _ _ _ _ _ _ _ => by rw [(F2 a (by omega)).2 j, RA1 a j])
  refine ⟨c2, ?_⟩
  obtain ⟨A2, hA2⟩ : ∃ A2, A2 = putR s2 3 6 (some (aH', 21, nH')) := ⟨_, rfl⟩
  rw [← hA2]
  have nA2 : sN A2 = sN s2 := by rw [hA2]; rfl
  have uA2 : sU A2 = sU s2 := by rw [hA2]; rfl
  have IA2 : ∀ x, sI A2 x = sI s2 x := by rw [hA2]; intro x; rfl
  have RA2 : ∀ x j, ¬ (x = 3 ∧ j = 6) → sR A2 x j = sR s2 x j := by rw [hA2]; intro x j q; rw [sR_putR, if_neg q]
  have RA26 : sR A2 3 6 = some (aH', 21, nH') := by rw [hA2, sR_putR, if_pos ⟨rfl, rfl⟩]
  rw [show sR A2 3 7 = some (aL, 21, nL) from by rw [RA2 3 7 (by omega), (F2 3 (by omega)).2, RA1, r7], show sI s2 3 2 = (T : Int) from by rw [(F2 3 (by omega)).1]; exact FA1.2.1]
  refine c_rmL d (by omega) (by omega) (by omega) ?_
  intro s3 aL' nL' m3
  obtain ⟨p3, lt3, le3, N3, U3, M3⟩ := RM_a (by omega) m3
  have F3 := m3.1.1
  have c3 : CF s3 := CF_fr c2 (fun a j q q3 _ _ _ _ _ _ _ => by rw [(F3 a (by omega)).2 j, RA2 a j (fun w => by have := q3 w.1; omega)])
  refine ⟨c3, ?_⟩
  obtain ⟨A3, hA3⟩ : ∃ A3, A3 = putR s3 3 7 (some (aL', 21, nL')) := ⟨_, rfl⟩
  rw [← hA3]
  have nA3 : sN A3 = sN s3 := by rw [hA3]; rfl
  have uA3 : sU A3 = sU s3 := by rw [hA3]; rfl
  have IA3 : ∀ x, sI A3 x = sI s3 x := by rw [hA3]; intro x; rfl
  have RA3 : ∀ x j, ¬ (x = 3 ∧ j = 7) → sR A3 x j = sR s3 x j := by rw [hA3]; intro x j q; rw [sR_putR, if_neg q]
  have RA37 : sR A3 3 7 = some (aL', 21, nL') := by rw [hA3, sR_putR, if_pos ⟨rfl, rfl⟩]
  rw [show sR A3 3 8 = some (aY, 20, nY) from by rw [RA3 3 8 (by omega), (F3 3 (by omega)).2, RA2 3 8 (by omega), (F2 3 (by omega)).2, RA1, r8], show sI s3 3 2 = (T : Int) from by rw [(F3 3 (by omega)).1, IA2, (F2 3 (by omega)).1]; exact FA1.2.1]
  refine c_rmI d (by omega) (by omega) (by omega) ?_
  intro s4 aY' nY' m4
  obtain ⟨p4, lt4, le4, N4, U4, M4⟩ := RM_a (by omega) m4
  have F4 := m4.1.1
  have c4 : CF s4 := CF_fr c3 (fun a j q q3 _ _ _ _ _ _ _ => by rw [(F4 a (by omega)).2 j, RA3 a j (fun w => by have := q3 w.1; omega)])
  refine ⟨c4, ?_⟩
  obtain ⟨A4, hA4⟩ : ∃ A4, A4 = putR s4 3 8 (some (aY', 20, nY')) := ⟨_, rfl⟩
  rw [← hA4]
  have nA4 : sN A4 = sN s4 := by rw [hA4]; rfl
  have uA4 : sU A4 = sU s4 := by rw [hA4]; rfl
  have IA4 : ∀ x, sI A4 x = sI s4 x := by rw [hA4]; intro x; rfl
  have RA4 : ∀ x j, ¬ (x = 3 ∧ j = 8) → sR A4 x j = sR s4 x j := by rw [hA4]; intro x j q; rw [sR_putR, if_neg q]
  have RA48 : sR A4 3 8 = some (aY', 20, nY') := by rw [hA4, sR_putR, if_pos ⟨rfl, rfl⟩]
  rw [show sR A4 3 9 = some (aS, 20, nS) from by rw [RA4 3 9 (by omega), (F4 3 (by omega)).2, RA3 3 9 (by omega), (F3 3 (by omega)).2, RA2 3 9 (by omega), (F2 3 (by omega)).2, RA1, r9], show sI s4 3 2 = (T : Int) from by rw [(F4 3 (by omega)).1, IA3, (F3 3 (by omega)).1, IA2, (F2 3 (by omega)).1]; exact FA1.2.1]
  refine c_rmI d (by omega) (by omega) (by omega) ?_
  intro s5 aS' nS' m5
  obtain ⟨p5, lt5, le5, N5, U5, M5⟩ := RM_a (by omega) m5
  have F5 := m5.1.1
  have c5 : CF s5 := CF_fr c4 (fun a j q q3 _ _ _ _ _ _ _ => by rw [(F5 a (by omega)).2 j, RA4 a j (fun w => by have := q3 w.1; omega)])
  refine ⟨c5, ?_⟩
  obtain ⟨A5, hA5⟩ : ∃ A5, A5 = putI (putR s5 3 9 (some (aS', 20, nS'))) 3 1 0 := ⟨_, rfl⟩
  rw [← hA5]
  have nA5 : sN A5 = sN s5 := by rw [hA5]; rfl
  have uA5 : sU A5 = sU s5 := by rw [hA5]; rfl
  have IA5 : ∀ x, x ≠ 3 → sI A5 x = sI s5 x := by rw [hA5]; intro x q; rw [put_ne q]; rfl
  have IA53 : ∀ j, sI A5 3 j = if j = 1 then 0 else sI s5 3 j := by rw [hA5]; intro j; rw [put_at]; rfl
  have RA5 : ∀ x j, ¬ (x = 3 ∧ j = 9) → sR A5 x j = sR s5 x j := by rw [hA5]; intro x j q; show sR (putR s5 3 9 _) x j = _; rw [sR_putR, if_neg q]
  have RA59 : sR A5 3 9 = some (aS', 20, nS') := by rw [hA5]; show sR (putR s5 3 9 _) 3 9 = _; rw [sR_putR, if_pos ⟨rfl, rfl⟩]
  -- the whole way back
  have I5 : ∀ x, x < sN σ → sI s5 x = sI A1 x := fun x hx => by rw [(F5 x (by omega)).1, IA4, (F4 x (by omega)).1, IA3, (F3 x (by omega)).1, IA2, (F2 x (by omega)).1]
  have R5 : ∀ x j, x < sN σ → ¬ (x = 3 ∧ (j = 6 ∨ j = 7 ∨ j = 8 ∨ j = 9)) → sR A5 x j = sR σ x j := fun x j hx hj => by
    rw [RA5 x j (by omega), (F5 x (by omega)).2, RA4 x j (by omega), (F4 x (by omega)).2, RA3 x j (by omega), (F3 x (by omega)).2, RA2 x j (by omega), (F2 x (by omega)).2, RA1]
  have cA5 : CF A5 := CF_fr hCF (fun a j q q3 _ _ _ _ _ _ _ => R5 a j (by omega) (fun w => by have := q3 w.1; omega))
  have tA5 : TR A5 aH' nH' aL' nL' aY' nY' aS' nS' := by
    refine ⟨cA5, ?_, ?_, ?_, RA59⟩
    · rw [RA5 3 6 (by omega), (F5 3 (by omega)).2, RA4 3 6 (by omega), (F4 3 (by omega)).2, RA3 3 6 (by omega), (F3 3 (by omega)).2, RA26]
    · rw [RA5 3 7 (by omega), (F5 3 (by omega)).2, RA4 3 7 (by omega), (F4 3 (by omega)).2, RA37]
    · rw [RA5 3 8 (by omega), (F5 3 (by omega)).2, RA48]
  have f5 : sI A5 3 0 = n ∧ sI A5 3 2 = T ∧ sI A5 3 3 = 0 ∧ sI A5 3 4 = l ∧ sI A5 3 5 = kd := by
    rw [IA53, IA53, IA53, IA53, IA53, I5 3 (by omega)]
    exact FA1
  obtain ⟨own', hw⟩ : ∃ own' : Nat → Nat, own' = fun x => if x = aH' then 4 else if x = aL' then 5 else if x = aY' then 6 else if x = aS' then 7 else own x := ⟨_, rfl⟩
  have d1 : aH' ≠ aL' := by
    rcases p2 with e | e <;> rcases p3 with e' | e'
    · rw [e, e']; exact own_ne o2 o3 (by decide)
    · omega
    · omega
    · omega
  have d2 : aH' ≠ aY' := by
    rcases p2 with e | e <;> rcases p4 with e' | e'
    · rw [e, e']; exact own_ne o2 o4 (by decide)
    · omega
    · omega
    · omega
  have d3 : aH' ≠ aS' := by
    rcases p2 with e | e <;> rcases p5 with e' | e'
    · rw [e, e']; exact own_ne o2 o5 (by decide)
    · omega
    · omega
    · omega
  have d4 : aL' ≠ aY' := by
    rcases p3 with e | e <;> rcases p4 with e' | e'
    · rw [e, e']; exact own_ne o3 o4 (by decide)
    · omega
    · omega
    · omega
  have d5 : aL' ≠ aS' := by
    rcases p3 with e | e <;> rcases p5 with e' | e'
    · rw [e, e']; exact own_ne o3 o5 (by decide)
    · omega
    · omega
    · omega
  have d6 : aY' ≠ aS' := by
    rcases p4 with e | e <;> rcases p5 with e' | e'
    · rw [e, e']; exact own_ne o4 o5 (by decide)
    · omega
    · omega
    · omega
  have old : ∀ x, x < sN σ → own' x = own x := by
    intro x hx
    rw [hw]
    show (if x = aH' then 4 else if x = aL' then 5 else if x = aY' then 6 else if x = aS' then 7 else own x) = own x
    by_cases q1 : x = aH'
    · rw [if_pos q1, ← o2]
      rcases p2 with e | e
      · rw [q1, e]
      · omega
    · rw [if_neg q1]
      by_cases q2 : x = aL'
      · rw [if_pos q2, ← o3]
        rcases p3 with e | e
        · rw [q2, e]
        · omega
      · rw [if_neg q2]
        by_cases q3 : x = aY'
        · rw [if_pos q3, ← o4]
          rcases p4 with e | e
          · rw [q3, e]
          · omega
        · rw [if_neg q3]
          by_cases q4 : x = aS'
          · rw [if_pos q4, ← o5]
            rcases p5 with e | e
            · rw [q4, e]
            · omega
          · rw [if_neg q4]
  have hO' : OW own' aH' aL' aY' aS' := by
    refine ⟨fun a ha => (old a (by omega)).trans (o1 a ha), ?_, ?_, ?_, ?_⟩
    · rw [hw]
      exact if_pos rfl
    · rw [hw]
      show (if aL' = aH' then 4 else if aL' = aL' then 5 else _) = _
      rw [if_neg d1.symm, if_pos rfl]
    · rw [hw]
      show (if aY' = aH' then 4 else if aY' = aL' then 5 else if aY' = aY' then 6 else _) = _
      rw [if_neg d2.symm, if_neg d4.symm, if_pos rfl]
    · rw [hw]
      show (if aS' = aH' then 4 else if aS' = aL' then 5 else if aS' = aY' then 6 else if aS' = aS' then 7 else _) = _
      rw [if_neg d3.symm, if_neg d5.symm, if_neg d6.symm, if_pos rfl]
  have hmono : ∀ f, f ≤ m → l ≤ f → bs n l kd (f + 1) ≤ T := fun f hf hl => by
    rw [hT]
    exact bs_mono (by omega) (by omega)
  have hTR : ∀ s T, CA A5 s aH' aL' aY' aS' n l m kd T → TR s aH' nH' aL' nL' aY' nY' aS' nS' := by
    intro s T hs
    have e : sR s = sR A5 := by
      have := hs.1
      funext a j
      unfold sR
      rw [this]
    unfold TR CF
    rw [e]
    exact tA5
  have lp0 : ∀ f : Nat, f ≤ m + 1 → l ≤ f → ∀ s, CA A5 s aH' aL' aY' aS' n l m kd (bs n l kd f) → ∀ z1 z2 z4, am_Runs PP MLL (d + 3) m_Truths_charge 52 [some (qr (3, 9, 11)), z1, z2, some (qi (m : Int)), z4, some (qi (f : Int))] [] s (kV K) := by
    refine lp ?_ ?_
    · intro hl s hs z1 z2 z4
      refine v_Truths_charge_52 d m _ z1 z2 z4 s K (hTR s _ hs).1 ⟨fun _ => ?_, fun c => absurd (by omega) c⟩
      rw [← hT] at hs
      have hs0 := hs
      obtain ⟨g1, g2, g3, g4, g5, g6⟩ := hs
      have gN : sN s = sN A5 := by
        unfold sN
        rw [g1]
      have gU : sU s = sU A5 := by
        unfold sU
        rw [g1]
      have gR : ∀ x j, sR s x j = sR A5 x j := by
        intro x j
        unfold sR
        rw [g1]
      have mx2 := m2.2.2.1
      have mx3 := m3.2.2.1
      have mx4 := m4.2.2.1
      have mx5 := m5.2.2.1
      refine h s own' aH' nH' aL' nL' aY' nY' aS' nS' ⟨hTR s _ hs0, hO', old, ⟨by omega, by omega, by omega, by omega⟩, ⟨m2.2.1, m3.2.1, m4.2.1, m5.2.1⟩, ⟨?_, g2, ?_, ?_, ?_, ?_⟩, g5, g6, ?_, ?_, ?_, ?_, ?_, ?_, ?_⟩
      · rw [g3 0 (by decide)]; exact f5.1
      · rw [g3 2 (by decide)]; exact f5.2.1
      · rw [g3 3 (by decide)]; exact f5.2.2.1
      · rw [g3 4 (by decide)]; exact f5.2.2.2.1
      · rw [g3 5 (by decide)]; exact f5.2.2.2.2
      · intro x hx q3 q8 q4 q5 q6 q7
        have w : ∀ y r, own' y = r → own x ≠ r → x ≠ y := fun y r e1 e2 e3 => e2 (by rw [← old x hx, e3, e1])
        have x3 : x ≠ 3 := fun e => q3 (by rw [e]; exact o1 3 (by decide))
        rw [g4 x x3 (fun e => q8 (by rw [e]; exact o1 8 (by decide))) (w _ _ hO'.2.1 q4) (w _ _ hO'.2.2.1 q5) (w _ _ hO'.2.2.2.1 q6) (w _ _ hO'.2.2.2.2 q7), IA5 x x3, I5 x hx, IA1 x x3]
      · intro x hx x3 j
        rw [gR, R5 x j hx (fun w => x3 w.1)]
      · intro j j6 j7 j8 j9
        rw [gR, R5 3 j (by omega) (by omega)]
      · omega
      · omega
      · omega
      · omega
    · intro f hf ih hl s hs z1 z2 z4
      have hm1 := hmono f (by omega) hl
      have t2 := m2.2.1
      have t3 := m3.2.1
      have t4 := m4.2.1
      have t5 := m5.2.1
      refine v_Truths_charge_52 d m _ z1 z2 z4 s K (hTR s _ hs).1 ⟨fun c => absurd c (by omega), fun _ => ?_⟩
      refine c_addAllWith (d + 1) tA5 hO' hn hk f5.1 f5.2.2.2.2 hl (by omega) (by omega) (by omega) (by omega) (by omega) (by omega) (by omega) (by omega) hs fun s' hs' => ?_
      exact ⟨(hTR s' _ hs').1, by omega, ih (by omega) s' hs' _ _ _⟩
  refine lp0 l (by omega) (Nat.le_refl _) A5 ?_ _ _ _
  rw [bs_l]
  refine ⟨rfl, by rw [IA53, if_pos rfl]; rfl, fun _ _ => rfl, fun _ _ _ _ _ _ _ => rfl, fun t ht => absurd ht (Nat.not_lt_zero t), fun t ht => absurd ht (Nat.not_lt_zero t)⟩
