/-! the constructors: what the store holds, as lists -/
def rlk : List (Nat × Nat × am_R) → Nat → Nat → Option am_R
  | [], _, _ => none
  | q :: r, a, j => if a = q.1 ∧ j = q.2.1 then some q.2.2 else rlk r a j
def ilk : List (Nat × Nat × Int) → Nat → Nat → Int
  | [], _, _ => 0
  | q :: r, a, j => if a = q.1 ∧ j = q.2.1 then q.2.2 else ilk r a j
theorem rlk_no : ∀ (L : List (Nat × Nat × am_R)) (a j : Nat), (∀ q, q ∈ L → ¬ (a = q.1 ∧ j = q.2.1)) → rlk L a j = none
  | [], _, _, _ => rfl
  | q :: r, a, j, h => by
    unfold rlk
    rw [if_neg (h q List.mem_cons_self), rlk_no r a j (fun p hp => h p (List.mem_cons_of_mem _ hp))]
theorem ilk_no : ∀ (L : List (Nat × Nat × Int)) (a j : Nat), (∀ q, q ∈ L → ¬ (a = q.1 ∧ j = q.2.1)) → ilk L a j = 0
  | [], _, _, _ => rfl
  | q :: r, a, j, h => by
    unfold ilk
    rw [if_neg (h q List.mem_cons_self), ilk_no r a j (fun p hp => h p (List.mem_cons_of_mem _ hp))]
theorem ilk_bd : ∀ (L : List (Nat × Nat × Int)) (a j : Nat), (∀ q, q ∈ L → -1 ≤ q.2.2 ∧ q.2.2 ≤ 1) → -1 ≤ ilk L a j ∧ ilk L a j ≤ 1
  | [], _, _, _ => by
    unfold ilk
    omega
  | q :: r, a, j, h => by
    unfold ilk
    have h1 := h q List.mem_cons_self
    have h2 := ilk_bd r a j (fun p hp => h p (List.mem_cons_of_mem _ hp))
    split
    · exact h1
    · exact h2
/-- the store: how many cells and places, its references, its ints but for the script and ABOVE -/
def ILP (xs : Nat → Int) (σ : am_S) (N U : Nat) (RL : List (Nat × Nat × am_R)) (IL : List (Nat × Nat × Int)) : Prop := (sN σ = N ∧ sU σ = U ∧ 2 ≤ N) ∧ ((∀ q, q ∈ RL → q.1 < N) ∧ (∀ q, q ∈ IL → q.1 < N)) ∧ (∀ a j, sR σ a j = rlk RL a j) ∧ (∀ a j, 2 ≤ a → sI σ a j = ilk IL a j) ∧ sI σ 0 = xs ∧ AB σ
theorem P_N {xs : Nat → Int} {σ : am_S} {N U t l : Nat} {RL : List (Nat × Nat × am_R)} {IL : List (Nat × Nat × Int)} (h : ILP xs σ N U RL IL) : ILP xs (newC σ t l) (N + 1) (U + l) RL IL := by
  obtain ⟨⟨h1, h2, h3⟩, ⟨r1, r2⟩, hr, hi, h0, hA⟩ := h
  refine ⟨⟨by rw [nwN, h1], by rw [nwU, h2], by omega⟩, ⟨fun q hq => Nat.lt_succ_of_lt (r1 q hq), fun q hq => Nat.lt_succ_of_lt (r2 q hq)⟩, fun a j => ?_, fun a j ha => ?_, ?_, ?_⟩
  · rw [nwR]
    by_cases e : a = sN σ
    · rw [if_pos e, rlk_no]
      intro q hq hh
      have := r1 q hq
      omega
    · rw [if_neg e]
      exact hr a j
  · rw [nwI]
    by_cases e : a = sN σ
    · rw [if_pos e, ilk_no]
      intro q hq hh
      have := r2 q hq
      omega
    · rw [if_neg e]
      exact hi a j ha
  · rw [← h0]
    funext j
    rw [nwI, if_neg (by omega)]
  · have e1 : sI (newC σ t l) 1 = sI σ 1 := by
      funext j
      rw [nwI, if_neg (by omega)]
    unfold AB at hA ⊢
    rw [e1]
    exact hA
theorem P_R {xs : Nat → Int} {σ : am_S} {N U a j : Nat} {r : am_R} {RL : List (Nat × Nat × am_R)} {IL : List (Nat × Nat × Int)} (h : ILP xs σ N U RL IL) (ha : a < N) : ILP xs (putR σ a j (some r)) N U ((a, j, r) :: RL) IL := by
  obtain ⟨⟨h1, h2, h3⟩, ⟨r1, r2⟩, hr, hi, h0, hA⟩ := h
  refine ⟨⟨h1, h2, h3⟩, ⟨fun q hq => ?_, r2⟩, fun b k => ?_, hi, h0, hA⟩
  · rcases List.mem_cons.mp hq with e | e
    · rw [e]
      exact ha
    · exact r1 q e
  · rw [sR_putR, hr]
    rfl
theorem P_I {xs : Nat → Int} {σ : am_S} {N U a j : Nat} {v : Int} {RL : List (Nat × Nat × am_R)} {IL : List (Nat × Nat × Int)} (h : ILP xs σ N U RL IL) (ha : a < N) (h2' : 2 ≤ a) : ILP xs (putI σ a j v) N U RL ((a, j, v) :: IL) := by
  obtain ⟨⟨h1, h2, h3⟩, ⟨r1, r2⟩, hr, hi, h0, hA⟩ := h
  refine ⟨⟨h1, h2, h3⟩, ⟨r1, fun q hq => ?_⟩, hr, fun b k hb => ?_, by rw [put_ne (by omega)]; exact h0, ?_⟩
  · rcases List.mem_cons.mp hq with e | e
    · rw [e]
      exact ha
    · exact r2 q e
  · rw [sI_putI, hi b k hb]
    rfl
  · unfold AB at hA ⊢
    rw [put_ne (by omega)]
    exact hA
theorem P_F {xs : Nat → Int} {σ : am_S} {N U t l o f : Nat} {RL : List (Nat × Nat × am_R)} {IL : List (Nat × Nat × Int)} (h : ILP xs σ N U RL IL) (ho : o < N) : ILP xs (putR (newC σ t l) o f (some (sN σ, t, l))) (N + 1) (U + l) ((o, f, (N, t, l)) :: RL) IL := by
  rw [h.1.1]
  exact P_R (P_N h) (by omega)
theorem v_C_init_0 (d : Nat) (σ : am_S) (K : am_S → Prop) (h :
  am_Calls PP MLL (d + 2) m_Truths_init [qr (sN σ, 9, 11)] (newC σ 9 11) (kV fun s1 =>
    am_Runs PP MLL (d + 2) m_C_init 7 [some (qr (2, 11, 10))] [] (putR s1 2 0 (some (sN σ, 9, 11))) (kV K))) : am_Runs PP MLL (d + 2) m_C_init 0 [some (qr (2, 11, 10))] [] σ (kV K) := am_wEC_ok (orc []) [7, 11, 16, 23, 28] 200 (⟨rfl, (am_cV h fun s1 h1 => ⟨rfl, h1⟩)⟩)

theorem v_C_init_7 (d : Nat) (σ : am_S) (K : am_S → Prop) (h :
  am_Runs PP MLL (d + 2) m_C_init 11 [some (qr (2, 11, 10))] [] (putR (newC σ 22 12) 2 1 (some (sN σ, 22, 12))) (kV K)) : am_Runs PP MLL (d + 2) m_C_init 7 [some (qr (2, 11, 10))] [] σ (kV K) := am_wEC_ok (orc []) [7, 11, 16, 23, 28] 200 (⟨⟨(by decide : (0 : Int) ≤ 12), (by decide : (12 : Int) ≤ 1000000)⟩, ⟨rfl, h⟩⟩)

theorem v_C_init_11 (d : Nat) (σ : am_S) (K : am_S → Prop) (h :
  am_Calls PP MLL (d + 2) m_Trace_init [qr (sN σ, 7, 3)] (newC σ 7 3) (kV fun s1 =>
    am_Runs PP MLL (d + 2) m_C_init 16 [some (qr (2, 11, 10))] [] (putR s1 2 2 (some (sN σ, 7, 3))) (kV K))) : am_Runs PP MLL (d + 2) m_C_init 11 [some (qr (2, 11, 10))] [] σ (kV K) := am_wEC_ok (orc []) [7, 11, 16, 23, 28] 200 (⟨rfl, (am_cV h fun s1 h1 => ⟨rfl, h1⟩)⟩)

theorem v_C_init_16 (d : Nat) (σ : am_S) (K : am_S → Prop) (h :
  am_Calls PP MLL (d + 2) m_Search_init [qr (sN σ, 5, 18), qo (sR (newC σ 5 18) 2 0)] (newC σ 5 18) (kV fun s1 =>
    am_Runs PP MLL (d + 2) m_C_init 23 [some (qr (2, 11, 10))] [] (putR s1 2 3 (some (sN σ, 5, 18))) (kV K))) : am_Runs PP MLL (d + 2) m_C_init 16 [some (qr (2, 11, 10))] [] σ (kV K) := am_wEC_ok (orc []) [7, 11, 16, 23, 28] 200 (⟨rfl, ⟨rfl, (am_cV h fun s1 h1 => ⟨rfl, h1⟩)⟩⟩)

theorem v_C_init_23 (d : Nat) (σ : am_S) (K : am_S → Prop) (h :
  am_Calls PP MLL (d + 2) m_Jury_init [qr (sN σ, 1, 8)] (newC σ 1 8) (kV fun s1 =>
    am_Runs PP MLL (d + 2) m_C_init 28 [some (qr (2, 11, 10))] [] (putR s1 2 4 (some (sN σ, 1, 8))) (kV K))) : am_Runs PP MLL (d + 2) m_C_init 23 [some (qr (2, 11, 10))] [] σ (kV K) := am_wEC_ok (orc []) [7, 11, 16, 23, 28] 200 (⟨rfl, (am_cV h fun s1 h1 => ⟨rfl, h1⟩)⟩)

theorem v_C_init_28 (d : Nat) (z0 : Option am_V) (σ : am_S) (K : am_S → Prop) (h :
  K σ) : am_Runs PP MLL (d + 2) m_C_init 28 [z0] [] σ (kV K) := am_wEC_ok (orc []) [7, 11, 16, 23, 28] 200 (h)

theorem v_Truths_init_0 (d : Nat) (o : Nat) (σ : am_S) (K : am_S → Prop) (h :
  am_Runs PP MLL d m_Truths_init 5 [some (qr (o, 9, 11))] [] (putI σ o 1 1) (kV K)) : am_Runs PP MLL d m_Truths_init 0 [some (qr (o, 9, 11))] [] σ (kV K) := am_wEC_ok (orc []) [5, 8, 11, 15, 19, 23, 27, 31] 200 (⟨rfl, h⟩)

theorem v_Truths_init_5 (d : Nat) (o : Nat) (σ : am_S) (K : am_S → Prop) (h :
  am_Runs PP MLL d m_Truths_init 8 [some (qr (o, 9, 11))] [] (putI σ o 2 1) (kV K)) : am_Runs PP MLL d m_Truths_init 5 [some (qr (o, 9, 11))] [] σ (kV K) := am_wEC_ok (orc []) [5, 8, 11, 15, 19, 23, 27, 31] 200 (⟨rfl, h⟩)

theorem v_Truths_init_8 (d : Nat) (o : Nat) (σ : am_S) (K : am_S → Prop) (h :
  am_Runs PP MLL d m_Truths_init 11 [some (qr (o, 9, 11))] [] (putI σ o 5 1) (kV K)) : am_Runs PP MLL d m_Truths_init 8 [some (qr (o, 9, 11))] [] σ (kV K) := am_wEC_ok (orc []) [5, 8, 11, 15, 19, 23, 27, 31] 200 (⟨rfl, h⟩)

theorem v_Truths_init_11 (d : Nat) (o : Nat) (σ : am_S) (K : am_S → Prop) (h :
  am_Runs PP MLL d m_Truths_init 15 [some (qr (o, 9, 11))] [] (putR (newC σ 21 1) o 6 (some (sN σ, 21, 1))) (kV K)) : am_Runs PP MLL d m_Truths_init 11 [some (qr (o, 9, 11))] [] σ (kV K) := am_wEC_ok (orc []) [5, 8, 11, 15, 19, 23, 27, 31] 200 (⟨⟨(by decide : (0 : Int) ≤ 1), (by decide : (1 : Int) ≤ 1000000)⟩, ⟨rfl, h⟩⟩)

theorem v_Truths_init_15 (d : Nat) (o : Nat) (σ : am_S) (K : am_S → Prop) (h :
  am_Runs PP MLL d m_Truths_init 19 [some (qr (o, 9, 11))] [] (putR (newC σ 21 1) o 7 (some (sN σ, 21, 1))) (kV K)) : am_Runs PP MLL d m_Truths_init 15 [some (qr (o, 9, 11))] [] σ (kV K) := am_wEC_ok (orc []) [5, 8, 11, 15, 19, 23, 27, 31] 200 (⟨⟨(by decide : (0 : Int) ≤ 1), (by decide : (1 : Int) ≤ 1000000)⟩, ⟨rfl, h⟩⟩)

theorem v_Truths_init_19 (d : Nat) (o : Nat) (σ : am_S) (K : am_S → Prop) (h :
  am_Runs PP MLL d m_Truths_init 23 [some (qr (o, 9, 11))] [] (putR (newC σ 20 1) o 8 (some (sN σ, 20, 1))) (kV K)) : am_Runs PP MLL d m_Truths_init 19 [some (qr (o, 9, 11))] [] σ (kV K) := am_wEC_ok (orc []) [5, 8, 11, 15, 19, 23, 27, 31] 200 (⟨⟨(by decide : (0 : Int) ≤ 1), (by decide : (1 : Int) ≤ 1000000)⟩, ⟨rfl, h⟩⟩)

theorem v_Truths_init_23 (d : Nat) (o : Nat) (σ : am_S) (K : am_S → Prop) (h :
  am_Runs PP MLL d m_Truths_init 27 [some (qr (o, 9, 11))] [] (putR (newC σ 20 1) o 9 (some (sN σ, 20, 1))) (kV K)) : am_Runs PP MLL d m_Truths_init 23 [some (qr (o, 9, 11))] [] σ (kV K) := am_wEC_ok (orc []) [5, 8, 11, 15, 19, 23, 27, 31] 200 (⟨⟨(by decide : (0 : Int) ≤ 1), (by decide : (1 : Int) ≤ 1000000)⟩, ⟨rfl, h⟩⟩)

theorem v_Truths_init_27 (d : Nat) (o : Nat) (σ : am_S) (K : am_S → Prop) (h :
  am_Runs PP MLL d m_Truths_init 31 [some (qr (o, 9, 11))] [] (putR (newC σ 20 3) o 10 (some (sN σ, 20, 3))) (kV K)) : am_Runs PP MLL d m_Truths_init 27 [some (qr (o, 9, 11))] [] σ (kV K) := am_wEC_ok (orc []) [5, 8, 11, 15, 19, 23, 27, 31] 200 (⟨⟨(by decide : (0 : Int) ≤ 3), (by decide : (3 : Int) ≤ 1000000)⟩, ⟨rfl, h⟩⟩)

theorem v_Truths_init_31 (d : Nat) (z0 : Option am_V) (σ : am_S) (K : am_S → Prop) (h :
  K σ) : am_Runs PP MLL d m_Truths_init 31 [z0] [] σ (kV K) := am_wEC_ok (orc []) [5, 8, 11, 15, 19, 23, 27, 31] 200 (h)

theorem i_Truths_init_3 (d : Nat) {xs : Nat → Int} {σ : am_S} {K : am_S → Prop} {RL : List (Nat × Nat × am_R)} {IL : List (Nat × Nat × Int)} (h : ILP xs σ 4 21 RL IL) (hk : ∀ s, ILP xs s 9 28 ((3, 10, (8, 20, 3)) :: (3, 9, (7, 20, 1)) :: (3, 8, (6, 20, 1)) :: (3, 7, (5, 21, 1)) :: (3, 6, (4, 21, 1)) :: RL) ((3, 5, (1 : Int)) :: (3, 2, (1 : Int)) :: (3, 1, (1 : Int)) :: IL) → K s) : am_Calls PP MLL (d + 1) m_Truths_init [qr (3, 9, 11)] σ (kV K) := by
  refine v_Truths_init_0 d 3 σ K ?_
  have h1 := P_I (a := 3) (j := 1) (v := 1) h (by decide) (by decide)
  refine v_Truths_init_5 d 3 _ K ?_
  have h2 := P_I (a := 3) (j := 2) (v := 1) h1 (by decide) (by decide)
  refine v_Truths_init_8 d 3 _ K ?_
  have h3 := P_I (a := 3) (j := 5) (v := 1) h2 (by decide) (by decide)
  refine v_Truths_init_11 d 3 _ K ?_
  have h4 := P_F (t := 21) (l := 1) (o := 3) (f := 6) h3 (by decide)
  refine v_Truths_init_15 d 3 _ K ?_
  have h5 := P_F (t := 21) (l := 1) (o := 3) (f := 7) h4 (by decide)
  refine v_Truths_init_19 d 3 _ K ?_
  have h6 := P_F (t := 20) (l := 1) (o := 3) (f := 8) h5 (by decide)
  refine v_Truths_init_23 d 3 _ K ?_
  have h7 := P_F (t := 20) (l := 1) (o := 3) (f := 9) h6 (by decide)
  refine v_Truths_init_27 d 3 _ K ?_
  have h8 := P_F (t := 20) (l := 3) (o := 3) (f := 10) h7 (by decide)
  refine v_Truths_init_31 d _ _ K ?_
  exact hk _ h8
theorem v_Trace_init_0 (d : Nat) (o : Nat) (σ : am_S) (K : am_S → Prop) (h :
  am_Runs PP MLL d m_Trace_init 6 [some (qr (o, 7, 3))] [] (putR (newC σ 20 6) o 0 (some (sN σ, 20, 6))) (kV K)) : am_Runs PP MLL d m_Trace_init 0 [some (qr (o, 7, 3))] [] σ (kV K) := am_wEC_ok (orc []) [6] 200 (⟨⟨(by decide : (0 : Int) ≤ 6), (by decide : (6 : Int) ≤ 1000000)⟩, ⟨rfl, h⟩⟩)

theorem v_Trace_init_6 (d : Nat) (z0 : Option am_V) (σ : am_S) (K : am_S → Prop) (h :
  K σ) : am_Runs PP MLL d m_Trace_init 6 [z0] [] σ (kV K) := am_wEC_ok (orc []) [6] 200 (h)

theorem i_Trace_init_10 (d : Nat) {xs : Nat → Int} {σ : am_S} {K : am_S → Prop} {RL : List (Nat × Nat × am_R)} {IL : List (Nat × Nat × Int)} (h : ILP xs σ 11 43 RL IL) (hk : ∀ s, ILP xs s 12 49 ((10, 0, (11, 20, 6)) :: RL) (IL) → K s) : am_Calls PP MLL (d + 1) m_Trace_init [qr (10, 7, 3)] σ (kV K) := by
  refine v_Trace_init_0 d 10 σ K ?_
  have h1 := P_F (t := 20) (l := 6) (o := 10) (f := 0) h (by decide)
  refine v_Trace_init_6 d _ _ K ?_
  exact hk _ h1
theorem v_Search_init_0 (d : Nat) (σ : am_S) (K : am_S → Prop) (h :
  am_Calls PP MLL (d + 1) m_Suspects_init [qr (sN σ, 6, 5)] (newC σ 6 5) (kV fun s1 =>
    am_Runs PP MLL (d + 1) m_Search_init 7 [some (qr (12, 5, 18)), some (qr (3, 9, 11))] [] (putR s1 12 1 (some (sN σ, 6, 5))) (kV K))) : am_Runs PP MLL (d + 1) m_Search_init 0 [some (qr (12, 5, 18)), some (qr (3, 9, 11))] [] σ (kV K) := am_wEC_ok (orc []) [7, 11, 16, 21, 26, 29] 200 (⟨rfl, (am_cV h fun s1 h1 => ⟨rfl, h1⟩)⟩)

theorem v_Search_init_7 (d : Nat) (σ : am_S) (K : am_S → Prop) (h :
  am_Runs PP MLL (d + 1) m_Search_init 11 [some (qr (12, 5, 18)), some (qr (3, 9, 11))] [] (putR (newC σ 23 0) 12 2 (some (sN σ, 23, 0))) (kV K)) : am_Runs PP MLL (d + 1) m_Search_init 7 [some (qr (12, 5, 18)), some (qr (3, 9, 11))] [] σ (kV K) := am_wEC_ok (orc []) [7, 11, 16, 21, 26, 29] 200 (⟨⟨(by decide : (0 : Int) ≤ 0), (by decide : (0 : Int) ≤ 1000000)⟩, ⟨rfl, h⟩⟩)

theorem v_Search_init_11 (d : Nat) (σ : am_S) (K : am_S → Prop) (h :
  am_Calls PP MLL (d + 1) m_Tree_init [qr (sN σ, 8, 2)] (newC σ 8 2) (kV fun s1 =>
    am_Runs PP MLL (d + 1) m_Search_init 16 [some (qr (12, 5, 18)), some (qr (3, 9, 11))] [] (putR s1 12 3 (some (sN σ, 8, 2))) (kV K))) : am_Runs PP MLL (d + 1) m_Search_init 11 [some (qr (12, 5, 18)), some (qr (3, 9, 11))] [] σ (kV K) := am_wEC_ok (orc []) [7, 11, 16, 21, 26, 29] 200 (⟨rfl, (am_cV h fun s1 h1 => ⟨rfl, h1⟩)⟩)

theorem v_Search_init_16 (d : Nat) (σ : am_S) (K : am_S → Prop) (h :
  am_Calls PP MLL (d + 1) m_Rows_init [qr (sN σ, 4, 3)] (newC σ 4 3) (kV fun s1 =>
    am_Runs PP MLL (d + 1) m_Search_init 21 [some (qr (12, 5, 18)), some (qr (3, 9, 11))] [] (putR s1 12 4 (some (sN σ, 4, 3))) (kV K))) : am_Runs PP MLL (d + 1) m_Search_init 16 [some (qr (12, 5, 18)), some (qr (3, 9, 11))] [] σ (kV K) := am_wEC_ok (orc []) [7, 11, 16, 21, 26, 29] 200 (⟨rfl, (am_cV h fun s1 h1 => ⟨rfl, h1⟩)⟩)

theorem v_Search_init_21 (d : Nat) (σ : am_S) (K : am_S → Prop) (h :
  am_Calls PP MLL (d + 1) m_Rows_init [qr (sN σ, 4, 3)] (newC σ 4 3) (kV fun s1 =>
    am_Runs PP MLL (d + 1) m_Search_init 26 [some (qr (12, 5, 18)), some (qr (3, 9, 11))] [] (putR s1 12 5 (some (sN σ, 4, 3))) (kV K))) : am_Runs PP MLL (d + 1) m_Search_init 21 [some (qr (12, 5, 18)), some (qr (3, 9, 11))] [] σ (kV K) := am_wEC_ok (orc []) [7, 11, 16, 21, 26, 29] 200 (⟨rfl, (am_cV h fun s1 h1 => ⟨rfl, h1⟩)⟩)

theorem v_Search_init_26 (d : Nat) (σ : am_S) (K : am_S → Prop) (h :
  am_Runs PP MLL (d + 1) m_Search_init 29 [some (qr (12, 5, 18)), some (qr (3, 9, 11))] [] (putR σ 12 0 (some (3, 9, 11))) (kV K)) : am_Runs PP MLL (d + 1) m_Search_init 26 [some (qr (12, 5, 18)), some (qr (3, 9, 11))] [] σ (kV K) := am_wEC_ok (orc []) [7, 11, 16, 21, 26, 29] 200 (⟨rfl, h⟩)

theorem v_Search_init_29 (d : Nat) (z0 z1 : Option am_V) (σ : am_S) (K : am_S → Prop) (h :
  K σ) : am_Runs PP MLL (d + 1) m_Search_init 29 [z0, z1] [] σ (kV K) := am_wEC_ok (orc []) [7, 11, 16, 21, 26, 29] 200 (h)

theorem v_Suspects_init_0 (d : Nat) (o : Nat) (σ : am_S) (K : am_S → Prop) (h :
  am_Runs PP MLL d m_Suspects_init 6 [some (qr (o, 6, 5))] [] (putR (newC σ 20 60) o 0 (some (sN σ, 20, 60))) (kV K)) : am_Runs PP MLL d m_Suspects_init 0 [some (qr (o, 6, 5))] [] σ (kV K) := am_wEC_ok (orc []) [6, 10, 14] 200 (⟨⟨(by decide : (0 : Int) ≤ 60), (by decide : (60 : Int) ≤ 1000000)⟩, ⟨rfl, h⟩⟩)

theorem v_Suspects_init_6 (d : Nat) (o : Nat) (σ : am_S) (K : am_S → Prop) (h :
  am_Runs PP MLL d m_Suspects_init 10 [some (qr (o, 6, 5))] [] (putR (newC σ 20 60) o 1 (some (sN σ, 20, 60))) (kV K)) : am_Runs PP MLL d m_Suspects_init 6 [some (qr (o, 6, 5))] [] σ (kV K) := am_wEC_ok (orc []) [6, 10, 14] 200 (⟨⟨(by decide : (0 : Int) ≤ 60), (by decide : (60 : Int) ≤ 1000000)⟩, ⟨rfl, h⟩⟩)

theorem v_Suspects_init_10 (d : Nat) (o : Nat) (σ : am_S) (K : am_S → Prop) (h :
  am_Runs PP MLL d m_Suspects_init 14 [some (qr (o, 6, 5))] [] (putR (newC σ 20 0) o 4 (some (sN σ, 20, 0))) (kV K)) : am_Runs PP MLL d m_Suspects_init 10 [some (qr (o, 6, 5))] [] σ (kV K) := am_wEC_ok (orc []) [6, 10, 14] 200 (⟨⟨(by decide : (0 : Int) ≤ 0), (by decide : (0 : Int) ≤ 1000000)⟩, ⟨rfl, h⟩⟩)

theorem v_Suspects_init_14 (d : Nat) (z0 : Option am_V) (σ : am_S) (K : am_S → Prop) (h :
  K σ) : am_Runs PP MLL d m_Suspects_init 14 [z0] [] σ (kV K) := am_wEC_ok (orc []) [6, 10, 14] 200 (h)

theorem i_Suspects_init_13 (d : Nat) {xs : Nat → Int} {σ : am_S} {K : am_S → Prop} {RL : List (Nat × Nat × am_R)} {IL : List (Nat × Nat × Int)} (h : ILP xs σ 14 72 RL IL) (hk : ∀ s, ILP xs s 17 192 ((13, 4, (16, 20, 0)) :: (13, 1, (15, 20, 60)) :: (13, 0, (14, 20, 60)) :: RL) (IL) → K s) : am_Calls PP MLL (d + 1) m_Suspects_init [qr (13, 6, 5)] σ (kV K) := by
  refine v_Suspects_init_0 d 13 σ K ?_
  have h1 := P_F (t := 20) (l := 60) (o := 13) (f := 0) h (by decide)
  refine v_Suspects_init_6 d 13 _ K ?_
  have h2 := P_F (t := 20) (l := 60) (o := 13) (f := 1) h1 (by decide)
  refine v_Suspects_init_10 d 13 _ K ?_
  have h3 := P_F (t := 20) (l := 0) (o := 13) (f := 4) h2 (by decide)
  refine v_Suspects_init_14 d _ _ K ?_
  exact hk _ h3
theorem v_Tree_init_0 (d : Nat) (o : Nat) (σ : am_S) (K : am_S → Prop) (h :
  am_Runs PP MLL d m_Tree_init 6 [some (qr (o, 8, 2))] [] (putR (newC σ 20 0) o 0 (some (sN σ, 20, 0))) (kV K)) : am_Runs PP MLL d m_Tree_init 0 [some (qr (o, 8, 2))] [] σ (kV K) := am_wEC_ok (orc []) [6] 200 (⟨⟨(by decide : (0 : Int) ≤ 0), (by decide : (0 : Int) ≤ 1000000)⟩, ⟨rfl, h⟩⟩)

theorem v_Tree_init_6 (d : Nat) (z0 : Option am_V) (σ : am_S) (K : am_S → Prop) (h :
  K σ) : am_Runs PP MLL d m_Tree_init 6 [z0] [] σ (kV K) := am_wEC_ok (orc []) [6] 200 (h)

theorem i_Tree_init_18 (d : Nat) {xs : Nat → Int} {σ : am_S} {K : am_S → Prop} {RL : List (Nat × Nat × am_R)} {IL : List (Nat × Nat × Int)} (h : ILP xs σ 19 194 RL IL) (hk : ∀ s, ILP xs s 20 194 ((18, 0, (19, 20, 0)) :: RL) (IL) → K s) : am_Calls PP MLL (d + 1) m_Tree_init [qr (18, 8, 2)] σ (kV K) := by
  refine v_Tree_init_0 d 18 σ K ?_
  have h1 := P_F (t := 20) (l := 0) (o := 18) (f := 0) h (by decide)
  refine v_Tree_init_6 d _ _ K ?_
  exact hk _ h1
theorem v_Rows_init_0 (d : Nat) (o : Nat) (σ : am_S) (K : am_S → Prop) (h :
  am_Runs PP MLL d m_Rows_init 6 [some (qr (o, 4, 3))] [] (putR (newC σ 20 0) o 0 (some (sN σ, 20, 0))) (kV K)) : am_Runs PP MLL d m_Rows_init 0 [some (qr (o, 4, 3))] [] σ (kV K) := am_wEC_ok (orc []) [6, 10] 200 (⟨⟨(by decide : (0 : Int) ≤ 0), (by decide : (0 : Int) ≤ 1000000)⟩, ⟨rfl, h⟩⟩)

theorem v_Rows_init_6 (d : Nat) (o : Nat) (σ : am_S) (K : am_S → Prop) (h :
  am_Runs PP MLL d m_Rows_init 10 [some (qr (o, 4, 3))] [] (putR (newC σ 20 0) o 1 (some (sN σ, 20, 0))) (kV K)) : am_Runs PP MLL d m_Rows_init 6 [some (qr (o, 4, 3))] [] σ (kV K) := am_wEC_ok (orc []) [6, 10] 200 (⟨⟨(by decide : (0 : Int) ≤ 0), (by decide : (0 : Int) ≤ 1000000)⟩, ⟨rfl, h⟩⟩)

theorem v_Rows_init_10 (d : Nat) (z0 : Option am_V) (σ : am_S) (K : am_S → Prop) (h :
  K σ) : am_Runs PP MLL d m_Rows_init 10 [z0] [] σ (kV K) := am_wEC_ok (orc []) [6, 10] 200 (h)

theorem i_Rows_init_20 (d : Nat) {xs : Nat → Int} {σ : am_S} {K : am_S → Prop} {RL : List (Nat × Nat × am_R)} {IL : List (Nat × Nat × Int)} (h : ILP xs σ 21 197 RL IL) (hk : ∀ s, ILP xs s 23 197 ((20, 1, (22, 20, 0)) :: (20, 0, (21, 20, 0)) :: RL) (IL) → K s) : am_Calls PP MLL (d + 1) m_Rows_init [qr (20, 4, 3)] σ (kV K) := by
  refine v_Rows_init_0 d 20 σ K ?_
  have h1 := P_F (t := 20) (l := 0) (o := 20) (f := 0) h (by decide)
  refine v_Rows_init_6 d 20 _ K ?_
  have h2 := P_F (t := 20) (l := 0) (o := 20) (f := 1) h1 (by decide)
  refine v_Rows_init_10 d _ _ K ?_
  exact hk _ h2
theorem i_Rows_init_23 (d : Nat) {xs : Nat → Int} {σ : am_S} {K : am_S → Prop} {RL : List (Nat × Nat × am_R)} {IL : List (Nat × Nat × Int)} (h : ILP xs σ 24 200 RL IL) (hk : ∀ s, ILP xs s 26 200 ((23, 1, (25, 20, 0)) :: (23, 0, (24, 20, 0)) :: RL) (IL) → K s) : am_Calls PP MLL (d + 1) m_Rows_init [qr (23, 4, 3)] σ (kV K) := by
  refine v_Rows_init_0 d 23 σ K ?_
  have h1 := P_F (t := 20) (l := 0) (o := 23) (f := 0) h (by decide)
  refine v_Rows_init_6 d 23 _ K ?_
  have h2 := P_F (t := 20) (l := 0) (o := 23) (f := 1) h1 (by decide)
  refine v_Rows_init_10 d _ _ K ?_
  exact hk _ h2
theorem i_Search_init (d : Nat) {xs : Nat → Int} {σ : am_S} {K : am_S → Prop} {RL : List (Nat × Nat × am_R)} {IL : List (Nat × Nat × Int)} (h : ILP xs σ 13 67 RL IL) (hk : ∀ s, ILP xs s 26 200 ((12, 0, (3, 9, 11)) :: (12, 5, (23, 4, 3)) :: (23, 1, (25, 20, 0)) :: (23, 0, (24, 20, 0)) :: (12, 4, (20, 4, 3)) :: (20, 1, (22, 20, 0)) :: (20, 0, (21, 20, 0)) :: (12, 3, (18, 8, 2)) :: (18, 0, (19, 20, 0)) :: (12, 2, (17, 23, 0)) :: (12, 1, (13, 6, 5)) :: (13, 4, (16, 20, 0)) :: (13, 1, (15, 20, 60)) :: (13, 0, (14, 20, 60)) :: RL) IL → K s) : am_Calls PP MLL (d + 2) m_Search_init [qr (12, 5, 18), qr (3, 9, 11)] σ (kV K) := by
  refine v_Search_init_0 d σ K ?_
  rw [show sN σ = 13 from h.1.1]
  refine i_Suspects_init_13 d (P_N h) (fun s h => ?_)
  have h := P_R (a := 12) (j := 1) (r := (13, 6, 5)) h (by decide)
  obtain ⟨s, es⟩ : ∃ z, z = putR s 12 1 (some (13, 6, 5)) := ⟨_, rfl⟩
  rw [← es] at h ⊢
  refine v_Search_init_7 d s K ?_
  have h := P_F (t := 23) (l := 0) (o := 12) (f := 2) h (by decide)
  obtain ⟨s, es⟩ : ∃ z, z = putR (newC s 23 0) 12 2 (some (sN s, 23, 0)) := ⟨_, rfl⟩
  rw [← es] at h ⊢
  refine v_Search_init_11 d s K ?_
  rw [show sN s = 18 from h.1.1]
  refine i_Tree_init_18 d (P_N h) (fun s h => ?_)
  have h := P_R (a := 12) (j := 3) (r := (18, 8, 2)) h (by decide)
  obtain ⟨s, es⟩ : ∃ z, z = putR s 12 3 (some (18, 8, 2)) := ⟨_, rfl⟩
  rw [← es] at h ⊢
  refine v_Search_init_16 d s K ?_
  rw [show sN s = 20 from h.1.1]
  refine i_Rows_init_20 d (P_N h) (fun s h => ?_)
  have h := P_R (a := 12) (j := 4) (r := (20, 4, 3)) h (by decide)
  obtain ⟨s, es⟩ : ∃ z, z = putR s 12 4 (some (20, 4, 3)) := ⟨_, rfl⟩
  rw [← es] at h ⊢
  refine v_Search_init_21 d s K ?_
  rw [show sN s = 23 from h.1.1]
  refine i_Rows_init_23 d (P_N h) (fun s h => ?_)
  have h := P_R (a := 12) (j := 5) (r := (23, 4, 3)) h (by decide)
  obtain ⟨s, es⟩ : ∃ z, z = putR s 12 5 (some (23, 4, 3)) := ⟨_, rfl⟩
  rw [← es] at h ⊢
  refine v_Search_init_26 d s K ?_
  have h := P_R (a := 12) (j := 0) (r := (3, 9, 11)) h (by decide)
  obtain ⟨s, es⟩ : ∃ z, z = putR s 12 0 (some (3, 9, 11)) := ⟨_, rfl⟩
  rw [← es] at h ⊢
  exact v_Search_init_29 d _ _ s K (hk _ h)
theorem v_Jury_init_0 (d : Nat) (o : Nat) (σ : am_S) (K : am_S → Prop) (h :
  am_Runs PP MLL d m_Jury_init 6 [some (qr (o, 1, 8))] [] (putR (newC σ 21 6) o 0 (some (sN σ, 21, 6))) (kV K)) : am_Runs PP MLL d m_Jury_init 0 [some (qr (o, 1, 8))] [] σ (kV K) := am_wEC_ok (orc []) [6, 10, 14, 18] 200 (⟨⟨(by decide : (0 : Int) ≤ 6), (by decide : (6 : Int) ≤ 1000000)⟩, ⟨rfl, h⟩⟩)

theorem v_Jury_init_6 (d : Nat) (o : Nat) (σ : am_S) (K : am_S → Prop) (h :
  am_Runs PP MLL d m_Jury_init 10 [some (qr (o, 1, 8))] [] (putR (newC σ 21 6) o 1 (some (sN σ, 21, 6))) (kV K)) : am_Runs PP MLL d m_Jury_init 6 [some (qr (o, 1, 8))] [] σ (kV K) := am_wEC_ok (orc []) [6, 10, 14, 18] 200 (⟨⟨(by decide : (0 : Int) ≤ 6), (by decide : (6 : Int) ≤ 1000000)⟩, ⟨rfl, h⟩⟩)

theorem v_Jury_init_10 (d : Nat) (o : Nat) (σ : am_S) (K : am_S → Prop) (h :
  am_Runs PP MLL d m_Jury_init 14 [some (qr (o, 1, 8))] [] (putR (newC σ 20 0) o 6 (some (sN σ, 20, 0))) (kV K)) : am_Runs PP MLL d m_Jury_init 10 [some (qr (o, 1, 8))] [] σ (kV K) := am_wEC_ok (orc []) [6, 10, 14, 18] 200 (⟨⟨(by decide : (0 : Int) ≤ 0), (by decide : (0 : Int) ≤ 1000000)⟩, ⟨rfl, h⟩⟩)

theorem v_Jury_init_14 (d : Nat) (o : Nat) (σ : am_S) (K : am_S → Prop) (h :
  am_Runs PP MLL d m_Jury_init 18 [some (qr (o, 1, 8))] [] (putR (newC σ 20 0) o 7 (some (sN σ, 20, 0))) (kV K)) : am_Runs PP MLL d m_Jury_init 14 [some (qr (o, 1, 8))] [] σ (kV K) := am_wEC_ok (orc []) [6, 10, 14, 18] 200 (⟨⟨(by decide : (0 : Int) ≤ 0), (by decide : (0 : Int) ≤ 1000000)⟩, ⟨rfl, h⟩⟩)

theorem v_Jury_init_18 (d : Nat) (z0 : Option am_V) (σ : am_S) (K : am_S → Prop) (h :
  K σ) : am_Runs PP MLL d m_Jury_init 18 [z0] [] σ (kV K) := am_wEC_ok (orc []) [6, 10, 14, 18] 200 (h)

theorem i_Jury_init_26 (d : Nat) {xs : Nat → Int} {σ : am_S} {K : am_S → Prop} {RL : List (Nat × Nat × am_R)} {IL : List (Nat × Nat × Int)} (h : ILP xs σ 27 208 RL IL) (hk : ∀ s, ILP xs s 31 220 ((26, 7, (30, 20, 0)) :: (26, 6, (29, 20, 0)) :: (26, 1, (28, 21, 6)) :: (26, 0, (27, 21, 6)) :: RL) (IL) → K s) : am_Calls PP MLL (d + 1) m_Jury_init [qr (26, 1, 8)] σ (kV K) := by
  refine v_Jury_init_0 d 26 σ K ?_
  have h1 := P_F (t := 21) (l := 6) (o := 26) (f := 0) h (by decide)
  refine v_Jury_init_6 d 26 _ K ?_
  have h2 := P_F (t := 21) (l := 6) (o := 26) (f := 1) h1 (by decide)
  refine v_Jury_init_10 d 26 _ K ?_
  have h3 := P_F (t := 20) (l := 0) (o := 26) (f := 6) h2 (by decide)
  refine v_Jury_init_14 d 26 _ K ?_
  have h4 := P_F (t := 20) (l := 0) (o := 26) (f := 7) h3 (by decide)
  refine v_Jury_init_18 d _ _ K ?_
  exact hk _ h4
def RLc : List (Nat × Nat × am_R) := [(2, 4, (26, 1, 8)), (26, 7, (30, 20, 0)), (26, 6, (29, 20, 0)), (26, 1, (28, 21, 6)), (26, 0, (27, 21, 6)), (2, 3, (12, 5, 18)), (12, 0, (3, 9, 11)), (12, 5, (23, 4, 3)), (23, 1, (25, 20, 0)), (23, 0, (24, 20, 0)), (12, 4, (20, 4, 3)), (20, 1, (22, 20, 0)), (20, 0, (21, 20, 0)), (12, 3, (18, 8, 2)), (18, 0, (19, 20, 0)), (12, 2, (17, 23, 0)), (12, 1, (13, 6, 5)), (13, 4, (16, 20, 0)), (13, 1, (15, 20, 60)), (13, 0, (14, 20, 60)), (2, 2, (10, 7, 3)), (10, 0, (11, 20, 6)), (2, 1, (9, 22, 12)), (2, 0, (3, 9, 11)), (3, 10, (8, 20, 3)), (3, 9, (7, 20, 1)), (3, 8, (6, 20, 1)), (3, 7, (5, 21, 1)), (3, 6, (4, 21, 1))]
def ILc : List (Nat × Nat × Int) := [(3, 5, 1), (3, 2, 1), (3, 1, 1)]
theorem i_C (d : Nat) {xs : Nat → Int} {σ : am_S} {K : am_S → Prop} (h : ILP xs σ 3 10 [] []) (hk : ∀ s, ILP xs s 31 220 RLc ILc → K s) : am_Calls PP MLL (d + 3) m_C_init [qr (2, 11, 10)] σ (kV K) := by
  refine v_C_init_0 d σ K ?_
  rw [show sN σ = 3 from h.1.1]
  refine i_Truths_init_3 (d + 1) (P_N h) (fun s h => ?_)
  have h := P_R (a := 2) (j := 0) (r := (3, 9, 11)) h (by decide)
  obtain ⟨s, es⟩ : ∃ z, z = putR s 2 0 (some (3, 9, 11)) := ⟨_, rfl⟩
  rw [← es] at h ⊢
  refine v_C_init_7 d s K ?_
  have h := P_F (t := 22) (l := 12) (o := 2) (f := 1) h (by decide)
  obtain ⟨s, es⟩ : ∃ z, z = putR (newC s 22 12) 2 1 (some (sN s, 22, 12)) := ⟨_, rfl⟩
  rw [← es] at h ⊢
  refine v_C_init_11 d s K ?_
  rw [show sN s = 10 from h.1.1]
  refine i_Trace_init_10 (d + 1) (P_N h) (fun s h => ?_)
  have h := P_R (a := 2) (j := 2) (r := (10, 7, 3)) h (by decide)
  obtain ⟨s, es⟩ : ∃ z, z = putR s 2 2 (some (10, 7, 3)) := ⟨_, rfl⟩
  rw [← es] at h ⊢
  refine v_C_init_16 d s K ?_
  rw [show sN s = 12 from h.1.1]
  rw [show sR (newC s 5 18) 2 0 = some (3, 9, 11) from ((P_N h).2.2.1 2 0).trans rfl]
  refine i_Search_init d (P_N h) (fun s h => ?_)
  have h := P_R (a := 2) (j := 3) (r := (12, 5, 18)) h (by decide)
  obtain ⟨s, es⟩ : ∃ z, z = putR s 2 3 (some (12, 5, 18)) := ⟨_, rfl⟩
  rw [← es] at h ⊢
  refine v_C_init_23 d s K ?_
  rw [show sN s = 26 from h.1.1]
  refine i_Jury_init_26 (d + 1) (P_N h) (fun s h => ?_)
  have h := P_R (a := 2) (j := 4) (r := (26, 1, 8)) h (by decide)
  obtain ⟨s, es⟩ : ∃ z, z = putR s 2 4 (some (26, 1, 8)) := ⟨_, rfl⟩
  rw [← es] at h ⊢
  exact v_C_init_28 d _ s K (hk _ h)
