/-! the class: rows of a search, as lists -/
def rNu (σ : am_S) (o i : Nat) : Int := sI σ (rg (sR σ o 0)).1 i
def rTo (σ : am_S) (o i : Nat) : Int := sI σ (rg (sR σ o 1)).1 i
/-- room for so many rows -/
def RV (σ : am_S) (own : Nat → Nat) (o k : Nat) : Prop := (∃ a n b m, sR σ o 0 = some (a, 20, n) ∧ sR σ o 1 = some (b, 20, m) ∧ own a = o + 1 ∧ own b = o + 2 ∧ a < sN σ ∧ b < sN σ ∧ n ≤ 1200 ∧ m ≤ 1200 ∧ min k 600 ≤ n ∧ min k 600 ≤ m) ∧ own 18 = 18 ∧ own 20 = 20 ∧ own 23 = 23 ∧ 87 ≤ sN σ
def RL (σ : am_S) (o : Nat) (L : List (Int × Int)) : Prop := sI σ o 2 = L.length ∧ ∀ i, i < L.length → i < 600 → rNu σ o i = (L.getD i (0, 0)).1 ∧ rTo σ o i = (L.getD i (0, 0)).2
theorem RV_le {σ : am_S} {own : Nat → Nat} {o k k' : Nat} (h : RV σ own o k) (hk : k' ≤ k) : RV σ own o k' := by
  obtain ⟨⟨a, n, b, m, h1, h2, h3, h4, h5, h6, h7, h8, h9, h10⟩, q⟩ := h
  exact ⟨⟨a, n, b, m, h1, h2, h3, h4, h5, h6, h7, h8, by omega, by omega⟩, q⟩
theorem OFr_ow {σ s : am_S} {own own' : Nat → Nat} {p : Nat → Prop} (h : OFr σ s own own' p) (h87 : 87 ≤ sN σ) (q : own 18 = 18 ∧ own 20 = 20 ∧ own 23 = 23) : own' 18 = 18 ∧ own' 20 = 20 ∧ own' 23 = 23 ∧ 87 ≤ sN s := by
  obtain ⟨h1, h2, h3, _⟩ := h
  exact ⟨(h2 18 (by omega)).trans q.1, (h2 20 (by omega)).trans q.2.1, (h2 23 (by omega)).trans q.2.2, by omega⟩
theorem RV_fr {σ s : am_S} {own own' : Nat → Nat} {p : Nat → Prop} {o k : Nat} (h : OFr σ s own own' p) (ho : o = 20 ∨ o = 23) (hp : ¬ p o) (hR : RV σ own o k) : RV s own' o k := by
  obtain ⟨⟨a, n, b, m, h1, h2, h3, h4, h5, h6, h7, h8, h9, h10⟩, o18, o20, o23, h87⟩ := hR
  have oo : own o = o := by rcases ho with e | e <;> (rw [e]; assumption)
  have w := (h.1 o (by omega) (by rw [oo]; exact hp)).2
  have q := h.2.2.1
  exact ⟨⟨a, n, b, m, by rw [w, h1], by rw [w, h2], by rw [h.2.1 a h5, h3], by rw [h.2.1 b h6, h4], by omega, by omega, h7, h8, h9, h10⟩, OFr_ow h h87 ⟨o18, o20, o23⟩⟩
theorem RL_fr {σ s : am_S} {own own' : Nat → Nat} {p : Nat → Prop} {o k : Nat} {L : List (Int × Int)} (h : OFr σ s own own' p) (ho : o = 20 ∨ o = 23) (hp : ¬ p o ∧ ¬ p (o + 1) ∧ ¬ p (o + 2)) (hR : RV σ own o k) (hL : RL σ o L) : RL s o L := by
  obtain ⟨⟨a, n, b, m, h1, h2, h3, h4, h5, h6, h7, h8, h9, h10⟩, o18, o20, o23, h87⟩ := hR
  have oo : own o = o := by rcases ho with e | e <;> (rw [e]; assumption)
  have w := h.1 o (by omega) (by rw [oo]; exact hp.1)
  have wa := (h.1 a h5 (by rw [h3]; exact hp.2.1)).1
  have wb := (h.1 b h6 (by rw [h4]; exact hp.2.2)).1
  refine ⟨by rw [w.1]; exact hL.1, fun i i1 i2 => ?_⟩
  have z := hL.2 i i1 i2
  unfold rNu rTo at z ⊢
  rw [w.2, w.2, h1, h2]
  rw [h1, h2] at z
  simp only [rg_some] at z ⊢
  rw [wa, wb]
  exact z
theorem TV_fr {σ s : am_S} {own own' : Nat → Nat} {p : Nat → Prop} {z : Nat} (h : OFr σ s own own' p) (hp : ¬ p 18) (hT : TV σ own z) : TV s own' z := by
  obtain ⟨⟨a, n, r18, oa, la, cap, nle⟩, o18, o20, o23, h87⟩ := hT
  have w := (h.1 18 (by omega) (by rw [o18]; exact hp)).2
  have q := h.2.2.1
  exact ⟨⟨a, n, by rw [w, r18], by rw [h.2.1 a la, oa], by omega, cap, nle⟩, OFr_ow h h87 ⟨o18, o20, o23⟩⟩
theorem tcl_fr {σ s : am_S} {own own' : Nat → Nat} {p : Nat → Prop} {z : Nat} (h : OFr σ s own own' p) (hp : ¬ p 18 ∧ ¬ p 19) (hT : TV σ own z) : tcl s = tcl σ := by
  obtain ⟨⟨a, n, r18, oa, la, cap, nle⟩, o18, o20, o23, h87⟩ := hT
  have w := (h.1 18 (by omega) (by rw [o18]; exact hp.1)).2
  funext j
  unfold tcl
  rw [w, r18]
  simp only [rg_some]
  rw [(h.1 a la (by rw [oa]; exact hp.2)).1]
theorem rw_app (L : List (Int × Int)) (x : Int × Int) : ∀ i, (L ++ [x]).getD i (0, 0) = if i < L.length then L.getD i (0, 0) else if i = L.length then x else (0, 0) := by
  induction L with
  | nil =>
    intro i
    cases i with
    | zero => rfl
    | succ i => rfl
  | cons a L ih =>
    intro i
    cases i with
    | zero => rfl
    | succ i =>
      show (L ++ [x]).getD i (0, 0) = _
      rw [ih i]
      show _ = if i + 1 < L.length + 1 then L.getD i (0, 0) else if i + 1 = L.length + 1 then x else (0, 0)
      have w1 : (i + 1 < L.length + 1) = (i < L.length) := propext ⟨fun w => by omega, fun w => by omega⟩
      have w2 : (i + 1 = L.length + 1) = (i = L.length) := propext ⟨fun w => by omega, fun w => by omega⟩
      simp only [w1, w2]

theorem v_Rows_add_20 (d : Nat) (p1 p2 : Int) (σ : am_S) (K : am_S → Prop) (hC : CF σ) (h :
  ((600 ≤ (sI σ 20 2) →
    (-2147483648 ≤ (sI σ 20 2) + 1 ∧ (sI σ 20 2) + 1 < 2147483648) ∧
    K (putI σ 20 2 ((sI σ 20 2) + 1))) ∧
  (¬ (600 ≤ (sI σ 20 2)) →
    (-2147483648 ≤ (sI σ 20 2) + 1 ∧ (sI σ 20 2) + 1 < 2147483648) ∧
    am_Calls PP MLL (d + 3) m_C_roomFor_AIIAI [qo (sR σ 20 0), qi ((sI σ 20 2) + 1)] σ (kO fun x3 s3 =>
      (CF s3) ∧
      (-2147483648 ≤ (sI s3 20 2) + 1 ∧ (sI s3 20 2) + 1 < 2147483648) ∧
      am_Calls PP MLL (d + 3) m_C_roomFor_AIIAI [qo (sR (putR s3 20 0 x3) 20 1), qi ((sI s3 20 2) + 1)] (putR s3 20 0 x3) (kO fun x4 s4 =>
        (CF s4) ∧
        ((rg (sR (putR s4 20 1 x4) 20 0)).2.1 = 20 ∧ 0 ≤ (sI s4 20 2) ∧ (sI s4 20 2) < (((rg (sR (putR s4 20 1 x4) 20 0)).2.2 : Nat) : Int) ∧ (rg x4).2.1 = 20 ∧ 0 ≤ (sI (putI (putR s4 20 1 x4) ((rg (sR (putR s4 20 1 x4) 20 0)).1) (Int.toNat (sI s4 20 2)) p1) 20 2) ∧ (sI (putI (putR s4 20 1 x4) ((rg (sR (putR s4 20 1 x4) 20 0)).1) (Int.toNat (sI s4 20 2)) p1) 20 2) < (((rg x4).2.2 : Nat) : Int) ∧ -2147483648 ≤ (sI (putI (putI (putR s4 20 1 x4) ((rg (sR (putR s4 20 1 x4) 20 0)).1) (Int.toNat (sI s4 20 2)) p1) ((rg x4).1) (Int.toNat (sI (putI (putR s4 20 1 x4) ((rg (sR (putR s4 20 1 x4) 20 0)).1) (Int.toNat (sI s4 20 2)) p1) 20 2)) p2) 20 2) + 1 ∧ (sI (putI (putI (putR s4 20 1 x4) ((rg (sR (putR s4 20 1 x4) 20 0)).1) (Int.toNat (sI s4 20 2)) p1) ((rg x4).1) (Int.toNat (sI (putI (putR s4 20 1 x4) ((rg (sR (putR s4 20 1 x4) 20 0)).1) (Int.toNat (sI s4 20 2)) p1) 20 2)) p2) 20 2) + 1 < 2147483648) ∧
        K (putI (putI (putI (putR s4 20 1 x4) ((rg (sR (putR s4 20 1 x4) 20 0)).1) (Int.toNat (sI s4 20 2)) p1) ((rg x4).1) (Int.toNat (sI (putI (putR s4 20 1 x4) ((rg (sR (putR s4 20 1 x4) 20 0)).1) (Int.toNat (sI s4 20 2)) p1) 20 2)) p2) 20 2 ((sI (putI (putI (putR s4 20 1 x4) ((rg (sR (putR s4 20 1 x4) 20 0)).1) (Int.toNat (sI s4 20 2)) p1) ((rg x4).1) (Int.toNat (sI (putI (putR s4 20 1 x4) ((rg (sR (putR s4 20 1 x4) 20 0)).1) (Int.toNat (sI s4 20 2)) p1) 20 2)) p2) 20 2) + 1))))))) : am_Runs PP MLL (d + 3) m_Rows_add 0 [some (qr (20, 4, 3)), some (qi p1), some (qi p2)] [] σ (kV K) := am_wEF_ok (orc []) 200 (⟨rfl, ⟨fun c2 => ⟨rfl, ⟨⟨(h.1 c2).1.1, (h.1 c2).1.2⟩, ⟨rfl, (h.1 c2).2⟩⟩⟩, fun c2 => ⟨rfl, ⟨rfl, ⟨⟨(h.2 c2).1.1, (h.2 c2).1.2⟩, (am_cO (h.2 c2).2 fun x3 s3 h3 => ⟨rfl, ⟨rfl, ⟨rfl, ⟨⟨h3.2.1.1, h3.2.1.2⟩, (am_cO h3.2.2 fun x4 s4 h4 => ⟨rfl, ⟨rfl, ⟨rfl, ⟨⟨h4.2.1.1, h4.2.1.2.1, h4.2.1.2.2.1⟩, ⟨rfl, ⟨rfl, ⟨⟨h4.2.1.2.2.2.1, h4.2.1.2.2.2.2.1, h4.2.1.2.2.2.2.2.1⟩, ⟨rfl, ⟨⟨h4.2.1.2.2.2.2.2.2.1, h4.2.1.2.2.2.2.2.2.2⟩, ⟨rfl, h4.2.2⟩⟩⟩⟩⟩⟩⟩⟩⟩⟩)⟩⟩⟩⟩)⟩⟩⟩⟩⟩)

theorem c_Rows_add20 (d : Nat) {own : Nat → Nat} {x y : Int} {L : List (Int × Int)} {σ : am_S} {K : am_S → Prop} (hC : CF σ) (hV : RV σ own 20 L.length) (hL : RL σ 20 L) (hlen : L.length < 2000000000)
    (h : ∀ s own', OFr σ s own own' (pR 20) → CF s → RV s own' 20 (L.length + 1) → RL s 20 (L ++ [(x, y)]) → K s) : am_Calls PP MLL (d + 4) m_Rows_add [qr (20, 4, 3), qi x, qi y] σ (kV K) := by
  obtain ⟨⟨a, n, b, m, r0, r1, oa, ob, la, lb, nle, mle, n6, m6⟩, o18, o20, o23, h87⟩ := hV
  have oo : own 20 = 20 := o20
  have lo : 20 < sN σ := by omega
  have nao : a ≠ 20 := own_ne oa oo (by omega)
  have nbo : b ≠ 20 := own_ne ob oo (by omega)
  have nab : a ≠ b := own_ne oa ob (by omega)
  refine v_Rows_add_20 d x y σ K hC ?_
  rw [hL.1]
  refine ⟨fun c => ⟨by omega, ?_⟩, fun c => ⟨by omega, ?_⟩⟩
  · refine h _ own (OFr_I rfl (fun z hz hp => ?_)) hC ⟨⟨a, n, b, m, r0, r1, oa, ob, la, lb, nle, mle, by omega, by omega⟩, o18, o20, o23, h87⟩ ⟨?_, fun i i1 i2 => ?_⟩
    · rw [put_ne]
      intro e
      rw [e, oo] at hp
      exact hp ⟨by omega, by omega⟩
    · rw [put_at, if_pos rfl, List.length_append]
      show _ = ((L.length + 1 : Nat) : Int)
      omega
    · have i3 : i < L.length := by omega
      rw [rw_app, if_pos i3, ← (hL.2 i i3 i2).1, ← (hL.2 i i3 i2).2]
      unfold rNu rTo
      show sI (putI σ 20 2 _) (rg (sR σ 20 0)).1 i = _ ∧ sI (putI σ 20 2 _) (rg (sR σ 20 1)).1 i = _
      rw [r0, r1]
      simp only [rg_some]
      rw [put_ne nao, put_ne nbo]
      exact ⟨rfl, rfl⟩
  · have c6 : L.length < 600 := by omega
    rw [r0, show (L.length : Int) + 1 = ((L.length + 1 : Nat) : Int) by omega]
    refine c_rmI d la (by omega) (by omega) ?_
    intro s1 a' n' m1
    obtain ⟨p1, lt1, le1, N1, U1, M1⟩ := RM_a la m1
    have F1 := m1.1.1
    have mx1 := m1.2.2.1
    have tn := m1.2.1
    have c1 : CF s1 := CF_fr hC (fun x j hx _ _ _ _ _ _ _ _ => (F1 x (by omega)).2 j)
    have i1 : sI s1 20 2 = (L.length : Int) := by rw [(F1 20 lo).1]; exact hL.1
    obtain ⟨B, hB⟩ : ∃ B, B = putR s1 20 0 (some (a', 20, n')) := ⟨_, rfl⟩
    have RB : ∀ x j, ¬ (x = 20 ∧ j = 0) → sR B x j = sR s1 x j := by
      intro x j q
      rw [hB, sR_putR, if_neg q]
    have RB0 : sR B 20 0 = some (a', 20, n') := by rw [hB, sR_putR, if_pos ⟨rfl, rfl⟩]
    have IB : sI B = sI s1 := by rw [hB]; rfl
    have NB : sN B = sN s1 := by rw [hB]; rfl
    have UB : sU B = sU s1 := by rw [hB]; rfl
    have CB : CF B := CF_fr c1 (fun x j _ _ _ _ _ _ q18 q20 q23 => RB x j (fun w => q20 w.1))
    have RB1 : sR B 20 1 = some (b, 20, m) := by rw [RB 20 1 (by omega), (F1 20 lo).2, r1]
    refine ⟨c1, ?_⟩
    rw [← hB, RB1, i1]
    refine ⟨by omega, ?_⟩
    rw [show (L.length : Int) + 1 = ((L.length + 1 : Nat) : Int) by omega]
    refine c_rmI d (by omega) (by omega) (by omega) ?_
    intro s2 b' m' m2
    obtain ⟨p2, lt2, le2, N2, U2, M2⟩ := RM_a (by omega) m2
    have F2 := m2.1.1
    have mx2 := m2.2.2.1
    have tn2 := m2.2.1
    have c2 : CF s2 := CF_fr CB (fun x j hx _ _ _ _ _ _ _ _ => (F2 x (by omega)).2 j)
    have i2 : sI s2 20 2 = (L.length : Int) := by rw [(F2 20 (by omega)).1, IB]; exact i1
    have nao' : a' ≠ 20 := by omega
    have nbo' : b' ≠ 20 := by omega
    have nab' : a' ≠ b' := by omega
    have R20 : sR s2 20 0 = some (a', 20, n') := by rw [(F2 20 (by omega)).2, RB0]
    simp only [rg_some]
    refine ⟨c2, ?_⟩
    obtain ⟨E, hE⟩ : ∃ E, E = putR s2 20 1 (some (b', 20, m')) := ⟨_, rfl⟩
    rw [← hE]
    have RE : ∀ x j, ¬ (x = 20 ∧ j = 1) → sR E x j = sR s2 x j := by
      intro x j q
      rw [hE, sR_putR, if_neg q]
    have RE1 : sR E 20 1 = some (b', 20, m') := by rw [hE, sR_putR, if_pos ⟨rfl, rfl⟩]
    have IE : sI E = sI s2 := by rw [hE]; rfl
    have NE : sN E = sN s2 := by rw [hE]; rfl
    have UE : sU E = sU s2 := by rw [hE]; rfl
    have RE0 : sR E 20 0 = some (a', 20, n') := by rw [RE 20 0 (by omega), R20]
    have CE : CF E := CF_fr c2 (fun x j _ _ _ _ _ _ q18 q20 q23 => RE x j (fun w => q20 w.1))
    rw [RE0, i2, Int.toNat_natCast]
    simp only [rg_some]
    have j1 : sI (putI E a' L.length x) 20 2 = (L.length : Int) := by rw [put_ne nao'.symm, IE]; exact i2
    rw [j1, Int.toNat_natCast]
    have j2 : sI (putI (putI E a' L.length x) b' L.length y) 20 2 = (L.length : Int) := by rw [put_ne nbo'.symm]; exact j1
    rw [j2]
    refine ⟨⟨by trivial, by omega, by omega, by trivial, by omega, by omega, by omega, by omega⟩, ?_⟩
    obtain ⟨own', hw⟩ : ∃ own' : Nat → Nat, own' = fun x => if x = b' then 20 + 2 else if x = a' then 20 + 1 else own x := ⟨_, rfl⟩
    have old : ∀ x, x < sN σ → own' x = own x := by
      intro x hx
      rw [hw]
      show (if x = b' then 20 + 2 else if x = a' then 20 + 1 else own x) = own x
      by_cases e : x = b'
      · rw [if_pos e]
        have : b' = b := by omega
        rw [e, this]
        exact ob.symm
      · rw [if_neg e]
        by_cases e2 : x = a'
        · rw [if_pos e2]
          have : a' = a := by omega
          rw [e2, this]
          exact oa.symm
        · rw [if_neg e2]
    have oa' : own' a' = 20 + 1 := by
      rw [hw]
      show (if a' = b' then 20 + 2 else if a' = a' then 20 + 1 else own a') = _
      rw [if_neg nab', if_pos rfl]
    have ob' : own' b' = 20 + 2 := by
      rw [hw]
      show (if b' = b' then 20 + 2 else if b' = a' then 20 + 1 else own b') = _
      rw [if_pos rfl]
    obtain ⟨G, hG⟩ : ∃ G, G = putI (putI (putI E a' L.length x) b' L.length y) 20 2 ((L.length : Int) + 1) := ⟨_, rfl⟩
    rw [← hG]
    have RG : sR G = sR E := by rw [hG]; rfl
    have NG : sN G = sN E := by rw [hG]; rfl
    have UG : sU G = sU E := by rw [hG]; rfl
    have IG : ∀ z, z ≠ 20 → z ≠ a' → z ≠ b' → sI G z = sI s2 z := by
      intro z z1 z2 z3
      rw [hG, put_ne z1, put_ne z3, put_ne z2, IE]
    have fr : ∀ z, z < sN σ → ¬ pR 20 (own z) → z ≠ 20 ∧ z ≠ a' ∧ z ≠ b' := by
      intro z hz hp
      unfold pR at hp
      refine ⟨fun e => ?_, fun e => ?_, fun e => ?_⟩
      · rw [e, oo] at hp; omega
      · have := old z hz
        rw [e, oa'] at this
        rw [e] at hp
        omega
      · have := old z hz
        rw [e, ob'] at this
        rw [e] at hp
        omega
    have RO : ∀ z j, z < sN σ → z ≠ 20 → sR G z j = sR σ z j := by
      intro z j hz zo
      rw [RG, RE z j (fun w => zo w.1), (F2 z (by omega)).2, RB z j (fun w => zo w.1), (F1 z hz).2]
    have zz : zl G + n + m = zl σ + n' + m' := by
      have e18 : sR G 18 0 = sR σ 18 0 := RO 18 0 (by omega) (by omega)
      unfold zl
      rw [e18]
      rw [RO 23 0 (by omega) (by omega), RO 23 1 (by omega) (by omega), RG, RE0, RE1, r0, r1]
      simp only [rg_some]
      omega
    have cg : CF G := by
      unfold CF
      rw [RG]
      exact CE
    refine h G own' ⟨fun z hz hp => ?_, old, by omega, by omega, by omega⟩ cg ⟨⟨a', n', b', m', by rw [RG, RE0], by rw [RG, RE1], oa', ob', by omega, by omega, by omega, by omega, by omega, by omega⟩, (old 18 (by omega)).trans o18, (old 20 (by omega)).trans o20, (old 23 (by omega)).trans o23, by omega⟩ ⟨?_, fun i i1 i2 => ?_⟩
    · obtain ⟨w1, w2, w3⟩ := fr z hz hp
      exact ⟨by rw [IG z w1 w2 w3, (F2 z (by omega)).1, IB, (F1 z hz).1], fun j => RO z j hz w1⟩
    · rw [hG, put_at, if_pos rfl, List.length_append]
      show _ = ((L.length + 1 : Nat) : Int)
      omega
    · rw [List.length_append] at i1
      have i3 : i < L.length + 1 := i1
      unfold rNu rTo
      rw [RG, RE0, RE1]
      simp only [rg_some]
      rw [hG, put_ne nao', put_ne nab', put_at, put_ne nbo', put_at, put_ne nab'.symm, rw_app, IE]
      by_cases e : i < L.length
      · rw [if_pos e, if_neg (by omega), if_neg (by omega)]
        have z := hL.2 i e (by omega)
        unfold rNu rTo at z
        rw [r0, r1] at z
        simp only [rg_some] at z
        have ea : sI s2 a' i = sI σ a i := by
          rw [(F2 a' (by omega)).1, IB]
          exact m1.2.2.2.1 i (by omega)
        have eb : sI s2 b' i = sI σ b i := by
          rw [m2.2.2.2.1 i (by omega), IB, (F1 b lb).1]
        rw [ea, eb]
        exact z
      · rw [if_neg e, if_pos (by omega), if_pos (by omega), if_pos (by omega)]
        exact ⟨rfl, rfl⟩
theorem v_Rows_add_23 (d : Nat) (p1 p2 : Int) (σ : am_S) (K : am_S → Prop) (hC : CF σ) (h :
  ((600 ≤ (sI σ 23 2) →
    (-2147483648 ≤ (sI σ 23 2) + 1 ∧ (sI σ 23 2) + 1 < 2147483648) ∧
    K (putI σ 23 2 ((sI σ 23 2) + 1))) ∧
  (¬ (600 ≤ (sI σ 23 2)) →
    (-2147483648 ≤ (sI σ 23 2) + 1 ∧ (sI σ 23 2) + 1 < 2147483648) ∧
    am_Calls PP MLL (d + 3) m_C_roomFor_AIIAI [qo (sR σ 23 0), qi ((sI σ 23 2) + 1)] σ (kO fun x3 s3 =>
      (CF s3) ∧
      (-2147483648 ≤ (sI s3 23 2) + 1 ∧ (sI s3 23 2) + 1 < 2147483648) ∧
      am_Calls PP MLL (d + 3) m_C_roomFor_AIIAI [qo (sR (putR s3 23 0 x3) 23 1), qi ((sI s3 23 2) + 1)] (putR s3 23 0 x3) (kO fun x4 s4 =>
        (CF s4) ∧
        ((rg (sR (putR s4 23 1 x4) 23 0)).2.1 = 20 ∧ 0 ≤ (sI s4 23 2) ∧ (sI s4 23 2) < (((rg (sR (putR s4 23 1 x4) 23 0)).2.2 : Nat) : Int) ∧ (rg x4).2.1 = 20 ∧ 0 ≤ (sI (putI (putR s4 23 1 x4) ((rg (sR (putR s4 23 1 x4) 23 0)).1) (Int.toNat (sI s4 23 2)) p1) 23 2) ∧ (sI (putI (putR s4 23 1 x4) ((rg (sR (putR s4 23 1 x4) 23 0)).1) (Int.toNat (sI s4 23 2)) p1) 23 2) < (((rg x4).2.2 : Nat) : Int) ∧ -2147483648 ≤ (sI (putI (putI (putR s4 23 1 x4) ((rg (sR (putR s4 23 1 x4) 23 0)).1) (Int.toNat (sI s4 23 2)) p1) ((rg x4).1) (Int.toNat (sI (putI (putR s4 23 1 x4) ((rg (sR (putR s4 23 1 x4) 23 0)).1) (Int.toNat (sI s4 23 2)) p1) 23 2)) p2) 23 2) + 1 ∧ (sI (putI (putI (putR s4 23 1 x4) ((rg (sR (putR s4 23 1 x4) 23 0)).1) (Int.toNat (sI s4 23 2)) p1) ((rg x4).1) (Int.toNat (sI (putI (putR s4 23 1 x4) ((rg (sR (putR s4 23 1 x4) 23 0)).1) (Int.toNat (sI s4 23 2)) p1) 23 2)) p2) 23 2) + 1 < 2147483648) ∧
        K (putI (putI (putI (putR s4 23 1 x4) ((rg (sR (putR s4 23 1 x4) 23 0)).1) (Int.toNat (sI s4 23 2)) p1) ((rg x4).1) (Int.toNat (sI (putI (putR s4 23 1 x4) ((rg (sR (putR s4 23 1 x4) 23 0)).1) (Int.toNat (sI s4 23 2)) p1) 23 2)) p2) 23 2 ((sI (putI (putI (putR s4 23 1 x4) ((rg (sR (putR s4 23 1 x4) 23 0)).1) (Int.toNat (sI s4 23 2)) p1) ((rg x4).1) (Int.toNat (sI (putI (putR s4 23 1 x4) ((rg (sR (putR s4 23 1 x4) 23 0)).1) (Int.toNat (sI s4 23 2)) p1) 23 2)) p2) 23 2) + 1))))))) : am_Runs PP MLL (d + 3) m_Rows_add 0 [some (qr (23, 4, 3)), some (qi p1), some (qi p2)] [] σ (kV K) := am_wEF_ok (orc []) 200 (⟨rfl, ⟨fun c2 => ⟨rfl, ⟨⟨(h.1 c2).1.1, (h.1 c2).1.2⟩, ⟨rfl, (h.1 c2).2⟩⟩⟩, fun c2 => ⟨rfl, ⟨rfl, ⟨⟨(h.2 c2).1.1, (h.2 c2).1.2⟩, (am_cO (h.2 c2).2 fun x3 s3 h3 => ⟨rfl, ⟨rfl, ⟨rfl, ⟨⟨h3.2.1.1, h3.2.1.2⟩, (am_cO h3.2.2 fun x4 s4 h4 => ⟨rfl, ⟨rfl, ⟨rfl, ⟨⟨h4.2.1.1, h4.2.1.2.1, h4.2.1.2.2.1⟩, ⟨rfl, ⟨rfl, ⟨⟨h4.2.1.2.2.2.1, h4.2.1.2.2.2.2.1, h4.2.1.2.2.2.2.2.1⟩, ⟨rfl, ⟨⟨h4.2.1.2.2.2.2.2.2.1, h4.2.1.2.2.2.2.2.2.2⟩, ⟨rfl, h4.2.2⟩⟩⟩⟩⟩⟩⟩⟩⟩⟩)⟩⟩⟩⟩)⟩⟩⟩⟩⟩)

theorem c_Rows_add23 (d : Nat) {own : Nat → Nat} {x y : Int} {L : List (Int × Int)} {σ : am_S} {K : am_S → Prop} (hC : CF σ) (hV : RV σ own 23 L.length) (hL : RL σ 23 L) (hlen : L.length < 2000000000)
    (h : ∀ s own', OFr σ s own own' (pR 23) → CF s → RV s own' 23 (L.length + 1) → RL s 23 (L ++ [(x, y)]) → K s) : am_Calls PP MLL (d + 4) m_Rows_add [qr (23, 4, 3), qi x, qi y] σ (kV K) := by
  obtain ⟨⟨a, n, b, m, r0, r1, oa, ob, la, lb, nle, mle, n6, m6⟩, o18, o20, o23, h87⟩ := hV
  have oo : own 23 = 23 := o23
  have lo : 23 < sN σ := by omega
  have nao : a ≠ 23 := own_ne oa oo (by omega)
  have nbo : b ≠ 23 := own_ne ob oo (by omega)
  have nab : a ≠ b := own_ne oa ob (by omega)
  refine v_Rows_add_23 d x y σ K hC ?_
  rw [hL.1]
  refine ⟨fun c => ⟨by omega, ?_⟩, fun c => ⟨by omega, ?_⟩⟩
  · refine h _ own (OFr_I rfl (fun z hz hp => ?_)) hC ⟨⟨a, n, b, m, r0, r1, oa, ob, la, lb, nle, mle, by omega, by omega⟩, o18, o20, o23, h87⟩ ⟨?_, fun i i1 i2 => ?_⟩
    · rw [put_ne]
      intro e
      rw [e, oo] at hp
      exact hp ⟨by omega, by omega⟩
    · rw [put_at, if_pos rfl, List.length_append]
      show _ = ((L.length + 1 : Nat) : Int)
      omega
    · have i3 : i < L.length := by omega
      rw [rw_app, if_pos i3, ← (hL.2 i i3 i2).1, ← (hL.2 i i3 i2).2]
      unfold rNu rTo
      show sI (putI σ 23 2 _) (rg (sR σ 23 0)).1 i = _ ∧ sI (putI σ 23 2 _) (rg (sR σ 23 1)).1 i = _
      rw [r0, r1]
      simp only [rg_some]
      rw [put_ne nao, put_ne nbo]
      exact ⟨rfl, rfl⟩
  · have c6 : L.length < 600 := by omega
    rw [r0, show (L.length : Int) + 1 = ((L.length + 1 : Nat) : Int) by omega]
    refine c_rmI d la (by omega) (by omega) ?_
    intro s1 a' n' m1
    obtain ⟨p1, lt1, le1, N1, U1, M1⟩ := RM_a la m1
    have F1 := m1.1.1
    have mx1 := m1.2.2.1
    have tn := m1.2.1
    have c1 : CF s1 := CF_fr hC (fun x j hx _ _ _ _ _ _ _ _ => (F1 x (by omega)).2 j)
    have i1 : sI s1 23 2 = (L.length : Int) := by rw [(F1 23 lo).1]; exact hL.1
    obtain ⟨B, hB⟩ : ∃ B, B = putR s1 23 0 (some (a', 20, n')) := ⟨_, rfl⟩
    have RB : ∀ x j, ¬ (x = 23 ∧ j = 0) → sR B x j = sR s1 x j := by
      intro x j q
      rw [hB, sR_putR, if_neg q]
    have RB0 : sR B 23 0 = some (a', 20, n') := by rw [hB, sR_putR, if_pos ⟨rfl, rfl⟩]
    have IB : sI B = sI s1 := by rw [hB]; rfl
    have NB : sN B = sN s1 := by rw [hB]; rfl
    have UB : sU B = sU s1 := by rw [hB]; rfl
    have CB : CF B := CF_fr c1 (fun x j _ _ _ _ _ _ q18 q20 q23 => RB x j (fun w => q23 w.1))
    have RB1 : sR B 23 1 = some (b, 20, m) := by rw [RB 23 1 (by omega), (F1 23 lo).2, r1]
    refine ⟨c1, ?_⟩
    rw [← hB, RB1, i1]
    refine ⟨by omega, ?_⟩
    rw [show (L.length : Int) + 1 = ((L.length + 1 : Nat) : Int) by omega]
    refine c_rmI d (by omega) (by omega) (by omega) ?_
    intro s2 b' m' m2
    obtain ⟨p2, lt2, le2, N2, U2, M2⟩ := RM_a (by omega) m2
    have F2 := m2.1.1
    have mx2 := m2.2.2.1
    have tn2 := m2.2.1
    have c2 : CF s2 := CF_fr CB (fun x j hx _ _ _ _ _ _ _ _ => (F2 x (by omega)).2 j)
    have i2 : sI s2 23 2 = (L.length : Int) := by rw [(F2 23 (by omega)).1, IB]; exact i1
    have nao' : a' ≠ 23 := by omega
    have nbo' : b' ≠ 23 := by omega
    have nab' : a' ≠ b' := by omega
    have R20 : sR s2 23 0 = some (a', 20, n') := by rw [(F2 23 (by omega)).2, RB0]
    simp only [rg_some]
    refine ⟨c2, ?_⟩
    obtain ⟨E, hE⟩ : ∃ E, E = putR s2 23 1 (some (b', 20, m')) := ⟨_, rfl⟩
    rw [← hE]
    have RE : ∀ x j, ¬ (x = 23 ∧ j = 1) → sR E x j = sR s2 x j := by
      intro x j q
      rw [hE, sR_putR, if_neg q]
    have RE1 : sR E 23 1 = some (b', 20, m') := by rw [hE, sR_putR, if_pos ⟨rfl, rfl⟩]
    have IE : sI E = sI s2 := by rw [hE]; rfl
    have NE : sN E = sN s2 := by rw [hE]; rfl
    have UE : sU E = sU s2 := by rw [hE]; rfl
    have RE0 : sR E 23 0 = some (a', 20, n') := by rw [RE 23 0 (by omega), R20]
    have CE : CF E := CF_fr c2 (fun x j _ _ _ _ _ _ q18 q20 q23 => RE x j (fun w => q23 w.1))
    rw [RE0, i2, Int.toNat_natCast]
    simp only [rg_some]
    have j1 : sI (putI E a' L.length x) 23 2 = (L.length : Int) := by rw [put_ne nao'.symm, IE]; exact i2
    rw [j1, Int.toNat_natCast]
    have j2 : sI (putI (putI E a' L.length x) b' L.length y) 23 2 = (L.length : Int) := by rw [put_ne nbo'.symm]; exact j1
    rw [j2]
    refine ⟨⟨by trivial, by omega, by omega, by trivial, by omega, by omega, by omega, by omega⟩, ?_⟩
    obtain ⟨own', hw⟩ : ∃ own' : Nat → Nat, own' = fun x => if x = b' then 23 + 2 else if x = a' then 23 + 1 else own x := ⟨_, rfl⟩
    have old : ∀ x, x < sN σ → own' x = own x := by
      intro x hx
      rw [hw]
      show (if x = b' then 23 + 2 else if x = a' then 23 + 1 else own x) = own x
      by_cases e : x = b'
      · rw [if_pos e]
        have : b' = b := by omega
        rw [e, this]
        exact ob.symm
      · rw [if_neg e]
        by_cases e2 : x = a'
        · rw [if_pos e2]
          have : a' = a := by omega
          rw [e2, this]
          exact oa.symm
        · rw [if_neg e2]
    have oa' : own' a' = 23 + 1 := by
      rw [hw]
      show (if a' = b' then 23 + 2 else if a' = a' then 23 + 1 else own a') = _
      rw [if_neg nab', if_pos rfl]
    have ob' : own' b' = 23 + 2 := by
      rw [hw]
      show (if b' = b' then 23 + 2 else if b' = a' then 23 + 1 else own b') = _
      rw [if_pos rfl]
    obtain ⟨G, hG⟩ : ∃ G, G = putI (putI (putI E a' L.length x) b' L.length y) 23 2 ((L.length : Int) + 1) := ⟨_, rfl⟩
    rw [← hG]
    have RG : sR G = sR E := by rw [hG]; rfl
    have NG : sN G = sN E := by rw [hG]; rfl
    have UG : sU G = sU E := by rw [hG]; rfl
    have IG : ∀ z, z ≠ 23 → z ≠ a' → z ≠ b' → sI G z = sI s2 z := by
      intro z z1 z2 z3
      rw [hG, put_ne z1, put_ne z3, put_ne z2, IE]
    have fr : ∀ z, z < sN σ → ¬ pR 23 (own z) → z ≠ 23 ∧ z ≠ a' ∧ z ≠ b' := by
      intro z hz hp
      unfold pR at hp
      refine ⟨fun e => ?_, fun e => ?_, fun e => ?_⟩
      · rw [e, oo] at hp; omega
      · have := old z hz
        rw [e, oa'] at this
        rw [e] at hp
        omega
      · have := old z hz
        rw [e, ob'] at this
        rw [e] at hp
        omega
    have RO : ∀ z j, z < sN σ → z ≠ 23 → sR G z j = sR σ z j := by
      intro z j hz zo
      rw [RG, RE z j (fun w => zo w.1), (F2 z (by omega)).2, RB z j (fun w => zo w.1), (F1 z hz).2]
    have zz : zl G + n + m = zl σ + n' + m' := by
      have e18 : sR G 18 0 = sR σ 18 0 := RO 18 0 (by omega) (by omega)
      unfold zl
      rw [e18]
      rw [RO 20 0 (by omega) (by omega), RO 20 1 (by omega) (by omega), RG, RE0, RE1, r0, r1]
      simp only [rg_some]
      omega
    have cg : CF G := by
      unfold CF
      rw [RG]
      exact CE
    refine h G own' ⟨fun z hz hp => ?_, old, by omega, by omega, by omega⟩ cg ⟨⟨a', n', b', m', by rw [RG, RE0], by rw [RG, RE1], oa', ob', by omega, by omega, by omega, by omega, by omega, by omega⟩, (old 18 (by omega)).trans o18, (old 20 (by omega)).trans o20, (old 23 (by omega)).trans o23, by omega⟩ ⟨?_, fun i i1 i2 => ?_⟩
    · obtain ⟨w1, w2, w3⟩ := fr z hz hp
      exact ⟨by rw [IG z w1 w2 w3, (F2 z (by omega)).1, IB, (F1 z hz).1], fun j => RO z j hz w1⟩
    · rw [hG, put_at, if_pos rfl, List.length_append]
      show _ = ((L.length + 1 : Nat) : Int)
      omega
    · rw [List.length_append] at i1
      have i3 : i < L.length + 1 := i1
      unfold rNu rTo
      rw [RG, RE0, RE1]
      simp only [rg_some]
      rw [hG, put_ne nao', put_ne nab', put_at, put_ne nbo', put_at, put_ne nab'.symm, rw_app, IE]
      by_cases e : i < L.length
      · rw [if_pos e, if_neg (by omega), if_neg (by omega)]
        have z := hL.2 i e (by omega)
        unfold rNu rTo at z
        rw [r0, r1] at z
        simp only [rg_some] at z
        have ea : sI s2 a' i = sI σ a i := by
          rw [(F2 a' (by omega)).1, IB]
          exact m1.2.2.2.1 i (by omega)
        have eb : sI s2 b' i = sI σ b i := by
          rw [m2.2.2.2.1 i (by omega), IB, (F1 b lb).1]
        rw [ea, eb]
        exact z
      · rw [if_neg e, if_pos (by omega), if_pos (by omega), if_pos (by omega)]
        exact ⟨rfl, rfl⟩
theorem c_Rows_add (d : Nat) {own : Nat → Nat} {o : Nat} {x y : Int} {L : List (Int × Int)} {σ : am_S} {K : am_S → Prop} (ho : o = 20 ∨ o = 23) (hC : CF σ) (hV : RV σ own o L.length) (hL : RL σ o L) (hlen : L.length < 2000000000)
    (h : ∀ s own', OFr σ s own own' (pR o) → CF s → RV s own' o (L.length + 1) → RL s o (L ++ [(x, y)]) → K s) : am_Calls PP MLL (d + 4) m_Rows_add [qr (o, 4, 3), qi x, qi y] σ (kV K) := by
  rcases ho with e | e
  · subst e
    exact c_Rows_add20 d hC hV hL hlen h
  · subst e
    exact c_Rows_add23 d hC hV hL hlen h
theorem v_Rows_setTold_0 (d : Nat) (o b m : Nat) (p1 p2 : Int) (σ : am_S) (K : am_S → Prop) (hC : CF σ) (h2 : sR σ o 1 = some (b, 20, m)) (h :
  ((600 ≤ p1 →
    K σ) ∧
  (¬ (600 ≤ p1) →
    (0 ≤ p1 ∧ p1 < ((m : Nat) : Int)) ∧
    K (putI σ b (Int.toNat p1) p2)))) : am_Runs PP MLL d m_Rows_setTold 0 [some (qr (o, 4, 3)), some (qi p1), some (qi p2)] [] σ (kV K) := am_wEF_ok (orc [(4, b, 20, m)]) 200 (⟨fun c2 => (h.1 c2), fun c2 => ⟨⟨rfl, h2⟩, ⟨⟨rfl, (h.2 c2).1.1, (h.2 c2).1.2⟩, (h.2 c2).2⟩⟩⟩)

theorem c_setTold (d : Nat) {own : Nat → Nat} {o i : Nat} {x y : Int} {L L2 : List (Int × Int)} {σ : am_S} {K : am_S → Prop} (ho : o = 20 ∨ o = 23) (hC : CF σ) (hV : RV σ own o (L ++ (x, 0) :: L2).length) (hL : RL σ o (L ++ (x, 0) :: L2)) (hi : i = L.length)
    (h : ∀ s, s.2 = σ.2 → (∀ z, own z ≠ o + 2 → sI s z = sI σ z) → RL s o (L ++ (x, y) :: L2) → K s) : am_Calls PP MLL (d + 1) m_Rows_setTold [qr (o, 4, 3), qi (i : Int), qi y] σ (kV K) := by
  obtain ⟨⟨a, n, b, m, r0, r1, oa, ob, la, lb, nle, mle, n6, m6⟩, o18, o20, o23, h87⟩ := hV
  have oo : own o = o := by rcases ho with e | e <;> (rw [e]; assumption)
  have nbo : b ≠ o := own_ne ob oo (by omega)
  have nab : a ≠ b := own_ne oa ob (by omega)
  have gd : ∀ (A : List (Int × Int)) (v w : Int × Int) (B : List (Int × Int)) (j : Nat), j ≠ A.length → (A ++ v :: B).getD j (0, 0) = (A ++ w :: B).getD j (0, 0) := by
    intro A v w B
    induction A with
    | nil =>
      intro j hj
      cases j with
      | zero => exact absurd rfl hj
      | succ j => rfl
    | cons q A ih =>
      intro j hj
      cases j with
      | zero => rfl
      | succ j => exact ih j (fun e => hj (by rw [e]; rfl))
  have ge : ∀ (A : List (Int × Int)) (v : Int × Int) (B : List (Int × Int)), (A ++ v :: B).getD A.length (0, 0) = v := by
    intro A v B
    induction A with
    | nil => rfl
    | cons q A ih => exact ih
  have ll : (L ++ (x, y) :: L2).length = (L ++ (x, 0) :: L2).length := by rw [List.length_append, List.length_append]; rfl
  have lg : L.length < (L ++ (x, 0) :: L2).length := by
    rw [List.length_append]
    show _ < L.length + (L2.length + 1)
    omega
  refine v_Rows_setTold_0 d o b m i y σ K hC r1 ⟨fun c => ?_, fun c => ⟨by omega, ?_⟩⟩
  · refine h σ rfl (fun _ _ => rfl) ⟨by rw [ll]; exact hL.1, fun j j1 j2 => ?_⟩
    rw [ll] at j1
    rw [gd L (x, y) (x, 0) L2 j (by omega)]
    exact hL.2 j j1 j2
  · rw [Int.toNat_natCast]
    refine h _ rfl (fun z hz => ?_) ⟨?_, fun j j1 j2 => ?_⟩
    · rw [put_ne]
      intro e
      rw [e] at hz
      exact hz ob
    · rw [put_ne nbo.symm, ll]
      exact hL.1
    · rw [ll] at j1
      have z := hL.2 j j1 j2
      unfold rNu rTo at z ⊢
      show sI (putI σ b i y) (rg (sR σ o 0)).1 j = _ ∧ sI (putI σ b i y) (rg (sR σ o 1)).1 j = _
      rw [r0, r1] at z ⊢
      simp only [rg_some] at z ⊢
      rw [put_ne nab, put_at]
      by_cases e : j = i
      · rw [if_pos e]
        rw [e, hi, ge] at z
        rw [e, hi, ge]
        exact ⟨z.1, rfl⟩
      · rw [if_neg e, gd L (x, y) (x, 0) L2 j (by omega)]
        exact z
