/-! the class: a search for one weighing more -/
theorem RV_I {σ s : am_S} {own : Nat → Nat} {o k : Nat} (h : RV σ own o k) (h2 : s.2 = σ.2) : RV s own o k := by
  obtain ⟨⟨a, n, b, m, h1, h3, h4, h5, h6, h7, h8⟩, o1, o2, o3, o4⟩ := h
  have e : sN s = sN σ := by unfold sN; rw [h2]
  exact ⟨⟨a, n, b, m, by rw [R2' h2]; exact h1, by rw [R2' h2]; exact h3, h4, h5, by omega, by omega, h8⟩, o1, o2, o3, by omega⟩
/-- rows stay when only ints of other cells change -/
theorem RL_I {σ s : am_S} {own : Nat → Nat} {o k : Nat} {L : List (Int × Int)} (hV : RV σ own o k) (h2 : s.2 = σ.2) (ho : sI s o 2 = sI σ o 2) (h : ∀ x, own x = o + 1 ∨ own x = o + 2 → sI s x = sI σ x) (hL : RL σ o L) : RL s o L := by
  obtain ⟨⟨a, n, b, m, h1, h3, h4, h5, h6, h7, h8⟩, _⟩ := hV
  refine ⟨by rw [ho]; exact hL.1, fun i i1 i2 => ?_⟩
  have z := hL.2 i i1 i2
  unfold rNu rTo at z ⊢
  rw [R2' h2, R2' h2, h1, h3]
  rw [h1, h3] at z
  simp only [rg_some] at z ⊢
  rw [h a (Or.inl h4), h b (Or.inr h5)]
  exact z
theorem RL_nil {σ : am_S} {o : Nat} (h : sI σ o 2 = 0) : RL σ o [] := ⟨h, fun i hi => absurd hi (Nat.not_lt_zero i)⟩
theorem tcl_I {σ s : am_S} {own : Nat → Nat} {z : Nat} (hT : TV σ own z) (h2 : s.2 = σ.2) (h : ∀ x, own x = 19 → sI s x = sI σ x) : tcl s = tcl σ := by
  obtain ⟨⟨a, n, h1, h3, _⟩, _⟩ := hT
  funext q
  unfold tcl
  rw [R2' h2, h1]
  simp only [rg_some]
  rw [h a h3]
theorem v_Search_askFor_0 (d : Nat) (aQ g : Nat) (p1 : Int) (σ : am_S) (K : am_S → Prop) (hC : CF σ) (hQ : QA σ aQ) (hg : sR σ 12 4 = some (g, 4, 3)) (h :
  am_Calls PP MLL (d + 1) m_Question_takeAll [qr (qA aQ 0, 3, 10), qr (13, 6, 5)] (putI (putI (putI (putI (putI σ 12 10 p1) 12 11 0) 12 12 1) 18 1 0) g 2 0) (kV fun s1 =>
    K s1)) : am_Runs PP MLL (d + 1) m_Search_askFor 0 [some (qr (12, 5, 18)), some (qi p1)] [] σ (kV K) := am_wEF_ok (orc [(10, 18, 8, 2), (14, g, 4, 3), (18, aQ, 23, 7), (20, qA aQ 0, 3, 10), (22, 13, 6, 5)]) 200 (⟨rfl, ⟨rfl, ⟨⟨rfl, (Or.inr rfl)⟩, ⟨⟨rfl, (hC 12 3 _ rfl)⟩, ⟨rfl, ⟨⟨rfl, hg⟩, ⟨rfl, ⟨⟨rfl, hQ.1⟩, ⟨⟨rfl, (by decide : (0 : Int) ≤ 0), (by decide : (0 : Int) < 7), (hQ.2 0 (by decide)).1⟩, ⟨⟨rfl, (hC 12 1 _ rfl)⟩, ⟨rfl, (am_cV h fun s1 h1 => h1)⟩⟩⟩⟩⟩⟩⟩⟩⟩⟩⟩)

theorem e_askFor (d : Nat) {own : Nat → Nat} {aQ k0 n0 g w st : Nat} {tr : Nat → Nat} {X : sX} {c0 : Nat → Int} {js : Nat → Nat} {os : Nat → Int} {σ : am_S} {K : am_S → Prop} (hE : SE σ own aQ k0 tr X c0) (hn : n0 ≤ 6) (hst : st ≤ 100000) (hf : sI σ 12 13 = 0 ∧ sI σ 12 15 = st ∧ sI σ 12 16 = -1000 ∧ sI σ 12 17 = 0) (hcn : ∀ m, m < n0 → ¬ can X m c0 k0) (hgw : (g = 20 ∧ w = 23) ∨ (g = 23 ∧ w = 20)) (r4 : sR σ 12 4 = some (g, 4, 3)) (r5 : sR σ 12 5 = some (w, 4, 3)) (hV : RV σ own g 0) (hV2 : RV σ own w (wh X c0 k0 n0).length) (hL2 : RL σ w (wh X c0 k0 n0)) (hlen : (wh X c0 k0 n0).length ≤ st) (hT : TV σ own 0)
    (h : ∀ s, s.2 = σ.2 → (∀ x, ¬ p0 (own x) → sI s x = sI σ x) → P0 s own aQ k0 tr X c0 n0 0 js os st → K s) : am_Calls PP MLL (d + 2) m_Search_askFor [qr (12, 5, 18), qi (n0 : Int)] σ (kV K) := by
  have h87 := SE_87 hE
  have hC := SE_CF hE
  have hqa := hE.1.1
  have hX := hE.2.1.1
  have og : own g = g := h87 g (by omega)
  have ow : own w = w := h87 w (by omega)
  have o0 := qA_ow hE (i := 0) (by decide)
  have o01 := hE.1.2.2.2.2 0 (by decide) 1 (by decide)
  refine v_Search_askFor_0 d aQ g _ σ K hC hqa r4 ?_
  obtain ⟨B, hB⟩ : ∃ B, B = putI (putI (putI (putI (putI σ 12 10 (n0 : Int)) 12 11 0) 12 12 1) 18 1 0) g 2 0 := ⟨_, rfl⟩
  rw [← hB]
  have B2 : B.2 = σ.2 := by rw [hB]; rfl
  have n12g : (12 : Nat) ≠ g := by omega
  have n18g : (18 : Nat) ≠ g := by omega
  have Bo : ∀ x, x ≠ 12 → x ≠ 18 → x ≠ g → sI B x = sI σ x := by
    intro x x1 x2 x3
    rw [hB, put_ne x3, put_ne x2, put_ne x1, put_ne x1, put_ne x1]
  have B12 : ∀ j, sI B 12 j = if j = 12 then 1 else if j = 11 then 0 else if j = 10 then (n0 : Int) else sI σ 12 j := by
    intro j
    rw [hB, put_ne n12g, put_ne (by decide), put_at, put_at, put_at]
  have B18 : sI B 18 1 = 0 := by rw [hB, put_ne n18g, put_at, if_pos rfl]
  have Bg : sI B g 2 = 0 := by rw [hB, put_at, if_pos rfl]
  have hE' : SE B own aQ k0 tr X c0 := by
    refine SE_I hE B2 (fun x _ hp => Bo x (fun e => hp ?_) (fun e => hp ?_) (fun e => hp ?_)) ?_
    · rw [e, h87 12 (by decide)]; unfold p0; omega
    · rw [e, h87 18 (by decide)]; unfold p0; omega
    · rw [e, og]; unfold p0; omega
    · rw [B12, B12, B12]
      exact ⟨rfl, rfl, rfl⟩
  have hC' := SE_CF hE'
  have hqa' := hE'.1.1
  have e13 : sI B 13 3 = xM X := hE'.2.2.1.2.2.2.2.1
  have e15 := hE'.2.2.1.2.2.2.2.2
  refine c_takeAll d hC' (hqa'.2 0 (by decide)).2.1 e13 hX.2.1 (own_ne (h87 15 (by decide)) o0 (by omega)) ?_
  intro s s1 s2 s3 s4 s5 s6
  have s1' : s.2 = σ.2 := s1.trans B2
  have nq : ∀ x, own x < 2000 → x ≠ qA aQ 0 ∧ x ≠ qA aQ 0 + 1 := by
    intro x hx
    exact ⟨fun e => by rw [e] at hx; omega, fun e => by rw [e] at hx; omega⟩
  have eS : ∀ x, own x < 2000 → sI s x = sI B x := fun x hx => s2 x (nq x hx).1 (nq x hx).2
  have E2 : SE s own aQ k0 tr X c0 := by
    refine SE_I hE' s1 (fun x _ hp => s2 x (fun e => hp ?_) (fun e => hp ?_)) ?_
    · rw [e, o0]; unfold p0; omega
    · rw [e, o01]; unfold p0; omega
    · rw [eS 12 (by rw [h87 12 (by decide)]; decide)]
      exact ⟨rfl, rfl, rfl⟩
  have e12 := eS 12 (by rw [h87 12 (by decide)]; decide)
  refine h s s1' (fun x hp => ?_) ⟨⟨E2, hn, hst, ?_, hcn⟩, fun i hi => absurd hi (Nat.not_lt_zero i), ?_, ?_, fun i hi => absurd hi (Nat.not_lt_zero i), ⟨s4, by rw [s5]; exact hE.2.1.2.1.2.symm, fun p hp => by rw [s6 p hp]; exact e15 p hp⟩, ⟨g, w, hgw, by rw [R2' s1']; exact r4, by rw [R2' s1']; exact r5, RV_I hV s1', RL_nil ?_, RV_I hV2 s1', RL_I hV2 s1' ?_ (fun x hx => ?_) hL2⟩, ⟨Nat.zero_le _, hlen⟩, fun i hi => absurd hi (Nat.not_lt_zero i), TV_I hT s1', ?_⟩
  · have hp' : own x < 2000 := by unfold p0 at hp; omega
    rw [eS x hp']
    refine Bo x (fun e => hp ?_) (fun e => hp ?_) (fun e => hp ?_)
    · rw [e, h87 12 (by decide)]; unfold p0; omega
    · rw [e, h87 18 (by decide)]; unfold p0; omega
    · rw [e, og]; unfold p0; omega
  · rw [e12, B12, B12, B12, B12, B12]
    exact ⟨rfl, hf⟩
  · rw [e12, B12]; rfl
  · rw [e12, B12]; rfl
  · rw [eS g (by omega)]
    exact Bg
  · rw [eS w (by omega), Bo w (by omega) (by omega) (by omega)]
  · have hx' : own x < 2000 := by omega
    rw [eS x hx', Bo x (fun e => by rw [e, h87 12 (by decide)] at hx; omega) (fun e => by rw [e, h87 18 (by decide)] at hx; omega) (fun e => by rw [e, og] at hx; omega)]
  · rw [eS 18 (by rw [h87 18 (by decide)]; decide)]
    exact B18
theorem v_Search_askForMore_0 (d : Nat) (aQ g w : Nat) (σ : am_S) (K : am_S → Prop) (hC : CF σ) (hQ : QA σ aQ) (hg : sR σ 12 4 = some (g, 4, 3)) (hw : sR σ 12 5 = some (w, 4, 3)) (h :
  (((sI σ 12 10) < 6 →
    (-2147483648 ≤ (sI σ 12 10) + 1 ∧ (sI σ 12 10) + 1 < 2147483648) ∧
    am_Calls PP MLL (d + 2) m_Search_askFor [qr (12, 5, 18), qi ((sI σ 12 10) + 1)] (putR (putR σ 12 4 (some (w, 4, 3))) 12 5 (some (g, 4, 3))) (kV fun s3 =>
      K s3)) ∧
  (¬ ((sI σ 12 10) < 6) →
    K (putI (putI (putR (putR σ 12 4 (some (w, 4, 3))) 12 5 (some (g, 4, 3))) 12 16 (-1000)) 12 13 1)))) : am_Runs PP MLL (d + 2) m_Search_askForMore 0 [some (qr (12, 5, 18)), none] [] σ (kV K) := am_wEF_ok (orc [(1, g, 4, 3), (5, w, 4, 3)]) 200 (⟨⟨rfl, hg⟩, ⟨⟨rfl, hw⟩, ⟨rfl, ⟨rfl, ⟨rfl, ⟨fun c2 => ⟨rfl, ⟨⟨(h.1 c2).1.1, (h.1 c2).1.2⟩, ⟨rfl, (am_cV (h.1 c2).2 fun s3 h3 => h3)⟩⟩⟩, fun c2 => ⟨rfl, am_wEF_ok (orc []) 200 (⟨rfl, ⟨⟨rfl, (Or.inr rfl)⟩, (h.2 c2)⟩⟩)⟩⟩⟩⟩⟩⟩⟩)

theorem RV_R {σ s : am_S} {own : Nat → Nat} {o k : Nat} (h : RV σ own o k) (hr : ∀ j, sR s o j = sR σ o j) (hn : sN s = sN σ) : RV s own o k := by
  obtain ⟨⟨a, n, b, m, h1, h3, h4, h5, h6, h7, h8⟩, o1, o2, o3, o4⟩ := h
  exact ⟨⟨a, n, b, m, by rw [hr]; exact h1, by rw [hr]; exact h3, h4, h5, by omega, by omega, h8⟩, o1, o2, o3, by omega⟩
theorem RL_R {σ s : am_S} {o : Nat} {L : List (Int × Int)} (h : RL σ o L) (hr : ∀ j, sR s o j = sR σ o j) (hi : sI s = sI σ) : RL s o L := by
  unfold RL rNu rTo at h ⊢
  rw [hi, hr, hr]
  exact h
theorem TV_R {σ s : am_S} {own : Nat → Nat} {z : Nat} (h : TV σ own z) (hr : ∀ j, sR s 18 j = sR σ 18 j) (hn : sN s = sN σ) : TV s own z := by
  obtain ⟨⟨a, n, h1, h3, h4, h5, h6⟩, o1, o2, o3, o4⟩ := h
  exact ⟨⟨a, n, by rw [hr]; exact h1, h3, by omega, h5, h6⟩, o1, o2, o3, by omega⟩
theorem e_more (d : Nat) {own : Nat → Nat} {aQ k0 n0 st : Nat} {tr : Nat → Nat} {X : sX} {c0 : Nat → Int} {js : Nat → Nat} {os : Nat → Int} {σ : am_S} {K : am_S → Prop} (hK : KN σ own aQ k0 tr X c0 n0 0 js os st)
    (h : ∀ s own', OFr σ s own own' p0 → CS s own' aQ k0 tr X c0 (if 6 ≤ n0 then (3, n0, 0, js, os) else (0, n0 + 1, 0, js, os)) st → K s) : am_Calls PP MLL (d + 3) m_Search_askForMore [qr (12, 5, 18)] σ (kV K) := by
  obtain ⟨⟨hE, hn, hst, ⟨f10, f13, f15, f16, f17⟩, hcn⟩, _, hc, _, _, ⟨g, w, hgw, r4, r5, V1, L1, V2, L2⟩, ⟨le1, le2⟩, _, _, hT⟩ := hK
  have h87 := SE_87 hE
  have hC := SE_CF hE
  have e0 : grq X c0 k0 n0 js os 0 ++ rws X (n0 - 0) (csq X c0 k0 js os 0) (k0 + 0) = rws X n0 c0 k0 := rfl
  rw [e0] at V1 L1 le1
  have hc' : ¬ can X n0 c0 k0 := hc
  obtain ⟨T, eT⟩ : ∃ T, T = putR (putR σ 12 4 (some (w, 4, 3))) 12 5 (some (g, 4, 3)) := ⟨_, rfl⟩
  have RT : ∀ x j, ¬ (x = 12 ∧ (j = 4 ∨ j = 5)) → sR T x j = sR σ x j := by
    intro x j q
    rw [eT, sR_putR, if_neg (fun z => q ⟨z.1, Or.inr z.2⟩), sR_putR, if_neg (fun z => q ⟨z.1, Or.inl z.2⟩)]
  have RT5 : sR T 12 5 = some (g, 4, 3) := by rw [eT, sR_putR, if_pos ⟨rfl, rfl⟩]
  have RT4 : sR T 12 4 = some (w, 4, 3) := by rw [eT, sR_putR, if_neg (by omega), sR_putR, if_pos ⟨rfl, rfl⟩]
  have IT' : sI T = sI σ := by rw [eT]; rfl
  have NT : sN T = sN σ := by rw [eT]; rfl
  have UT : sU T = sU σ := by rw [eT]; rfl
  have OT : OFr σ T own own p0 := by
    have zz : zl T = zl σ := by
      unfold zl
      rw [RT 18 0 (by omega), RT 20 0 (by omega), RT 20 1 (by omega), RT 23 0 (by omega), RT 23 1 (by omega)]
    refine ⟨fun x hx hp => ⟨by rw [IT'], fun j => RT x j (fun z => hp ?_)⟩, fun _ _ => rfl, by omega, by omega, by omega⟩
    rw [z.1, h87 12 (by decide)]
    unfold p0
    omega
  have ET : SE T own aQ k0 tr X c0 := SE_fr hE OT (by rw [IT']; exact ⟨rfl, rfl, rfl⟩) (fun j j1 j2 => RT 12 j (by omega)) (fun x hx hq j => RT x j (fun z => by rw [z.1, h87 12 (by decide)] at hq; omega))
  have V1' : RV T own g (rws X n0 c0 k0).length := RV_R V1 (fun j => RT g j (by omega)) NT
  have L1' : RL T g (rws X n0 c0 k0) := RL_R L1 (fun j => RT g j (by omega)) IT'
  have V2' : RV T own w (wh X c0 k0 n0).length := RV_R V2 (fun j => RT w j (by omega)) NT
  have T2 : TV T own 0 := TV_R hT (fun j => RT 18 j (by omega)) NT
  refine v_Search_askForMore_0 d aQ g w σ K hC hE.1.1 r4 r5 ?_
  rw [← eT, f10]
  refine ⟨fun c => ⟨by omega, ?_⟩, fun c => ?_⟩
  · rw [show (n0 : Int) + 1 = ((n0 + 1 : Nat) : Int) by omega]
    rw [if_neg (by omega)] at h
    have ew : wh X c0 k0 (n0 + 1) = rws X n0 c0 k0 := by
      unfold wh
      rw [if_neg (by omega)]
      rfl
    refine e_askFor d (js := js) (os := os) ET (by omega) hst (by rw [IT']; exact ⟨f13, f15, f16, f17⟩) (fun m hm => ?_) (by omega) RT4 RT5 (RV_le V2' (Nat.zero_le _)) (by rw [ew]; exact V1') (by rw [ew]; exact L1') (by rw [ew]; exact le1) T2 ?_
    · by_cases q : m = n0
      · rw [q]; exact hc'
      · exact hcn m (by omega)
    · intro s s1 s2 s3
      refine h s own (OFr_tr OT (OFr_I s1 (fun x _ hp => s2 x hp)) (fun _ q => q) (fun _ q => q)) (Or.inl ⟨rfl, s3⟩)
  · rw [if_pos (by omega)] at h
    have e6 : n0 = 6 := by omega
    have n12 : ∀ x, ¬ p0 (own x) → x ≠ 12 := by
      intro x hp e
      rw [e, h87 12 (by decide)] at hp
      exact hp (Or.inl rfl)
    obtain ⟨Z, eZ⟩ : ∃ Z, Z = putI (putI T 12 16 (-1000)) 12 13 1 := ⟨_, rfl⟩
    rw [← eZ]
    have Z2 : Z.2 = T.2 := by rw [eZ]; rfl
    have Zo : ∀ x, x ≠ 12 → sI Z x = sI T x := fun x hx => by rw [eZ, put_ne hx, put_ne hx]
    have Z12 : ∀ j, sI Z 12 j = if j = 13 then 1 else if j = 16 then -1000 else sI T 12 j := fun j => by rw [eZ, put_at, put_at]
    refine h Z own (OFr_tr OT (OFr_I Z2 (fun x _ hp => Zo x (n12 x hp))) (fun _ q => q) (fun _ q => q)) (Or.inr (Or.inr (Or.inr ⟨rfl, SE_I ET Z2 (fun x _ hp => Zo x (n12 x hp)) (by rw [Z12, Z12, Z12]; exact ⟨rfl, rfl, rfl⟩), hst, ?_, fun m hm => ?_, ⟨w, g, wh X c0 k0 n0, rws X n0 c0 k0, by omega, by rw [R2' Z2]; exact RT4, by rw [R2' Z2]; exact RT5, RV_I V2' Z2, ?_, RV_I V1' Z2, ?_⟩, TV_I T2 Z2⟩)))
    · rw [Z12, Z12, Z12, Z12, IT']
      exact ⟨rfl, f15, rfl, f17⟩
    · by_cases q : m = n0
      · rw [q]; exact hc'
      · exact hcn m (by omega)
    · refine RL_I V2' Z2 (by rw [Zo w (by omega)]) (fun x hx => Zo x (fun e => ?_)) (RL_R L2 (fun j => RT w j (by omega)) IT')
      rw [e, h87 12 (by decide)] at hx
      omega
    · refine RL_I V1' Z2 (by rw [Zo g (by omega)]) (fun x hx => Zo x (fun e => ?_)) L1'
      rw [e, h87 12 (by decide)] at hx
      omega
