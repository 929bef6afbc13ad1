/-! the class: an answer yes goes up -/
theorem ND_next {X : sX} {tr : Nat → Nat} {f : Nat → Int} {c0 : Nat → Int} {k0 n0 : Nat} {js : Nat → Nat} {os : Nat → Int} {l : Nat} (ho : -mo (xK X (k0 + l)) ≤ os l ∧ os l ≤ mo (xK X (k0 + l))) (h : ND X tr f c0 k0 n0 js os l (oi X (k0 + l) (os l)) (LK X c0 k0 n0 js os l)) (ht : mn X (csq X c0 k0 js os (l + 1)) ≤ 0 ∨ TC X tr f (n0 - (l + 1)) (csq X c0 k0 js os (l + 1)) (k0 + l + 1) (l + 1) (ndq X c0 k0 n0 js os (l + 1))) : ND X tr f c0 k0 n0 js os l (oi X (k0 + l) (os l) + 1) (-1000) := by
  have hl := oi_lt ho
  obtain ⟨h1, h2, h3, h4, h5, h6⟩ := h
  have e5 := h5 hl
  have en : ndq X c0 k0 n0 js os (l + 1) = ndq X c0 k0 n0 js os l + 1 + tof X (n0 - (l + 1)) (csq X c0 k0 js os l) (k0 + l) (wAt X (csq X c0 k0 js os l) (js l)) (oi X (k0 + l) (os l)) := rfl
  unfold LK at e5
  rw [csq_s ho.1] at ht e5
  rw [en] at ht e5
  refine ⟨h1, h2, fun v hv => ?_, fun v a b => h4 v (by omega) b, fun a => h4 _ (by omega) a, h6⟩
  by_cases c : v < oi X (k0 + l) (os l)
  · exact h3 v c
  · have ev : v = oi X (k0 + l) (os l) := by omega
    rw [ev]
    by_cases m : mn X (chd X (csq X c0 k0 js os l) (k0 + l) (wAt X (csq X c0 k0 js os l) (js l)) (oi X (k0 + l) (os l))) ≤ 0
    · rw [if_pos m] at e5
      exact Or.inl ⟨m, e5⟩
    · rw [if_neg m] at e5
      rcases ht with q | q
      · exact absurd q m
      · exact Or.inr ⟨m, e5, q⟩
theorem oc_end {X : sX} {k : Nat} {o : Int} (h : ¬ o < mo (xK X k)) (h2 : -mo (xK X k) ≤ o ∧ o ≤ mo (xK X k)) : oc X k = oi X k o + 1 := by
  unfold oc oi
  omega
theorem sz_end {X : sX} {c0 : Nat → Int} {k0 n0 : Nat} {js : Nat → Nat} {os : Nat → Int} {l : Nat} (hn : l < n0) (hm : ¬ mn X (csq X c0 k0 js os l) < 2) (ho : -mo (xK X (k0 + l)) ≤ os l ∧ os l ≤ mo (xK X (k0 + l))) (he : ¬ os l < mo (xK X (k0 + l))) (hy : yj X (n0 - (l + 1)) (csq X c0 k0 js os l) (k0 + l) = js l) : ndq X c0 k0 n0 js os (l + 1) + tsz X (n0 - (l + 1)) (csq X c0 k0 js os (l + 1)) (k0 + l + 1) = ndq X c0 k0 n0 js os l + tsz X (n0 - l) (csq X c0 k0 js os l) (k0 + l) := by
  have e : n0 - l = n0 - (l + 1) + 1 := by omega
  rw [e, tsz_s hm, hy, oc_end he ho, tof_s, csq_s ho.1]
  show ndq X c0 k0 n0 js os l + 1 + tof X (n0 - (l + 1)) (csq X c0 k0 js os l) (k0 + l) (wAt X (csq X c0 k0 js os l) (js l)) (oi X (k0 + l) (os l)) + _ = _
  omega
theorem TC_end {X : sX} {tr : Nat → Nat} {f : Nat → Int} {c0 : Nat → Int} {k0 n0 : Nat} {js : Nat → Nat} {os : Nat → Int} {l : Nat} (hn : l < n0) (hm : ¬ mn X (csq X c0 k0 js os l) < 2) (hy : yj X (n0 - (l + 1)) (csq X c0 k0 js os l) (k0 + l) = js l) (h : ND X tr f c0 k0 n0 js os l (oc X (k0 + l)) (-1000)) : TC X tr f (n0 - l) (csq X c0 k0 js os l) (k0 + l) l (ndq X c0 k0 n0 js os l) := by
  obtain ⟨h1, h2, h3, h4, h5, h6⟩ := h
  rw [show n0 - l = n0 - (l + 1) + 1 by omega]
  refine Or.inr ⟨hm, h1, ?_, ?_, h6⟩
  · rw [hy]; exact h2
  · rw [hy]; exact h3
theorem getD_pre : ∀ (G M : List (Int × Int)) (i : Nat), i < G.length → (G ++ M).getD i (0, 0) = G.getD i (0, 0)
  | [], _, i, h => absurd h (Nat.not_lt_zero i)
  | _ :: _, _, 0, _ => rfl
  | _ :: G, M, i + 1, h => getD_pre G M i (Nat.lt_of_succ_lt_succ h)
/-- rows cut off -/
theorem RL_pre {σ s : am_S} {own : Nat → Nat} {o k : Nat} {G M : List (Int × Int)} (hV : RV σ own o k) (h2 : s.2 = σ.2) (ho : sI s o 2 = G.length) (h : ∀ x, own x = o + 1 ∨ own x = o + 2 → sI s x = sI σ x) (hL : RL σ o (G ++ M)) : RL s o G := by
  obtain ⟨⟨a, n, b, m, h1, h3, h4, h5, h6, h7, h8⟩, _⟩ := hV
  refine ⟨ho, fun i i1 i2 => ?_⟩
  have z := hL.2 i (by rw [List.length_append]; omega) i2
  rw [getD_pre G M i i1] at z
  unfold rNu rTo at z ⊢
  rw [R2' h2, R2' h2, h1, h3]
  rw [h1, h3] at z
  simp only [rg_some] at z ⊢
  rw [h a (Or.inl h4), h b (Or.inr h5)]
  exact z
theorem e_yes (d : Nat) {own : Nat → Nat} {aQ k0 n0 st : Nat} {tr : Nat → Nat} {X : sX} {c0 : Nat → Int} {js : Nat → Nat} {os : Nat → Int} : ∀ (l : Nat) {σ : am_S} {K : am_S → Prop} (z3 : Option am_V), l < 7 → KY σ own aQ k0 tr X c0 n0 l js os st → (∀ s own', OFr σ s own own' p0 → CS s own' aQ k0 tr X c0 (upY X k0 n0 js os l) st → K s) → am_Runs PP MLL (d + 4) m_Search_answer 3 [some (qr (12, 5, 18)), some (qi 1), some (qi (l : Int)), z3] [] σ (kV K)
  | 0, σ, K, z3, _, hK, h => by
    obtain ⟨⟨hE, hn, hst, ⟨f10, f13, f15, f16, f17⟩, hcn⟩, hG, hc, h11, h12, hLv, q8, ⟨g, w, M, hgw, r4, r5, V1, L1, V2, L2⟩, ⟨le1, le2⟩, hTL, hTC, hTV, h18⟩ := hK
    have h87 := SE_87 hE
    refine v_Search_answer_3 d aQ g _ _ z3 σ K (SE_CF hE) hE.1.1 r4 ⟨fun _ => ⟨fun c => absurd c (by decide), fun _ => ?_⟩, fun c => absurd (by omega) c⟩
    rw [f10]
    obtain ⟨Z, eZ⟩ : ∃ Z, Z = putI (putI σ 12 16 (n0 : Int)) 12 13 1 := ⟨_, rfl⟩
    rw [← eZ]
    have Z2 : Z.2 = σ.2 := by rw [eZ]; rfl
    have Zo : ∀ x, x ≠ 12 → sI Z x = sI σ x := fun x hx => by rw [eZ, put_ne hx, put_ne hx]
    have Z12 : ∀ j, sI Z 12 j = if j = 13 then 1 else if j = 16 then (n0 : Int) else sI σ 12 j := fun j => by rw [eZ, put_at, put_at]
    have Zp : ∀ x, ¬ p0 (own x) → sI Z x = sI σ x := fun x hp => Zo x (fun e => by rw [e, h87 12 (by decide)] at hp; exact hp (Or.inl rfl))
    have nr : ∀ x r, own x = r → r ≠ 12 → x ≠ 12 := fun x r e1 e2 e => by rw [e, h87 12 (by decide)] at e1; omega
    have tz : tcl Z = tcl σ := tcl_I hTV Z2 (fun x hx => Zo x (nr x 19 hx (by decide)))
    refine h Z own (OFr_I Z2 (fun x _ hp => Zp x hp)) (Or.inr (Or.inr (Or.inl ⟨rfl, SE_I hE Z2 (fun x _ hp => Zp x hp) (by rw [Z12, Z12, Z12]; exact ⟨rfl, rfl, rfl⟩), hn, hst, ?_, hcn, hc, ⟨g, w, grq X c0 k0 n0 js os 0 ++ M, hgw, by rw [R2' Z2]; exact r4, by rw [R2' Z2]; exact r5, RV_I V1 Z2, RL_I V1 Z2 (by rw [Zo g (by omega)]) (fun x hx => Zo x (by rcases hx with e | e <;> exact nr x _ e (by omega))) L1, RV_I V2 Z2, RL_I V2 Z2 (by rw [Zo w (by omega)]) (fun x hx => Zo x (by rcases hx with e | e <;> exact nr x _ e (by omega))) L2⟩, le2, ?_, ?_, ?_⟩)))
    · rw [Z12, Z12, Z12, Z12]
      exact ⟨rfl, f15, rfl, f17⟩
    · rw [tz]; exact hTC
    · have := TV_I hTV Z2
      rw [show ndq X c0 k0 n0 js os 0 = 0 from rfl, Nat.zero_add] at this
      exact this
    · rw [Zo 18 (by decide), h18, show ndq X c0 k0 n0 js os 0 = 0 from rfl, Nat.zero_add]
      rfl
  | l + 1, σ, K, z3, hl, hK, h => by
    obtain ⟨⟨hE, hn, hst, ⟨f10, f13, f15, f16, f17⟩, hcn⟩, hG, hc, h11, h12, hLv, q8', ⟨g, w, M, hgw, r4, r5, V1, L1, V2, L2⟩, ⟨le1, le2⟩, hTL, hTC, hTV, h18⟩ := hK
    have h87 := SE_87 hE
    have hC := SE_CF hE
    have hqa := hE.1.1
    have hX := hE.2.1.1
    have ho := hE.1.2.2.2.2
    obtain ⟨g1, g2, g3, g4, g5, g6, g7⟩ := hG l (by omega)
    obtain ⟨hq, ht, hjs⟩ := hLv l (by omega)
    have hq' := hq
    have ht' := ht
    obtain ⟨q1, q2, q3, q5, q7, q8⟩ := hq
    obtain ⟨t1, t6, t9⟩ := ht
    have og : own g = g := h87 g (by omega)
    have ow : own w = w := h87 w (by omega)
    have hm2 : ¬ mn X (csq X c0 k0 js os l) < 2 := by omega
    refine v_Search_answer_3 d aQ g _ _ z3 σ K hC hqa r4 ⟨fun c => absurd c (by omega), fun _ => ?_⟩
    rw [show ((l + 1 : Nat) : Int) - 1 = (l : Int) by omega, show ((l + 1 : Nat) : Int) + -1 = (l : Int) by omega, Int.toNat_natCast, Int.toNat_natCast]
    refine ⟨by omega, fun c => absurd c (by decide), fun _ => ⟨by omega, ?_⟩⟩
    have nq : ∀ i, i < 7 → ∀ k, k < 9 → qA aQ i + k ≠ 12 ∧ qA aQ i + k ≠ g := by
      intro i hi k hk
      have := ho i hi k hk
      exact ⟨fun e => by rw [e, h87 12 (by decide)] at this; omega, fun e => by rw [e, og] at this; omega⟩
    have nq0 := nq l (by omega) 0 (by decide)
    have nq1 := nq (l + 1) (by omega) 0 (by decide)
    rw [Nat.add_zero] at nq0 nq1
    rw [put_ne nq1.1, q8']
    obtain ⟨B, hB⟩ : ∃ B, B = putI (putI σ 12 11 (l : Int)) g 2 ((grq X c0 k0 n0 js os (l + 1)).length : Int) := ⟨_, rfl⟩
    rw [← hB]
    have B2 : B.2 = σ.2 := by rw [hB]; rfl
    have Bo : ∀ x, x ≠ 12 → x ≠ g → sI B x = sI σ x := fun x hx hx2 => by rw [hB, put_ne hx2, put_ne hx]
    have B12 : ∀ j, sI B 12 j = if j = 11 then (l : Int) else sI σ 12 j := fun j => by rw [hB, put_ne (by omega), put_at]
    have Bg : sI B g 2 = (grq X c0 k0 n0 js os (l + 1)).length := by rw [hB, put_at, if_pos rfl]
    have nr : ∀ x r, own x = r → r ≠ 12 → r ≠ g → x ≠ 12 ∧ x ≠ g := fun x r e1 e2 e3 => ⟨fun e => by rw [e, h87 12 (by decide)] at e1; omega, fun e => by rw [e, og] at e1; omega⟩
    have Bp : ∀ x, ¬ p0 (own x) → sI B x = sI σ x := fun x hp => Bo x (fun e => hp (by rw [e, h87 12 (by decide)]; unfold p0; omega)) (fun e => hp (by rw [e, og]; unfold p0; omega))
    have EB : SE B own aQ k0 tr X c0 := SE_I hE B2 (fun x _ hp => Bp x hp) (by rw [B12, B12, B12]; exact ⟨rfl, rfl, rfl⟩)
    have OB' : OFr σ B own own p0 := OFr_I B2 (fun x _ hp => Bp x hp)
    have tB : tcl B = tcl σ := tcl_I hTV B2 (fun x hx => by have := nr x 19 hx (by decide) (by omega); exact Bo x this.1 this.2)
    have qB : ∀ i, i < 7 → ∀ k, k < 9 → sI B (qA aQ i + k) = sI σ (qA aQ i + k) := fun i hi k hk => Bo _ (nq i hi k hk).1 (nq i hi k hk).2
    have eB0 := qB l (by omega) 0 (by decide)
    rw [Nat.add_zero] at eB0
    rw [eB0, q5, t6]
    have hTC' : mn X (csq X c0 k0 js os (l + 1)) ≤ 0 ∨ TC X tr (tcl σ) (n0 - (l + 1)) (csq X c0 k0 js os (l + 1)) (k0 + l + 1) (l + 1) (ndq X c0 k0 n0 js os (l + 1)) := hTC
    have hnx := ND_next g5 (hTL l (by omega)) hTC'
    have LB : RL B g (grq X c0 k0 n0 js os (l + 1)) := RL_pre V1 B2 Bg (fun x hx => by
      rcases hx with e | e
      · have := nr x _ e (by omega) (by omega); exact Bo x this.1 this.2
      · have := nr x _ e (by omega) (by omega); exact Bo x this.1 this.2) L1
    have VB : RV B own g (grq X c0 k0 n0 js os (l + 1)).length := RV_I (RV_le V1 (by rw [List.length_append]; omega)) B2
    have L2B : RL B w (wh X c0 k0 n0) := RL_I V2 B2 (by rw [Bo w (by omega) (by omega)]) (fun x hx => by
      rcases hx with e | e
      · have := nr x _ e (by omega) (by omega); exact Bo x this.1 this.2
      · have := nr x _ e (by omega) (by omega); exact Bo x this.1 this.2) L2
    have upe : upY X k0 n0 js os (l + 1) = if os l < mo (xK X (k0 + l)) then (0, n0, l + 1, js, ud os l (os l + 1)) else upY X k0 n0 js os l := rfl
    rw [upe] at h
    have hmo := oc_37 X (k0 + l)
    refine ⟨fun ce => ⟨by omega, ?_⟩, fun ce => ⟨by omega, ?_⟩⟩
    · have ce' : ¬ os l < mo (xK X (k0 + l)) := by omega
      rw [if_neg ce'] at h
      obtain ⟨y1, y2⟩ := Y_end hX hG hc ce'
      have esz := sz_end g1 hm2 g5 ce' y2
      have esz' : ndq X c0 k0 n0 js os (l + 1) + tsz X (n0 - (l + 1)) (csq X c0 k0 js os (l + 1)) (k0 + (l + 1)) = ndq X c0 k0 n0 js os l + tsz X (n0 - l) (csq X c0 k0 js os l) (k0 + l) := esz
      have eg : grq X c0 k0 n0 js os (l + 1) = grq X c0 k0 n0 js os l ++ (gR X c0 k0 n0 js os l ++ [((js l : Int), 0)]) := by rw [grq_s, List.append_assoc]
      refine e_yes d l _ (by omega) ⟨⟨EB, hn, hst, ?_, hcn⟩, GL_le hG (by omega), y1, by rw [B12]; rfl, by rw [B12]; exact h12, fun i hi => ?_, by rw [eB0]; exact q8, ⟨g, w, gR X c0 k0 n0 js os l ++ [((js l : Int), 0)], hgw, by rw [R2' B2]; exact r4, by rw [R2' B2]; exact r5, by rw [← eg]; exact VB, by rw [← eg]; exact LB, RV_I V2 B2, L2B⟩, ⟨?_, le2⟩, fun i hi => ?_, Or.inr ?_, ?_, ?_⟩ (fun s own' p q => h s own' (OFr_tr OB' p (fun _ q => q) (fun _ q => q)) q)
      · rw [B12, B12, B12, B12, B12]
        exact ⟨f10, f13, f15, f16, f17⟩
      · obtain ⟨y1, y2, y3⟩ := hLv i (by omega)
        obtain ⟨z1, z2⟩ := LQ_fr (X := X) (c0 := c0) (k0 := k0) (n0 := n0) (js := js) (os := os) (qB i (by omega))
        exact ⟨z1 y1, z2 y2, y3⟩
      · rw [eg, List.length_append] at le1
        omega
      · rw [tB]; exact hTL i (by omega)
      · rw [tB]
        refine TC_end g1 hm2 y2 ?_
        rw [oc_end ce' g5]
        exact hnx
      · rw [← esz']; exact TV_I hTV B2
      · rw [← esz', Bo 18 (by decide) (by omega)]; exact h18
    · have ce' : os l < mo (xK X (k0 + l)) := by omega
      rw [if_pos ce'] at h
      obtain ⟨D, hD⟩ : ∃ D, D = putI B (qA aQ l) 6 (os l + 1) := ⟨_, rfl⟩
      rw [← hD]
      have D2 : D.2 = B.2 := by rw [hD]; rfl
      have Do : ∀ x, x ≠ qA aQ l → sI D x = sI B x := fun x hx => by rw [hD, put_ne hx]
      have Dq : ∀ j, sI D (qA aQ l) j = if j = 6 then os l + 1 else sI σ (qA aQ l) j := fun j => by rw [hD, put_at, eB0]
      have ol := qA_ow hE (i := l) (by omega)
      have nl12 : (12 : Nat) ≠ qA aQ l := fun e => nq0.1 e.symm
      have Dp : ∀ x, ¬ p0 (own x) → sI D x = sI B x := fun x hp => Do x (fun e => hp (by rw [e, ol]; unfold p0; omega))
      have ED : SE D own aQ k0 tr X c0 := SE_I EB D2 (fun x _ hp => Dp x hp) (by rw [Do 12 nl12]; exact ⟨rfl, rfl, rfl⟩)
      have Dk : ∀ k, 1 ≤ k → k < 9 → sI D (qA aQ l + k) = sI σ (qA aQ l + k) := fun k k1 k2 => by rw [Do _ (by omega)]; exact qB l (by omega) k k2
      have cvl := csq_CV hX hE.2.1.2.1.1 (k0 := k0) (js := js) (os := os) l
      refine e_behind d (c := csq X c0 k0 js os l) (v := wAt X (csq X c0 k0 js os l) (js l)) (o := os l + 1) ED (by omega) (by rw [Do 12 nl12, B12]; rfl) ?_ cvl ?_ (by rw [Dq, if_pos rfl]) ?_
      · exact ⟨by rw [Dq, if_neg (by decide)]; exact q1.1, by rw [Dq, if_neg (by decide)]; exact q1.2.1, fun p hp => by rw [Dk 1 (by decide) (by decide)]; exact q1.2.2 p hp⟩
      · intro p hp hcp
        rw [Dk 2 (by decide) (by decide)]
        exact t1 p hp hcp
      · intro s s1 s2 s3 s4 s5 s6 s7
        have s1' : s.2 = σ.2 := s1.trans (D2.trans B2)
        have nb : ∀ x, own x < 2000 → x ≠ qA aQ (l + 1) ∧ x ≠ qA aQ (l + 1) + 1 ∧ x ≠ qA aQ l := by
          intro x hx
          have z1 := qA_ow hE (i := l + 1) (by omega)
          have z2 := ho (l + 1) (by omega) 1 (by decide)
          exact ⟨fun e => by rw [e] at hx; omega, fun e => by rw [e] at hx; omega, fun e => by rw [e] at hx; omega⟩
        have es : ∀ x, own x < 2000 → x ≠ 12 → sI s x = sI B x := fun x hx h12' => by rw [s2 x h12' (nb x hx).1 (nb x hx).2.1, Do x (nb x hx).2.2]
        have sp : ∀ x, ¬ p0 (own x) → sI s x = sI D x := fun x hp => s2 x (fun e => hp (by rw [e, h87 12 (by decide)]; unfold p0; omega)) (nb x (by unfold p0 at hp; omega)).1 (nb x (by unfold p0 at hp; omega)).2.1
        have cgl : ∀ q, q < l → js q = js q ∧ os q = ud os l (os l + 1) q := fun q hq => ⟨rfl, by unfold ud; rw [if_neg (by omega)]⟩
        have uol : ud os l (os l + 1) l = os l + 1 := by unfold ud; rw [if_pos rfl]
        have ec := csq_congr (X := X) (c0 := c0) (k0 := k0) l cgl
        have ed := (ndq_congr (X := X) (c0 := c0) (k0 := k0) (n0 := n0) l cgl).1
        have eg := grq_congr (X := X) (c0 := c0) (k0 := k0) (n0 := n0) (js := js) (js' := js) (os := os) (os' := ud os l (os l + 1)) (l + 1) (fun q hq => ⟨rfl, fun q2 => (cgl q (by omega)).2⟩)
        have eoi : oi X (k0 + l) (os l + 1) = oi X (k0 + l) (os l) + 1 := by unfold oi; omega
        have ecs : csq X c0 k0 js (ud os l (os l + 1)) (l + 1) = mkc X (csq X c0 k0 js os l) (k0 + l) (sdw X (csq X c0 k0 js os l) (wAt X (csq X c0 k0 js os l) (js l))) (os l + 1) := by
          show mkc X (csq X c0 k0 js (ud os l (os l + 1)) l) (k0 + l) (sdw X (csq X c0 k0 js (ud os l (os l + 1)) l) (wAt X (csq X c0 k0 js (ud os l (os l + 1)) l) (js l))) (ud os l (os l + 1) l) = _
          rw [← ec, uol]
        have end' : ndq X c0 k0 n0 js (ud os l (os l + 1)) (l + 1) = ndq X c0 k0 n0 js os (l + 1) + tsz X (n0 - (l + 1)) (csq X c0 k0 js os (l + 1)) (k0 + (l + 1)) := by
          show ndq X c0 k0 n0 js (ud os l (os l + 1)) l + 1 + tof X (n0 - (l + 1)) (csq X c0 k0 js (ud os l (os l + 1)) l) (k0 + l) (wAt X (csq X c0 k0 js (ud os l (os l + 1)) l) (js l)) (oi X (k0 + l) (ud os l (os l + 1) l)) = _
          rw [← ec, ← ed, uol, eoi, tof_s, csq_s g5.1]
          show _ = ndq X c0 k0 n0 js os l + 1 + tof X (n0 - (l + 1)) (csq X c0 k0 js os l) (k0 + l) (wAt X (csq X c0 k0 js os l) (js l)) (oi X (k0 + l) (os l)) + _
          rw [Nat.add_assoc _ (tof _ _ _ _ _ _)]
          rfl
        have ts : tcl s = tcl σ := by
          rw [← tB]
          exact tcl_I (TV_I hTV B2) (s1.trans D2) (fun x hx => es x (by omega) (nr x 19 hx (by decide) (by omega)).1)
        refine h s own (OFr_tr OB' (OFr_tr (OFr_I D2 (fun x _ hp => Dp x hp)) (OFr_I s1 (fun x _ hp => sp x hp)) (fun _ q => q) (fun _ q => q)) (fun _ q => q) (fun _ q => q)) (Or.inl ⟨rfl, ⟨SE_I ED s1 (fun x _ hp => sp x hp) ?_, hn, hst, ?_, hcn⟩, ?_, s3, s4, fun i hi => ?_, ?_, ⟨g, w, hgw, by rw [R2' s1']; exact r4, by rw [R2' s1']; exact r5, ?_, ?_, RV_I V2 s1', RL_I (RV_I V2 B2) (s1.trans D2) (es w (by omega) (by omega) ▸ rfl) (fun x hx => ?_) L2B⟩, ⟨?_, le2⟩, fun i hi => ?_, ?_, ?_⟩)
        · rw [s5 7 (by decide) (by decide), s5 8 (by decide) (by decide), s5 9 (by decide) (by decide)]
          exact ⟨rfl, rfl, rfl⟩
        · rw [s5 10 (by decide) (by decide), s5 13 (by decide) (by decide), s5 15 (by decide) (by decide), s5 16 (by decide) (by decide), s5 17 (by decide) (by decide), Do 12 nl12, B12, B12, B12, B12, B12]
          exact ⟨f10, f13, f15, f16, f17⟩
        · intro i hi
          have hi' : i < l + 1 := hi
          show i < n0 ∧ 2 ≤ mn X (csq X c0 k0 js (ud os l (os l + 1)) i) ∧ ¬ big X (n0 - i) (csq X c0 k0 js (ud os l (os l + 1)) i) ∧ js i < wct X (csq X c0 k0 js (ud os l (os l + 1)) i) ∧ (-mo (xK X (k0 + i)) ≤ ud os l (os l + 1) i ∧ ud os l (os l + 1) i ≤ mo (xK X (k0 + i))) ∧ (∀ j, j < js i → ¬ yw X (n0 - (i + 1)) (csq X c0 k0 js (ud os l (os l + 1)) i) (k0 + i) (wAt X (csq X c0 k0 js (ud os l (os l + 1)) i) j)) ∧ ∀ u, u < oi X (k0 + i) (ud os l (os l + 1) i) → can X (n0 - (i + 1)) (chd X (csq X c0 k0 js (ud os l (os l + 1)) i) (k0 + i) (wAt X (csq X c0 k0 js (ud os l (os l + 1)) i) (js i)) u) (k0 + i + 1)
          by_cases e : i < l
          · exact GL_cg cgl (GL_le hG (by omega)) i e
          · have : i = l := by omega
            rw [this, ← ec, uol]
            refine ⟨g1, g2, g3, g4, by omega, g6, fun u hu => ?_⟩
            rw [eoi] at hu
            by_cases e2 : u < oi X (k0 + l) (os l)
            · exact g7 u e2
            · have : u = oi X (k0 + l) (os l) := by omega
              rw [this, ← csq_s g5.1]
              exact hc
        · have hi' : i < l + 1 := hi
          show LQ s aQ X c0 k0 n0 js (ud os l (os l + 1)) i ∧ LT s aQ X c0 k0 n0 js (ud os l (os l + 1)) i ∧ js i ≤ st
          by_cases e : i < l
          · obtain ⟨y1, y2, y3⟩ := hLv i (by omega)
            obtain ⟨z1, z2⟩ := LQ_fr (s := s) (X := X) (c0 := c0) (k0 := k0) (n0 := n0) (js := js) (os := os) (σ := σ) (aQ := aQ) (i := i) (fun k hk => by
              rw [s2 _ (nq i (by omega) k hk).1 (by unfold qA; omega) (by unfold qA; omega), Do _ (by unfold qA; omega)]
              exact qB i (by omega) k hk)
            obtain ⟨x1, x2⟩ := LQ_cg (σ := s) (aQ := aQ) (X := X) (c0 := c0) (k0 := k0) (n0 := n0) (js := js) (js' := js) (os := os) (os' := ud os l (os l + 1)) (i := i) (fun q hq => cgl q (by omega)) rfl
            exact ⟨x1 (z1 y1), x2 (cgl i e).2 (z2 y2), y3⟩
          · have : i = l := by omega
            rw [this]
            have el : sI s (qA aQ l) = sI D (qA aQ l) := s2 _ nq0.1 (by unfold qA; omega) (by unfold qA; omega)
            have ek : ∀ k, 1 ≤ k → k < 9 → sI s (qA aQ l + k) = sI σ (qA aQ l + k) := fun k k1 k2 => by
              rw [s2 _ (nq l (by omega) k k2).1 (by unfold qA; omega) (by unfold qA; omega)]
              exact Dk k k1 k2
            obtain ⟨x1, _⟩ := LQ_cg (σ := s) (aQ := aQ) (X := X) (c0 := c0) (k0 := k0) (n0 := n0) (js := js) (js' := js) (os := os) (os' := ud os l (os l + 1)) (i := l) cgl rfl
            refine ⟨x1 ⟨⟨by rw [el, Dq, if_neg (by decide)]; exact q1.1, by rw [el, Dq, if_neg (by decide)]; exact q1.2.1, fun p hp => by rw [ek 1 (by decide) (by decide)]; exact q1.2.2 p hp⟩, QWg_fr q2 (fun j _ _ => by rw [ek 3 (by decide) (by decide)]) (fun k k1 k2 => by rw [Nat.add_assoc]; exact ek (3 + k) (by omega) (by omega)), QWj_fr q3 (ek 3 (by decide) (by decide)) (ek 7 (by decide) (by decide)) (ek 8 (by decide) (by decide)), by rw [el, Dq, if_neg (by decide)]; exact q5, by rw [el, Dq, if_neg (by decide)]; exact q7, by rw [el, Dq, if_neg (by decide)]; exact q8⟩, ⟨fun p hp hcp => ?_, by rw [el, Dq, if_pos rfl, uol], ?_⟩, hjs⟩
            · rw [ek 2 (by decide) (by decide), ← ec]
              rw [← ec] at hcp
              exact t1 p hp hcp
            · rw [el, Dq, if_neg (by decide), t9, ← gR_cg (X := X) (c0 := c0) (k0 := k0) (n0 := n0) (js := js) (js' := js) cgl rfl, ← grq_congr (X := X) (c0 := c0) (k0 := k0) (n0 := n0) (js := js) (js' := js) l (fun q hq => ⟨rfl, fun _ => (cgl q hq).2⟩)]
        · show QB s (qA aQ (l + 1)) X (csq X c0 k0 js (ud os l (os l + 1)) (l + 1))
          rw [ecs]; exact s7
        · show RV s own g (grq X c0 k0 n0 js (ud os l (os l + 1)) (l + 1)).length
          rw [← eg]; exact RV_I VB (s1.trans D2)
        · show RL s g (grq X c0 k0 n0 js (ud os l (os l + 1)) (l + 1))
          rw [← eg]
          refine RL_I VB (s1.trans D2) (by rw [es g (by omega) (by omega)]) (fun x hx => es x (by omega) ?_) LB
          rcases hx with e | e
          · exact (nr x _ e (by omega) (by omega)).1
          · exact (nr x _ e (by omega) (by omega)).1
        · refine es x (by omega) ?_
          rcases hx with e | e
          · exact (nr x _ e (by omega) (by omega)).1
          · exact (nr x _ e (by omega) (by omega)).1
        · show (grq X c0 k0 n0 js (ud os l (os l + 1)) (l + 1)).length ≤ st
          rw [← eg]; exact le1
        · have hi' : i < l + 1 := hi
          show ND X tr (tcl s) c0 k0 n0 js (ud os l (os l + 1)) i (oi X (k0 + i) (ud os l (os l + 1) i)) (if i + 1 = l + 1 then -1000 else LK X c0 k0 n0 js (ud os l (os l + 1)) i)
          rw [ts]
          by_cases e : i < l
          · rw [if_neg (by omega), ← (cgl i e).2, ← LK_cg (X := X) (c0 := c0) (k0 := k0) (n0 := n0) (js := js) (os := os) (fun q hq => cgl q (by omega))]
            exact ND_cg (fun q hq => cgl q (by omega)) rfl (hTL i (by omega))
          · have : i = l := by omega
            rw [this, if_pos rfl, uol, eoi]
            exact ND_cg cgl rfl hnx
        · show TV s own (ndq X c0 k0 n0 js (ud os l (os l + 1)) (l + 1))
          rw [end']; exact TV_I hTV s1'
        · show sI s 18 1 = ndq X c0 k0 n0 js (ud os l (os l + 1)) (l + 1)
          have h18' := h87 18 (by decide)
          rw [end', es 18 (by omega) (by decide), Bo 18 (by decide) (by omega)]
          exact h18
