/-! the class: a question of a search, its weighings one after the other -/
def QB (σ : am_S) (Q : Nat) (X : sX) (c : Nat → Int) : Prop := sI σ Q 3 = xM X ∧ sI σ Q 4 = mn X c ∧ ∀ p, p < xM X → sI σ (Q + 1) p = c p
def QWg (σ : am_S) (w : Nat) (X : sX) (c : Nat → Int) : Prop := sI σ w 5 = xN X ∧ sI σ w 6 = nC X c ∧ (∀ q, q < xN X → sI σ (w + 1) q = gG X c (xN X) q) ∧ ∀ g, g < nC X c → sI σ (w + 2) g = gL X c (xN X) g ∧ sI σ (w + 3) g = zC X c g
def QWb (σ : am_S) (w : Nat) (X : sX) (c : Nat → Int) (v : sW) : Prop := ∃ lf rt : Nat, sI σ w 9 = lf ∧ sI σ w 10 = rt ∧ SB (gG X c (xN X)) v.2.1 v.2.2 (xN X) lf rt
def QWj (σ : am_S) (w : Nat) (X : sX) (c : Nat → Int) (j : Nat) : Prop := sI σ w 8 = j ∧ eqW (nC X c) (sI σ w 7, sI σ (w + 4), sI σ (w + 5)) (wAt X c j) ∧ QWb σ w X c (wAt X c j)
theorem QWg_fr {σ s : am_S} {w : Nat} {X : sX} {c : Nat → Int} (h : QWg σ w X c) (hf : ∀ j, 5 ≤ j → j < 7 → sI s w j = sI σ w j) (h2 : ∀ k, 1 ≤ k → k ≤ 3 → sI s (w + k) = sI σ (w + k)) : QWg s w X c := by
  unfold QWg at h ⊢
  rw [hf 5 (by decide) (by decide), hf 6 (by decide) (by decide), h2 1 (by decide) (by decide), h2 2 (by decide) (by decide), h2 3 (by decide) (by decide)]
  exact h
theorem QWj_fr {σ s : am_S} {w j : Nat} {X : sX} {c : Nat → Int} (h : QWj σ w X c j) (hf : sI s w = sI σ w) (h4 : sI s (w + 4) = sI σ (w + 4)) (h5 : sI s (w + 5) = sI σ (w + 5)) : QWj s w X c j := by
  unfold QWj QWb at h ⊢
  rw [hf, h4, h5]
  exact h
theorem gG_lt (X : sX) (c : Nat → Int) : ∀ q, q < xN X → gG X c (xN X) q < nC X c := (g_inv X c (xN X)).2.1
theorem e_advC (d : Nat) {w : Nat} {X : sX} {c : Nat → Int} {u : sW} {m : Int} {σ : am_S} {K : Int → am_S → Prop} (hW : WF σ w) (hX : XV X) (hg : QWg σ w X c) (h7 : (sI σ w 7 = 0 ∧ u.1 = 0) ∨ (eqW (nC X c) (sI σ w 7, sI σ (w + 4), sI σ (w + 5)) u ∧ WV (zC X c) (nC X c) (xN X) u)) (h8 : sI σ w 8 = m) (hm : -1 ≤ m ∧ m ≤ 200000000)
    (h0 : nxC X c u = none → ∀ s, s.2 = σ.2 → (∀ x, x ≠ w → sI s x = sI σ x) → (∀ j, j ≠ 7 → sI s w j = sI σ w j) → K 0 s)
    (h1 : ∀ v s, nxC X c u = some v → s.2 = σ.2 → (∀ x, x ≠ w → x ≠ w + 4 → x ≠ w + 5 → sI s x = sI σ x) → QWg s w X c → sI s w 8 = m + 1 → eqW (nC X c) (sI s w 7, sI s (w + 4), sI s (w + 5)) v → QWb s w X c v → K 1 s) : am_Calls PP MLL (d + 4) m_Weighings_advance [qr (w, 10, 11)] σ (kI K) := by
  have gi := g_inv X c (xN X)
  have hn := nC_le X c
  have hN := hX.1
  obtain ⟨g5, g6, g1, g2⟩ := hg
  have hz : ∀ j, j < nC X c → sI σ (w + 3) j = zC X c j := fun j hj => (g2 j hj).2
  have hcg := nx_cg (sz := sI σ (w + 3)) (sz' := zC X c) (n := nC X c) (N := xN X) (w := (sI σ w 7, sI σ (w + 4), sI σ (w + 5))) (w' := u) hz (by
    rcases h7 with q | q
    · exact Or.inl q
    · exact Or.inr q.1)
  refine c_advance d (n := nC X c) (N := xN X) (G := gG X c (xN X)) (lst := gL X c (xN X)) hW g5 hN g6 (by omega) (fun q hq => ⟨g1 q hq, gi.2.1 q hq⟩) (fun g hgn => ⟨(g2 g hgn).1, (gi.2.2.1 g hgn).1, (gi.2.2.1 g hgn).2.2.1⟩) (fun g hgn => ?_) ?_ ?_ (by omega) ?_ ?_
  · rw [hz g hgn]
    exact zC_bd hX c g hgn
  · rw [sm_congr (nC X c) hz]
    exact zC_sm X c
  · rcases h7 with q | q
    · exact Or.inl q.1
    · refine Or.inr (WV_cg (sz := zC X c) (w := u) (fun j hj => (hz j hj).symm) ⟨q.1.1.symm, fun g hgn => ⟨(q.1.2 g hgn).1.symm, (q.1.2 g hgn).2.symm⟩⟩ q.2)
  · intro e
    rcases hcg with ⟨a, b⟩ | ⟨v, v', a, b, _⟩
    · exact h0 b _ rfl (fun x hx => put_ne hx) (fun j hj => by rw [put_at, if_neg hj])
    · rw [e] at a
      exact absurd a (by simp)
  · intro v s e hp
    obtain ⟨p1, p2, p4, p5, p7, p8, pj, lf, rt, p9, p10, pS⟩ := hp
    rcases hcg with ⟨a, b⟩ | ⟨v1, v', a, b, ce⟩
    · rw [e] at a
      exact absurd a (by simp)
    · have : v = v1 := by
        rw [e] at a
        exact Option.some.inj a
      rw [← this] at ce
      refine h1 v' s b p1 p2 ⟨by rw [pj 5 (by decide)]; exact g5, by rw [pj 6 (by decide)]; exact g6, fun q hq => by rw [p2 (w + 1) (by omega) (by omega) (by omega)]; exact g1 q hq, fun g hgn => by rw [p2 (w + 2) (by omega) (by omega) (by omega), p2 (w + 3) (by omega) (by omega) (by omega)]; exact g2 g hgn⟩ (by rw [p8, h8]) ?_ ⟨lf, rt, p9, p10, SB_cg (n := nC X c) (gG_lt X c) ce.2 pS⟩
      rw [p7, p4, p5]
      exact ce
theorem wsq_s (X : sX) (c : Nat → Int) (j : Nat) {w : sW} (h : wsq X c j = some w) : wsq X c (j + 1) = nxC X c w := by
  show (match wsq X c j with | none => none | some w => nxC X c w) = _
  rw [h]
theorem wct_none {X : sX} (hX : XV X) {c : Nat → Int} {j : Nat} (hj : j ≤ wct X c) (h : wsq X c j = none) : wct X c = j := by
  by_cases q : j < wct X c
  · obtain ⟨w, hw⟩ := (wct_spec hX c).2 j q
    rw [h] at hw
    exact absurd hw (by simp)
  · omega
theorem e_adv (d : Nat) {w j : Nat} {X : sX} {c : Nat → Int} {σ : am_S} {K : Int → am_S → Prop} (hW : WF σ w) (hX : XV X) (hg : QWg σ w X c) (hj : QWj σ w X c j) (hjc : j < wct X c) (hm : j ≤ 200000000)
    (h0 : wct X c = j + 1 → wsq X c (j + 1) = none → ∀ s, s.2 = σ.2 → (∀ x, x ≠ w → sI s x = sI σ x) → (∀ j, j ≠ 7 → sI s w j = sI σ w j) → K 0 s)
    (h1 : ∀ s, j + 1 < wct X c → wsq X c (j + 1) = some (wAt X c (j + 1)) → s.2 = σ.2 → (∀ x, x ≠ w → x ≠ w + 4 → x ≠ w + 5 → sI s x = sI σ x) → QWg s w X c → QWj s w X c (j + 1) → K 1 s) : am_Calls PP MLL (d + 4) m_Weighings_advance [qr (w, 10, 11)] σ (kI K) := by
  have hw := wsq_at hX hjc
  have hs := wsq_s X c j hw
  refine e_advC d hW hX hg (Or.inr ⟨hj.2.1, wsq_WV hX c j _ hw⟩) hj.1 (by omega) (fun e s s1 s2 s3 => ?_) (fun v s e s1 s2 s3 s4 s5 s6 => ?_)
  · rw [e] at hs
    exact h0 (wct_none hX (by omega) hs) hs s s1 s2 s3
  · rw [e] at hs
    have hc := wct_iff hX hs
    have ev : wAt X c (j + 1) = v := by unfold wAt; rw [hs]; rfl
    refine h1 s hc (wsq_at hX hc) s1 s2 s3 ⟨by rw [s4]; omega, ?_, ?_⟩
    · rw [ev]; exact s5
    · rw [ev]; exact s6
theorem e_first (d : Nat) {w : Nat} {X : sX} {c : Nat → Int} {σ : am_S} {K : Int → am_S → Prop} (hW : WF σ w) (hX : XV X) (hg : QWg σ w X c) (h7 : sI σ w 7 = 0) (h8 : sI σ w 8 = -1)
    (h0 : wct X c = 0 → wsq X c 0 = none → ∀ s, s.2 = σ.2 → (∀ x, x ≠ w → sI s x = sI σ x) → (∀ j, j ≠ 7 → sI s w j = sI σ w j) → K 0 s)
    (h1 : ∀ s, 0 < wct X c → wsq X c 0 = some (wAt X c 0) → s.2 = σ.2 → (∀ x, x ≠ w → x ≠ w + 4 → x ≠ w + 5 → sI s x = sI σ x) → QWg s w X c → QWj s w X c 0 → K 1 s) : am_Calls PP MLL (d + 4) m_Weighings_advance [qr (w, 10, 11)] σ (kI K) := by
  have hs : wsq X c 0 = nxC X c (0, fun _ => 0, fun _ => 0) := rfl
  refine e_advC d hW hX hg (u := (0, fun _ => 0, fun _ => 0)) (Or.inl ⟨h7, rfl⟩) h8 (by omega) (fun e s s1 s2 s3 => ?_) (fun v s e s1 s2 s3 s4 s5 s6 => ?_)
  · rw [e] at hs
    exact h0 (wct_none hX (by omega) hs) hs s s1 s2 s3
  · rw [e] at hs
    have hc := wct_iff hX hs
    have ev : wAt X c 0 = v := by unfold wAt; rw [hs]; rfl
    refine h1 s hc (wsq_at hX hc) s1 s2 s3 ⟨by rw [s4]; rfl, ?_, ?_⟩
    · rw [ev]; exact s5
    · rw [ev]; exact s6
theorem e_begin (d : Nat) {own : Nat → Nat} {aQ k0 i : Nat} {tr : Nat → Nat} {X : sX} {c0 c : Nat → Int} {σ : am_S} {K : am_S → Prop} (hE : SE σ own aQ k0 tr X c0) (hi : i < 7) (hc : CV X c) (hQ : QB σ (qA aQ i) X c)
    (h : ∀ s, s.2 = σ.2 → (∀ x, x ≠ qA aQ i + 3 → x ≠ qA aQ i + 3 + 1 → x ≠ qA aQ i + 3 + 2 → x ≠ qA aQ i + 3 + 3 → sI s x = sI σ x) → QWg s (qA aQ i + 3) X c → sI s (qA aQ i + 3) 7 = 0 → sI s (qA aQ i + 3) 8 = -1 → K s) : am_Calls PP MLL (d + 3) m_Weighings_begin [qr (qA aQ i + 3, 10, 11), qr (13, 6, 5), qr (qA aQ i + 1, 20, 60)] σ (kV K) := by
  have hC := SE_CF hE
  have h87 := SE_87 hE
  obtain ⟨⟨⟨q1, q2⟩, q3, q4, q5, q6⟩, ⟨hX, hcv, hk⟩, ⟨i1, i2, i3, i4, i5, i6⟩, ⟨aI, nI, a1, a2, a3, a4, a5⟩, _⟩ := hE
  have qk : ∀ k, k < 4 → own (qA aQ i + 3 + k) = 2000 + 9 * i + (3 + k) := fun k hk => by rw [Nat.add_assoc]; exact q6 i hi (3 + k) (by omega)
  refine c_begin d (c := c) (q2 i hi).2.2 hC a1 hX i4 i5 a5 a4 (fun s hs => ⟨hQ.2.2 s hs, (hc s hs).1⟩) (fun k hk e => ?_) (fun k hk e => ?_) (fun k hk e => by omega) ?_
  · have := qk k hk
    rw [e, h87 13 (by decide)] at this
    omega
  · have := qk k hk
    rw [e, a2] at this
    omega
  · intro s hp
    obtain ⟨p1, p2, p3, p4, p5, p6, p7, p8⟩ := hp
    exact h s p1 p2 ⟨p3, p4, p7, fun g hg => ⟨(p8 g hg).1, (p8 g hg).2⟩⟩ p5 p6
