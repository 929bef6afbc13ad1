/-! the reference: a level of a search, its weighings one after the other -/
theorem MX_fr {σ s : am_S} {X : sX} {ob n : Nat} {tr : Nat → Nat} (h : MX σ X ob n tr) (hf : ∀ x, x < 53 → x ≠ 31 → sI s x = sI σ x) (h31 : ∀ j, j = 2 ∨ j = 4 ∨ j = 26 ∨ j = 36 ∨ j = 40 → sI s 31 j = sI σ 31 j) : MX s X ob n tr := by
  unfold MX SWP QV ownM wr mmb at h ⊢
  rw [h31 2 (by omega), h31 4 (by omega), h31 26 (by omega), h31 36 (by omega), h31 40 (by omega), hf 33 (by decide) (by decide), hf 34 (by decide) (by decide), hf 35 (by decide) (by decide), hf 41 (by decide) (by decide), hf 46 (by decide) (by decide), hf 47 (by decide) (by decide), hf 51 (by decide) (by decide), hf 52 (by decide) (by decide)]
  exact h
theorem lsn_o {sz L R : Nat → Int} {n : Nat} : ∀ (g : Nat) (room wl wr : Int) (q : (Nat → Int) × (Nat → Int)), g ≤ n → lsn sz L R n g room wl wr = some q → ∀ j, n ≤ j → q.1 j = L j ∧ q.2 j = R j
  | 0, _, _, _, _, _, h => by
    have : (none : Option ((Nat → Int) × (Nat → Int))) = some _ := h
    exact absurd this (by simp)
  | g + 1, room, wl, wr, q, hg, h => by
    intro j hj
    have u1 : lsn sz L R n (g + 1) room wl wr = if 0 < R g ∧ wl + wr < room then some (fl sz L (ud R g (R g - 1)) (g + 1) wl (wr + 1) (n - (g + 1))).2.2 else if 0 < L g ∧ wl + 1 + (wr + R g) - mi (sz g - L g + 1) (wr + R g) ≤ room then some (fl sz (ud L g (L g - 1)) (ud R g (mi (sz g - L g + 1) (wr + R g))) (g + 1) (wl + 1) (wr + R g - mi (sz g - L g + 1) (wr + R g)) (n - (g + 1))).2.2 else lsn sz L R n g (room + sz g) (wl + L g) (wr + R g) := rfl
    rw [u1] at h
    have un : ∀ (f : Nat → Int) (v : Int), ud f g v j = f j := fun f v => by unfold ud; rw [if_neg (by omega)]
    by_cases c1 : 0 < R g ∧ wl + wr < room
    · rw [if_pos c1] at h
      have e := Option.some.inj h
      have o := fl_o (sz := sz) (L := L) (R := ud R g (R g - 1)) (g := g + 1) (wl := wl) (wr := wr + 1) (n - (g + 1)) j (Or.inr (by omega))
      rw [← e]
      exact ⟨o.1, by rw [o.2, un]⟩
    · rw [if_neg c1] at h
      by_cases c2 : 0 < L g ∧ wl + 1 + (wr + R g) - mi (sz g - L g + 1) (wr + R g) ≤ room
      · rw [if_pos c2] at h
        have e := Option.some.inj h
        have o := fl_o (sz := sz) (L := ud L g (L g - 1)) (R := ud R g (mi (sz g - L g + 1) (wr + R g))) (g := g + 1) (wl := wl + 1) (wr := wr + R g - mi (sz g - L g + 1) (wr + R g)) (n - (g + 1)) j (Or.inr (by omega))
        rw [← e]
        exact ⟨by rw [o.1, un], by rw [o.2, un]⟩
      · rw [if_neg c2] at h
        exact lsn_o g _ _ _ q (by omega) h j hj
theorem nx_o {sz : Nat → Int} {n N : Nat} {w v : sW} (h : nx sz n N w = some v) : ∀ j, n ≤ j → v.2.1 j = w.2.1 j ∧ v.2.2 j = w.2.2 j := by
  intro j hj
  unfold nx at h
  cases e : nxL sz n w with
  | some q =>
    rw [e] at h
    have e2 := Option.some.inj h
    rw [← e2]
    unfold nxL at e
    by_cases c : w.1 = 0
    · rw [if_pos c] at e
      exact absurd e (by simp)
    · rw [if_neg c] at e
      exact lsn_o n _ _ _ q (Nat.le_refl _) e j hj
  | none =>
    rw [e] at h
    simp only [] at h
    by_cases c : (N : Int) < 2 * (w.1 + 1)
    · rw [if_pos c] at h
      exact absurd h (by simp)
    · rw [if_neg c] at h
      have e2 := Option.some.inj h
      rw [← e2]
      exact fl_o (sz := sz) (L := w.2.1) (R := w.2.2) (g := 0) (wl := w.1 + 1) (wr := w.1 + 1) n j (Or.inr (by omega))
/-- what lies in the rows of weighings -/
def RZ (σ : am_S) : Prop := ∀ j, 0 ≤ sI σ 64 j ∧ sI σ 64 j ≤ 12 ∧ 0 ≤ sI σ 65 j ∧ sI σ 65 j ≤ 12
def RG (σ : am_S) (L : Nat) (X : sX) (c : Nat → Int) : Prop := sI σ 61 L = nC X c ∧ (∀ q, q < xN X → sI σ 62 (12 * L + q) = gG X c (xN X) q) ∧ ∀ g, g < nC X c → VL σ 63 L g = zC X c g
def RJ (σ : am_S) (L : Nat) (X : sX) (c : Nat → Int) (j : Nat) : Prop := sI σ 60 L = j ∧ eqW (nC X c) (sI σ 59 L, VL σ 64 L, VL σ 65 L) (wAt X c j) ∧ ∀ q, q < xN X → sI σ 66 (12 * L + q) = sdw X c (wAt X c j) q
/-- cells of the levels ahead stay -/
def NWF (σ s : am_S) (L : Nat) : Prop := s.2 = σ.2 ∧ (∀ x, x ≠ 59 → x ≠ 60 → x ≠ 64 → x ≠ 65 → x ≠ 66 → sI s x = sI σ x) ∧ (∀ j, j ≠ L → sI s 59 j = sI σ 59 j ∧ sI s 60 j = sI σ 60 j) ∧ ∀ j, j < 12 * L → sI s 64 j = sI σ 64 j ∧ sI s 65 j = sI σ 65 j ∧ sI s 66 j = sI σ 66 j
theorem m_nextC (d : Nat) {L : Nat} {X : sX} {c : Nat → Int} {u : sW} {m : Int} {σ : am_S} {K : Int → am_S → Prop} (hF : MF σ) (hX : XV X) (hL : L < 14) (h2 : sI σ 31 2 = xN X) (hz : RZ σ) (hg : RG σ L X c) (h7 : (sI σ 59 L = 0 ∧ u.1 = 0) ∨ (eqW (nC X c) (sI σ 59 L, VL σ 64 L, VL σ 65 L) u ∧ WV (zC X c) (nC X c) (xN X) u)) (h8 : sI σ 60 L = m) (hm : -1 ≤ m ∧ m ≤ 200000000)
    (h0 : nxC X c u = none → ∀ s, s.2 = σ.2 → (∀ x, x ≠ 59 → sI s x = sI σ x) → (∀ j, j ≠ L → sI s 59 j = sI σ 59 j) → K 0 s)
    (h1 : ∀ v s, nxC X c u = some v → NWF σ s L → RZ s → RG s L X c → sI s 60 L = m + 1 → eqW (nC X c) (sI s 59 L, VL s 64 L, VL s 65 L) v → (∀ q, q < xN X → sI s 66 (12 * L + q) = sdw X c v q) → K 1 s) : am_Calls PP MLL (d + 3) m_M_nextWeighing [qr (31, 12, 89), qi (L : Int)] σ (kI K) := by
  have gi := g_inv X c (xN X)
  have hn := nC_le X c
  have hN := hX.1
  obtain ⟨g1, g2, g3⟩ := hg
  have hcg := nx_cg (sz := VL σ 63 L) (sz' := zC X c) (n := nC X c) (N := xN X) (w := (sI σ 59 L, VL σ 64 L, VL σ 65 L)) (w' := u) g3 (by
    rcases h7 with q | q
    · exact Or.inl q
    · exact Or.inr q.1)
  have hwv : sI σ 59 L = 0 ∨ WV (VL σ 63 L) (nC X c) (xN X) (sI σ 59 L, VL σ 64 L, VL σ 65 L) := by
    rcases h7 with q | q
    · exact Or.inl q.1
    · exact Or.inr (WV_cg (sz := zC X c) (w := u) (fun j hj => (g3 j hj).symm) ⟨q.1.1.symm, fun g hgn => ⟨(q.1.2 g hgn).1.symm, (q.1.2 g hgn).2.symm⟩⟩ q.2)
  have hzz : ∀ g, g < nC X c → 0 ≤ VL σ 63 L g ∧ VL σ 63 L g ≤ 12 := fun g hgn => by rw [g3 g hgn]; exact zC_bd hX c g hgn
  have hss : sm (VL σ 63 L) (nC X c) = xN X := by rw [sm_congr (nC X c) g3]; exact zC_sm X c
  refine c_M_nextWeighing d (n := nC X c) (N := xN X) (G := gG X c (xN X)) hF hL h2 hN g1 (by omega) (fun q hq => ⟨g2 q hq, gi.2.1 q hq⟩) hzz hss hwv (fun _ g _ => hz (12 * L + g)) (by omega) ?_ ?_
  · intro e
    rcases hcg with ⟨a, b⟩ | ⟨v, v', a, b, _⟩
    · exact h0 b _ rfl (fun x hx => put_ne hx) (fun j hj => by rw [put_at, if_neg hj])
    · rw [e] at a
      exact absurd a (by simp)
  · intro v s e hp
    obtain ⟨p1, p2, p3, p4, p5, p6, p7, p8, p9, p10⟩ := hp
    rcases hcg with ⟨a, b⟩ | ⟨v1, v', a, b, ce⟩
    · rw [e] at a
      exact absurd a (by simp)
    · have ev : v = v1 := by
        rw [e] at a
        exact Option.some.inj a
      rw [← ev] at ce
      have wv := (nx_ok hzz hss hwv e).1
      have vo := nx_o e
      have e63 := p2 63 (by decide) (by decide) (by decide) (by decide) (by decide)
      refine h1 v' s b ⟨p1, p2, p3, fun j hj => ⟨(p8 j hj).1, (p8 j hj).2, p9 j hj⟩⟩ (fun j => ?_) ⟨by rw [p2 61 (by decide) (by decide) (by decide) (by decide) (by decide)]; exact g1, fun q hq => by rw [p2 62 (by decide) (by decide) (by decide) (by decide) (by decide)]; exact g2 q hq, fun g hgn => by unfold VL; rw [e63]; exact g3 g hgn⟩ (by rw [p5, h8]) (by rw [p4, p6, p7]; exact ce) (fun q hq => ?_)
      · by_cases cj : j < 12 * L
        · rw [(p8 j cj).1, (p8 j cj).2]
          exact hz j
        · obtain ⟨i, hi⟩ : ∃ i, j = 12 * L + i := ⟨j - 12 * L, by omega⟩
          have e64 : sI s 64 j = v.2.1 i := by rw [hi, ← p6]; rfl
          have e65 : sI s 65 j = v.2.2 i := by rw [hi, ← p7]; rfl
          rw [e64, e65]
          by_cases ci : i < nC X c
          · have w1 := wv.2.1 i ci
            have w2 := hzz i ci
            omega
          · obtain ⟨o1, o2⟩ := vo i (by omega)
            rw [o1, o2]
            exact hz (12 * L + i)
      · have gq := gi.2.1 q hq
        have cq := ce.2 _ gq
        rw [p10 q hq]
        unfold sdG sdw
        rw [cq.1, cq.2]
theorem m_next (d : Nat) {L j : Nat} {X : sX} {c : Nat → Int} {σ : am_S} {K : Int → am_S → Prop} (hF : MF σ) (hX : XV X) (hL : L < 14) (h2 : sI σ 31 2 = xN X) (hz : RZ σ) (hg : RG σ L X c) (hj : RJ σ L X c j) (hjc : j < wct X c) (hm : j ≤ 200000000)
    (h0 : wct X c = j + 1 → wsq X c (j + 1) = none → ∀ s, s.2 = σ.2 → (∀ x, x ≠ 59 → sI s x = sI σ x) → (∀ j, j ≠ L → sI s 59 j = sI σ 59 j) → K 0 s)
    (h1 : ∀ s, j + 1 < wct X c → wsq X c (j + 1) = some (wAt X c (j + 1)) → NWF σ s L → RZ s → RG s L X c → RJ s L X c (j + 1) → K 1 s) : am_Calls PP MLL (d + 3) m_M_nextWeighing [qr (31, 12, 89), qi (L : Int)] σ (kI K) := by
  have hw := wsq_at hX hjc
  have hs := wsq_s X c j hw
  refine m_nextC d hF hX hL h2 hz hg (Or.inr ⟨hj.2.1, wsq_WV hX c j _ hw⟩) hj.1 (by omega) (fun e s s1 s2 s3 => ?_) (fun v s e s1 s2 s3 s4 s5 s6 => ?_)
  · rw [e] at hs
    exact h0 (wct_none hX (by omega) hs) hs s s1 s2 s3
  · rw [e] at hs
    have hc := wct_iff hX hs
    have ev : wAt X c (j + 1) = v := by unfold wAt; rw [hs]; rfl
    refine h1 s hc (wsq_at hX hc) s1 s2 s3 ⟨by rw [s4]; omega, ?_, ?_⟩
    · rw [ev]; exact s5
    · rw [ev]; exact s6
theorem m_first (d : Nat) {L : Nat} {X : sX} {c : Nat → Int} {σ : am_S} {K : Int → am_S → Prop} (hF : MF σ) (hX : XV X) (hL : L < 14) (h2 : sI σ 31 2 = xN X) (hz : RZ σ) (hg : RG σ L X c) (h7 : sI σ 59 L = 0) (h8 : sI σ 60 L = -1)
    (h0 : wct X c = 0 → wsq X c 0 = none → ∀ s, s.2 = σ.2 → (∀ x, x ≠ 59 → sI s x = sI σ x) → (∀ j, j ≠ L → sI s 59 j = sI σ 59 j) → K 0 s)
    (h1 : ∀ s, 0 < wct X c → wsq X c 0 = some (wAt X c 0) → NWF σ s L → RZ s → RG s L X c → RJ s L X c 0 → K 1 s) : am_Calls PP MLL (d + 3) m_M_nextWeighing [qr (31, 12, 89), qi (L : Int)] σ (kI K) := by
  have hs : wsq X c 0 = nxC X c (0, fun _ => 0, fun _ => 0) := rfl
  refine m_nextC d hF hX hL h2 hz hg (u := (0, fun _ => 0, fun _ => 0)) (Or.inl ⟨h7, rfl⟩) h8 (by omega) (fun e s s1 s2 s3 => ?_) (fun v s e s1 s2 s3 s4 s5 s6 => ?_)
  · rw [e] at hs
    exact h0 (wct_none hX (by omega) hs) hs s s1 s2 s3
  · rw [e] at hs
    have hc := wct_iff hX hs
    have ev : wAt X c 0 = v := by unfold wAt; rw [hs]; rfl
    refine h1 s hc (wsq_at hX hc) s1 s2 s3 ⟨by rw [s4]; rfl, ?_, ?_⟩
    · rw [ev]; exact s5
    · rw [ev]; exact s6
