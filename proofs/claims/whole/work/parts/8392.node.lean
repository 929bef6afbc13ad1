/-! the class: a node for a question -/
theorem TV_le {σ : am_S} {own : Nat → Nat} {z z' : Nat} (h : TV σ own z) (hz : z' ≤ z) : TV σ own z' := by
  obtain ⟨⟨a, n, h1, h2, h3, h4, h5⟩, q⟩ := h
  exact ⟨⟨a, n, h1, h2, h3, by omega, h5⟩, q⟩
theorem TV_I {σ s : am_S} {own : Nat → Nat} {z : Nat} (h : TV σ own z) (h2 : s.2 = σ.2) : TV s own z := by
  obtain ⟨⟨a, n, h1, h3, h4, h5, h6⟩, o1, o2, o3, o4⟩ := h
  have e : sN s = sN σ := by unfold sN; rw [h2]
  exact ⟨⟨a, n, by rw [R2' h2]; exact h1, h3, by omega, h5, h6⟩, o1, o2, o3, by omega⟩
theorem QA_I {σ s : am_S} {aQ : Nat} (h : QA σ aQ) (h2 : s.2 = σ.2) : QA s aQ := by
  have er : sR s = sR σ := by
    funext a j
    exact R2' h2 a j
  unfold QA QF WF
  rw [er]
  exact h
theorem CF_I {σ s : am_S} (h : CF σ) (h2 : s.2 = σ.2) : CF s := by
  have er : sR s = sR σ := by
    funext a j
    exact R2' h2 a j
  unfold CF
  rw [er]
  exact h
theorem tcl_ne {s : am_S} {own : Nat → Nat} {z x j : Nat} {v : Int} (hT : TV s own z) (hx : own x ≠ 19) : tcl (putI s x j v) = tcl s := by
  obtain ⟨⟨a, n, h1, h2, _⟩, _⟩ := hT
  funext q
  show sI (putI s x j v) (rg (sR s 18 0)).1 q = sI s (rg (sR s 18 0)).1 q
  rw [h1]
  simp only [rg_some]
  rw [put_ne (own_ne h2 rfl (fun e => hx e.symm))]
theorem qA_ow {σ : am_S} {own : Nat → Nat} {aQ k0 : Nat} {tr : Nat → Nat} {X : sX} {c0 : Nat → Int} (hE : SE σ own aQ k0 tr X c0) {i : Nat} (hi : i < 7) : own (qA aQ i) = 2000 + 9 * i := by
  have := hE.1.2.2.2.2 i hi 0 (by decide)
  rw [Nat.add_zero, Nat.add_zero] at this
  exact this
theorem e_linkUp (d : Nat) {own : Nat → Nat} {aQ k0 l sz nd : Nat} {tr : Nat → Nat} {X : sX} {c0 : Nat → Int} {o : Int} {s : am_S} {K : am_S → Prop} (hE : SE s own aQ k0 tr X c0) (hl : l < 7) (hT : TV s own (sz + 1)) (h11 : sI s 12 11 = l) (hsz : sz < 6000) (hab : ∀ l', l = l' + 1 → sI s (qA aQ l') 7 = nd ∧ sI s (qA aQ l') 6 = o ∧ nd < sz ∧ -3 ≤ o ∧ o ≤ 3)
    (h : ∀ t, t.2 = s.2 → (∀ x, x ≠ qA aQ l → own x ≠ 19 → sI t x = sI s x) → (∀ j, j ≠ 7 → sI t (qA aQ l) j = sI s (qA aQ l) j) → sI t (qA aQ l) 7 = sz → (∀ j, (∀ l', l = l' + 1 → j ≠ (12 * (nd : Int) + 8 + o).toNat) → tcl t j = tcl s j) → (∀ l', l = l' + 1 → tcl t (12 * (nd : Int) + 8 + o).toNat = sz) → K t) :
    (CF s ∧ QA s aQ) ∧
      (((sI (putI s (qA aQ l) 7 (sz : Int)) 12 11) = 0 →
        K (putI s (qA aQ l) 7 (sz : Int))) ∧
      (¬ ((sI (putI s (qA aQ l) 7 (sz : Int)) 12 11) = 0) →
        (-2147483648 ≤ (sI (putI s (qA aQ l) 7 (sz : Int)) 12 11) - 1 ∧ (sI (putI s (qA aQ l) 7 (sz : Int)) 12 11) - 1 < 2147483648 ∧ 0 ≤ ((sI (putI s (qA aQ l) 7 (sz : Int)) 12 11) - 1) ∧ ((sI (putI s (qA aQ l) 7 (sz : Int)) 12 11) - 1) < 7 ∧ (rg (sR (putI s (qA aQ l) 7 (sz : Int)) aQ (Int.toNat ((sI (putI s (qA aQ l) 7 (sz : Int)) 12 11) - 1)))).2.1 = 3) ∧
        am_Calls PP MLL (d + 4) m_Tree_link [qr (18, 8, 2), qi (sI (putI s (qA aQ l) 7 (sz : Int)) ((rg (sR (putI s (qA aQ l) 7 (sz : Int)) aQ (Int.toNat ((sI (putI s (qA aQ l) 7 (sz : Int)) 12 11) - 1)))).1) 7), qi (sI (putI s (qA aQ l) 7 (sz : Int)) ((rg (sR (putI s (qA aQ l) 7 (sz : Int)) aQ (Int.toNat ((sI (putI s (qA aQ l) 7 (sz : Int)) 12 11) - 1)))).1) 6), qi (sI (putI s (qA aQ l) 7 (sz : Int)) (qA aQ l) 7)] (putI s (qA aQ l) 7 (sz : Int)) (kV fun s9 =>
          (CF s9 ∧ QA s9 aQ) ∧
          K s9))) := by
  have h87 := SE_87 hE
  have ol := qA_ow hE hl
  have hC := SE_CF hE
  have hQ := hE.1.1
  have n12 : (12 : Nat) ≠ qA aQ l := own_ne (h87 12 (by decide)) ol (by omega)
  have tq : tcl (putI s (qA aQ l) 7 (sz : Int)) = tcl s := tcl_ne hT (by omega)
  rw [put_ne n12, h11]
  refine ⟨⟨hC, hQ⟩, fun c => ?_, fun c => ?_⟩
  · refine h _ rfl (fun x hx _ => put_ne hx) (fun j hj => by rw [put_at, if_neg hj]) (by rw [put_at, if_pos rfl]) (fun j _ => by rw [tq]) (fun l' e => by omega)
  · obtain ⟨l', e⟩ : ∃ l', l = l' + 1 := ⟨l - 1, by omega⟩
    obtain ⟨a1, a2, a3, a4⟩ := hab l' e
    have e2 : Int.toNat ((l : Int) - 1) = l' := by omega
    have nl : qA aQ l' ≠ qA aQ l := by unfold qA; omega
    have eR : sR (putI s (qA aQ l) 7 (sz : Int)) aQ l' = some (qA aQ l', 3, 10) := (hQ.2 l' (by omega)).1
    rw [e2, eR]
    simp only [rg_some]
    rw [put_ne nl, a1, a2, put_at, if_pos rfl]
    refine ⟨⟨by omega, by omega, by omega, by omega, trivial⟩, ?_⟩
    refine c_link (d + 3) (own := own) (σ := putI s (qA aQ l) 7 (sz : Int)) hC (TV_I (TV_le hT (by omega)) rfl) (by omega) a4 ?_
    intro t t1 t2 t3 t4
    have e3 : t.2 = s.2 := t1
    have nt : own (qA aQ l) ≠ 19 := by omega
    refine ⟨⟨CF_I hC e3, QA_I hQ e3⟩, h t e3 (fun x hx hx2 => by rw [t2 x hx2, put_ne hx]) (fun j hj => by rw [t2 _ nt, put_at, if_neg hj]) (by rw [t2 _ nt, put_at, if_pos rfl]) (fun j hj => by rw [t3 j (hj l' e), tq]) (fun _ _ => t4)⟩
theorem v_Search_addNode_0 (d : Nat) (aQ l : Nat) (σ : am_S) (K : am_S → Prop) (hC : CF σ) (hQ : QA σ aQ) (h :
  (((sI σ (qA aQ l) 4) = 1 →
    am_Calls PP MLL (d + 4) m_Question_firstLeft [qr (qA aQ l, 3, 10)] σ (kI fun x3 s3 =>
      (CF s3 ∧ QA s3 aQ) ∧
      (0 ≤ x3 ∧ x3 < 60) ∧
      am_Calls PP MLL (d + 4) m_Tree_add [qr (18, 8, 2), qi (sI s3 14 (Int.toNat x3)), qi (sI s3 (qA aQ l) 4), qi (sI s3 12 11)] s3 (kI fun x4 s4 =>
        (CF s4 ∧ QA s4 aQ) ∧
        (((sI (putI s4 (qA aQ l) 7 x4) 12 11) = 0 →
          K (putI s4 (qA aQ l) 7 x4)) ∧
        (¬ ((sI (putI s4 (qA aQ l) 7 x4) 12 11) = 0) →
          (-2147483648 ≤ (sI (putI s4 (qA aQ l) 7 x4) 12 11) - 1 ∧ (sI (putI s4 (qA aQ l) 7 x4) 12 11) - 1 < 2147483648 ∧ 0 ≤ ((sI (putI s4 (qA aQ l) 7 x4) 12 11) - 1) ∧ ((sI (putI s4 (qA aQ l) 7 x4) 12 11) - 1) < 7 ∧ (rg (sR (putI s4 (qA aQ l) 7 x4) aQ (Int.toNat ((sI (putI s4 (qA aQ l) 7 x4) 12 11) - 1)))).2.1 = 3) ∧
          am_Calls PP MLL (d + 4) m_Tree_link [qr (18, 8, 2), qi (sI (putI s4 (qA aQ l) 7 x4) ((rg (sR (putI s4 (qA aQ l) 7 x4) aQ (Int.toNat ((sI (putI s4 (qA aQ l) 7 x4) 12 11) - 1)))).1) 7), qi (sI (putI s4 (qA aQ l) 7 x4) ((rg (sR (putI s4 (qA aQ l) 7 x4) aQ (Int.toNat ((sI (putI s4 (qA aQ l) 7 x4) 12 11) - 1)))).1) 6), qi (sI (putI s4 (qA aQ l) 7 x4) (qA aQ l) 7)] (putI s4 (qA aQ l) 7 x4) (kV fun s6 =>
            (CF s6 ∧ QA s6 aQ) ∧
            K s6)))))) ∧
  (¬ ((sI σ (qA aQ l) 4) = 1) →
    am_Calls PP MLL (d + 4) m_Tree_add [qr (18, 8, 2), qi (-1000), qi (sI σ (qA aQ l) 4), qi (sI σ 12 11)] σ (kI fun x7 s7 =>
      (CF s7 ∧ QA s7 aQ) ∧
      (((sI (putI s7 (qA aQ l) 7 x7) 12 11) = 0 →
        K (putI s7 (qA aQ l) 7 x7)) ∧
      (¬ ((sI (putI s7 (qA aQ l) 7 x7) 12 11) = 0) →
        (-2147483648 ≤ (sI (putI s7 (qA aQ l) 7 x7) 12 11) - 1 ∧ (sI (putI s7 (qA aQ l) 7 x7) 12 11) - 1 < 2147483648 ∧ 0 ≤ ((sI (putI s7 (qA aQ l) 7 x7) 12 11) - 1) ∧ ((sI (putI s7 (qA aQ l) 7 x7) 12 11) - 1) < 7 ∧ (rg (sR (putI s7 (qA aQ l) 7 x7) aQ (Int.toNat ((sI (putI s7 (qA aQ l) 7 x7) 12 11) - 1)))).2.1 = 3) ∧
        am_Calls PP MLL (d + 4) m_Tree_link [qr (18, 8, 2), qi (sI (putI s7 (qA aQ l) 7 x7) ((rg (sR (putI s7 (qA aQ l) 7 x7) aQ (Int.toNat ((sI (putI s7 (qA aQ l) 7 x7) 12 11) - 1)))).1) 7), qi (sI (putI s7 (qA aQ l) 7 x7) ((rg (sR (putI s7 (qA aQ l) 7 x7) aQ (Int.toNat ((sI (putI s7 (qA aQ l) 7 x7) 12 11) - 1)))).1) 6), qi (sI (putI s7 (qA aQ l) 7 x7) (qA aQ l) 7)] (putI s7 (qA aQ l) 7 x7) (kV fun s9 =>
          (CF s9 ∧ QA s9 aQ) ∧
          K s9))))))) : am_Runs PP MLL (d + 4) m_Search_addNode 0 [some (qr (12, 5, 18)), some (qr (qA aQ l, 3, 10)), none, none] [] σ (kV K) := am_wEF_ok (orc [(5, 13, 6, 5), (6, 14, 20, 60), (15, 18, 8, 2), (28, aQ, 23, 7), (36, 18, 8, 2)]) 200 (⟨rfl, ⟨fun c2 => ⟨⟨rfl, (hC 12 1 _ rfl)⟩, ⟨⟨rfl, (hC 13 0 _ rfl)⟩, ⟨rfl, (am_cI (h.1 c2) fun x3 s3 h3 => ⟨⟨rfl, h3.2.1.1, h3.2.1.2⟩, ⟨⟨rfl, (h3.1.1 12 3 _ rfl)⟩, ⟨rfl, ⟨rfl, ⟨rfl, (am_cI h3.2.2 fun x4 s4 h4 => ⟨rfl, ⟨rfl, ⟨fun c5 => (h4.2.1 c5), fun c5 => ⟨⟨rfl, h4.1.2.1⟩, ⟨rfl, ⟨⟨(h4.2.2 c5).1.1, (h4.2.2 c5).1.2.1⟩, ⟨⟨rfl, (h4.2.2 c5).1.2.2.1, (h4.2.2 c5).1.2.2.2.1⟩, ⟨⟨rfl, (h4.1.1 12 3 _ rfl)⟩, ⟨(h4.2.2 c5).1.2.2.2.2, ⟨(h4.2.2 c5).1.2.2.2.2, ⟨rfl, ⟨rfl, (am_cV (h4.2.2 c5).2 fun s6 h6 => h6.2)⟩⟩⟩⟩⟩⟩⟩⟩⟩⟩⟩⟩)⟩⟩⟩⟩⟩)⟩⟩⟩, fun c2 => ⟨⟨rfl, (hC 12 3 _ rfl)⟩, ⟨rfl, ⟨rfl, ⟨rfl, (am_cI (h.2 c2) fun x7 s7 h7 => ⟨rfl, ⟨rfl, ⟨fun c8 => (h7.2.1 c8), fun c8 => ⟨⟨rfl, h7.1.2.1⟩, ⟨rfl, ⟨⟨(h7.2.2 c8).1.1, (h7.2.2 c8).1.2.1⟩, ⟨⟨rfl, (h7.2.2 c8).1.2.2.1, (h7.2.2 c8).1.2.2.2.1⟩, ⟨⟨rfl, (h7.1.1 12 3 _ rfl)⟩, ⟨(h7.2.2 c8).1.2.2.2.2, ⟨(h7.2.2 c8).1.2.2.2.2, ⟨rfl, ⟨rfl, (am_cV (h7.2.2 c8).2 fun s9 h9 => h9.2)⟩⟩⟩⟩⟩⟩⟩⟩⟩⟩⟩⟩)⟩⟩⟩⟩⟩⟩)

theorem fs_is {X : sX} {c : Nat → Int} (hc : CV X c) {p : Nat} (hp : p < xM X) (h1 : c p ≠ -1) (h2 : ∀ q, q < p → c q = -1) : fs X c = p := by
  refine ff_unique (Nat.zero_le _) (by omega) (fun q _ hq w => ?_) (fun _ => ?_)
  · rw [h2 q hq] at w
    exact absurd w (by decide)
  · have := hc p hp
    omega
theorem mn_ex {X : sX} {c : Nat → Int} (h : ¬ mn X c ≤ 0) : ∃ p, p < xM X ∧ c p ≠ -1 := by
  have key : ∀ m, (∀ p, p < m → c p = -1) → sm (fun s => if 0 ≤ c s then (1 : Int) else 0) m ≤ 0 := by
    intro m
    induction m with
    | zero => intro _; exact Int.le_refl _
    | succ m ih =>
      intro q
      show sm _ m + (if 0 ≤ c m then (1 : Int) else 0) ≤ 0
      have := ih (fun p hp => q p (by omega))
      rw [if_neg (by rw [q m (by omega)]; decide)]
      omega
  apply Classical.byContradiction
  intro w
  refine h (key (xM X) (fun p hp => ?_))
  apply Classical.byContradiction
  intro z
  exact w ⟨p, hp, z⟩
/-- roles that a new node changes -/
def pN (l r : Nat) : Prop := r = 18 ∨ r = 19 ∨ r = 2000 + 9 * l
theorem e_addNode (d : Nat) {own : Nat → Nat} {aQ k0 l sz nd : Nat} {tr : Nat → Nat} {X : sX} {c0 c : Nat → Int} {o : Int} {σ : am_S} {K : am_S → Prop} (hE : SE σ own aQ k0 tr X c0) (hl : l < 7) (hT : TV σ own sz) (h18 : sI σ 18 1 = sz) (h11 : sI σ 12 11 = l) (hsz : sz < 6000) (hQ : QB σ (qA aQ l) X c) (hc : CV X c) (hm : ¬ mn X c ≤ 0) (hab : ∀ l', l = l' + 1 → sI σ (qA aQ l') 7 = nd ∧ sI σ (qA aQ l') 6 = o ∧ nd < sz ∧ -3 ≤ o ∧ o ≤ 3)
    (h : ∀ t own', OFr σ t own own' (pN l) → SE t own' aQ k0 tr X c0 → TV t own' (sz + 1) → sI t 18 1 = sz + 1 → (∀ j, j ≠ 7 → sI t (qA aQ l) j = sI σ (qA aQ l) j) → sI t (qA aQ l) 7 = sz → (∀ j, j < 12 * sz → (∀ l', l = l' + 1 → j ≠ (12 * (nd : Int) + 8 + o).toNat) → tcl t j = tcl σ j) → (∀ l', l = l' + 1 → tcl t (12 * (nd : Int) + 8 + o).toNat = sz) → (mn X c < 2 → LF X tr (tcl t) c l sz) → (¬ mn X c < 2 → NH X (tcl t) c l sz) → K t) : am_Calls PP MLL (d + 5) m_Search_addNode [qr (12, 5, 18), qr (qA aQ l, 3, 10)] σ (kV K) := by
  have h87 := SE_87 hE
  have ol := qA_ow hE hl
  have hC := SE_CF hE
  have hqa := hE.1.1
  have hX := hE.2.1.1
  have sN87 := hE.1.2.2.2.1
  have sNq := hE.1.2.2.1
  -- behind the tree's add
  have tail : ∀ s4 own4 (vd : Int), OFr σ s4 own own4 pT → TV s4 own4 (sz + 1) → sI s4 18 1 = sz + 1 → (∀ j, j ≠ 0 → sR s4 18 j = sR σ 18 j) → (∀ j, j < 12 * sz → tcl s4 j = tcl σ j) → tcl s4 (12 * sz) = 0 → tcl s4 (12 * sz + 1) = 0 → tcl s4 (12 * sz + 2) = vd → tcl s4 (12 * sz + 3) = mn X c → tcl s4 (12 * sz + 4) = l → (∀ j, 5 ≤ j → j < 12 → tcl s4 (12 * sz + j) = -1000) → (mn X c < 2 → vd = tr (fs X c)) → (¬ mn X c < 2 → vd = -1000) → SE s4 own4 aQ k0 tr X c0 ∧ ∀ t, t.2 = s4.2 → (∀ x, x ≠ qA aQ l → own4 x ≠ 19 → sI t x = sI s4 x) → (∀ j, j ≠ 7 → sI t (qA aQ l) j = sI s4 (qA aQ l) j) → sI t (qA aQ l) 7 = sz → (∀ j, (∀ l', l = l' + 1 → j ≠ (12 * (nd : Int) + 8 + o).toNat) → tcl t j = tcl s4 j) → (∀ l', l = l' + 1 → tcl t (12 * (nd : Int) + 8 + o).toNat = sz) → K t := by
    intro s4 own4 vd f1 f2 f3 f4 f5 t0 t1 t2 t3 t4 t5 v1 v2
    have g1 := f1.1
    have E4 : SE s4 own4 aQ k0 tr X c0 := by
      refine SE_fr hE ⟨fun x hx hp => g1 x hx (fun w => hp (by unfold p0; unfold pT at w; omega)), f1.2⟩ ?_ (fun j _ _ => ?_) (fun x hx hq j => ?_)
      · rw [(g1 12 (by omega) (by rw [h87 12 (by decide)]; unfold pT; omega)).1]
        exact ⟨rfl, rfl, rfl⟩
      · exact (g1 12 (by omega) (by rw [h87 12 (by decide)]; unfold pT; omega)).2 j
      · exact (g1 x hx (by unfold pT; omega)).2 j
    refine ⟨E4, fun t a1 a2 a3 a4 a5 a6 => ?_⟩
    have lq : qA aQ l < sN σ := by unfold qA; omega
    have o4 : own4 (qA aQ l) = 2000 + 9 * l := qA_ow E4 hl
    have m1 : sN t = sN s4 := by unfold sN; rw [a1]
    have m2 : sU t = sU s4 := by unfold sU; rw [a1]
    have m3 : zl t = zl s4 := by
      have er : sR t = sR s4 := by
        funext a j
        exact R2' a1 a j
      unfold zl
      rw [er]
    have E5 : SE t own4 aQ k0 tr X c0 := by
      refine SE_I E4 a1 (fun x hx hp => a2 x (fun e => hp ?_) (fun e => hp ?_)) ?_
      · rw [e, o4]; unfold p0; omega
      · rw [e]; unfold p0; omega
      · rw [a2 12 (own_ne (SE_87 E4 12 (by decide)) o4 (by omega)) (by rw [SE_87 E4 12 (by decide)]; decide)]
        exact ⟨rfl, rfl, rfl⟩
    have cell : ∀ j, 12 * sz ≤ j → ∀ l', l = l' + 1 → j ≠ (12 * (nd : Int) + 8 + o).toNat := by
      intro j hj l' e
      have := hab l' e
      omega
    have n18 : (18 : Nat) ≠ qA aQ l := own_ne (h87 18 (by decide)) ol (by omega)
    refine h t own4 ⟨fun x hx hp => ?_, f1.2.1, by have := f1.2.2.1; omega, by have := f1.2.2.2.1; omega, by have := f1.2.2.2.2; omega⟩ E5 (TV_I f2 a1) ?_ (fun j hj => ?_) a4 (fun j hj hj2 => ?_) a6 (fun q => ?_) (fun q => ?_)
    · have q := g1 x hx (fun w => hp (by unfold pN; unfold pT at w; omega))
      have ox := f1.2.1 x hx
      refine ⟨?_, fun j => by rw [R2' a1]; exact q.2 j⟩
      rw [a2 x (fun e => hp (by rw [e, ol]; unfold pN; omega)) (fun e => hp (by rw [ox] at e; unfold pN; omega))]
      exact q.1
    · rw [a2 18 n18 (by rw [SE_87 E4 18 (by decide)]; decide)]
      exact f3
    · rw [a3 j hj, (g1 _ lq (by rw [ol]; unfold pT; omega)).1]
    · rw [a5 j hj2]
      exact f5 j hj
    · refine ⟨by rw [a5 _ (cell _ (by omega)), t0], by rw [a5 _ (cell _ (by omega)), t1], by rw [a5 _ (cell _ (by omega)), t2, v1 q], by rw [a5 _ (cell _ (by omega)), t3], by rw [a5 _ (cell _ (by omega)), t4], fun v hv => ?_⟩
      rw [a5 _ (cell _ (by omega)), Nat.add_assoc]
      exact t5 (5 + v) (by omega) (by omega)
    · exact ⟨by rw [a5 _ (cell _ (by omega)), t2, v2 q], by rw [a5 _ (cell _ (by omega)), t3], by rw [a5 _ (cell _ (by omega)), t4]⟩
  have hab4 : ∀ s4 own4, OFr σ s4 own own4 pT → ∀ l', l = l' + 1 → sI s4 (qA aQ l') 7 = nd ∧ sI s4 (qA aQ l') 6 = o ∧ nd < sz ∧ -3 ≤ o ∧ o ≤ 3 := by
    intro s4 own4 f1 l' e
    have q := qA_ow hE (i := l') (by omega)
    rw [(f1.1 (qA aQ l') (by unfold qA; omega) (by rw [q]; unfold pT; omega)).1]
    exact hab l' e
  have h114 : ∀ s4 own4, OFr σ s4 own own4 pT → sI s4 12 11 = l := by
    intro s4 own4 f1
    rw [(f1.1 12 (by omega) (by rw [h87 12 (by decide)]; unfold pT; omega)).1]
    exact h11
  refine v_Search_addNode_0 d aQ l σ K hC hqa ?_
  rw [hQ.2.1, h11]
  refine ⟨fun e1 => ?_, fun e1 => ?_⟩
  · refine c_firstLeft (d + 3) (hqa.2 l hl).2.1 hQ.1 hX.2.1 hQ.2.2 (fun p hp p1 p2 => ?_) (mn_ex hm)
    rw [hQ.2.1, h11, Int.toNat_natCast]
    have htr : sI σ 14 p = tr p := by
      obtain ⟨_, _, _, _, ⟨β, μ, κ, ρ, me, n, b, aH, nH, aL, nL, aY, nY, aS, nS, N, lo, hi', T, kd, b1, b2, b3, b4, b5, b6, b7, b8, b9, b10, b11, b12, b13, b14, b15, b16, b17⟩⟩ := hE
      exact (b17 p hp).1
    have := hX.2.1
    refine ⟨⟨hC, hqa⟩, by omega, ?_⟩
    refine c_Tree_add d hC hT h18 hsz ?_
    intro s4 own4 f1 f0 f2 f3 f4 f5 t0 t1 t2 t3 t4 t5
    obtain ⟨E4, go⟩ := tail s4 own4 _ f1 f2 f3 f4 f5 t0 t1 t2 t3 t4 t5 (fun _ => by rw [htr, fs_is hc hp p1 p2]) (fun q => by omega)
    exact e_linkUp d E4 hl f2 (h114 s4 own4 f1) hsz (hab4 s4 own4 f1) go
  · refine c_Tree_add d hC hT h18 hsz ?_
    intro s4 own4 f1 f0 f2 f3 f4 f5 t0 t1 t2 t3 t4 t5
    obtain ⟨E4, go⟩ := tail s4 own4 _ f1 f2 f3 f4 f5 t0 t1 t2 t3 t4 t5 (fun q => by omega) (fun _ => rfl)
    exact e_linkUp d E4 hl f2 (h114 s4 own4 f1) hsz (hab4 s4 own4 f1) go
