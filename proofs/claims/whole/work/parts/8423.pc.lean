/-! the reference: prove() and check() whole -/
theorem v_M_startCase_0 (d : Nat) (σ : am_S) (K : am_S → Prop) (hF : MF σ) (hT : sI σ 31 26 = 0) (h :
  am_Runs PP MLL d m_M_startCase 2 [some (qr (31, 12, 89)), some (qi 0)] [] σ (kV K)) : am_Runs PP MLL d m_M_startCase 0 [some (qr (31, 12, 89)), none] [] σ (kV K) := am_wEF_ok (orc []) 200 (h)

theorem v_M_startCase_2 (d : Nat) (v1 : Int) (σ : am_S) (K : am_S → Prop) (hF : MF σ) (hT : sI σ 31 26 = 0) (h :
  (((sI σ 31 40) ≤ v1 →
    K (putI σ 55 0 (sI σ 31 13))) ∧
  (¬ ((sI σ 31 40) ≤ v1) →
    (0 ≤ v1 ∧ v1 < 60 ∧ 0 ≤ (sI σ 51 (Int.toNat v1)) ∧ (sI σ 51 (Int.toNat v1)) < 10000 ∧ v1 < 840 ∧ -2147483648 ≤ v1 + 1 ∧ v1 + 1 < 2147483648) ∧
    am_Runs PP MLL d m_M_startCase 2 [some (qr (31, 12, 89)), some (qi (v1 + 1))] [] (putI σ 53 (Int.toNat v1) (sI σ 36 (Int.toNat (sI σ 51 (Int.toNat v1))))) (kV K)))) : am_Runs PP MLL d m_M_startCase 2 [some (qr (31, 12, 89)), some (qi v1)] [] σ (kV K) := am_wEF_ok (orc [(7, 53, 20, 840), (10, 36, 20, 10000), (12, 51, 20, 60), (20, 55, 20, 14)]) 200 (⟨rfl, ⟨fun c2 => ⟨⟨rfl, (hF 45)⟩, ⟨rfl, ⟨⟨rfl, (by decide : (0 : Int) ≤ 0), (by decide : (0 : Int) < 14)⟩, (h.1 c2)⟩⟩⟩, fun c2 => ⟨⟨rfl, (hF 43)⟩, ⟨⟨rfl, (hF 10)⟩, ⟨⟨rfl, (hF 41)⟩, ⟨⟨rfl, (h.2 c2).1.1, (h.2 c2).1.2.1⟩, ⟨⟨rfl, (h.2 c2).1.2.2.1, (h.2 c2).1.2.2.2.1⟩, ⟨⟨rfl, (h.2 c2).1.1, (h.2 c2).1.2.2.2.2.1⟩, ⟨⟨(h.2 c2).1.2.2.2.2.2.1, (h.2 c2).1.2.2.2.2.2.2⟩, (h.2 c2).2⟩⟩⟩⟩⟩⟩⟩⟩⟩)

theorem m_start (d : Nat) {M k0 : Nat} {tr : Nat → Nat} {c0 : Nat → Int} {σ : am_S} {K : am_S → Prop} (hF : MF σ) (hT : sI σ 31 26 = 0) (hM : sI σ 31 40 = M) (hM2 : M ≤ 60) (htr : ∀ s, s < M → sI σ 51 s = tr s ∧ tr s < 10000) (hc : ∀ s, s < M → sI σ 36 (tr s) = c0 s) (hk : sI σ 31 13 = k0) (h : ∀ s, s.2 = σ.2 → (∀ x, x ≠ 53 → x ≠ 55 → sI s x = sI σ x) → (∀ j, sI s 53 j = if j < M then c0 j else sI σ 53 j) → (∀ j, sI s 55 j = if j = 0 then (k0 : Int) else sI σ 55 j) → K s) : am_Calls PP MLL (d + 1) m_M_startCase [qr (31, 12, 89)] σ (kV K) := by
  have loop : ∀ q i s, i + q = M → s.2 = σ.2 → (∀ x, x ≠ 53 → sI s x = sI σ x) → (∀ j, sI s 53 j = if j < i then c0 j else sI σ 53 j) → am_Runs PP MLL d m_M_startCase 2 [some (qr (31, 12, 89)), some (qi (i : Int))] [] s (kV K) := by
    intro q
    induction q with
    | zero =>
      intro i s hi s1 s2 s3
      have ei : i = M := by omega
      refine v_M_startCase_2 d (i : Int) s K (MF_I hF s1) (by rw [s2 31 (by decide)]; exact hT) ⟨fun _ => ?_, fun c => absurd (by rw [s2 31 (by decide), hM]; omega) c⟩
      rw [s2 31 (by decide), hk]
      refine h _ s1 (fun x x1 x2 => by rw [put_ne x2, s2 x x1]) (fun j => by rw [put_ne (by decide), s3, ei]) (fun j => by rw [put_at, s2 55 (by decide)])
    | succ q ih =>
      intro i s hi s1 s2 s3
      obtain ⟨t1, t2⟩ := htr i (by omega)
      refine v_M_startCase_2 d (i : Int) s K (MF_I hF s1) (by rw [s2 31 (by decide)]; exact hT) ⟨fun c => absurd c (by rw [s2 31 (by decide), hM]; omega), fun _ => ?_⟩
      rw [Int.toNat_natCast, s2 51 (by decide), t1, Int.toNat_natCast, s2 36 (by decide), hc i (by omega), show (i : Int) + 1 = ((i + 1 : Nat) : Int) by omega]
      refine ⟨by omega, ih (i + 1) _ (by omega) s1 (fun x hx => by rw [put_ne hx, s2 x hx]) (fun j => ?_)⟩
      rw [put_at, s3]
      by_cases e : j = i
      · rw [if_pos e, if_pos (by omega), e]
      · rw [if_neg e]
        by_cases e2 : j < i
        · rw [if_pos e2, if_pos (by omega)]
        · rw [if_neg e2, if_neg (by omega)]
  refine v_M_startCase_0 d σ K hF hT ?_
  exact loop M 0 σ (by omega) rfl (fun _ _ => rfl) (fun j => by rw [if_neg (Nat.not_lt_zero j)])
/-- a search that is over -/
def OM (σ : am_S) (X : sX) (ob nb : Nat) (tr : Nat → Nat) (c0 : Nat → Int) (k0 n0 : Nat) : Prop := MF σ ∧ MX σ X ob nb tr ∧ RZ σ ∧ CV X c0 ∧ n0 ≤ 6 ∧ k0 ≤ 50 ∧ sI σ 31 60 = tsz X n0 c0 k0 ∧ sI σ 31 35 = n0 ∧ (0 ≤ sI σ 31 37 ∧ sI σ 31 37 ≤ 1000000) ∧ (0 ≤ sI σ 31 39 ∧ sI σ 31 39 ≤ 1000000) ∧ (∀ s, s < xM X → sI σ 36 (tr s) = c0 s) ∧ sI σ 31 13 = k0
def PrF (σ s : am_S) : Prop := s.2 = σ.2 ∧ (∀ x, (x < 53 ∨ 66 < x) → x ≠ 31 → x ≠ 81 → x ≠ 82 → sI s x = sI σ x) ∧ (∀ j, j ≠ 57 → j ≠ 58 → j ≠ 59 → j ≠ 76 → j ≠ 77 → j ≠ 78 → sI s 31 j = sI σ 31 j) ∧ RZ s
/-- a case laid at level 0 -/
theorem m_lay0 (d : Nat) {X : sX} {ob nb k0 n0 : Nat} {tr : Nat → Nat} {c0 : Nat → Int} {σ : am_S} {K : am_S → Prop} (hO : OM σ X ob nb tr c0 k0 n0) (h59 : sI σ 31 59 = 0) (hn : ¬ n0 = 0) (h : ∀ s, mPB (putI s 54 0 (sI s 31 35 - 1)) (tsz X n0 c0 k0) X ob nb tr → LA (putI s 54 0 (sI s 31 35 - 1)) 0 X c0 (n0 - 1) k0 → (sI s 31 = sI σ 31 ∧ s.2 = σ.2 ∧ ∀ x, x ≠ 53 → x ≠ 55 → sI s x = sI σ x) → K s) : am_Calls PP MLL (d + 1) m_M_startCase [qr (31, 12, 89)] σ (kV K) := by
  obtain ⟨o1, o2, o3, o4, o5, o6, o7, o8, o9, o10, o11, o12⟩ := hO
  have xv := o2.1
  refine m_start d (tr := tr) o1 o2.2.2.2.2.2.2.2.2.2.2.2.2.2 o2.2.2.1 xv.2.1 (fun s hs => ⟨(o2.2.2.2.2.1 s hs).1, (o2.2.2.2.2.1 s hs).2.1⟩) o11 o12 (fun s s1 s2 s3 s4 => ?_)
  have e31 := s2 31 (by decide) (by decide)
  have so : ∀ x, x ≠ 53 → x ≠ 54 → x ≠ 55 → sI (putI s 54 0 (sI s 31 35 - 1)) x = sI σ x := fun x x1 x2 x3 => by rw [put_ne x2, s2 x x1 x3]
  have a1 := tsz_phi xv n0 c0 k0 o4
  have a2 := phi_bd xv (c := c0) (k := k0) o5
  refine h s ⟨MF_I o1 s1, MX_fr o2 (fun x x1 x2 => so x (by omega) (by omega) (by omega)) (fun j hj => by rw [so 31 (by decide) (by decide) (by decide)]), fun j => by rw [so 64 (by decide) (by decide) (by decide), so 65 (by decide) (by decide) (by decide)]; exact o3 j, by rw [so 31 (by decide) (by decide) (by decide)]; exact h59, by rw [so 31 (by decide) (by decide) (by decide)]; exact o7, by omega, by rw [so 31 (by decide) (by decide) (by decide)]; exact o9, by rw [so 31 (by decide) (by decide) (by decide)]; exact o10⟩ ⟨fun q hq => ?_, ?_, ?_⟩ ⟨e31, s1, s2⟩
  · rw [put_ne (by decide), s3, if_pos (by omega), Nat.mul_zero, Nat.zero_add]
    exact ⟨rfl, (o4 q hq).1, Int.le_trans (o4 q hq).2 (by decide)⟩
  · rw [put_at, if_pos rfl, e31, o8]
    omega
  · rw [put_ne (by decide), s4, if_pos rfl]
theorem c_M_prove (d : Nat) {X : sX} {ob nb k0 n0 : Nat} {tr : Nat → Nat} {c0 : Nat → Int} {σ : am_S} {K : Int → am_S → Prop} (hO : OM σ X ob nb tr c0 k0 n0) (h73 : ¬ sI σ 31 73 = 0) (hn : ¬ n0 = 0) (h78 : sI σ 31 78 = 0) (hnc : ¬ can X (n0 - 1) c0 k0)
    (h1 : (rws X (n0 - 1) c0 k0).length ≤ 600 → ∀ s, PrF σ s → sI s 31 59 = 0 → sI s 31 78 = 1 → sI s 31 77 = 1 → RO s (rws X (n0 - 1) c0 k0) → K ((rws X (n0 - 1) c0 k0).length : Nat) s) (h2 : 600 < (rws X (n0 - 1) c0 k0).length → ∀ s, PrF σ s → sI s 31 59 = 0 → sI s 31 78 = 1 → sI s 31 77 = 0 → sI s 31 76 = 0 → K (-1003) s) : am_Calls PP MLL (d + 7) m_M_prove [qr (31, 12, 89)] σ (kI K) := by
  have hO' := hO
  obtain ⟨o1, o2, o3, o4, o5, o6, o7, o8, o9, o10, o11, o12⟩ := hO
  have xv := o2.1
  refine v_M_prove_0 d σ K o1 o2.2.2.2.2.2.2.2.2.2.2.2.2.2 ⟨fun q => absurd q h73, fun _ => ⟨fun q => absurd q (by rw [o8]; omega), fun _ => ⟨fun _ => ?_, fun q => absurd h78 q⟩⟩⟩
  obtain ⟨Z, eZ⟩ : ∃ Z, Z = putI (putI (putI σ 31 78 1) 31 59 0) 31 76 0 := ⟨_, rfl⟩
  rw [← eZ]
  have Z2 : Z.2 = σ.2 := by rw [eZ]; rfl
  have Zo : ∀ x, x ≠ 31 → sI Z x = sI σ x := fun x hx => by rw [eZ, put_ne hx, put_ne hx, put_ne hx]
  have Z31 : ∀ j, j ≠ 78 → j ≠ 59 → j ≠ 76 → sI Z 31 j = sI σ 31 j := fun j j1 j2 j3 => by rw [eZ, put_at, if_neg j3, put_at, if_neg j2, put_at, if_neg j1]
  have Z59 : sI Z 31 59 = 0 := by rw [eZ, put_at, if_neg (by decide), put_at, if_pos rfl]
  have Z76 : sI Z 31 76 = 0 := by rw [eZ, put_at, if_pos rfl]
  have Z78 : sI Z 31 78 = 1 := by rw [eZ, put_at, if_neg (by decide), put_at, if_neg (by decide), put_at, if_pos rfl]
  have OZ : OM Z X ob nb tr c0 k0 n0 := ⟨MF_I o1 Z2, MX_fr o2 (fun x x1 x2 => Zo x x2) (fun j hj => Z31 j (by omega) (by omega) (by omega)), fun j => by rw [Zo 64 (by decide), Zo 65 (by decide)]; exact o3 j, o4, o5, o6, by rw [Z31 60 (by decide) (by decide) (by decide)]; exact o7, by rw [Z31 35 (by decide) (by decide) (by decide)]; exact o8, by rw [Z31 37 (by decide) (by decide) (by decide)]; exact o9, by rw [Z31 39 (by decide) (by decide) (by decide)]; exact o10, fun s hs => by rw [Zo 36 (by decide)]; exact o11 s hs, by rw [Z31 13 (by decide) (by decide) (by decide)]; exact o12⟩
  refine m_lay0 (d + 5) OZ Z59 hn (fun s B A ⟨e31, e2, eo⟩ => ?_)
  have s35 : sI s 31 35 = n0 := by rw [e31, Z31 35 (by decide) (by decide) (by decide)]; exact o8
  refine ⟨⟨MF_I OZ.1 e2, by rw [e31]; exact OZ.2.1.2.2.2.2.2.2.2.2.2.2.2.2.2⟩, by rw [s35]; omega, ?_⟩
  obtain ⟨Y, eY⟩ : ∃ Y, Y = putI s 54 0 (sI s 31 35 - 1) := ⟨_, rfl⟩
  rw [← eY] at B A ⊢
  have Y31 : sI Y 31 = sI Z 31 := by rw [eY, put_ne (by decide), e31]
  have Yo : ∀ x, x ≠ 53 → x ≠ 54 → x ≠ 55 → sI Y x = sI Z x := fun x x1 x2 x3 => by rw [eY, put_ne x2, eo x x1 x3]
  have Y2 : Y.2 = Z.2 := by rw [eY]; exact e2
  have fin : ∀ t, PFr Y t 0 → mPB t (tsz X n0 c0 k0) X ob nb tr → ∀ v r : Int, PrF σ (putI (putI t 31 77 v) 31 76 r) ∧ sI (putI (putI t 31 77 v) 31 76 r) 31 59 = 0 ∧ sI (putI (putI t 31 77 v) 31 76 r) 31 78 = 1 ∧ sI (putI (putI t 31 77 v) 31 76 r) 31 77 = v := by
    intro t ft Bt v r
    obtain ⟨f1, f2, f3, _⟩ := ft
    refine ⟨⟨f1.trans (Y2.trans Z2), fun x x1 x2 x3 x4 => by rw [put_ne x2, put_ne x2, f2 x x1 x2 x3 x4, Yo x (by omega) (by omega) (by omega), Zo x x2], fun j j1 j2 j3 j4 j5 j6 => by rw [put_at, if_neg j4, put_at, if_neg j5, f3 j j1 j2 j4, Y31, Z31 j j6 j3 j4], fun j => by rw [put_ne (by decide), put_ne (by decide), put_ne (by decide), put_ne (by decide)]; exact Bt.2.2.1 j⟩, ?_, ?_, ?_⟩
    · rw [put_at, if_neg (by decide), put_at, if_neg (by decide)]
      exact Bt.2.2.2.1
    · rw [put_at, if_neg (by decide), put_at, if_neg (by decide), f3 78 (by decide) (by decide) (by decide), Y31]
      exact Z78
    · rw [put_at, if_neg (by decide), put_at, if_pos rfl]
  refine pr_case d (n0 - 1) c0 k0 0 (L := []) B (by omega) (by omega) o4 hnc A ⟨by rw [Y31]; exact Z76, Nat.zero_le _, fun i hi => absurd hi (Nat.not_lt_zero i)⟩ (fun t ft Bt Ot => ?_) (fun hl t ft Bt => ?_) _ _
  · rw [List.nil_append] at Ot
    intro z4 z5
    have Tt := Bt.2.1.2.2.2.2.2.2.2.2.2.2.2.2.2
    refine v_M_prove_36 d _ 0 1 z4 z5 t K Bt.1 Tt ⟨fun _ => ⟨Or.inr rfl, ?_⟩, fun q => absurd (by decide) q⟩
    obtain ⟨p1, p2, p3, p4⟩ := fin t ft Bt 1 (sI t 31 76)
    rw [if_neg (by decide), if_neg (by decide)]
    have := h1 Ot.2.1 _ p1 p2 p3 p4 (RO_fr Ot (by rw [put_at, if_pos rfl]) (by rw [put_ne (by decide), put_ne (by decide)]) (by rw [put_ne (by decide), put_ne (by decide)]))
    rw [Ot.1] at this ⊢
    exact this
  · obtain ⟨p1, p2, p3, p4⟩ := fin t ft Bt 0 0
    exact h2 hl _ p1 p2 p3 p4 (by rw [put_at, if_pos rfl])
theorem c_M_check (d : Nat) {X : sX} {ob nb k0 n0 m : Nat} {tr : Nat → Nat} {c0 r1 r2 : Nat → Int} {σ : am_S} {K : Int → am_S → Prop} (hO : OM σ X ob nb tr c0 k0 n0) (h77 : ¬ sI σ 31 77 = 0) (hn : ¬ n0 = 0) (h59 : sI σ 31 59 = 0) (hC : ckC σ r1 r2 m)
    (h : ∀ s, PrF σ s → (∀ j, j ≠ 57 → j ≠ 58 → sI s 31 j = sI σ 31 j) → sI s 81 = sI σ 81 → sI s 82 = sI σ 82 → K (if ck X r1 r2 m (n0 - 1) c0 k0 0 = some m then 1 else 0) s) : am_Calls PP MLL (d + 5) m_M_check [qr (31, 12, 89)] σ (kI K) := by
  have hO' := hO
  obtain ⟨o1, o2, o3, o4, o5, o6, o7, o8, o9, o10, o11, o12⟩ := hO
  refine v_M_check_0 d σ K o1 o2.2.2.2.2.2.2.2.2.2.2.2.2.2 ⟨fun q => absurd q h77, fun _ => ?_⟩
  refine m_lay0 (d + 3) hO' h59 hn (fun s B A ⟨e31, e2, eo⟩ => ?_)
  have s35 : sI s 31 35 = n0 := by rw [e31]; exact o8
  refine ⟨⟨MF_I o1 e2, by rw [e31]; exact o2.2.2.2.2.2.2.2.2.2.2.2.2.2⟩, by rw [s35]; omega, ?_⟩
  obtain ⟨Y, eY⟩ : ∃ Y, Y = putI s 54 0 (sI s 31 35 - 1) := ⟨_, rfl⟩
  rw [← eY] at B A ⊢
  have Y31 : sI Y 31 = sI σ 31 := by rw [eY, put_ne (by decide), e31]
  have Yo : ∀ x, x ≠ 53 → x ≠ 54 → x ≠ 55 → sI Y x = sI σ x := fun x x1 x2 x3 => by rw [eY, put_ne x2, eo x x1 x3]
  have Y2 : Y.2 = σ.2 := by rw [eY]; exact e2
  have CY : ckC Y r1 r2 m := ⟨(Yo 81 (by decide) (by decide) (by decide)).trans hC.1, (Yo 82 (by decide) (by decide) (by decide)).trans hC.2.1, by rw [Y31]; exact hC.2.2.1, hC.2.2.2⟩
  have fin : ∀ t, NFr Y t 0 → mPB t (tsz X n0 c0 k0) X ob nb tr → PrF σ t ∧ (∀ j, j ≠ 57 → j ≠ 58 → sI t 31 j = sI σ 31 j) ∧ sI t 81 = sI σ 81 ∧ sI t 82 = sI σ 82 := by
    intro t ft Bt
    obtain ⟨f1, f2, f3, _⟩ := NFr_P ft B.2.2.2.1
    have g : ∀ j, j ≠ 57 → j ≠ 58 → sI t 31 j = sI σ 31 j := fun j j1 j2 => by
      by_cases e : j = 76
      · rw [e, ft.1.2.2.1 76 (by decide) (by decide) (by decide) (by decide) (by decide), Y31]
      · rw [f3 j j1 j2 e, Y31]
    exact ⟨⟨f1.trans Y2, fun x x1 x2 x3 x4 => by rw [f2 x x1 x2 x3 x4, Yo x (by omega) (by omega) (by omega)], fun j j1 j2 _ _ _ _ => g j j1 j2, Bt.2.2.1⟩, g, by rw [ft.1.2.1 81 (by decide) (by decide), Yo 81 (by decide) (by decide) (by decide)], by rw [ft.1.2.1 82 (by decide) (by decide), Yo 82 (by decide) (by decide) (by decide)]⟩
  refine ck_case d (n0 - 1) c0 k0 0 0 (r1 := r1) (r2 := r2) (m := m) B (by omega) (by omega) (by omega) o4 A CY (fun t a' ea ha ft Bt => ?_) (fun ea t ft Bt => ?_) (Nat.zero_le _) _ _
  · intro z5 z6
    have Tt := Bt.2.1.2.2.2.2.2.2.2.2.2.2.2.2.2
    have Ct := ckC_N CY ft
    obtain ⟨p1, p2, p3, p4⟩ := fin t ft Bt
    refine v_M_check_23 d _ (a' : Int) 0 1 z5 z6 t K Bt.1 Tt ⟨fun _ => ?_, fun q => absurd (by decide) q⟩
    have := h t p1 p2 p3 p4
    rw [ea] at this
    rw [if_neg (by decide), Ct.2.2.1]
    by_cases e : a' = m
    · rw [if_pos (by rw [e])] at this
      rw [if_pos (by rw [e])]
      exact this
    · rw [if_neg (fun q => e (Option.some.inj q))] at this
      rw [if_neg (by omega)]
      exact this
  · obtain ⟨p1, p2, p3, p4⟩ := fin t ft Bt
    have := h t p1 p2 p3 p4
    rw [ea, if_neg (fun q => by cases q)] at this
    exact this
