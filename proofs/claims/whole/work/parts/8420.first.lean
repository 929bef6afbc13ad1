/-! the reference: the first outcome whose case is no -/
theorem v_M_firstNo_0 (d : Nat) (p1 : Int) (σ : am_S) (K : Int → am_S → Prop) (hF : MF σ) (hT : sI σ 31 26 = 0) (h :
  (0 ≤ p1 ∧ p1 < 14) ∧
  (0 ≤ (sI σ 31 36) ∧ (sI σ 31 36) < 12) ∧
  ((((sI σ 41 (Int.toNat (sI σ 31 36))) = 6) → -2147483648 ≤ 3 * (sI σ 31 36)) ∧ (((sI σ 41 (Int.toNat (sI σ 31 36))) = 6) → 3 * (sI σ 31 36) < 2147483648) ∧ (((sI σ 41 (Int.toNat (sI σ 31 36))) = 6) → (sI σ 47 (Int.toNat (sI σ 31 36))) ≠ 0) ∧ (((sI σ 41 (Int.toNat (sI σ 31 36))) = 6) → -2147483648 ≤ (3 * (sI σ 31 36)) + (Int.tmod (sI σ 55 (Int.toNat p1)) (sI σ 47 (Int.toNat (sI σ 31 36))))) ∧ (((sI σ 41 (Int.toNat (sI σ 31 36))) = 6) → (3 * (sI σ 31 36)) + (Int.tmod (sI σ 55 (Int.toNat p1)) (sI σ 47 (Int.toNat (sI σ 31 36)))) < 2147483648) ∧ (((sI σ 41 (Int.toNat (sI σ 31 36))) = 6) → 0 ≤ ((3 * (sI σ 31 36)) + (Int.tmod (sI σ 55 (Int.toNat p1)) (sI σ 47 (Int.toNat (sI σ 31 36)))))) ∧ (((sI σ 41 (Int.toNat (sI σ 31 36))) = 6) → ((3 * (sI σ 31 36)) + (Int.tmod (sI σ 55 (Int.toNat p1)) (sI σ 47 (Int.toNat (sI σ 31 36))))) < 36)) ∧
  (0 ≤ (if (sI σ 41 (Int.toNat (sI σ 31 36))) = 6 then (sI σ 46 (Int.toNat ((3 * (sI σ 31 36)) + (Int.tmod (sI σ 55 (Int.toNat p1)) (sI σ 47 (Int.toNat (sI σ 31 36)))))) : Int) else (sI σ 31 36)) ∧ (if (sI σ 41 (Int.toNat (sI σ 31 36))) = 6 then (sI σ 46 (Int.toNat ((3 * (sI σ 31 36)) + (Int.tmod (sI σ 55 (Int.toNat p1)) (sI σ 47 (Int.toNat (sI σ 31 36)))))) : Int) else (sI σ 31 36)) < 12) ∧
  (-2147483648 ≤ -(mo (sI σ 41 (Int.toNat (if (sI σ 41 (Int.toNat (sI σ 31 36))) = 6 then (sI σ 46 (Int.toNat ((3 * (sI σ 31 36)) + (Int.tmod (sI σ 55 (Int.toNat p1)) (sI σ 47 (Int.toNat (sI σ 31 36)))))) : Int) else (sI σ 31 36))))) ∧ -(mo (sI σ 41 (Int.toNat (if (sI σ 41 (Int.toNat (sI σ 31 36))) = 6 then (sI σ 46 (Int.toNat ((3 * (sI σ 31 36)) + (Int.tmod (sI σ 55 (Int.toNat p1)) (sI σ 47 (Int.toNat (sI σ 31 36)))))) : Int) else (sI σ 31 36))))) < 2147483648) ∧
  am_Runs PP MLL (d + 5) m_M_firstNo 17 [some (qr (31, 12, 89)), some (qi p1), some (qi (mo (sI σ 41 (Int.toNat (if (sI σ 41 (Int.toNat (sI σ 31 36))) = 6 then (sI σ 46 (Int.toNat ((3 * (sI σ 31 36)) + (Int.tmod (sI σ 55 (Int.toNat p1)) (sI σ 47 (Int.toNat (sI σ 31 36)))))) : Int) else (sI σ 31 36)))))), some (qi (-(mo (sI σ 41 (Int.toNat (if (sI σ 41 (Int.toNat (sI σ 31 36))) = 6 then (sI σ 46 (Int.toNat ((3 * (sI σ 31 36)) + (Int.tmod (sI σ 55 (Int.toNat p1)) (sI σ 47 (Int.toNat (sI σ 31 36)))))) : Int) else (sI σ 31 36))))))), some (qi 0)] [] σ (kI K)) : am_Runs PP MLL (d + 5) m_M_firstNo 0 [some (qr (31, 12, 89)), some (qi p1), none, none, none] [] σ (kI K) := am_wEC_ok (orc [(2, 41, 20, 12), (5, 55, 20, 14)]) [39, 46] 200 (⟨⟨rfl, (hF 17)⟩, ⟨⟨rfl, (hF 45)⟩, ⟨⟨rfl, h.1.1, h.1.2⟩, ⟨rfl, am_wEC_ok (orc [(1, 41, 20, 12), (8, 46, 20, 36), (15, 47, 20, 12)]) [25] 200 (⟨⟨rfl, (hF 17)⟩, ⟨rfl, ⟨⟨rfl, h.2.1.1, h.2.1.2⟩, am_use (fun H2 => ⟨fun c1 => ⟨⟨rfl, (hF 22)⟩, ⟨rfl, ⟨⟨(h.2.2.1.1 c1), (h.2.2.1.2.1 c1)⟩, ⟨⟨rfl, (hF 23)⟩, ⟨rfl, ⟨⟨rfl, h.2.1.1, h.2.1.2⟩, ⟨(h.2.2.1.2.2.1 c1), ⟨⟨(h.2.2.1.2.2.2.1 c1), (h.2.2.1.2.2.2.2.1 c1)⟩, ⟨⟨rfl, (h.2.2.1.2.2.2.2.2.1 c1), (h.2.2.1.2.2.2.2.2.2 c1)⟩, (Eq.mp (congrArg (fun z => am_Runs _ _ _ _ _ _ (qi z :: _) _ _) (if_pos c1 : (if (sI σ 41 (Int.toNat (sI σ 31 36))) = 6 then (sI σ 46 (Int.toNat ((3 * (sI σ 31 36)) + (Int.tmod (sI σ 55 (Int.toNat p1)) (sI σ 47 (Int.toNat (sI σ 31 36)))))) : Int) else sI σ 31 36) = sI σ 46 (Int.toNat ((3 * (sI σ 31 36)) + (Int.tmod (sI σ 55 (Int.toNat p1)) (sI σ 47 (Int.toNat (sI σ 31 36)))))))) H2)⟩⟩⟩⟩⟩⟩⟩⟩⟩, fun c1 => ⟨rfl, (Eq.mp (congrArg (fun z => am_Runs _ _ _ _ _ _ (qi z :: _) _ _) (if_neg c1 : (if (sI σ 41 (Int.toNat (sI σ 31 36))) = 6 then (sI σ 46 (Int.toNat ((3 * (sI σ 31 36)) + (Int.tmod (sI σ 55 (Int.toNat p1)) (sI σ 47 (Int.toNat (sI σ 31 36)))))) : Int) else sI σ 31 36) = sI σ 31 36)) H2)⟩⟩) (am_wEC_ok (orc []) [25] 200 (⟨⟨rfl, h.2.2.2.1.1, h.2.2.2.1.2⟩, ⟨rfl, c_M_mostOf _ hF hT (⟨⟨h.2.2.2.2.1.1, h.2.2.2.2.1.2⟩, h.2.2.2.2.2⟩)⟩⟩))⟩⟩⟩)⟩⟩⟩⟩)

theorem v_M_firstNo_17 (d : Nat) (p1 v3 v4 : Int) (z2 : Option am_V) (σ : am_S) (K : Int → am_S → Prop) (hF : MF σ) (hT : sI σ 31 26 = 0) (h :
  ((v4 = 0 →
    am_Calls PP MLL (d + 5) m_M_makeCase [qr (31, 12, 89), qi p1, qi 7, qi v3] σ (kV fun s3 =>
      (MF s3 ∧ sI s3 31 26 = 0) ∧
      am_Calls PP MLL (d + 5) m_M_goes [qr (31, 12, 89), qi 7, qi 0] (putI (putI s3 31 57 7) 31 58 0) (kI fun x4 s4 =>
        (MF s4 ∧ sI s4 31 26 = 0) ∧
        (-2147483648 ≤ v3 + (if (if x4 = 2 then (1 : Int) else 0) = 0 then (1 : Int) else 0) ∧ v3 + (if (if x4 = 2 then (1 : Int) else 0) = 0 then (1 : Int) else 0) < 2147483648) ∧
        am_Runs PP MLL (d + 5) m_M_firstNo 17 [some (qr (31, 12, 89)), some (qi p1), (am_cl z2), some (qi (v3 + (if (if x4 = 2 then (1 : Int) else 0) = 0 then (1 : Int) else 0))), some (qi (if x4 = 2 then (1 : Int) else 0))] [] s4 (kI K)))) ∧
  (¬ (v4 = 0) →
    K v3 σ))) : am_Runs PP MLL (d + 5) m_M_firstNo 17 [some (qr (31, 12, 89)), some (qi p1), z2, some (qi v3), some (qi v4)] [] σ (kI K) := am_wEC_ok (orc []) [39, 46] 200 (⟨fun c2 => ⟨rfl, (am_cV (h.1 c2) fun s3 h3 => ⟨rfl, ⟨rfl, ⟨rfl, (am_cI h3.2 fun x4 s4 h4 => am_use (fun H8 => ⟨fun c5 => (Eq.mp (congrArg (fun z => am_Runs _ _ _ _ _ _ (qi z :: _) _ _) (if_pos c5 : (if x4 = 2 then (1 : Int) else 0) = 1)) H8), fun c5 => (Eq.mp (congrArg (fun z => am_Runs _ _ _ _ _ _ (qi z :: _) _ _) (if_neg c5 : (if x4 = 2 then (1 : Int) else 0) = 0)) H8)⟩) (am_wEC_ok (orc []) [39, 46] 200 (am_use (fun H7 => ⟨fun c6 => (Eq.mp (congrArg (fun z => am_Runs _ _ _ _ _ _ (qi z :: _) _ _) (if_pos c6 : (if (if x4 = 2 then (1 : Int) else 0) = 0 then (1 : Int) else 0) = 1)) H7), fun c6 => (Eq.mp (congrArg (fun z => am_Runs _ _ _ _ _ _ (qi z :: _) _ _) (if_neg c6 : (if (if x4 = 2 then (1 : Int) else 0) = 0 then (1 : Int) else 0) = 0)) H7)⟩) (am_wEC_ok (orc []) [39, 46] 200 (⟨⟨h4.2.1.1, h4.2.1.2⟩, h4.2.2⟩)))))⟩⟩⟩)⟩, fun c2 => (h.2 c2)⟩)

def mPB (σ : am_S) (R : Nat) (X : sX) (ob nb : Nat) (tr : Nat → Nat) : Prop := MF σ ∧ MX σ X ob nb tr ∧ RZ σ ∧ sI σ 31 59 = 0 ∧ sI σ 31 60 = R ∧ R < 6000 ∧ (0 ≤ sI σ 31 37 ∧ sI σ 31 37 ≤ 1000000) ∧ (0 ≤ sI σ 31 39 ∧ sI σ 31 39 ≤ 1000000)
def NFr (σ s : am_S) (f : Nat) : Prop := MFr σ s f ∧ sI s 31 37 = sI σ 31 37 ∧ sI s 31 39 = sI σ 31 39 ∧ sI s 31 60 = sI σ 31 60
theorem NFr_rf (σ : am_S) (f : Nat) : NFr σ σ f := ⟨MFr_rf σ f, rfl, rfl, rfl⟩
theorem NFr_tr {σ s t : am_S} {f : Nat} (h : NFr σ s f) (h2 : NFr s t f) : NFr σ t f := ⟨MFr_tr h.1 h2.1, h2.2.1.trans h.2.1, h2.2.2.1.trans h.2.2.1, h2.2.2.2.trans h.2.2.2⟩
theorem MFr_le {σ s : am_S} {f g : Nat} (h : MFr σ s f) (hg : g ≤ f) : MFr σ s g := ⟨h.1, h.2.1, h.2.2.1, fun j hj => h.2.2.2.1 j (by omega), fun x x1 x2 j hj => h.2.2.2.2.1 x x1 x2 j (by omega), fun x x1 x2 j hj => h.2.2.2.2.2.1 x x1 x2 j (by omega), h.2.2.2.2.2.2⟩
theorem NFr_le {σ s : am_S} {f g : Nat} (h : NFr σ s f) (hg : g ≤ f) : NFr σ s g := ⟨MFr_le h.1 hg, h.2⟩
theorem mPB_fr {σ s : am_S} {R ob nb f : Nat} {X : sX} {tr : Nat → Nat} (h : mPB σ R X ob nb tr) (hf : NFr σ s f) (hz : RZ s) : mPB s R X ob nb tr := by
  obtain ⟨h1, h2, h3, h4, h5, h6, h7, h8⟩ := h
  obtain ⟨⟨f1, f2, f3, _⟩, g1, g2, g3⟩ := hf
  exact ⟨MF_I h1 f1, MX_fr h2 (fun x x1 x2 => f2 x (Or.inl x1) x2) (fun j hj => f3 j (by omega) (by omega) (by omega) (by omega) (by omega)), hz, by rw [f3 59 (by decide) (by decide) (by decide) (by decide) (by decide)]; exact h4, by rw [g3]; exact h5, h6, by rw [g1]; exact h7, by rw [g2]; exact h8⟩
theorem LA_N {σ s : am_S} {f L : Nat} {X : sX} {c : Nat → Int} {n k : Nat} (hf : NFr σ s f) (hL : L < f) (hM : xM X ≤ 60) (h : LA σ L X c n k) : LA s L X c n k := LA_fr hM (fun j _ _ => hf.1.2.2.2.1 j (by omega)) (hf.1.2.2.2.2.1 54 (by decide) (by decide) L hL) (hf.1.2.2.2.2.1 55 (by decide) (by decide) L hL) h
theorem LW_N {σ s : am_S} {f L : Nat} {X : sX} {c : Nat → Int} {j : Nat} (hf : NFr σ s f) (hL : L < f) (hX : XV X) (h : LW σ L X c j) : LW s L X c j := LW_fr hX (hf.1.2.2.2.2.1 59 (by decide) (by decide) L hL) (hf.1.2.2.2.2.1 60 (by decide) (by decide) L hL) (hf.1.2.2.2.2.1 61 (by decide) (by decide) L hL) (fun x x1 x2 q _ _ => hf.1.2.2.2.2.2.1 x x1 x2 q (by omega)) h
/-- a case is made at another level -/
theorem MKP_N {σ s : am_S} {to M : Nat} {c' : Nat → Int} {n k : Int} {f : Nat} (h : MKP σ s to M c' n k) (hf : f ≤ to) : NFr σ s f := by
  obtain ⟨h1, h2, h3, h4, h5, h6, h7⟩ := h
  have e31 := h2 31 (by decide) (by decide) (by decide)
  refine ⟨⟨h1, fun x x1 x2 => h2 x (by omega) (by omega) (by omega), fun j _ _ _ _ _ => by rw [e31], fun j hj => h3 j (Or.inl (by omega)), fun x x1 x2 j hj => ?_, fun x x1 x2 j _ => by rw [h2 x (by omega) (by omega) (by omega)], fun _ x x1 x2 => h2 x (by omega) (by omega) (by omega)⟩, by rw [e31], by rw [e31], by rw [e31]⟩
  by_cases e : x = 54
  · rw [e]; exact (h5 j (by omega)).1
  · by_cases e2 : x = 55
    · rw [e2]; exact (h5 j (by omega)).2
    · rw [h2 x (by omega) e e2]
theorem m_firstNo (d : Nat) {R lv k n ob nb j : Nat} {X : sX} {tr : Nat → Nat} {c : Nat → Int} {σ : am_S} {K : Int → am_S → Prop} (hB : mPB σ R X ob nb tr) (hlv : lv < 7) (hcv : CV X c) (hn : n + 1 ≤ 6) (hk : k ≤ 58) (hL : LA σ lv X c (n + 1) k) (hW : LW σ lv X c j) (hj : ¬ yw X n c k (wAt X c j)) (h : ∀ s, NFr σ s 7 → mPB s R X ob nb tr → K (fo X n c k (wAt X c j)) s) : am_Calls PP MLL (d + 6) m_M_firstNo [qr (31, 12, 89), qi (lv : Int)] σ (kI K) := by
  have hX := hB.2.1
  have xv := hX.1
  obtain ⟨-, x2, x40, xs, xt, xd, x36, xo, xn, xq, xk, xl, xO', x26⟩ := hX
  have hmo := oc_37 X k
  have wl := wr_lt (turn := k) xq xo
  have wg := wr_gd (t := k) xq xo hL.2.2
  obtain ⟨F, eF⟩ : ∃ F, F = fon X n c k (wAt X c j) := ⟨_, rfl⟩
  have sp := ff_spec (fun i => ¬ can X n (mkc X c k (sdw X c (wAt X c j)) (-mo (xK X k) + (i : Int))) (k + 1)) (2 * mo (xK X k) + 1).toNat 0
  have eff : ff (fun i => ¬ can X n (mkc X c k (sdw X c (wAt X c j)) (-mo (xK X k) + (i : Int))) (k + 1)) (2 * mo (xK X k) + 1).toNat 0 = F := by rw [eF]; rfl
  rw [eff] at sp
  obtain ⟨_, sp2, sp3, sp4⟩ := sp
  have eoc : (2 * mo (xK X k) + 1).toNat = oc X k := rfl
  rw [eoc] at sp2 sp4
  have Flt : F < oc X k := by
    rcases Nat.lt_or_ge F (oc X k) with q | q
    · exact q
    · exact absurd (fun i hi => Classical.byContradiction (fun nc => sp3 i (Nat.zero_le _) (by omega) nc)) hj
  have nF := sp4 (by omega)
  have loop : ∀ q u s, u + q = F → mPB s R X ob nb tr → NFr σ s 7 → ∀ z2, am_Runs PP MLL (d + 5) m_M_firstNo 17 [some (qr (31, 12, 89)), some (qi (lv : Int)), z2, some (qi (-mo (xK X k) + (u : Int))), some (qi 0)] [] s (kI K) := by
    intro q
    induction q with
    | zero =>
      intro u s hu PBs fr z2
      have eu : u = F := by omega
      have Xs := PBs.2.1
      have T26s := Xs.2.2.2.2.2.2.2.2.2.2.2.2.2
      have Ls := LA_N fr hlv xv.2.1 hL
      have Ws := LW_N fr hlv xv hW
      refine v_M_firstNo_17 d (lv : Int) _ 0 z2 s K PBs.1 T26s ⟨fun _ => ?_, fun q => absurd rfl q⟩
      refine c_M_makeCase (d + 1) (to := 7) (k := k) (c := c) (f := sdw X c (wAt X c j)) PBs.1 Xs (by omega) (by decide) (by omega) Ls.2.2 (by omega) (by rw [Ls.2.1]; omega) Ls.1 (fun q hq => ⟨Ws.2.2.2 q hq, sdw_pm X _ _ q⟩) (fun t ht => ?_)
      have t31 : sI t 31 = sI s 31 := ht.2.1 31 (by decide) (by decide) (by decide)
      refine ⟨⟨MF_I PBs.1 ht.1, by rw [t31]; exact T26s⟩, ?_⟩
      obtain ⟨Z, eZ⟩ : ∃ Z, Z = putI (putI t 31 57 7) 31 58 0 := ⟨_, rfl⟩
      rw [← eZ]
      have Z2 : Z.2 = t.2 := by rw [eZ]; rfl
      have Zo : ∀ x, x ≠ 31 → sI Z x = sI t x := fun x hx => by rw [eZ, put_ne hx, put_ne hx]
      have Z31 : ∀ i, i ≠ 57 → i ≠ 58 → sI Z 31 i = sI s 31 i := fun i i1 i2 => by rw [eZ, put_at, if_neg i2, put_at, if_neg i1, t31]
      have frt : NFr s Z 7 := NFr_tr (MKP_N ht (Nat.le_refl 7)) ⟨⟨Z2, fun x _ x2 => Zo x x2, fun i _ _ i3 i4 _ => by rw [Z31 i i3 i4, t31], fun i _ => by rw [Zo 53 (by decide)], fun x x1 x2 i _ => by rw [Zo x (by omega)], fun x x1 x2 i _ => by rw [Zo x (by omega)], fun _ x x1 x2 => Zo x (by omega)⟩, by rw [Z31 37 (by decide) (by decide), t31], by rw [Z31 39 (by decide) (by decide), t31], by rw [Z31 60 (by decide) (by decide), t31]⟩
      have PZ : mPB Z R X ob nb tr := mPB_fr PBs frt (fun i => by rw [Zo 64 (by decide), Zo 65 (by decide), ht.2.1 64 (by decide) (by decide) (by decide), ht.2.1 65 (by decide) (by decide) (by decide)]; exact PBs.2.2.1 i)
      have cvn := mkc_CV xv (k := k) (f := sdw X c (wAt X c j)) (o := -mo (xK X k) + (u : Int)) hcv
      have hM0 : M0 Z 0 R 7 X ob nb tr (mkc X c k (sdw X c (wAt X c j)) (-mo (xK X k) + (u : Int))) (k + 1) n (fun _ => 0) (fun _ => 0) 0 := by
        refine ⟨⟨PZ.1, PZ.2.1, PZ.2.2.1, PZ.2.2.2.1, Or.inl rfl, Nat.le_refl 7, by omega, by omega, cvn⟩, fun i hi => absurd hi (Nat.not_lt_zero i), by rw [eZ, put_at, if_pos rfl], by rw [eZ, put_at, if_neg (by decide), put_at, if_pos rfl]; rfl, fun i hi => absurd hi (Nat.not_lt_zero i), ⟨fun q hq => ⟨by rw [Zo 53 (by decide)]; exact ht.2.2.2.1 q hq, (cvn q hq).1, Int.le_trans (cvn q hq).2 (by decide)⟩, by rw [Zo 54 (by decide)]; show sI t 54 7 = _; rw [ht.2.2.2.2.2.1, Ls.2.1]; show ((n + 1 : Nat) : Int) - 1 = ((n : Nat) : Int); omega, by rw [Zo 55 (by decide)]; show sI t 55 7 = _; rw [ht.2.2.2.2.2.2]; rfl⟩, ?_⟩
        rw [rkp_0]
        exact PZ.2.2.2.2.1
      refine v_M_goes_0 d 7 0 Z _ PZ.1 PZ.2.1.2.2.2.2.2.2.2.2.2.2.2.2.2 ?_
      have frZ : ∀ s4, MFr Z s4 7 → sI s4 31 37 = sI Z 31 37 ∧ sI s4 31 39 = sI Z 31 39 → sI s4 31 60 = R → NFr σ s4 7 := fun s4 f1 f2 f4 => NFr_tr fr (NFr_tr frt ⟨f1, f2.1, f2.2, by rw [f4, PZ.2.2.2.2.1]⟩)
      have PBZ : ∀ s4, sI s4 31 37 = sI Z 31 37 ∧ sI s4 31 39 = sI Z 31 39 → MB s4 0 7 X ob nb tr (mkc X c k (sdw X c (wAt X c j)) (-mo (xK X k) + (u : Int))) (k + 1) n → sI s4 31 60 = R → mPB s4 R X ob nb tr := fun s4 f2 f3 f4 => ⟨f3.1, f3.2.1, f3.2.2.1, f3.2.2.2.1, f4, PZ.2.2.2.2.2.1, by rw [f2.1]; exact PZ.2.2.2.2.2.2.1, by rw [f2.2]; exact PZ.2.2.2.2.2.2.2⟩
      refine gRun7 d PZ.2.2.2.2.2.1 (Ends_0 xv (c0 := mkc X c k (sdw X c (wAt X c j)) (-mo (xK X k) + (u : Int))) (k0 := k + 1) (n0 := n) (fun _ => 0) (fun _ => 0)) rfl (Or.inl ⟨rfl, hM0⟩) PZ.2.2.2.2.2.2.2 PZ.2.2.2.2.2.2.1 ?_ ?_ none
      · intro s4 f1 f2 f3 f4 f5
        rw [eu] at f5
        exact absurd f5 nF
      · intro s4 f1 f2 f3 f4 f5
        refine ⟨⟨f3.1, f3.2.1.2.2.2.2.2.2.2.2.2.2.2.2.2⟩, by rw [if_pos rfl, if_neg (by decide)]; omega, ?_⟩
        rw [if_pos rfl, if_neg (by decide)]
        refine v_M_firstNo_17 d (lv : Int) _ 1 _ s4 K f3.1 f3.2.1.2.2.2.2.2.2.2.2.2.2.2.2.2 ⟨fun q => absurd q (by decide), fun _ => ?_⟩
        rw [show -mo (xK X k) + (u : Int) + 0 = fo X n c k (wAt X c j) by unfold fo; rw [← eF, eu]; omega]
        exact h s4 (frZ s4 f1 f2 f4) (PBZ s4 f2 f3 f4)
    | succ q ih =>
      intro u s hu PBs fr z2
      have Xs := PBs.2.1
      have T26s := Xs.2.2.2.2.2.2.2.2.2.2.2.2.2
      have Ls := LA_N fr hlv xv.2.1 hL
      have Ws := LW_N fr hlv xv hW
      have yes : can X n (mkc X c k (sdw X c (wAt X c j)) (-mo (xK X k) + (u : Int))) (k + 1) := Classical.byContradiction (fun nc => sp3 u (Nat.zero_le _) (by omega) nc)
      refine v_M_firstNo_17 d (lv : Int) _ 0 z2 s K PBs.1 T26s ⟨fun _ => ?_, fun q => absurd rfl q⟩
      refine c_M_makeCase (d + 1) (to := 7) (k := k) (c := c) (f := sdw X c (wAt X c j)) PBs.1 Xs (by omega) (by decide) (by omega) Ls.2.2 (by omega) (by rw [Ls.2.1]; omega) Ls.1 (fun q hq => ⟨Ws.2.2.2 q hq, sdw_pm X _ _ q⟩) (fun t ht => ?_)
      have t31 : sI t 31 = sI s 31 := ht.2.1 31 (by decide) (by decide) (by decide)
      refine ⟨⟨MF_I PBs.1 ht.1, by rw [t31]; exact T26s⟩, ?_⟩
      obtain ⟨Z, eZ⟩ : ∃ Z, Z = putI (putI t 31 57 7) 31 58 0 := ⟨_, rfl⟩
      rw [← eZ]
      have Z2 : Z.2 = t.2 := by rw [eZ]; rfl
      have Zo : ∀ x, x ≠ 31 → sI Z x = sI t x := fun x hx => by rw [eZ, put_ne hx, put_ne hx]
      have Z31 : ∀ i, i ≠ 57 → i ≠ 58 → sI Z 31 i = sI s 31 i := fun i i1 i2 => by rw [eZ, put_at, if_neg i2, put_at, if_neg i1, t31]
      have frt : NFr s Z 7 := NFr_tr (MKP_N ht (Nat.le_refl 7)) ⟨⟨Z2, fun x _ x2 => Zo x x2, fun i _ _ i3 i4 _ => by rw [Z31 i i3 i4, t31], fun i _ => by rw [Zo 53 (by decide)], fun x x1 x2 i _ => by rw [Zo x (by omega)], fun x x1 x2 i _ => by rw [Zo x (by omega)], fun _ x x1 x2 => Zo x (by omega)⟩, by rw [Z31 37 (by decide) (by decide), t31], by rw [Z31 39 (by decide) (by decide), t31], by rw [Z31 60 (by decide) (by decide), t31]⟩
      have PZ : mPB Z R X ob nb tr := mPB_fr PBs frt (fun i => by rw [Zo 64 (by decide), Zo 65 (by decide), ht.2.1 64 (by decide) (by decide) (by decide), ht.2.1 65 (by decide) (by decide) (by decide)]; exact PBs.2.2.1 i)
      have cvn := mkc_CV xv (k := k) (f := sdw X c (wAt X c j)) (o := -mo (xK X k) + (u : Int)) hcv
      have hM0 : M0 Z 0 R 7 X ob nb tr (mkc X c k (sdw X c (wAt X c j)) (-mo (xK X k) + (u : Int))) (k + 1) n (fun _ => 0) (fun _ => 0) 0 := by
        refine ⟨⟨PZ.1, PZ.2.1, PZ.2.2.1, PZ.2.2.2.1, Or.inl rfl, Nat.le_refl 7, by omega, by omega, cvn⟩, fun i hi => absurd hi (Nat.not_lt_zero i), by rw [eZ, put_at, if_pos rfl], by rw [eZ, put_at, if_neg (by decide), put_at, if_pos rfl]; rfl, fun i hi => absurd hi (Nat.not_lt_zero i), ⟨fun q hq => ⟨by rw [Zo 53 (by decide)]; exact ht.2.2.2.1 q hq, (cvn q hq).1, Int.le_trans (cvn q hq).2 (by decide)⟩, by rw [Zo 54 (by decide)]; show sI t 54 7 = _; rw [ht.2.2.2.2.2.1, Ls.2.1]; show ((n + 1 : Nat) : Int) - 1 = ((n : Nat) : Int); omega, by rw [Zo 55 (by decide)]; show sI t 55 7 = _; rw [ht.2.2.2.2.2.2]; rfl⟩, ?_⟩
        rw [rkp_0]
        exact PZ.2.2.2.2.1
      refine v_M_goes_0 d 7 0 Z _ PZ.1 PZ.2.1.2.2.2.2.2.2.2.2.2.2.2.2.2 ?_
      have frZ : ∀ s4, MFr Z s4 7 → sI s4 31 37 = sI Z 31 37 ∧ sI s4 31 39 = sI Z 31 39 → sI s4 31 60 = R → NFr σ s4 7 := fun s4 f1 f2 f4 => NFr_tr fr (NFr_tr frt ⟨f1, f2.1, f2.2, by rw [f4, PZ.2.2.2.2.1]⟩)
      have PBZ : ∀ s4, sI s4 31 37 = sI Z 31 37 ∧ sI s4 31 39 = sI Z 31 39 → MB s4 0 7 X ob nb tr (mkc X c k (sdw X c (wAt X c j)) (-mo (xK X k) + (u : Int))) (k + 1) n → sI s4 31 60 = R → mPB s4 R X ob nb tr := fun s4 f2 f3 f4 => ⟨f3.1, f3.2.1, f3.2.2.1, f3.2.2.2.1, f4, PZ.2.2.2.2.2.1, by rw [f2.1]; exact PZ.2.2.2.2.2.2.1, by rw [f2.2]; exact PZ.2.2.2.2.2.2.2⟩
      refine gRun7 d PZ.2.2.2.2.2.1 (Ends_0 xv (c0 := mkc X c k (sdw X c (wAt X c j)) (-mo (xK X k) + (u : Int))) (k0 := k + 1) (n0 := n) (fun _ => 0) (fun _ => 0)) rfl (Or.inl ⟨rfl, hM0⟩) PZ.2.2.2.2.2.2.2 PZ.2.2.2.2.2.2.1 ?_ ?_ none
      · intro s4 f1 f2 f3 f4 f5
        have i1 : (if (1 : Int) = 2 then (1 : Int) else 0) = 0 := by decide
        refine ⟨⟨f3.1, f3.2.1.2.2.2.2.2.2.2.2.2.2.2.2.2⟩, by rw [i1, if_pos rfl]; omega, ?_⟩
        rw [i1, if_pos rfl, show -mo (xK X k) + (u : Int) + 1 = -mo (xK X k) + ((u + 1 : Nat) : Int) by omega]
        exact ih (u + 1) s4 (by omega) (PBZ s4 f2 f3 f4) (frZ s4 f1 f2 f4) _
      · intro s4 f1 f2 f3 f4 f5
        exact absurd yes f5
  refine v_M_firstNo_0 d (lv : Int) σ K hB.1 x26 ?_
  rw [x36, Int.toNat_natCast, Int.toNat_natCast, wr_eq xq xo hL.2.2, Int.toNat_natCast, ← xk k]
  refine ⟨by omega, by omega, ⟨fun q => by omega, fun q => by omega, fun q => (wg q).1, fun q => by have := wg q; omega, fun q => by have := wg q; omega, fun q => by have := wg q; omega, fun q => by have := wg q; omega⟩, by omega, by omega, ?_⟩
  have := loop F 0 σ (by omega) hB (NFr_rf σ 7) (some (qi (mo (xK X k))))
  rw [show -mo (xK X k) + ((0 : Nat) : Int) = -mo (xK X k) by omega] at this
  exact this
