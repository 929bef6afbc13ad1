/-! the class: fill, lessen -/
theorem v_Weighings_fill_0 (d : Nat) (w : Nat) (p1 p2 p3 : Int) (σ : am_S) (K : am_S → Prop) (hW : WF σ w) (h :
  am_Runs PP MLL (d + 1) m_Weighings_fill 6 [some (qr (w, 10, 11)), some (qi p1), some (qi p2), some (qi p3), some (qi p2), some (qi p3), some (qi p1)] [] σ (kV K)) : am_Runs PP MLL (d + 1) m_Weighings_fill 0 [some (qr (w, 10, 11)), some (qi p1), some (qi p2), some (qi p3), none, none, none] [] σ (kV K) := am_wEF_ok (orc []) 200 (h)

theorem v_Weighings_fill_6 (d : Nat) (w : Nat) (v4 v5 v6 : Int) (z1 z2 z3 : Option am_V) (σ : am_S) (K : am_S → Prop) (hW : WF σ w) (h :
  (((sI σ w 6) ≤ v6 →
    K σ) ∧
  (¬ ((sI σ w 6) ≤ v6) →
    (0 ≤ v6 ∧ v6 < 12) ∧
    (-2147483648 ≤ (sI (putI σ (w + 4) (Int.toNat v6) (mi (sI σ (w + 3) (Int.toNat v6)) v4)) (w + 3) (Int.toNat v6)) - (sI (putI σ (w + 4) (Int.toNat v6) (mi (sI σ (w + 3) (Int.toNat v6)) v4)) (w + 4) (Int.toNat v6)) ∧ (sI (putI σ (w + 4) (Int.toNat v6) (mi (sI σ (w + 3) (Int.toNat v6)) v4)) (w + 3) (Int.toNat v6)) - (sI (putI σ (w + 4) (Int.toNat v6) (mi (sI σ (w + 3) (Int.toNat v6)) v4)) (w + 4) (Int.toNat v6)) < 2147483648) ∧
    (-2147483648 ≤ v4 - (sI (putI (putI σ (w + 4) (Int.toNat v6) (mi (sI σ (w + 3) (Int.toNat v6)) v4)) (w + 5) (Int.toNat v6) (mi ((sI (putI σ (w + 4) (Int.toNat v6) (mi (sI σ (w + 3) (Int.toNat v6)) v4)) (w + 3) (Int.toNat v6)) - (sI (putI σ (w + 4) (Int.toNat v6) (mi (sI σ (w + 3) (Int.toNat v6)) v4)) (w + 4) (Int.toNat v6))) v5)) (w + 4) (Int.toNat v6)) ∧ v4 - (sI (putI (putI σ (w + 4) (Int.toNat v6) (mi (sI σ (w + 3) (Int.toNat v6)) v4)) (w + 5) (Int.toNat v6) (mi ((sI (putI σ (w + 4) (Int.toNat v6) (mi (sI σ (w + 3) (Int.toNat v6)) v4)) (w + 3) (Int.toNat v6)) - (sI (putI σ (w + 4) (Int.toNat v6) (mi (sI σ (w + 3) (Int.toNat v6)) v4)) (w + 4) (Int.toNat v6))) v5)) (w + 4) (Int.toNat v6)) < 2147483648 ∧ -2147483648 ≤ v5 - (sI (putI (putI σ (w + 4) (Int.toNat v6) (mi (sI σ (w + 3) (Int.toNat v6)) v4)) (w + 5) (Int.toNat v6) (mi ((sI (putI σ (w + 4) (Int.toNat v6) (mi (sI σ (w + 3) (Int.toNat v6)) v4)) (w + 3) (Int.toNat v6)) - (sI (putI σ (w + 4) (Int.toNat v6) (mi (sI σ (w + 3) (Int.toNat v6)) v4)) (w + 4) (Int.toNat v6))) v5)) (w + 5) (Int.toNat v6)) ∧ v5 - (sI (putI (putI σ (w + 4) (Int.toNat v6) (mi (sI σ (w + 3) (Int.toNat v6)) v4)) (w + 5) (Int.toNat v6) (mi ((sI (putI σ (w + 4) (Int.toNat v6) (mi (sI σ (w + 3) (Int.toNat v6)) v4)) (w + 3) (Int.toNat v6)) - (sI (putI σ (w + 4) (Int.toNat v6) (mi (sI σ (w + 3) (Int.toNat v6)) v4)) (w + 4) (Int.toNat v6))) v5)) (w + 5) (Int.toNat v6)) < 2147483648 ∧ -2147483648 ≤ v6 + 1 ∧ v6 + 1 < 2147483648) ∧
    am_Runs PP MLL (d + 1) m_Weighings_fill 6 [some (qr (w, 10, 11)), z1, z2, (am_cl z3), some (qi (v4 - (sI (putI (putI σ (w + 4) (Int.toNat v6) (mi (sI σ (w + 3) (Int.toNat v6)) v4)) (w + 5) (Int.toNat v6) (mi ((sI (putI σ (w + 4) (Int.toNat v6) (mi (sI σ (w + 3) (Int.toNat v6)) v4)) (w + 3) (Int.toNat v6)) - (sI (putI σ (w + 4) (Int.toNat v6) (mi (sI σ (w + 3) (Int.toNat v6)) v4)) (w + 4) (Int.toNat v6))) v5)) (w + 4) (Int.toNat v6)))), some (qi (v5 - (sI (putI (putI σ (w + 4) (Int.toNat v6) (mi (sI σ (w + 3) (Int.toNat v6)) v4)) (w + 5) (Int.toNat v6) (mi ((sI (putI σ (w + 4) (Int.toNat v6) (mi (sI σ (w + 3) (Int.toNat v6)) v4)) (w + 3) (Int.toNat v6)) - (sI (putI σ (w + 4) (Int.toNat v6) (mi (sI σ (w + 3) (Int.toNat v6)) v4)) (w + 4) (Int.toNat v6))) v5)) (w + 5) (Int.toNat v6)))), some (qi (v6 + 1))] [] (putI (putI σ (w + 4) (Int.toNat v6) (mi (sI σ (w + 3) (Int.toNat v6)) v4)) (w + 5) (Int.toNat v6) (mi ((sI (putI σ (w + 4) (Int.toNat v6) (mi (sI σ (w + 3) (Int.toNat v6)) v4)) (w + 3) (Int.toNat v6)) - (sI (putI σ (w + 4) (Int.toNat v6) (mi (sI σ (w + 3) (Int.toNat v6)) v4)) (w + 4) (Int.toNat v6))) v5)) (kV K)))) : am_Runs PP MLL (d + 1) m_Weighings_fill 6 [some (qr (w, 10, 11)), z1, z2, z3, some (qi v4), some (qi v5), some (qi v6)] [] σ (kV K) := am_wEF_ok (orc [(11, w + 4, 20, 12), (14, w + 3, 20, 12), (21, w + 5, 20, 12), (24, w + 3, 20, 12), (28, w + 4, 20, 12), (37, w + 4, 20, 12), (44, w + 5, 20, 12)]) 200 (⟨rfl, ⟨fun c2 => (h.1 c2), fun c2 => ⟨⟨rfl, hW.2.2.2.1⟩, ⟨⟨rfl, hW.2.2.1⟩, ⟨⟨rfl, (h.2 c2).1.1, (h.2 c2).1.2⟩, c_min _  (⟨⟨rfl, (h.2 c2).1.1, (h.2 c2).1.2⟩, ⟨⟨rfl, hW.2.2.2.2⟩, ⟨⟨rfl, hW.2.2.1⟩, ⟨⟨rfl, (h.2 c2).1.1, (h.2 c2).1.2⟩, ⟨⟨rfl, hW.2.2.2.1⟩, ⟨⟨rfl, (h.2 c2).1.1, (h.2 c2).1.2⟩, ⟨⟨(h.2 c2).2.1.1, (h.2 c2).2.1.2⟩, c_min _  (⟨⟨rfl, (h.2 c2).1.1, (h.2 c2).1.2⟩, ⟨⟨rfl, hW.2.2.2.1⟩, ⟨⟨rfl, (h.2 c2).1.1, (h.2 c2).1.2⟩, ⟨⟨(h.2 c2).2.2.1.1, (h.2 c2).2.2.1.2.1⟩, ⟨⟨rfl, hW.2.2.2.2⟩, ⟨⟨rfl, (h.2 c2).1.1, (h.2 c2).1.2⟩, ⟨⟨(h.2 c2).2.2.1.2.2.1, (h.2 c2).2.2.1.2.2.2.1⟩, ⟨⟨(h.2 c2).2.2.1.2.2.2.2.1, (h.2 c2).2.2.1.2.2.2.2.2⟩, (h.2 c2).2.2.2⟩⟩⟩⟩⟩⟩⟩⟩)⟩⟩⟩⟩⟩⟩⟩)⟩⟩⟩⟩⟩)

def WS2 (σ : am_S) (w : Nat) (L R : Nat → Int) : am_S := rowI (rowI σ (w + 4) L) (w + 5) R
theorem WS2_4 {σ : am_S} {w : Nat} {L R : Nat → Int} : sI (WS2 σ w L R) (w + 4) = L := by
  unfold WS2
  rw [row_ne (by omega), row_at]
theorem WS2_5 {σ : am_S} {w : Nat} {L R : Nat → Int} : sI (WS2 σ w L R) (w + 5) = R := by
  unfold WS2
  rw [row_at]
theorem WS2_o {σ : am_S} {w x : Nat} {L R : Nat → Int} (h1 : x ≠ w + 4) (h2 : x ≠ w + 5) : sI (WS2 σ w L R) x = sI σ x := by
  unfold WS2
  rw [row_ne h2, row_ne h1]
theorem WS2_is {σ T : am_S} {w : Nat} {L R : Nat → Int} (h : T.2 = σ.2) (h4 : sI T (w + 4) = L) (h5 : sI T (w + 5) = R) (ho : ∀ x, x ≠ w + 4 → x ≠ w + 5 → sI T x = sI σ x) : T = WS2 σ w L R := by
  refine sto_ext (fun x y => ?_) h
  by_cases e1 : x = w + 4
  · rw [e1, h4, WS2_4]
  · by_cases e2 : x = w + 5
    · rw [e2, h5, WS2_5]
    · rw [ho x e1 e2, WS2_o e1 e2]
theorem fl_bd {sz L R : Nat → Int} {g : Nat} {wl wr : Int} (hl : 0 ≤ wl ∧ wl ≤ 1000) (hr : 0 ≤ wr ∧ wr ≤ 1000) : ∀ k, (∀ j, j < g + k → 0 ≤ sz j) → (0 ≤ (fl sz L R g wl wr k).1 ∧ (fl sz L R g wl wr k).1 ≤ 1000) ∧ 0 ≤ (fl sz L R g wl wr k).2.1 ∧ (fl sz L R g wl wr k).2.1 ≤ 1000
  | 0, _ => ⟨hl, hr⟩
  | k + 1, h => by
    have ih := fl_bd (sz := sz) (L := L) (R := R) (g := g) hl hr k (fun j hj => h j (by omega))
    have hz := h (g + k) (by omega)
    unfold fl flS
    dsimp only
    obtain ⟨q, hq⟩ : ∃ q, q = fl sz L R g wl wr k := ⟨_, rfl⟩
    rw [← hq] at ih ⊢
    have a := mi_l (sz (g + k)) q.1
    have b := mi_l (sz (g + k) - mi (sz (g + k)) q.1) q.2.1
    omega
theorem c_fill (d : Nat) {w g n : Nat} {wl wr : Int} {σ : am_S} {K : am_S → Prop} (hW : WF σ w) (hn : sI σ w 6 = n) (hn2 : n ≤ 12) (hg : g ≤ n) (hl : 0 ≤ wl ∧ wl ≤ 1000) (hr : 0 ≤ wr ∧ wr ≤ 1000) (hz : ∀ j, j < n → 0 ≤ sI σ (w + 3) j ∧ sI σ (w + 3) j ≤ 12)
    (h : K (WS2 σ w (fl (sI σ (w + 3)) (sI σ (w + 4)) (sI σ (w + 5)) g wl wr (n - g)).2.2.1 (fl (sI σ (w + 3)) (sI σ (w + 4)) (sI σ (w + 5)) g wl wr (n - g)).2.2.2)) : am_Calls PP MLL (d + 2) m_Weighings_fill [qr (w, 10, 11), qi (g : Int), qi wl, qi wr] σ (kV K) := by
  obtain ⟨F, hF⟩ : ∃ F, F = fl (sI σ (w + 3)) (sI σ (w + 4)) (sI σ (w + 5)) g wl wr := ⟨_, rfl⟩
  rw [← hF] at h
  have lp0 : ∀ k : Nat, k ≤ n - g → ∀ z1 z2 z3, am_Runs PP MLL (d + 1) m_Weighings_fill 6 [some (qr (w, 10, 11)), z1, z2, z3, some (qi (F k).1), some (qi (F k).2.1), some (qi ((g + k : Nat) : Int))] [] (WS2 σ w (F k).2.2.1 (F k).2.2.2) (kV K) := by
    refine lp ?_ ?_
    · intro z1 z2 z3
      refine v_Weighings_fill_6 d w _ _ _ z1 z2 z3 _ K hW ⟨fun _ => h, fun c => absurd ?_ c⟩
      rw [WS2_o (by omega) (by omega)]
      omega
    · intro k hk ih z1 z2 z3
      have hb := fl_bd (sz := sI σ (w + 3)) (L := sI σ (w + 4)) (R := sI σ (w + 5)) (g := g) hl hr k (fun j hj => (hz j (by omega)).1)
      rw [← hF] at hb
      have hzk := hz (g + k) (by omega)
      have es : F (k + 1) = flS (sI σ (w + 3)) (g + k) (F k) := by rw [hF]; rfl
      obtain ⟨q, hq⟩ : ∃ q, q = F k := ⟨_, rfl⟩
      rw [← hq] at hb es ⊢
      have a := mi_l (sI σ (w + 3) (g + k)) q.1
      have b := mi_l (sI σ (w + 3) (g + k) - mi (sI σ (w + 3) (g + k)) q.1) q.2.1
      refine v_Weighings_fill_6 d w _ _ _ z1 z2 z3 _ K hW ⟨fun c => absurd c (by rw [WS2_o (by omega) (by omega)]; omega), fun _ => ?_⟩
      have n34 : w + 3 ≠ w + 4 := by omega
      have n35 : w + 3 ≠ w + 5 := by omega
      have n45 : w + 4 ≠ w + 5 := by omega
      have e3 : sI (WS2 σ w q.2.2.1 q.2.2.2) (w + 3) (g + k) = sI σ (w + 3) (g + k) := by rw [WS2_o n34 n35]
      have pe : ∀ (T : am_S) (x i : Nat) (v : Int), sI (putI T x i v) x i = v := fun T x i v => by rw [put_at, if_pos rfl]
      simp only [Int.toNat_natCast, put_ne n34, put_ne n35, put_ne n45, pe, e3]
      refine ⟨by omega, by omega, by omega, ?_⟩
      have ih := ih z1 z2 (am_cl z3)
      rw [es] at ih
      refine runs_st (WS2_is (σ := σ) rfl ?_ ?_ ?_) ih
      · rw [put_ne n45]
        funext j
        rw [put_at, WS2_4]
        rfl
      · funext j
        rw [put_at, put_ne n45.symm, WS2_5]
        rfl
      · intro x h1 h2
        rw [put_ne h2, put_ne h1, WS2_o h1 h2]
  have e0 : F 0 = (wl, wr, sI σ (w + 4), sI σ (w + 5)) := by rw [hF]; rfl
  have h0 := lp0 0 (Nat.zero_le _) (some (qi (g : Int))) (some (qi wl)) (some (qi wr))
  rw [e0] at h0
  refine v_Weighings_fill_0 d w g wl wr σ K hW (runs_st (WS2_is rfl rfl rfl (fun _ _ _ => rfl)) h0)
theorem v_Weighings_lessen_0 (d : Nat) (w : Nat) (σ : am_S) (K : Int → am_S → Prop) (hW : WF σ w) (h :
  (-2147483648 ≤ (sI σ w 6) - 1 ∧ (sI σ w 6) - 1 < 2147483648) ∧
  am_Runs PP MLL (d + 2) m_Weighings_lessen 11 [some (qr (w, 10, 11)), some (qi 0), some (qi 0), some (qi 0), some (qi ((sI σ w 6) - 1)), none] [] σ (kI K)) : am_Runs PP MLL (d + 2) m_Weighings_lessen 0 [some (qr (w, 10, 11)), none, none, none, none, none] [] σ (kI K) := am_wEF_ok (orc []) 200 (⟨rfl, ⟨⟨h.1.1, h.1.2⟩, h.2⟩⟩)

theorem v_Weighings_lessen_11 (d : Nat) (w : Nat) (v1 v2 v3 v4 : Int) (z5 : Option am_V) (σ : am_S) (K : Int → am_S → Prop) (hW : WF σ w) (h :
  ((v4 < 0 →
    K 0 σ) ∧
  (¬ (v4 < 0) →
    (0 ≤ v4 ∧ v4 < 12) ∧
    (((sI σ (w + 5) (Int.toNat v4)) ≤ 0 →
      (-2147483648 ≤ v3 + (sI σ (w + 5) (Int.toNat v4)) ∧ v3 + (sI σ (w + 5) (Int.toNat v4)) < 2147483648 ∧ -2147483648 ≤ (sI σ (w + 3) (Int.toNat v4)) - (sI σ (w + 4) (Int.toNat v4)) ∧ (sI σ (w + 3) (Int.toNat v4)) - (sI σ (w + 4) (Int.toNat v4)) < 2147483648 ∧ -2147483648 ≤ ((sI σ (w + 3) (Int.toNat v4)) - (sI σ (w + 4) (Int.toNat v4))) + 1 ∧ ((sI σ (w + 3) (Int.toNat v4)) - (sI σ (w + 4) (Int.toNat v4))) + 1 < 2147483648) ∧
      (((sI σ (w + 4) (Int.toNat v4)) ≤ 0 →
        (-2147483648 ≤ v2 + (sI σ (w + 4) (Int.toNat v4)) ∧ v2 + (sI σ (w + 4) (Int.toNat v4)) < 2147483648 ∧ -2147483648 ≤ v1 + (sI σ (w + 3) (Int.toNat v4)) ∧ v1 + (sI σ (w + 3) (Int.toNat v4)) < 2147483648 ∧ -2147483648 ≤ v4 + (-1) ∧ v4 + (-1) < 2147483648) ∧
        am_Runs PP MLL (d + 2) m_Weighings_lessen 11 [some (qr (w, 10, 11)), some (qi (v1 + (sI σ (w + 3) (Int.toNat v4)))), some (qi (v2 + (sI σ (w + 4) (Int.toNat v4)))), some (qi (v3 + (sI σ (w + 5) (Int.toNat v4)))), some (qi (v4 + (-1))), some (qi (mi (((sI σ (w + 3) (Int.toNat v4)) - (sI σ (w + 4) (Int.toNat v4))) + 1) (v3 + (sI σ (w + 5) (Int.toNat v4)))))] [] σ (kI K)) ∧
      (¬ ((sI σ (w + 4) (Int.toNat v4)) ≤ 0) →
        (-2147483648 ≤ v2 + 1 ∧ v2 + 1 < 2147483648 ∧ -2147483648 ≤ (v2 + 1) + (v3 + (sI σ (w + 5) (Int.toNat v4))) ∧ (v2 + 1) + (v3 + (sI σ (w + 5) (Int.toNat v4))) < 2147483648 ∧ -2147483648 ≤ ((v2 + 1) + (v3 + (sI σ (w + 5) (Int.toNat v4)))) - (mi (((sI σ (w + 3) (Int.toNat v4)) - (sI σ (w + 4) (Int.toNat v4))) + 1) (v3 + (sI σ (w + 5) (Int.toNat v4)))) ∧ ((v2 + 1) + (v3 + (sI σ (w + 5) (Int.toNat v4)))) - (mi (((sI σ (w + 3) (Int.toNat v4)) - (sI σ (w + 4) (Int.toNat v4))) + 1) (v3 + (sI σ (w + 5) (Int.toNat v4)))) < 2147483648) ∧
        ((v1 < (((v2 + 1) + (v3 + (sI σ (w + 5) (Int.toNat v4)))) - (mi (((sI σ (w + 3) (Int.toNat v4)) - (sI σ (w + 4) (Int.toNat v4))) + 1) (v3 + (sI σ (w + 5) (Int.toNat v4))))) →
          (-2147483648 ≤ v2 + (sI σ (w + 4) (Int.toNat v4)) ∧ v2 + (sI σ (w + 4) (Int.toNat v4)) < 2147483648 ∧ -2147483648 ≤ v1 + (sI σ (w + 3) (Int.toNat v4)) ∧ v1 + (sI σ (w + 3) (Int.toNat v4)) < 2147483648 ∧ -2147483648 ≤ v4 + (-1) ∧ v4 + (-1) < 2147483648) ∧
          am_Runs PP MLL (d + 2) m_Weighings_lessen 11 [some (qr (w, 10, 11)), some (qi (v1 + (sI σ (w + 3) (Int.toNat v4)))), some (qi (v2 + (sI σ (w + 4) (Int.toNat v4)))), some (qi (v3 + (sI σ (w + 5) (Int.toNat v4)))), some (qi (v4 + (-1))), some (qi (mi (((sI σ (w + 3) (Int.toNat v4)) - (sI σ (w + 4) (Int.toNat v4))) + 1) (v3 + (sI σ (w + 5) (Int.toNat v4)))))] [] σ (kI K)) ∧
        (¬ (v1 < (((v2 + 1) + (v3 + (sI σ (w + 5) (Int.toNat v4)))) - (mi (((sI σ (w + 3) (Int.toNat v4)) - (sI σ (w + 4) (Int.toNat v4))) + 1) (v3 + (sI σ (w + 5) (Int.toNat v4)))))) →
          (-2147483648 ≤ (sI σ (w + 4) (Int.toNat v4)) - 1 ∧ (sI σ (w + 4) (Int.toNat v4)) - 1 < 2147483648 ∧ -2147483648 ≤ v4 + 1 ∧ v4 + 1 < 2147483648 ∧ -2147483648 ≤ (v3 + (sI σ (w + 5) (Int.toNat v4))) - (mi (((sI σ (w + 3) (Int.toNat v4)) - (sI σ (w + 4) (Int.toNat v4))) + 1) (v3 + (sI σ (w + 5) (Int.toNat v4)))) ∧ (v3 + (sI σ (w + 5) (Int.toNat v4))) - (mi (((sI σ (w + 3) (Int.toNat v4)) - (sI σ (w + 4) (Int.toNat v4))) + 1) (v3 + (sI σ (w + 5) (Int.toNat v4)))) < 2147483648) ∧
          am_Calls PP MLL (d + 2) m_Weighings_fill [qr (w, 10, 11), qi (v4 + 1), qi (v2 + 1), qi ((v3 + (sI σ (w + 5) (Int.toNat v4))) - (mi (((sI σ (w + 3) (Int.toNat v4)) - (sI σ (w + 4) (Int.toNat v4))) + 1) (v3 + (sI σ (w + 5) (Int.toNat v4)))))] (putI (putI σ (w + 4) (Int.toNat v4) ((sI σ (w + 4) (Int.toNat v4)) - 1)) (w + 5) (Int.toNat v4) (mi (((sI σ (w + 3) (Int.toNat v4)) - (sI σ (w + 4) (Int.toNat v4))) + 1) (v3 + (sI σ (w + 5) (Int.toNat v4))))) (kV fun s5 =>
            (WF s5 w) ∧
            K 1 s5)))))) ∧
    (¬ ((sI σ (w + 5) (Int.toNat v4)) ≤ 0) →
      (-2147483648 ≤ v2 + v3 ∧ v2 + v3 < 2147483648) ∧
      ((v1 ≤ (v2 + v3) →
        (-2147483648 ≤ v3 + (sI σ (w + 5) (Int.toNat v4)) ∧ v3 + (sI σ (w + 5) (Int.toNat v4)) < 2147483648 ∧ -2147483648 ≤ (sI σ (w + 3) (Int.toNat v4)) - (sI σ (w + 4) (Int.toNat v4)) ∧ (sI σ (w + 3) (Int.toNat v4)) - (sI σ (w + 4) (Int.toNat v4)) < 2147483648 ∧ -2147483648 ≤ ((sI σ (w + 3) (Int.toNat v4)) - (sI σ (w + 4) (Int.toNat v4))) + 1 ∧ ((sI σ (w + 3) (Int.toNat v4)) - (sI σ (w + 4) (Int.toNat v4))) + 1 < 2147483648) ∧
        (((sI σ (w + 4) (Int.toNat v4)) ≤ 0 →
          (-2147483648 ≤ v2 + (sI σ (w + 4) (Int.toNat v4)) ∧ v2 + (sI σ (w + 4) (Int.toNat v4)) < 2147483648 ∧ -2147483648 ≤ v1 + (sI σ (w + 3) (Int.toNat v4)) ∧ v1 + (sI σ (w + 3) (Int.toNat v4)) < 2147483648 ∧ -2147483648 ≤ v4 + (-1) ∧ v4 + (-1) < 2147483648) ∧
          am_Runs PP MLL (d + 2) m_Weighings_lessen 11 [some (qr (w, 10, 11)), some (qi (v1 + (sI σ (w + 3) (Int.toNat v4)))), some (qi (v2 + (sI σ (w + 4) (Int.toNat v4)))), some (qi (v3 + (sI σ (w + 5) (Int.toNat v4)))), some (qi (v4 + (-1))), some (qi (mi (((sI σ (w + 3) (Int.toNat v4)) - (sI σ (w + 4) (Int.toNat v4))) + 1) (v3 + (sI σ (w + 5) (Int.toNat v4)))))] [] σ (kI K)) ∧
        (¬ ((sI σ (w + 4) (Int.toNat v4)) ≤ 0) →
          (-2147483648 ≤ v2 + 1 ∧ v2 + 1 < 2147483648 ∧ -2147483648 ≤ (v2 + 1) + (v3 + (sI σ (w + 5) (Int.toNat v4))) ∧ (v2 + 1) + (v3 + (sI σ (w + 5) (Int.toNat v4))) < 2147483648 ∧ -2147483648 ≤ ((v2 + 1) + (v3 + (sI σ (w + 5) (Int.toNat v4)))) - (mi (((sI σ (w + 3) (Int.toNat v4)) - (sI σ (w + 4) (Int.toNat v4))) + 1) (v3 + (sI σ (w + 5) (Int.toNat v4)))) ∧ ((v2 + 1) + (v3 + (sI σ (w + 5) (Int.toNat v4)))) - (mi (((sI σ (w + 3) (Int.toNat v4)) - (sI σ (w + 4) (Int.toNat v4))) + 1) (v3 + (sI σ (w + 5) (Int.toNat v4)))) < 2147483648) ∧
          ((v1 < (((v2 + 1) + (v3 + (sI σ (w + 5) (Int.toNat v4)))) - (mi (((sI σ (w + 3) (Int.toNat v4)) - (sI σ (w + 4) (Int.toNat v4))) + 1) (v3 + (sI σ (w + 5) (Int.toNat v4))))) →
            (-2147483648 ≤ v2 + (sI σ (w + 4) (Int.toNat v4)) ∧ v2 + (sI σ (w + 4) (Int.toNat v4)) < 2147483648 ∧ -2147483648 ≤ v1 + (sI σ (w + 3) (Int.toNat v4)) ∧ v1 + (sI σ (w + 3) (Int.toNat v4)) < 2147483648 ∧ -2147483648 ≤ v4 + (-1) ∧ v4 + (-1) < 2147483648) ∧
            am_Runs PP MLL (d + 2) m_Weighings_lessen 11 [some (qr (w, 10, 11)), some (qi (v1 + (sI σ (w + 3) (Int.toNat v4)))), some (qi (v2 + (sI σ (w + 4) (Int.toNat v4)))), some (qi (v3 + (sI σ (w + 5) (Int.toNat v4)))), some (qi (v4 + (-1))), some (qi (mi (((sI σ (w + 3) (Int.toNat v4)) - (sI σ (w + 4) (Int.toNat v4))) + 1) (v3 + (sI σ (w + 5) (Int.toNat v4)))))] [] σ (kI K)) ∧
          (¬ (v1 < (((v2 + 1) + (v3 + (sI σ (w + 5) (Int.toNat v4)))) - (mi (((sI σ (w + 3) (Int.toNat v4)) - (sI σ (w + 4) (Int.toNat v4))) + 1) (v3 + (sI σ (w + 5) (Int.toNat v4)))))) →
            (-2147483648 ≤ (sI σ (w + 4) (Int.toNat v4)) - 1 ∧ (sI σ (w + 4) (Int.toNat v4)) - 1 < 2147483648 ∧ -2147483648 ≤ v4 + 1 ∧ v4 + 1 < 2147483648 ∧ -2147483648 ≤ (v3 + (sI σ (w + 5) (Int.toNat v4))) - (mi (((sI σ (w + 3) (Int.toNat v4)) - (sI σ (w + 4) (Int.toNat v4))) + 1) (v3 + (sI σ (w + 5) (Int.toNat v4)))) ∧ (v3 + (sI σ (w + 5) (Int.toNat v4))) - (mi (((sI σ (w + 3) (Int.toNat v4)) - (sI σ (w + 4) (Int.toNat v4))) + 1) (v3 + (sI σ (w + 5) (Int.toNat v4)))) < 2147483648) ∧
            am_Calls PP MLL (d + 2) m_Weighings_fill [qr (w, 10, 11), qi (v4 + 1), qi (v2 + 1), qi ((v3 + (sI σ (w + 5) (Int.toNat v4))) - (mi (((sI σ (w + 3) (Int.toNat v4)) - (sI σ (w + 4) (Int.toNat v4))) + 1) (v3 + (sI σ (w + 5) (Int.toNat v4)))))] (putI (putI σ (w + 4) (Int.toNat v4) ((sI σ (w + 4) (Int.toNat v4)) - 1)) (w + 5) (Int.toNat v4) (mi (((sI σ (w + 3) (Int.toNat v4)) - (sI σ (w + 4) (Int.toNat v4))) + 1) (v3 + (sI σ (w + 5) (Int.toNat v4))))) (kV fun s9 =>
              (WF s9 w) ∧
              K 1 s9)))))) ∧
      (¬ (v1 ≤ (v2 + v3)) →
        (-2147483648 ≤ (sI σ (w + 5) (Int.toNat v4)) - 1 ∧ (sI σ (w + 5) (Int.toNat v4)) - 1 < 2147483648 ∧ -2147483648 ≤ v4 + 1 ∧ v4 + 1 < 2147483648 ∧ -2147483648 ≤ v3 + 1 ∧ v3 + 1 < 2147483648) ∧
        am_Calls PP MLL (d + 2) m_Weighings_fill [qr (w, 10, 11), qi (v4 + 1), qi v2, qi (v3 + 1)] (putI σ (w + 5) (Int.toNat v4) ((sI σ (w + 5) (Int.toNat v4)) - 1)) (kV fun s10 =>
          (WF s10 w) ∧
          K 1 s10)))))))) : am_Runs PP MLL (d + 2) m_Weighings_lessen 11 [some (qr (w, 10, 11)), some (qi v1), some (qi v2), some (qi v3), some (qi v4), z5] [] σ (kI K) := am_wEF_ok (orc [(14, w + 5, 20, 12), (24, w + 5, 20, 12), (44, w + 5, 20, 12), (50, w + 3, 20, 12), (54, w + 4, 20, 12), (64, w + 4, 20, 12), (78, w + 4, 20, 12), (86, w + 5, 20, 12), (105, w + 4, 20, 12), (112, w + 3, 20, 12)]) 200 (⟨fun c1 => ⟨(Or.inl rfl), (h.1 c1)⟩, fun c1 => ⟨⟨rfl, hW.2.2.2.2⟩, ⟨⟨rfl, (h.2 c1).1.1, (h.2 c1).1.2⟩, ⟨fun c2 => ⟨⟨rfl, hW.2.2.2.2⟩, ⟨⟨rfl, (h.2 c1).1.1, (h.2 c1).1.2⟩, ⟨⟨((h.2 c1).2.1 c2).1.1, ((h.2 c1).2.1 c2).1.2.1⟩, ⟨⟨rfl, hW.2.2.1⟩, ⟨⟨rfl, (h.2 c1).1.1, (h.2 c1).1.2⟩, ⟨⟨rfl, hW.2.2.2.1⟩, ⟨⟨rfl, (h.2 c1).1.1, (h.2 c1).1.2⟩, ⟨⟨((h.2 c1).2.1 c2).1.2.2.1, ((h.2 c1).2.1 c2).1.2.2.2.1⟩, ⟨⟨((h.2 c1).2.1 c2).1.2.2.2.2.1, ((h.2 c1).2.1 c2).1.2.2.2.2.2⟩, c_min _  (⟨⟨rfl, hW.2.2.2.1⟩, ⟨⟨rfl, (h.2 c1).1.1, (h.2 c1).1.2⟩, ⟨fun c3 => ⟨⟨rfl, hW.2.2.2.1⟩, ⟨⟨rfl, (h.2 c1).1.1, (h.2 c1).1.2⟩, ⟨⟨(((h.2 c1).2.1 c2).2.1 c3).1.1, (((h.2 c1).2.1 c2).2.1 c3).1.2.1⟩, ⟨⟨rfl, hW.2.2.1⟩, ⟨⟨rfl, (h.2 c1).1.1, (h.2 c1).1.2⟩, ⟨⟨(((h.2 c1).2.1 c2).2.1 c3).1.2.2.1, (((h.2 c1).2.1 c2).2.1 c3).1.2.2.2.1⟩, ⟨⟨(((h.2 c1).2.1 c2).2.1 c3).1.2.2.2.2.1, (((h.2 c1).2.1 c2).2.1 c3).1.2.2.2.2.2⟩, (((h.2 c1).2.1 c2).2.1 c3).2⟩⟩⟩⟩⟩⟩⟩, fun c3 => ⟨⟨(((h.2 c1).2.1 c2).2.2 c3).1.1, (((h.2 c1).2.1 c2).2.2 c3).1.2.1⟩, ⟨⟨(((h.2 c1).2.1 c2).2.2 c3).1.2.2.1, (((h.2 c1).2.1 c2).2.2 c3).1.2.2.2.1⟩, ⟨⟨(((h.2 c1).2.1 c2).2.2 c3).1.2.2.2.2.1, (((h.2 c1).2.1 c2).2.2 c3).1.2.2.2.2.2⟩, ⟨fun c4 => ⟨⟨rfl, hW.2.2.2.1⟩, ⟨⟨rfl, (h.2 c1).1.1, (h.2 c1).1.2⟩, ⟨⟨((((h.2 c1).2.1 c2).2.2 c3).2.1 c4).1.1, ((((h.2 c1).2.1 c2).2.2 c3).2.1 c4).1.2.1⟩, ⟨⟨rfl, hW.2.2.1⟩, ⟨⟨rfl, (h.2 c1).1.1, (h.2 c1).1.2⟩, ⟨⟨((((h.2 c1).2.1 c2).2.2 c3).2.1 c4).1.2.2.1, ((((h.2 c1).2.1 c2).2.2 c3).2.1 c4).1.2.2.2.1⟩, ⟨⟨((((h.2 c1).2.1 c2).2.2 c3).2.1 c4).1.2.2.2.2.1, ((((h.2 c1).2.1 c2).2.2 c3).2.1 c4).1.2.2.2.2.2⟩, ((((h.2 c1).2.1 c2).2.2 c3).2.1 c4).2⟩⟩⟩⟩⟩⟩⟩, fun c4 => ⟨⟨rfl, hW.2.2.2.1⟩, ⟨⟨rfl, (h.2 c1).1.1, (h.2 c1).1.2⟩, ⟨⟨((((h.2 c1).2.1 c2).2.2 c3).2.2 c4).1.1, ((((h.2 c1).2.1 c2).2.2 c3).2.2 c4).1.2.1⟩, ⟨⟨rfl, (h.2 c1).1.1, (h.2 c1).1.2⟩, ⟨⟨rfl, hW.2.2.2.2⟩, ⟨⟨rfl, (h.2 c1).1.1, (h.2 c1).1.2⟩, ⟨⟨((((h.2 c1).2.1 c2).2.2 c3).2.2 c4).1.2.2.1, ((((h.2 c1).2.1 c2).2.2 c3).2.2 c4).1.2.2.2.1⟩, ⟨⟨(((h.2 c1).2.1 c2).2.2 c3).1.1, (((h.2 c1).2.1 c2).2.2 c3).1.2.1⟩, ⟨⟨((((h.2 c1).2.1 c2).2.2 c3).2.2 c4).1.2.2.2.2.1, ((((h.2 c1).2.1 c2).2.2 c3).2.2 c4).1.2.2.2.2.2⟩, ⟨rfl, (am_cV ((((h.2 c1).2.1 c2).2.2 c3).2.2 c4).2 fun s5 h5 => ⟨(Or.inr rfl), h5.2⟩)⟩⟩⟩⟩⟩⟩⟩⟩⟩⟩⟩⟩⟩⟩⟩⟩⟩)⟩⟩⟩⟩⟩⟩⟩⟩⟩, fun c2 => ⟨⟨((h.2 c1).2.2 c2).1.1, ((h.2 c1).2.2 c2).1.2⟩, ⟨fun c6 => ⟨⟨rfl, hW.2.2.2.2⟩, ⟨⟨rfl, (h.2 c1).1.1, (h.2 c1).1.2⟩, ⟨⟨(((h.2 c1).2.2 c2).2.1 c6).1.1, (((h.2 c1).2.2 c2).2.1 c6).1.2.1⟩, ⟨⟨rfl, hW.2.2.1⟩, ⟨⟨rfl, (h.2 c1).1.1, (h.2 c1).1.2⟩, ⟨⟨rfl, hW.2.2.2.1⟩, ⟨⟨rfl, (h.2 c1).1.1, (h.2 c1).1.2⟩, ⟨⟨(((h.2 c1).2.2 c2).2.1 c6).1.2.2.1, (((h.2 c1).2.2 c2).2.1 c6).1.2.2.2.1⟩, ⟨⟨(((h.2 c1).2.2 c2).2.1 c6).1.2.2.2.2.1, (((h.2 c1).2.2 c2).2.1 c6).1.2.2.2.2.2⟩, c_min _  (⟨⟨rfl, hW.2.2.2.1⟩, ⟨⟨rfl, (h.2 c1).1.1, (h.2 c1).1.2⟩, ⟨fun c7 => ⟨⟨rfl, hW.2.2.2.1⟩, ⟨⟨rfl, (h.2 c1).1.1, (h.2 c1).1.2⟩, ⟨⟨((((h.2 c1).2.2 c2).2.1 c6).2.1 c7).1.1, ((((h.2 c1).2.2 c2).2.1 c6).2.1 c7).1.2.1⟩, ⟨⟨rfl, hW.2.2.1⟩, ⟨⟨rfl, (h.2 c1).1.1, (h.2 c1).1.2⟩, ⟨⟨((((h.2 c1).2.2 c2).2.1 c6).2.1 c7).1.2.2.1, ((((h.2 c1).2.2 c2).2.1 c6).2.1 c7).1.2.2.2.1⟩, ⟨⟨((((h.2 c1).2.2 c2).2.1 c6).2.1 c7).1.2.2.2.2.1, ((((h.2 c1).2.2 c2).2.1 c6).2.1 c7).1.2.2.2.2.2⟩, ((((h.2 c1).2.2 c2).2.1 c6).2.1 c7).2⟩⟩⟩⟩⟩⟩⟩, fun c7 => ⟨⟨((((h.2 c1).2.2 c2).2.1 c6).2.2 c7).1.1, ((((h.2 c1).2.2 c2).2.1 c6).2.2 c7).1.2.1⟩, ⟨⟨((((h.2 c1).2.2 c2).2.1 c6).2.2 c7).1.2.2.1, ((((h.2 c1).2.2 c2).2.1 c6).2.2 c7).1.2.2.2.1⟩, ⟨⟨((((h.2 c1).2.2 c2).2.1 c6).2.2 c7).1.2.2.2.2.1, ((((h.2 c1).2.2 c2).2.1 c6).2.2 c7).1.2.2.2.2.2⟩, ⟨fun c8 => ⟨⟨rfl, hW.2.2.2.1⟩, ⟨⟨rfl, (h.2 c1).1.1, (h.2 c1).1.2⟩, ⟨⟨(((((h.2 c1).2.2 c2).2.1 c6).2.2 c7).2.1 c8).1.1, (((((h.2 c1).2.2 c2).2.1 c6).2.2 c7).2.1 c8).1.2.1⟩, ⟨⟨rfl, hW.2.2.1⟩, ⟨⟨rfl, (h.2 c1).1.1, (h.2 c1).1.2⟩, ⟨⟨(((((h.2 c1).2.2 c2).2.1 c6).2.2 c7).2.1 c8).1.2.2.1, (((((h.2 c1).2.2 c2).2.1 c6).2.2 c7).2.1 c8).1.2.2.2.1⟩, ⟨⟨(((((h.2 c1).2.2 c2).2.1 c6).2.2 c7).2.1 c8).1.2.2.2.2.1, (((((h.2 c1).2.2 c2).2.1 c6).2.2 c7).2.1 c8).1.2.2.2.2.2⟩, (((((h.2 c1).2.2 c2).2.1 c6).2.2 c7).2.1 c8).2⟩⟩⟩⟩⟩⟩⟩, fun c8 => ⟨⟨rfl, hW.2.2.2.1⟩, ⟨⟨rfl, (h.2 c1).1.1, (h.2 c1).1.2⟩, ⟨⟨(((((h.2 c1).2.2 c2).2.1 c6).2.2 c7).2.2 c8).1.1, (((((h.2 c1).2.2 c2).2.1 c6).2.2 c7).2.2 c8).1.2.1⟩, ⟨⟨rfl, (h.2 c1).1.1, (h.2 c1).1.2⟩, ⟨⟨rfl, hW.2.2.2.2⟩, ⟨⟨rfl, (h.2 c1).1.1, (h.2 c1).1.2⟩, ⟨⟨(((((h.2 c1).2.2 c2).2.1 c6).2.2 c7).2.2 c8).1.2.2.1, (((((h.2 c1).2.2 c2).2.1 c6).2.2 c7).2.2 c8).1.2.2.2.1⟩, ⟨⟨((((h.2 c1).2.2 c2).2.1 c6).2.2 c7).1.1, ((((h.2 c1).2.2 c2).2.1 c6).2.2 c7).1.2.1⟩, ⟨⟨(((((h.2 c1).2.2 c2).2.1 c6).2.2 c7).2.2 c8).1.2.2.2.2.1, (((((h.2 c1).2.2 c2).2.1 c6).2.2 c7).2.2 c8).1.2.2.2.2.2⟩, ⟨rfl, (am_cV (((((h.2 c1).2.2 c2).2.1 c6).2.2 c7).2.2 c8).2 fun s9 h9 => ⟨(Or.inr rfl), h9.2⟩)⟩⟩⟩⟩⟩⟩⟩⟩⟩⟩⟩⟩⟩⟩⟩⟩⟩)⟩⟩⟩⟩⟩⟩⟩⟩⟩, fun c6 => ⟨⟨rfl, hW.2.2.2.2⟩, ⟨⟨rfl, (h.2 c1).1.1, (h.2 c1).1.2⟩, ⟨⟨(((h.2 c1).2.2 c2).2.2 c6).1.1, (((h.2 c1).2.2 c2).2.2 c6).1.2.1⟩, ⟨⟨rfl, (h.2 c1).1.1, (h.2 c1).1.2⟩, ⟨⟨(((h.2 c1).2.2 c2).2.2 c6).1.2.2.1, (((h.2 c1).2.2 c2).2.2 c6).1.2.2.2.1⟩, ⟨⟨(((h.2 c1).2.2 c2).2.2 c6).1.2.2.2.2.1, (((h.2 c1).2.2 c2).2.2 c6).1.2.2.2.2.2⟩, ⟨rfl, (am_cV (((h.2 c1).2.2 c2).2.2 c6).2 fun s10 h10 => ⟨(Or.inr rfl), h10.2⟩)⟩⟩⟩⟩⟩⟩⟩⟩⟩⟩⟩⟩⟩)

/-- less for one weighing: the class's store -/
theorem c_lessen (d : Nat) {w n : Nat} {σ : am_S} {K : Int → am_S → Prop} (hW : WF σ w) (hn : sI σ w 6 = n) (hn2 : n ≤ 12) (hv : ∀ j, j < n → 0 ≤ sI σ (w + 3) j ∧ sI σ (w + 3) j ≤ 12 ∧ 0 ≤ sI σ (w + 4) j ∧ 0 ≤ sI σ (w + 5) j ∧ sI σ (w + 4) j + sI σ (w + 5) j ≤ sI σ (w + 3) j)
    (h0 : lsn (sI σ (w + 3)) (sI σ (w + 4)) (sI σ (w + 5)) n n 0 0 0 = none → K 0 σ) (h1 : ∀ q, lsn (sI σ (w + 3)) (sI σ (w + 4)) (sI σ (w + 5)) n n 0 0 0 = some q → K 1 (WS2 σ w q.1 q.2)) : am_Calls PP MLL (d + 3) m_Weighings_lessen [qr (w, 10, 11)] σ (kI K) := by
  obtain ⟨Z, hZ⟩ : ∃ Z, Z = sI σ (w + 3) := ⟨_, rfl⟩
  obtain ⟨L, hL⟩ : ∃ L, L = sI σ (w + 4) := ⟨_, rfl⟩
  obtain ⟨R, hR⟩ : ∃ R, R = sI σ (w + 5) := ⟨_, rfl⟩
  rw [← hZ, ← hL, ← hR] at h0 h1
  have hv' : ∀ j, j < n → 0 ≤ Z j ∧ Z j ≤ 12 ∧ 0 ≤ L j ∧ 0 ≤ R j ∧ L j + R j ≤ Z j := by
    rw [hZ, hL, hR]
    exact hv
  have lp0 : ∀ g : Nat, g ≤ n → ∀ (room wl wr : Int) z5, (0 ≤ room ∧ room ≤ 12 * ((n : Int) - g)) → (0 ≤ wl ∧ wl ≤ 12 * ((n : Int) - g)) → (0 ≤ wr ∧ wr ≤ 12 * ((n : Int) - g)) → wl + wr ≤ room → lsn Z L R n n 0 0 0 = lsn Z L R n g room wl wr → am_Runs PP MLL (d + 2) m_Weighings_lessen 11 [some (qr (w, 10, 11)), some (qi room), some (qi wl), some (qi wr), some (qi ((g : Int) - 1)), z5] [] σ (kI K) := by
    intro g
    induction g with
    | zero =>
      intro _ room wl wr z5 _ _ _ _ he
      exact v_Weighings_lessen_11 d w _ _ _ _ z5 σ K hW ⟨fun _ => h0 (by rw [he]; rfl), fun c => absurd (by omega) c⟩
    | succ g ih =>
      intro hg room wl wr z5 b1 b2 b3 b4 he
      have vg := hv' g (by omega)
      have et : Int.toNat (((g + 1 : Nat) : Int) - 1) = g := by omega
      have eg : ((g + 1 : Nat) : Int) - 1 = (g : Int) := by omega
      have el : lsn Z L R n (g + 1) room wl wr = if 0 < R g ∧ wl + wr < room then some (fl Z L (ud R g (R g - 1)) (g + 1) wl (wr + 1) (n - (g + 1))).2.2 else if 0 < L g ∧ wl + 1 + (wr + R g) - mi (Z g - L g + 1) (wr + R g) ≤ room then some (fl Z (ud L g (L g - 1)) (ud R g (mi (Z g - L g + 1) (wr + R g))) (g + 1) (wl + 1) (wr + R g - mi (Z g - L g + 1) (wr + R g)) (n - (g + 1))).2.2 else lsn Z L R n g (room + Z g) (wl + L g) (wr + R g) := rfl
      rw [el] at he
      have m1 := mi_l (Z g - L g + 1) (wr + R g)
      have nxt : ∀ z5, ¬ (0 < R g ∧ wl + wr < room) → ¬ (0 < L g ∧ wl + 1 + (wr + R g) - mi (Z g - L g + 1) (wr + R g) ≤ room) → am_Runs PP MLL (d + 2) m_Weighings_lessen 11 [some (qr (w, 10, 11)), some (qi (room + Z g)), some (qi (wl + L g)), some (qi (wr + R g)), some (qi ((g : Int) - 1)), z5] [] σ (kI K) := by
        intro z5 c1 c2
        rw [if_neg c1, if_neg c2] at he
        exact ih (by omega) _ _ _ z5 (by omega) (by omega) (by omega) (by omega) he
      -- the left number is one less
      have left : 0 < L g → wl + 1 + (wr + R g) - mi (Z g - L g + 1) (wr + R g) ≤ room → ¬ (0 < R g ∧ wl + wr < room) → am_Calls PP MLL (d + 2) m_Weighings_fill [qr (w, 10, 11), qi ((g : Int) + 1), qi (wl + 1), qi ((wr + R g) - mi (Z g - L g + 1) (wr + R g))] (putI (putI σ (w + 4) g (L g - 1)) (w + 5) g (mi (Z g - L g + 1) (wr + R g))) (kV fun s5 => (WF s5 w) ∧ K 1 s5) := by
        intro c1 c2 c0
        rw [if_neg c0, if_pos ⟨c1, c2⟩] at he
        have e3 : sI (putI (putI σ (w + 4) g (L g - 1)) (w + 5) g (mi (Z g - L g + 1) (wr + R g))) (w + 3) = Z := by rw [put_ne (by omega), put_ne (by omega), hZ]
        have e4 : sI (putI (putI σ (w + 4) g (L g - 1)) (w + 5) g (mi (Z g - L g + 1) (wr + R g))) (w + 4) = ud L g (L g - 1) := by
          rw [put_ne (by omega)]
          funext j
          rw [put_at, ← hL]
          rfl
        have e5 : sI (putI (putI σ (w + 4) g (L g - 1)) (w + 5) g (mi (Z g - L g + 1) (wr + R g))) (w + 5) = ud R g (mi (Z g - L g + 1) (wr + R g)) := by
          funext j
          rw [put_at, put_ne (by omega), ← hR]
          rfl
        refine c_fill d (g := g + 1) (n := n) hW ?_ hn2 (by omega) (by omega) (by omega) ?_ ⟨hW, ?_⟩
        · rw [put_ne (by omega), put_ne (by omega)]
          exact hn
        · rw [e3]
          exact fun j hj => ⟨(hv' j hj).1, (hv' j hj).2.1⟩
        · rw [e3, e4, e5]
          have q := h1 _ he
          refine kEq q rfl ?_
          symm
          refine WS2_is rfl WS2_4 WS2_5 (fun x x1 x2 => ?_)
          rw [WS2_o x1 x2, put_ne x2, put_ne x1]
      refine v_Weighings_lessen_11 d w _ _ _ _ z5 σ K hW ⟨fun c => absurd c (by omega), fun _ => ?_⟩
      rw [et, eg, ← hZ, ← hL, ← hR]
      have low : am_Runs PP MLL (d + 2) m_Weighings_lessen 11 [some (qr (w, 10, 11)), some (qi (room + Z g)), some (qi (wl + L g)), some (qi (wr + R g)), some (qi ((g : Int) - 1)), some (qi (mi (Z g - L g + 1) (wr + R g)))] [] σ (kI K) → am_Runs PP MLL (d + 2) m_Weighings_lessen 11 [some (qr (w, 10, 11)), some (qi (room + Z g)), some (qi (wl + L g)), some (qi (wr + R g)), some (qi ((g : Int) + (-1))), some (qi (mi (Z g - L g + 1) (wr + R g)))] [] σ (kI K) := fun q => q
      refine ⟨by omega, fun c1 => ⟨by omega, fun c2 => ⟨by omega, ?_⟩, fun c2 => ⟨by omega, fun c3 => ⟨by omega, ?_⟩, fun c3 => ⟨by omega, ?_⟩⟩⟩, fun c1 => ⟨by omega, fun c2 => ⟨by omega, fun c3 => ⟨by omega, ?_⟩, fun c3 => ⟨by omega, fun c4 => ⟨by omega, ?_⟩, fun c4 => ⟨by omega, ?_⟩⟩⟩, fun c2 => ⟨by omega, ?_⟩⟩⟩
      · exact low (nxt _ (by omega) (by omega))
      · exact low (nxt _ (by omega) (by omega))
      · exact left (by omega) (by omega) (by omega)
      · exact low (nxt _ (by omega) (by omega))
      · exact low (nxt _ (by omega) (by omega))
      · exact left (by omega) (by omega) (by omega)
      · rw [if_pos ⟨by omega, by omega⟩] at he
        have e3 : sI (putI σ (w + 5) g (R g - 1)) (w + 3) = Z := by rw [put_ne (by omega), hZ]
        have e4 : sI (putI σ (w + 5) g (R g - 1)) (w + 4) = L := by rw [put_ne (by omega), hL]
        have e5 : sI (putI σ (w + 5) g (R g - 1)) (w + 5) = ud R g (R g - 1) := by
          funext j
          rw [put_at, ← hR]
          rfl
        refine c_fill d (g := g + 1) (n := n) hW ?_ hn2 (by omega) (by omega) (by omega) ?_ ⟨hW, ?_⟩
        · rw [put_ne (by omega)]
          exact hn
        · rw [e3]
          exact fun j hj => ⟨(hv' j hj).1, (hv' j hj).2.1⟩
        · rw [e3, e4, e5]
          have q := h1 _ he
          refine kEq q rfl ?_
          symm
          refine WS2_is rfl WS2_4 WS2_5 (fun x x1 x2 => ?_)
          rw [WS2_o x1 x2, put_ne x2]
  refine v_Weighings_lessen_0 d w σ K hW ?_
  rw [hn]
  exact ⟨by omega, lp0 n (Nat.le_refl _) 0 0 0 _ (by omega) (by omega) (by omega) (by omega) rfl⟩
