/-! the reference: records become a tree, the way up, whole -/
/-- the slot of an outcome -/
def co (X : sX) (k u : Nat) : Nat := u + 3 - (mo (xK X k)).toNat
theorem co_bd {X : sX} {k u : Nat} (h : u < oc X k) : co X k u < 7 ∧ ∀ v, v < oc X k → co X k v = co X k u → v = u := by
  unfold co
  rcases oc_37 X k with ⟨a, b⟩ | ⟨a, b⟩ <;> (rw [b]; rw [a] at h; refine ⟨by omega, fun v hv e => ?_⟩; rw [a] at hv; omega)
theorem cl_co {X : sX} {k u i : Nat} (h : u < oc X k) : cl X k i u = 12 * i + 5 + co X k u := by
  unfold co cl
  rcases oc_37 X k with ⟨a, b⟩ | ⟨a, b⟩ <;> (rw [b]; rw [a] at h; omega)
theorem mo_n (X : sX) (k : Nat) : (mo (xK X k)).toNat ≤ 3 ∧ oc X k ≤ (mo (xK X k)).toNat + 4 ∧ (((mo (xK X k)).toNat : Nat) : Int) = mo (xK X k) ∧ oc X k ≤ 7 := by
  rcases oc_37 X k with ⟨a, b⟩ | ⟨a, b⟩ <;> (rw [b, a]; exact ⟨by decide, by decide, by decide, by decide⟩)
theorem tsz_z {X : sX} {c : Nat → Int} {k : Nat} (h : ¬ mn X c ≤ 0) : tsz X 0 c k = 1 := by
  unfold tsz
  rw [if_neg h]
theorem RS_rt {σ : am_S} {X : sX} {tr : Nat → Nat} : ∀ n (c : Nat → Int) k dp o a, ¬ mn X c ≤ 0 → RS σ X tr n c k dp o a → sI σ 72 (a + tsz X n c k - 1) = dp ∧ sI σ 73 (a + tsz X n c k - 1) = o
  | 0, c, k, dp, o, a, hm, h => by
    rw [tsz_z hm]
    exact h.2.2.2.2
  | n + 1, c, k, dp, o, a, hm, h => by
    rcases h with ⟨q1, q2⟩ | ⟨q1, q2, q3⟩
    · rw [tsz_1 hm q1]
      exact q2.2.2.2.2
    · rw [tsz_s q1, show a + (1 + tof X n c k (wAt X c (yj X n c k)) (oc X k)) - 1 = a + tof X n c k (wAt X c (yj X n c k)) (oc X k) by omega]
      exact q3.2.2.2.2
/-- the tree of records -/
def hBT (s : am_S) (X : sX) : Nat → (Nat → Int) → Nat → Nat → Prop
  | 0, _, _, a => sI s 74 a = 1 ∧ ∀ o, o < 7 → sI s 77 (7 * a + o) = -1
  | n + 1, c, k, a => (mn X c < 2 ∧ sI s 74 a = 1 ∧ ∀ o, o < 7 → sI s 77 (7 * a + o) = -1) ∨ (¬ mn X c < 2 ∧ sI s 74 (a + tof X n c k (wAt X c (yj X n c k)) (oc X k)) = ((1 + tof X n c k (wAt X c (yj X n c k)) (oc X k) : Nat) : Int) ∧ (∀ o, o < 7 → (∀ u, u < oc X k → o ≠ co X k u) → sI s 77 (7 * (a + tof X n c k (wAt X c (yj X n c k)) (oc X k)) + o) = -1) ∧ ∀ u, u < oc X k → (mn X (chd X c k (wAt X c (yj X n c k)) u) ≤ 0 ∧ sI s 77 (7 * (a + tof X n c k (wAt X c (yj X n c k)) (oc X k)) + co X k u) = -1) ∨ (¬ mn X (chd X c k (wAt X c (yj X n c k)) u) ≤ 0 ∧ sI s 77 (7 * (a + tof X n c k (wAt X c (yj X n c k)) (oc X k)) + co X k u) = ((a + tof X n c k (wAt X c (yj X n c k)) (u + 1) - 1 : Nat) : Int) ∧ hBT s X n (chd X c k (wAt X c (yj X n c k)) u) (k + 1) (a + tof X n c k (wAt X c (yj X n c k)) (u))))
theorem hBT_fr {σ s : am_S} {X : sX} : ∀ n (c : Nat → Int) k a, ¬ mn X c ≤ 0 → (∀ j, a ≤ j → j < a + tsz X n c k → sI s 74 j = sI σ 74 j) → (∀ j, 7 * a ≤ j → j < 7 * (a + tsz X n c k) → sI s 77 j = sI σ 77 j) → hBT σ X n c k a → hBT s X n c k a
  | 0, c, k, a, hm, h1, h2, h => by
    rw [tsz_z hm] at h1 h2
    exact ⟨by rw [h1 a (by omega) (by omega)]; exact h.1, fun o ho => by rw [h2 _ (by omega) (by omega)]; exact h.2 o ho⟩
  | n + 1, c, k, a, hm, h1, h2, h => by
    rcases h with ⟨q1, q2, q3⟩ | ⟨q1, q2, q3, q4⟩
    · rw [tsz_1 hm q1] at h1 h2
      exact Or.inl ⟨q1, by rw [h1 a (by omega) (by omega)]; exact q2, fun o ho => by rw [h2 _ (by omega) (by omega)]; exact q3 o ho⟩
    · rw [tsz_s q1] at h1 h2
      refine Or.inr ⟨q1, by rw [h1 _ (by omega) (by omega)]; exact q2, fun o ho hn => by rw [h2 _ (by omega) (by omega)]; exact q3 o ho hn, fun u hu => ?_⟩
      have hc := (co_bd hu).1
      rcases q4 u hu with ⟨a1, a2⟩ | ⟨a1, a2, a3⟩
      · exact Or.inl ⟨a1, by rw [h2 _ (by omega) (by omega)]; exact a2⟩
      · have m1 := tof_s X n c k (wAt X c (yj X n c k)) u
        have m2 : tof X n c k (wAt X c (yj X n c k)) (u + 1) ≤ tof X n c k (wAt X c (yj X n c k)) (oc X k) := sN'_mono (by omega)
        exact Or.inr ⟨a1, by rw [h2 _ (by omega) (by omega)]; exact a2, hBT_fr n _ _ _ a1 (fun j j1 j2 => h1 j (by omega) (by omega)) (fun j j1 j2 => h2 j (by omega) (by omega)) a3⟩
def hBF (σ s : am_S) (a e dp : Nat) : Prop := s.2 = σ.2 ∧ (∀ x, x ≠ 74 → x ≠ 76 → x ≠ 77 → x ≠ 80 → sI s x = sI σ x) ∧ (∀ j, (j < a ∨ e ≤ j) → sI s 74 j = sI σ 74 j ∧ sI s 76 j = sI σ 76 j) ∧ (∀ j, (j < 7 * a ∨ 7 * e ≤ j) → sI s 77 j = sI σ 77 j) ∧ ∀ j, j ≠ dp → j < 8 → sI s 80 j = sI σ 80 j
/-- a record without children -/
theorem b_leaf (d : Nat) {rc dp a : Nat} {σ : am_S} {K : am_S → Prop} (hrc : rc ≤ 6000) (hF : MF σ) (hT : sI σ 31 26 = 0) (h60 : sI σ 31 60 = rc) (h72 : sI σ 72 a = dp) (ha : a + 1 ≤ rc) (hdp : dp ≤ 6) (h80 : ∀ j, dp < j → j < 8 → sI σ 80 j = -1) (k : ∀ s, hBF σ s a (a + 1) dp → (sI s 74 a = 1 ∧ ∀ o, o < 7 → sI s 77 (7 * a + o) = -1) → sI s 80 dp = (a : Int) → sI s 76 a = sI σ 80 dp → bR d 14 ((a + 1 : Nat) : Int) s K) : bR d 14 (a : Int) σ K := by
  refine b_rec d (r := a) (dp := dp) (m := 3) (a := 0) (U := 0) (t := fun _ => 0) hF hT h60 hrc (by omega) h72 hdp (by decide) (by decide) (Nat.zero_le _) (Nat.zero_le _) (h80 _ (by omega) (by omega)) (fun s q => ?_)
  obtain ⟨q1, q2, q3, q4, q5, q6, q7, q8, q9, q10, q11⟩ := q
  refine k s ⟨q1, q2, fun j hj => q3 j (by omega), fun j hj => q6 j (by omega), fun j j1 j2 => ?_⟩ ⟨q4, fun o ho => q8 o ho (fun u hu => absurd hu (Nat.not_lt_zero u))⟩ q11 q5
  by_cases e : j = dp + 1
  · rw [e, q10, h80 _ (by omega) (by omega)]
  · exact q9 j j1 e
theorem b_tree (d : Nat) {X : sX} {tr : Nat → Nat} {rc : Nat} (hrc : rc ≤ 6000) : ∀ (n : Nat) (c : Nat → Int) (k dp : Nat) (o : Int) (a : Nat) {σ : am_S} {K : am_S → Prop}, MF σ → sI σ 31 26 = 0 → sI σ 31 60 = rc → ¬ mn X c ≤ 0 → RS σ X tr n c k dp o a → a + tsz X n c k ≤ rc → dp + n ≤ 6 → (∀ j, dp < j → j < 8 → sI σ 80 j = -1) → (∀ s, hBF σ s a (a + tsz X n c k) dp → hBT s X n c k a → sI s 80 dp = ((a + tsz X n c k - 1 : Nat) : Int) → sI s 76 (a + tsz X n c k - 1) = sI σ 80 dp → sI s 74 (a + tsz X n c k - 1) = tsz X n c k → bR d 14 ((a + tsz X n c k : Nat) : Int) s K) → bR d 14 (a : Int) σ K
  | 0, c, k, dp, o, a, σ, K, hF, hT, h60, hm, hR, ha, hd, h80, kk => by
    rw [tsz_z hm] at kk ha
    exact b_leaf d hrc hF hT h60 hR.2.2.2.2.1 ha (by omega) h80 (fun s q1 q2 q3 q4 => kk s q1 q2 q3 q4 q2.1)
  | n + 1, c, k, dp, o, a, σ, K, hF, hT, h60, hm, hR, ha, hd, h80, kk => by
    rcases hR with ⟨q1, q2⟩ | ⟨q1, q2, q3⟩
    · rw [tsz_1 hm q1] at kk ha
      exact b_leaf d hrc hF hT h60 q2.2.2.2.2.1 ha (by omega) h80 (fun s p1 p2 p3 p4 => kk s p1 (Or.inl ⟨q1, p2⟩) p3 p4 p2.1)
    · rw [tsz_s q1] at kk ha
      obtain ⟨mm1, mm2, mm3, mm4⟩ := mo_n X k
      obtain ⟨t, et⟩ : ∃ t : Nat → Nat, t = fun u => tsz X n (chd X c k (wAt X c (yj X n c k)) u) (k + 1) := ⟨_, rfl⟩
      have tt : ∀ U, sN' t U = tof X n c k (wAt X c (yj X n c k)) (U) := fun U => by rw [et]; rfl
      have tu : ∀ u, t u = tsz X n (chd X c k (wAt X c (yj X n c k)) u) (k + 1) := fun u => by rw [et]
      have ch : ∀ U, U ≤ oc X k → (∀ s, hBF σ s a (a + tof X n c k (wAt X c (yj X n c k)) (U)) (dp + 1) → hCN s t a (mo (xK X k)).toNat U (sI s 80 (dp + 1)) → (∀ u, u < U → mn X (chd X c k (wAt X c (yj X n c k)) u) ≤ 0 ∨ hBT s X n (chd X c k (wAt X c (yj X n c k)) u) (k + 1) (a + tof X n c k (wAt X c (yj X n c k)) (u))) → bR d 14 ((a + tof X n c k (wAt X c (yj X n c k)) (U) : Nat) : Int) s K) → bR d 14 (a : Int) σ K := by
        intro U
        induction U with
        | zero =>
          intro _ h
          exact h σ ⟨rfl, fun _ _ _ _ _ => rfl, fun _ _ => ⟨rfl, rfl⟩, fun _ _ => rfl, fun _ _ _ => rfl⟩ (h80 _ (by omega) (by omega)) (fun u hu => absurd hu (Nat.not_lt_zero u))
        | succ U ih =>
          intro hU h
          refine ih (by omega) (fun s f1 f2 f3 => ?_)
          have e1 := tof_s X n c k (wAt X c (yj X n c k)) U
          have m2 : tof X n c k (wAt X c (yj X n c k)) (U + 1) ≤ tof X n c k (wAt X c (yj X n c k)) (oc X k) := sN'_mono (by omega)
          by_cases m0 : mn X (chd X c k (wAt X c (yj X n c k)) U) ≤ 0
          · have z := tsz_0 (n := n) (k := k + 1) m0
            have e2 : tof X n c k (wAt X c (yj X n c k)) (U + 1) = tof X n c k (wAt X c (yj X n c k)) (U) := by omega
            rw [e2] at h
            refine h s f1 (Or.inl ⟨by rw [tu]; exact z, f2⟩) (fun u hu => ?_)
            by_cases e : u = U
            · rw [e]; exact Or.inl m0
            · exact f3 u (by omega)
          · obtain ⟨g1, g2, g3, g4, g5⟩ := f1
            have hz := tsz_p (n := n) (k := k + 1) m0
            have e0 : a + tof X n c k (wAt X c (yj X n c k)) (U + 1) = a + tof X n c k (wAt X c (yj X n c k)) (U) + tsz X n (chd X c k (wAt X c (yj X n c k)) U) (k + 1) := by omega
            have rs0 : RS σ X tr n (chd X c k (wAt X c (yj X n c k)) U) (k + 1) (dp + 1) (-mo (xK X k) + (U : Int)) (a + tof X n c k (wAt X c (yj X n c k)) (U)) := (q2 U (by omega)).resolve_left m0
            have rs : RS s X tr n (chd X c k (wAt X c (yj X n c k)) U) (k + 1) (dp + 1) (-mo (xK X k) + (U : Int)) (a + tof X n c k (wAt X c (yj X n c k)) (U)) := RS_fr n _ _ _ _ _ m0 (fun x x1 x2 j _ _ => by rw [g2 x (by omega) (by omega) (by omega) (by omega)]) rs0
            refine b_tree d hrc n (chd X c k (wAt X c (yj X n c k)) U) (k + 1) (dp + 1) _ (a + tof X n c k (wAt X c (yj X n c k)) (U)) (MF_I hF g1) (by rw [g2 31 (by decide) (by decide) (by decide) (by decide)]; exact hT) (by rw [g2 31 (by decide) (by decide) (by decide) (by decide)]; exact h60) m0 rs (by omega) (by omega) (fun j j1 j2 => by rw [g5 j (by omega) j2]; exact h80 j (by omega) j2) (fun s' b1 b2 b3 b4 b5 => ?_)
            rw [← e0] at b1 b3 b4 b5 ⊢
            obtain ⟨c1, c2, c3, c4, c5⟩ := b1
            refine h s' ⟨c1.trans g1, fun x x1 x2 x3 x4 => by rw [c2 x x1 x2 x3 x4, g2 x x1 x2 x3 x4], fun j hj => ?_, fun j hj => by rw [c4 j (by omega), g4 j (by omega)], fun j j1 j2 => by rw [c5 j j1 j2, g5 j j1 j2]⟩ (Or.inr ⟨by rw [tu]; omega, by rw [b3, tt], ?_, ?_, ?_⟩) (fun u hu => ?_)
            · obtain ⟨y1, y2⟩ := c3 j (by omega)
              obtain ⟨y3, y4⟩ := g3 j (by omega)
              exact ⟨y1.trans y3, y2.trans y4⟩
            · rw [tt, c2 73 (by decide) (by decide) (by decide) (by decide), e0, (RS_rt n _ _ _ _ _ m0 rs).2, mm3]
              omega
            · rw [tt, b5, tu]
            · rw [tt, b4]
              refine hCN_fr U _ (fun j hj => ?_) f2
              rw [tt] at hj
              obtain ⟨y1, y2⟩ := c3 j (by omega)
              exact ⟨by rw [c2 73 (by decide) (by decide) (by decide) (by decide)], y1, y2⟩
            · by_cases e : u = U
              · rw [e]; exact Or.inr b2
              · rcases f3 u (by omega) with w | w
                · exact Or.inl w
                · by_cases w0 : mn X (chd X c k (wAt X c (yj X n c k)) u) ≤ 0
                  · exact Or.inl w0
                  · have n1 := tof_s X n c k (wAt X c (yj X n c k)) u
                    have n2 : tof X n c k (wAt X c (yj X n c k)) (u + 1) ≤ tof X n c k (wAt X c (yj X n c k)) (U) := sN'_mono (by omega)
                    exact Or.inr (hBT_fr n _ _ _ w0 (fun j j1 j2 => (c3 j (by omega)).1) (fun j j1 j2 => c4 j (by omega)) w)
      refine ch (oc X k) (Nat.le_refl _) (fun s f1 f2 f3 => ?_)
      obtain ⟨g1, g2, g3, g4, g5⟩ := f1
      refine b_rec d (r := a + tof X n c k (wAt X c (yj X n c k)) (oc X k)) (dp := dp) (m := (mo (xK X k)).toNat) (a := a) (U := oc X k) (t := t) (MF_I hF g1) (by rw [g2 31 (by decide) (by decide) (by decide) (by decide)]; exact hT) (by rw [g2 31 (by decide) (by decide) (by decide) (by decide)]; exact h60) hrc (by omega) (by rw [g2 72 (by decide) (by decide) (by decide) (by decide)]; exact q3.2.2.2.2.1) (by omega) mm1 mm2 (by rw [tt]; exact Nat.le_refl _) (by rw [tt]; omega) f2 (fun s' b => ?_)
      obtain ⟨b1, b2, b3, b4, b5, b6, b7, b8, b9, b10, b11⟩ := b
      rw [tt] at b4
      rw [show a + (1 + tof X n c k (wAt X c (yj X n c k)) (oc X k)) - 1 = a + tof X n c k (wAt X c (yj X n c k)) (oc X k) by omega, show a + (1 + tof X n c k (wAt X c (yj X n c k)) (oc X k)) = a + tof X n c k (wAt X c (yj X n c k)) (oc X k) + 1 by omega] at kk
      refine kk s' ⟨b1.trans g1, fun x x1 x2 x3 x4 => by rw [b2 x x1 x2 x3 x4, g2 x x1 x2 x3 x4], fun j hj => ?_, fun j hj => by rw [b6 j (by omega), g4 j (by omega)], fun j j1 j2 => ?_⟩ (Or.inr ⟨q1, b4, fun o' ho hn => b8 o' ho hn, fun u hu => ?_⟩) b11 (by rw [b5, g5 dp (by omega) (by omega)]) b4
      · obtain ⟨y1, y2⟩ := b3 j (by omega)
        obtain ⟨y3, y4⟩ := g3 j (by omega)
        exact ⟨y1.trans y3, y2.trans y4⟩
      · by_cases e : j = dp + 1
        · rw [e, b10, h80 _ (by omega) (by omega)]
        · rw [b9 j j1 e, g5 j e j2]
      · have y := b7 u hu
        rw [tu, tt] at y
        have n1 := tof_s X n c k (wAt X c (yj X n c k)) u
        have n2 : tof X n c k (wAt X c (yj X n c k)) (u + 1) ≤ tof X n c k (wAt X c (yj X n c k)) (oc X k) := sN'_mono (by omega)
        by_cases w0 : mn X (chd X c k (wAt X c (yj X n c k)) u) ≤ 0
        · exact Or.inl ⟨w0, by rw [if_pos (tsz_0 w0)] at y; exact y⟩
        · have hz := tsz_p (n := n) (k := k + 1) w0
          rw [if_neg (by omega)] at y
          exact Or.inr ⟨w0, y, hBT_fr n _ _ _ w0 (fun j j1 j2 => (b3 j (by omega)).1) (fun j j1 j2 => b6 j (by omega)) ((f3 u hu).resolve_left w0)⟩
