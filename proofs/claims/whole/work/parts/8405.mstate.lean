/-! the reference: where a search stands -/
/-- a record -/
def RC (σ : am_S) (r : Nat) (X : sX) (tr : Nat → Nat) (c : Nat → Int) (v : sW) (dp : Nat) (o : Int) : Prop := sI σ 67 r = (if mn X c = 1 then 0 else v.1) ∧ (∃ l r' : Nat, sI σ 68 r = l ∧ sI σ 69 r = r' ∧ BSd (sdw X c v) (xN X) (if mn X c = 1 then 0 else xN X) l r') ∧ sI σ 70 r = (if mn X c = 1 then ((tr (fs X c) : Nat) : Int) else -1000) ∧ sI σ 71 r = mn X c ∧ sI σ 72 r = dp ∧ sI σ 73 r = o
/-- the records of a case's tree from a on -/
def RS (σ : am_S) (X : sX) (tr : Nat → Nat) : Nat → (Nat → Int) → Nat → Nat → Int → Nat → Prop
  | 0, c, _, dp, o, a => RC σ a X tr c (0, fun _ => 0, fun _ => 0) dp o
  | n + 1, c, k, dp, o, a => (mn X c < 2 ∧ RC σ a X tr c (0, fun _ => 0, fun _ => 0) dp o) ∨ (¬ mn X c < 2 ∧ (∀ u, u < oc X k → mn X (chd X c k (wAt X c (yj X n c k)) u) ≤ 0 ∨ RS σ X tr n (chd X c k (wAt X c (yj X n c k)) u) (k + 1) (dp + 1) (-mo (xK X k) + (u : Int)) (a + tof X n c k (wAt X c (yj X n c k)) u)) ∧ RC σ (a + tof X n c k (wAt X c (yj X n c k)) (oc X k)) X tr c (wAt X c (yj X n c k)) dp o)
theorem RC_fr {σ s : am_S} {r : Nat} {X : sX} {tr : Nat → Nat} {c : Nat → Int} {v : sW} {dp : Nat} {o : Int} (h : ∀ x, 67 ≤ x → x ≤ 73 → sI s x r = sI σ x r) (q : RC σ r X tr c v dp o) : RC s r X tr c v dp o := by
  unfold RC at q ⊢
  rw [h 67 (by decide) (by decide), h 68 (by decide) (by decide), h 69 (by decide) (by decide), h 70 (by decide) (by decide), h 71 (by decide) (by decide), h 72 (by decide) (by decide), h 73 (by decide) (by decide)]
  exact q
theorem RS_fr {σ s : am_S} {X : sX} {tr : Nat → Nat} : ∀ n (c : Nat → Int) k dp o a, ¬ mn X c ≤ 0 → (∀ x, 67 ≤ x → x ≤ 73 → ∀ j, a ≤ j → j < a + tsz X n c k → sI s x j = sI σ x j) → RS σ X tr n c k dp o a → RS s X tr n c k dp o a
  | 0, c, k, dp, o, a, hm, h, q => by
    have := tsz_p (n := 0) (k := k) hm
    exact RC_fr (fun x x1 x2 => h x x1 x2 a (Nat.le_refl _) (by omega)) q
  | n + 1, c, k, dp, o, a, hm, h, q => by
    have hp := tsz_p (n := n + 1) (k := k) hm
    rcases q with ⟨q1, q2⟩ | ⟨q1, q2, q3⟩
    · exact Or.inl ⟨q1, RC_fr (fun x x1 x2 => h x x1 x2 a (Nat.le_refl _) (by omega)) q2⟩
    · rw [tsz_s q1] at h
      refine Or.inr ⟨q1, fun u hu => ?_, RC_fr (fun x x1 x2 => h x x1 x2 _ (by omega) (by omega)) q3⟩
      rcases q2 u hu with w | w
      · exact Or.inl w
      · by_cases m0 : mn X (chd X c k (wAt X c (yj X n c k)) u) ≤ 0
        · exact Or.inl m0
        · refine Or.inr (RS_fr n _ _ _ _ _ m0 (fun x x1 x2 j j1 j2 => h x x1 x2 j (by omega) ?_) w)
          have m1 := tof_s X n c k (wAt X c (yj X n c k)) u
          have m2 : tof X n c k (wAt X c (yj X n c k)) (u + 1) ≤ tof X n c k (wAt X c (yj X n c k)) (oc X k) := sN'_mono (by omega)
          omega
/-- a level of a case -/
def LA (σ : am_S) (L : Nat) (X : sX) (c : Nat → Int) (n k : Nat) : Prop := LC σ L X c ∧ sI σ 54 L = n ∧ sI σ 55 L = k
/-- a level with its weighing -/
def LW (σ : am_S) (L : Nat) (X : sX) (c : Nat → Int) (j : Nat) : Prop := RG σ L X c ∧ RJ σ L X c j
/-- cells of one level -/
theorem LA_fr {σ s : am_S} {L : Nat} {X : sX} {c : Nat → Int} {n k : Nat} (hM : xM X ≤ 60) (h53 : ∀ j, 60 * L ≤ j → j < 60 * L + 60 → sI s 53 j = sI σ 53 j) (h54 : sI s 54 L = sI σ 54 L) (h55 : sI s 55 L = sI σ 55 L) (h : LA σ L X c n k) : LA s L X c n k := by
  obtain ⟨h1, h2, h3⟩ := h
  exact ⟨fun q hq => by rw [h53 _ (by omega) (by omega)]; exact h1 q hq, by rw [h54]; exact h2, by rw [h55]; exact h3⟩
theorem LW_fr {σ s : am_S} {L : Nat} {X : sX} {c : Nat → Int} {j : Nat} (hX : XV X) (h59 : sI s 59 L = sI σ 59 L) (h60 : sI s 60 L = sI σ 60 L) (h61 : sI s 61 L = sI σ 61 L) (hr : ∀ x, 62 ≤ x → x ≤ 66 → ∀ q, 12 * L ≤ q → q < 12 * L + 12 → sI s x q = sI σ x q) (h : LW σ L X c j) : LW s L X c j := by
  have hN := hX.1
  have hn := nC_le X c
  obtain ⟨⟨g1, g2, g3⟩, j1, j2, j3⟩ := h
  refine ⟨⟨by rw [h61]; exact g1, fun q hq => by rw [hr 62 (by decide) (by decide) _ (by omega) (by omega)]; exact g2 q hq, fun g hg => ?_⟩, by rw [h60]; exact j1, ⟨by show sI s 59 L = _; rw [h59]; exact j2.1, fun g hg => ?_⟩, fun q hq => by rw [hr 66 (by decide) (by decide) _ (by omega) (by omega)]; exact j3 q hq⟩
  · show sI s 63 (12 * L + g) = zC X c g
    rw [hr 63 (by decide) (by decide) _ (by omega) (by omega)]
    exact g3 g hg
  · show sI s 64 (12 * L + g) = _ ∧ sI s 65 (12 * L + g) = _
    rw [hr 64 (by decide) (by decide) _ (by omega) (by omega), hr 65 (by decide) (by decide) _ (by omega) (by omega)]
    exact j2.2 g hg
/-- the frame of a search of the reference from level f on -/
def MFr (σ s : am_S) (f : Nat) : Prop := s.2 = σ.2 ∧ (∀ x, (x < 53 ∨ 73 < x) → x ≠ 31 → sI s x = sI σ x) ∧ (∀ j, j ≠ 37 → j ≠ 39 → j ≠ 57 → j ≠ 58 → j ≠ 60 → sI s 31 j = sI σ 31 j) ∧ (∀ j, j < 60 * f → sI s 53 j = sI σ 53 j) ∧ (∀ x, 54 ≤ x → x ≤ 61 → ∀ j, j < f → sI s x j = sI σ x j) ∧ (∀ x, 62 ≤ x → x ≤ 66 → ∀ j, j < 12 * f → sI s x j = sI σ x j) ∧ (sI σ 31 59 = 0 → ∀ x, 67 ≤ x → x ≤ 73 → sI s x = sI σ x)
theorem MFr_rf (σ : am_S) (f : Nat) : MFr σ σ f := ⟨rfl, fun _ _ _ => rfl, fun _ _ _ _ _ _ => rfl, fun _ _ => rfl, fun _ _ _ _ _ => rfl, fun _ _ _ _ _ => rfl, fun _ _ _ _ => rfl⟩
theorem MFr_tr {σ s t : am_S} {f : Nat} (h : MFr σ s f) (h2 : MFr s t f) : MFr σ t f := by
  obtain ⟨a1, a2, a3, a4, a5, a6, a7⟩ := h
  obtain ⟨b1, b2, b3, b4, b5, b6, b7⟩ := h2
  refine ⟨b1.trans a1, fun x x1 x2 => (b2 x x1 x2).trans (a2 x x1 x2), fun j j1 j2 j3 j4 j5 => (b3 j j1 j2 j3 j4 j5).trans (a3 j j1 j2 j3 j4 j5), fun j hj => (b4 j hj).trans (a4 j hj), fun x x1 x2 j hj => (b5 x x1 x2 j hj).trans (a5 x x1 x2 j hj), fun x x1 x2 j hj => (b6 x x1 x2 j hj).trans (a6 x x1 x2 j hj), fun e x x1 x2 => ?_⟩
  rw [b7 (by rw [a3 59 (by decide) (by decide) (by decide) (by decide) (by decide)]; exact e) x x1 x2, a7 e x x1 x2]
/-- records ahead of a level, if records are kept -/
noncomputable def rkp (kp R : Nat) (X : sX) (c0 : Nat → Int) (k0 n0 : Nat) (js : Nat → Nat) (os : Nat → Int) (i : Nat) : Nat := R + (if kp = 1 then rcq X c0 k0 n0 js os i else 0)
/-- what holds all along -/
def MB (σ : am_S) (kp f : Nat) (X : sX) (ob n : Nat) (tr : Nat → Nat) (c0 : Nat → Int) (k0 n0 : Nat) : Prop := MF σ ∧ MX σ X ob n tr ∧ RZ σ ∧ sI σ 31 59 = kp ∧ (kp = 0 ∨ kp = 1) ∧ f ≤ 7 ∧ n0 ≤ 6 ∧ k0 ≤ 60 ∧ CV X c0
/-- the levels above l -/
def ML' (σ : am_S) (kp R f : Nat) (X : sX) (tr : Nat → Nat) (c0 : Nat → Int) (k0 n0 : Nat) (js : Nat → Nat) (os : Nat → Int) (l : Nat) : Prop := ∀ i, i < l → LA σ (f + i) X (csq X c0 k0 js os i) (n0 - i) (k0 + i) ∧ LW σ (f + i) X (csq X c0 k0 js os i) (js i) ∧ sI σ 56 (f + i) = mo (xK X (k0 + i)) ∧ sI σ 57 (f + i) = os i ∧ sI σ 58 (f + i) = rkp kp R X c0 k0 n0 js os i ∧ (kp = 1 → ∀ u, u < oi X (k0 + i) (os i) → mn X (chd X (csq X c0 k0 js os i) (k0 + i) (wAt X (csq X c0 k0 js os i) (js i)) u) ≤ 0 ∨ RS σ X tr (n0 - (i + 1)) (chd X (csq X c0 k0 js os i) (k0 + i) (wAt X (csq X c0 k0 js os i) (js i)) u) (k0 + i + 1) (f + i + 1) (-mo (xK X (k0 + i)) + (u : Int)) (rkp kp R X c0 k0 n0 js os i + tof X (n0 - (i + 1)) (csq X c0 k0 js os i) (k0 + i) (wAt X (csq X c0 k0 js os i) (js i)) u))
/-- asking -/
def M0 (σ : am_S) (kp R f : Nat) (X : sX) (ob n : Nat) (tr : Nat → Nat) (c0 : Nat → Int) (k0 n0 : Nat) (js : Nat → Nat) (os : Nat → Int) (l : Nat) : Prop := MB σ kp f X ob n tr c0 k0 n0 ∧ GL X c0 k0 n0 js os l ∧ sI σ 31 58 = 0 ∧ sI σ 31 57 = (f + l : Nat) ∧ ML' σ kp R f X tr c0 k0 n0 js os l ∧ LA σ (f + l) X (csq X c0 k0 js os l) (n0 - l) (k0 + l) ∧ sI σ 31 60 = rkp kp R X c0 k0 n0 js os l
/-- looking -/
def M2 (σ : am_S) (kp R f : Nat) (X : sX) (ob n : Nat) (tr : Nat → Nat) (c0 : Nat → Int) (k0 n0 : Nat) (js : Nat → Nat) (os : Nat → Int) (l : Nat) : Prop := MB σ kp f X ob n tr c0 k0 n0 ∧ GL X c0 k0 n0 js os l ∧ (l < n0 ∧ ¬ mn X (csq X c0 k0 js os l) < 2 ∧ ¬ big X (n0 - l) (csq X c0 k0 js os l) ∧ js l < wct X (csq X c0 k0 js os l) ∧ ∀ j, j < js l → ¬ yw X (n0 - (l + 1)) (csq X c0 k0 js os l) (k0 + l) (wAt X (csq X c0 k0 js os l) j)) ∧ sI σ 31 58 = 2 ∧ sI σ 31 57 = (f + l : Nat) ∧ ML' σ kp R f X tr c0 k0 n0 js os l ∧ LA σ (f + l) X (csq X c0 k0 js os l) (n0 - l) (k0 + l) ∧ LW σ (f + l) X (csq X c0 k0 js os l) (js l) ∧ sI σ 58 (f + l) = rkp kp R X c0 k0 n0 js os l ∧ sI σ 31 60 = rkp kp R X c0 k0 n0 js os l
/-- yes at level l -/
def YM (σ : am_S) (kp R f : Nat) (X : sX) (ob n : Nat) (tr : Nat → Nat) (c0 : Nat → Int) (k0 n0 : Nat) (js : Nat → Nat) (os : Nat → Int) (l : Nat) : Prop := MB σ kp f X ob n tr c0 k0 n0 ∧ GL X c0 k0 n0 js os l ∧ can X (n0 - l) (csq X c0 k0 js os l) (k0 + l) ∧ sI σ 31 57 = (f + l : Nat) ∧ ML' σ kp R f X tr c0 k0 n0 js os l ∧ LA σ (f + l) X (csq X c0 k0 js os l) (n0 - l) (k0 + l) ∧ ((mn X (csq X c0 k0 js os l) < 2 ∧ sI σ 31 60 = rkp kp R X c0 k0 n0 js os l) ∨ (¬ mn X (csq X c0 k0 js os l) < 2 ∧ l < n0 ∧ ¬ big X (n0 - l) (csq X c0 k0 js os l) ∧ js l < wct X (csq X c0 k0 js os l) ∧ js l = yj X (n0 - (l + 1)) (csq X c0 k0 js os l) (k0 + l) ∧ LW σ (f + l) X (csq X c0 k0 js os l) (js l) ∧ sI σ 31 60 = (rkp kp R X c0 k0 n0 js os l + (if kp = 1 then tof X (n0 - (l + 1)) (csq X c0 k0 js os l) (k0 + l) (wAt X (csq X c0 k0 js os l) (js l)) (oc X (k0 + l)) else 0) : Nat) ∧ (kp = 1 → ∀ u, u < oc X (k0 + l) → mn X (chd X (csq X c0 k0 js os l) (k0 + l) (wAt X (csq X c0 k0 js os l) (js l)) u) ≤ 0 ∨ RS σ X tr (n0 - (l + 1)) (chd X (csq X c0 k0 js os l) (k0 + l) (wAt X (csq X c0 k0 js os l) (js l)) u) (k0 + l + 1) (f + l + 1) (-mo (xK X (k0 + l)) + (u : Int)) (rkp kp R X c0 k0 n0 js os l + tof X (n0 - (l + 1)) (csq X c0 k0 js os l) (k0 + l) (wAt X (csq X c0 k0 js os l) (js l)) u))))
/-- no at level l -/
def NM (σ : am_S) (kp R f : Nat) (X : sX) (ob n : Nat) (tr : Nat → Nat) (c0 : Nat → Int) (k0 n0 : Nat) (js : Nat → Nat) (os : Nat → Int) (l : Nat) : Prop := MB σ kp f X ob n tr c0 k0 n0 ∧ GL X c0 k0 n0 js os l ∧ ¬ can X (n0 - l) (csq X c0 k0 js os l) (k0 + l) ∧ sI σ 31 57 = (f + l : Nat) ∧ ML' σ kp R f X tr c0 k0 n0 js os l ∧ LA σ (f + l) X (csq X c0 k0 js os l) (n0 - l) (k0 + l) ∧ sI σ 58 (f + l) = rkp kp R X c0 k0 n0 js os l
