/-! the search, pure: what is known where it stands; trees in cells -/
/-- what is known of the levels above l -/
def GL (X : sX) (c0 : Nat → Int) (k0 n0 : Nat) (js : Nat → Nat) (os : Nat → Int) (l : Nat) : Prop := ∀ i, i < l → i < n0 ∧ 2 ≤ mn X (csq X c0 k0 js os i) ∧ ¬ big X (n0 - i) (csq X c0 k0 js os i) ∧ js i < wct X (csq X c0 k0 js os i) ∧ (-mo (xK X (k0 + i)) ≤ os i ∧ os i ≤ mo (xK X (k0 + i))) ∧ (∀ j, j < js i → ¬ yw X (n0 - (i + 1)) (csq X c0 k0 js os i) (k0 + i) (wAt X (csq X c0 k0 js os i) j)) ∧ ∀ u, u < oi X (k0 + i) (os i) → can X (n0 - (i + 1)) (chd X (csq X c0 k0 js os i) (k0 + i) (wAt X (csq X c0 k0 js os i) (js i)) u) (k0 + i + 1)
theorem GL_le {X : sX} {c0 : Nat → Int} {k0 n0 : Nat} {js : Nat → Nat} {os : Nat → Int} {l l' : Nat} (h : GL X c0 k0 n0 js os l) (hl : l' ≤ l) : GL X c0 k0 n0 js os l' := fun i hi => h i (by omega)
theorem csq_s {X : sX} {c0 : Nat → Int} {k0 : Nat} {js : Nat → Nat} {os : Nat → Int} {i : Nat} (h : -mo (xK X (k0 + i)) ≤ os i) : csq X c0 k0 js os (i + 1) = chd X (csq X c0 k0 js os i) (k0 + i) (wAt X (csq X c0 k0 js os i) (js i)) (oi X (k0 + i) (os i)) := by
  show mkc X (csq X c0 k0 js os i) (k0 + i) (sdw X (csq X c0 k0 js os i) (wAt X (csq X c0 k0 js os i) (js i))) (os i) = _
  unfold chd oi
  rw [show -mo (xK X (k0 + i)) + ((os i + mo (xK X (k0 + i))).toNat : Int) = os i by omega]
theorem csq_CV {X : sX} (hX : XV X) {c0 : Nat → Int} {k0 : Nat} {js : Nat → Nat} {os : Nat → Int} (h : CV X c0) : ∀ i, CV X (csq X c0 k0 js os i)
  | 0 => h
  | i + 1 => mkc_CV hX (csq_CV hX h i)
theorem oi_lt {X : sX} {k : Nat} {o : Int} (h : -mo (xK X k) ≤ o ∧ o ≤ mo (xK X k)) : oi X k o < oc X k := by
  unfold oi oc
  omega
theorem tof_s (X : sX) (n : Nat) (c : Nat → Int) (k : Nat) (w : sW) (u : Nat) : tof X n c k w (u + 1) = tof X n c k w u + tsz X n (chd X c k w u) (k + 1) := rfl
/-- nodes ahead of a level and all that can come -/
theorem ndq_bd {X : sX} (hX : XV X) {c0 : Nat → Int} {k0 n0 : Nat} {js : Nat → Nat} {os : Nat → Int} (hc : CV X c0) : ∀ l, GL X c0 k0 n0 js os l → ndq X c0 k0 n0 js os l + phi X (csq X c0 k0 js os l) (k0 + l) (n0 - l) ≤ phi X c0 k0 n0
  | 0, _ => by
    show 0 + phi X c0 (k0 + 0) (n0 - 0) ≤ _
    rw [Nat.zero_add]
    exact Nat.le_refl _
  | l + 1, h => by
    have ih := ndq_bd hX hc l (GL_le h (by omega))
    obtain ⟨h1, h2, h3, h4, h5, h6, h7⟩ := h l (by omega)
    have e : n0 - l = n0 - (l + 1) + 1 := by omega
    rw [csq_s h5.1]
    have hv := csq_CV hX hc (k0 := k0) (js := js) (os := os) l
    obtain ⟨c, ec⟩ : ∃ c, c = csq X c0 k0 js os l := ⟨_, rfl⟩
    have en : ndq X c0 k0 n0 js os (l + 1) = ndq X c0 k0 n0 js os l + 1 + tof X (n0 - (l + 1)) (csq X c0 k0 js os l) (k0 + l) (wAt X (csq X c0 k0 js os l) (js l)) (oi X (k0 + l) (os l)) := rfl
    rw [en]
    rw [← ec] at ih h2 hv ⊢
    rw [e] at ih
    have s1 := phi_sum (w := wAt X c (js l)) (k := k0 + l) hX hv (by omega) (n0 - (l + 1))
    have ho := oi_lt h5
    have s2 : tof X (n0 - (l + 1)) c (k0 + l) (wAt X c (js l)) (oi X (k0 + l) (os l)) ≤ sN' (fun i => phi X (chd X c (k0 + l) (wAt X c (js l)) i) (k0 + l + 1) (n0 - (l + 1))) (oi X (k0 + l) (os l)) := sN'_le _ (fun i _ => tsz_phi hX _ _ _ (mkc_CV hX hv))
    have s3 : sN' (fun i => phi X (chd X c (k0 + l) (wAt X c (js l)) i) (k0 + l + 1) (n0 - (l + 1))) (oi X (k0 + l) (os l) + 1) ≤ sN' (fun i => phi X (chd X c (k0 + l) (wAt X c (js l)) i) (k0 + l + 1) (n0 - (l + 1))) (oc X (k0 + l)) := sN'_mono (by omega)
    have s4 : sN' (fun i => phi X (chd X c (k0 + l) (wAt X c (js l)) i) (k0 + l + 1) (n0 - (l + 1))) (oi X (k0 + l) (os l) + 1) = sN' (fun i => phi X (chd X c (k0 + l) (wAt X c (js l)) i) (k0 + l + 1) (n0 - (l + 1))) (oi X (k0 + l) (os l)) + phi X (chd X c (k0 + l) (wAt X c (js l)) (oi X (k0 + l) (os l))) (k0 + l + 1) (n0 - (l + 1)) := rfl
    show _ + phi X (chd X c (k0 + l) (wAt X c (js l)) (oi X (k0 + l) (os l))) (k0 + l + 1) (n0 - (l + 1)) ≤ _
    omega
theorem ndq_6 {X : sX} (hX : XV X) {c0 : Nat → Int} {k0 n0 l : Nat} {js : Nat → Nat} {os : Nat → Int} (hc : CV X c0) (hn : n0 ≤ 6) (h : GL X c0 k0 n0 js os l) : ndq X c0 k0 n0 js os l ≤ 5868 := by
  have h1 := ndq_bd hX hc l h
  have h2 := phi_bd hX (c := c0) (k := k0) hn
  omega
theorem can_2 {X : sX} {n : Nat} {c : Nat → Int} {k : Nat} (h : mn X c < 2) : can X n c k := by
  cases n with
  | zero => exact h
  | succ n => exact Or.inl h
theorem can_b {X : sX} {n : Nat} {c : Nat → Int} {k : Nat} (h : ¬ mn X c < 2) (hb : big X n c) : ¬ can X n c k := by
  cases n with
  | zero => exact h
  | succ n =>
    intro q
    rcases q with q | q
    · exact h q
    · exact q.1 hb
theorem can_s {X : sX} (hX : XV X) {n : Nat} {c : Nat → Int} {k : Nat} (h : ¬ mn X c < 2) (hb : ¬ big X (n + 1) c) : can X (n + 1) c k ↔ ∃ j, j < wct X c ∧ yw X n c k (wAt X c j) := by
  constructor
  · intro q
    rcases q with q | q
    · exact absurd q h
    · obtain ⟨j, w, hw, ho⟩ := q.2
      refine ⟨j, wct_iff hX hw, yw_iff.mpr ?_⟩
      have : wAt X c j = w := by unfold wAt; rw [hw]; rfl
      rw [this]
      exact ho
  · intro q
    obtain ⟨j, hj, hy⟩ := q
    obtain ⟨w, hw⟩ := (wct_spec hX c).2 j hj
    refine Or.inr ⟨hb, j, w, hw, ?_⟩
    have : wAt X c j = w := by unfold wAt; rw [hw]; rfl
    rw [this] at hy
    exact yw_iff.mp hy
theorem wsq_at {X : sX} (hX : XV X) {c : Nat → Int} {j : Nat} (h : j < wct X c) : wsq X c j = some (wAt X c j) := by
  obtain ⟨w, hw⟩ := (wct_spec hX c).2 j h
  unfold wAt
  rw [hw]
  rfl
/-- all outcomes of level l say yes -/
theorem Y_end {X : sX} (hX : XV X) {c0 : Nat → Int} {k0 n0 l : Nat} {js : Nat → Nat} {os : Nat → Int} (h : GL X c0 k0 n0 js os (l + 1)) (hc : can X (n0 - (l + 1)) (csq X c0 k0 js os (l + 1)) (k0 + l + 1)) (ho : ¬ os l < mo (xK X (k0 + l))) : can X (n0 - l) (csq X c0 k0 js os l) (k0 + l) ∧ yj X (n0 - (l + 1)) (csq X c0 k0 js os l) (k0 + l) = js l := by
  obtain ⟨h1, h2, h3, h4, h5, h6, h7⟩ := h l (by omega)
  rw [csq_s h5.1] at hc
  have e : n0 - l = n0 - (l + 1) + 1 := by omega
  have ey : yw X (n0 - (l + 1)) (csq X c0 k0 js os l) (k0 + l) (wAt X (csq X c0 k0 js os l) (js l)) := by
    intro i hi
    by_cases q : i < oi X (k0 + l) (os l)
    · exact h7 i q
    · have : i = oi X (k0 + l) (os l) := by
        have := oi_lt h5
        unfold oc at hi
        unfold oi at q ⊢
        omega
      rw [this]
      exact hc
  rw [e] at h3 ⊢
  exact ⟨(can_s hX (by omega) h3).mpr ⟨js l, h4, ey⟩, ff_unique (Nat.zero_le _) (by omega) (fun q _ hq => h6 q hq) (fun _ => ey)⟩
/-- an outcome of level l says no -/
theorem N_row {X : sX} {c0 : Nat → Int} {k0 n0 l : Nat} {js : Nat → Nat} {os : Nat → Int} (h : GL X c0 k0 n0 js os (l + 1)) (hc : ¬ can X (n0 - (l + 1)) (csq X c0 k0 js os (l + 1)) (k0 + l + 1)) : rw1 X (n0 - (l + 1)) (csq X c0 k0 js os l) (k0 + l) (js l) = ((js l : Int), os l) :: rws X (n0 - (l + 1)) (csq X c0 k0 js os (l + 1)) (k0 + l + 1) ∧ ¬ yw X (n0 - (l + 1)) (csq X c0 k0 js os l) (k0 + l) (wAt X (csq X c0 k0 js os l) (js l)) := by
  obtain ⟨h1, h2, h3, h4, h5, h6, h7⟩ := h l (by omega)
  have hc' := hc
  rw [csq_s h5.1] at hc'
  have hl := oi_lt h5
  have ef : fon X (n0 - (l + 1)) (csq X c0 k0 js os l) (k0 + l) (wAt X (csq X c0 k0 js os l) (js l)) = oi X (k0 + l) (os l) := by
    refine ff_unique (Nat.zero_le _) ?_ (fun q _ hq => ?_) (fun _ => hc')
    · unfold oc at hl
      omega
    · exact fun w => w (h7 q hq)
  have eo : fo X (n0 - (l + 1)) (csq X c0 k0 js os l) (k0 + l) (wAt X (csq X c0 k0 js os l) (js l)) = os l := by
    unfold fo
    rw [ef]
    unfold oi
    omega
  refine ⟨?_, fun y => hc' (y _ hl)⟩
  unfold rw1
  rw [eo]
  rfl
/-- level l has no weighing left -/
theorem N_end {X : sX} (hX : XV X) {n : Nat} {c : Nat → Int} {k : Nat} (h2 : ¬ mn X c < 2) (hb : ¬ big X (n + 1) c) (h : ∀ j, j < wct X c → ¬ yw X n c k (wAt X c j)) : ¬ can X (n + 1) c k := by
  rw [can_s hX h2 hb]
  rintro ⟨j, hj, hy⟩
  exact h j hj hy
/-- the first one left -/
noncomputable def fs (X : sX) (c : Nat → Int) : Nat := ff (fun p => 0 ≤ c p) (xM X) 0
/-- the cell of an outcome in a node -/
def cl (X : sX) (k i u : Nat) : Nat := 12 * i + 8 + u - (mo (xK X k)).toNat
theorem cl_bd {X : sX} {k i u : Nat} (h : u < oc X k) : 12 * i + 5 ≤ cl X k i u ∧ cl X k i u < 12 * i + 12 ∧ ∀ v, v < oc X k → cl X k i v = cl X k i u → v = u := by
  unfold cl
  rcases oc_37 X k with ⟨a, b⟩ | ⟨a, b⟩ <;> (rw [b]; rw [a] at h; refine ⟨by omega, by omega, fun v hv e => ?_⟩; rw [a] at hv; omega)
/-- a node that is an end -/
def LF (X : sX) (tr : Nat → Nat) (f : Nat → Int) (c : Nat → Int) (dp i : Nat) : Prop := f (12 * i) = 0 ∧ f (12 * i + 1) = 0 ∧ f (12 * i + 2) = tr (fs X c) ∧ f (12 * i + 3) = mn X c ∧ f (12 * i + 4) = dp ∧ ∀ v, v < 7 → f (12 * i + 5 + v) = -1000
/-- a node that is none -/
def NH (X : sX) (f : Nat → Int) (c : Nat → Int) (dp i : Nat) : Prop := f (12 * i + 2) = -1000 ∧ f (12 * i + 3) = mn X c ∧ f (12 * i + 4) = dp
def NB (X : sX) (f : Nat → Int) (c : Nat → Int) (w : sW) (i : Nat) : Prop := ∃ lf rt : Nat, f (12 * i) = lf ∧ f (12 * i + 1) = rt ∧ SB (gG X c (xN X)) w.2.1 w.2.2 (xN X) lf rt
/-- the tree of a case from node i on -/
def TC (X : sX) (tr : Nat → Nat) (f : Nat → Int) : Nat → (Nat → Int) → Nat → Nat → Nat → Prop
  | 0, c, _, dp, i => LF X tr f c dp i
  | n + 1, c, k, dp, i => (mn X c < 2 ∧ LF X tr f c dp i) ∨ (¬ mn X c < 2 ∧ NH X f c dp i ∧ NB X f c (wAt X c (yj X n c k)) i ∧ (∀ u, u < oc X k → (mn X (chd X c k (wAt X c (yj X n c k)) u) ≤ 0 ∧ f (cl X k i u) = -1000) ∨ (¬ mn X (chd X c k (wAt X c (yj X n c k)) u) ≤ 0 ∧ f (cl X k i u) = ((i + 1 + tof X n c k (wAt X c (yj X n c k)) u : Nat) : Int) ∧ TC X tr f n (chd X c k (wAt X c (yj X n c k)) u) (k + 1) (dp + 1) (i + 1 + tof X n c k (wAt X c (yj X n c k)) u))) ∧ ∀ v, v < 7 → (∀ u, u < oc X k → cl X k i u ≠ 12 * i + 5 + v) → f (12 * i + 5 + v) = -1000)
theorem LF_congr {X : sX} {tr : Nat → Nat} {f g : Nat → Int} {c : Nat → Int} {dp i : Nat} (h : ∀ j, 12 * i ≤ j → j < 12 * i + 12 → g j = f j) (q : LF X tr f c dp i) : LF X tr g c dp i := by
  obtain ⟨q1, q2, q3, q4, q5, q6⟩ := q
  exact ⟨by rw [h _ (by omega) (by omega), q1], by rw [h _ (by omega) (by omega), q2], by rw [h _ (by omega) (by omega), q3], by rw [h _ (by omega) (by omega), q4], by rw [h _ (by omega) (by omega), q5], fun v hv => by rw [h _ (by omega) (by omega), q6 v hv]⟩
theorem NH_congr {X : sX} {f g : Nat → Int} {c : Nat → Int} {dp i : Nat} (h : ∀ j, 12 * i + 2 ≤ j → j < 12 * i + 5 → g j = f j) (q : NH X f c dp i) : NH X g c dp i := by
  obtain ⟨q1, q2, q3⟩ := q
  exact ⟨by rw [h _ (by omega) (by omega), q1], by rw [h _ (by omega) (by omega), q2], by rw [h _ (by omega) (by omega), q3]⟩
theorem NB_congr {X : sX} {f g : Nat → Int} {c : Nat → Int} {w : sW} {i : Nat} (h : ∀ j, 12 * i ≤ j → j < 12 * i + 2 → g j = f j) (q : NB X f c w i) : NB X g c w i := by
  obtain ⟨lf, rt, q1, q2, q3⟩ := q
  exact ⟨lf, rt, by rw [h _ (by omega) (by omega), q1], by rw [h _ (by omega) (by omega), q2], q3⟩
theorem tsz_p {X : sX} {n : Nat} {c : Nat → Int} {k : Nat} (h : ¬ mn X c ≤ 0) : 1 ≤ tsz X n c k := by
  cases n with
  | zero =>
    unfold tsz
    rw [if_neg h]
    exact Nat.le_refl _
  | succ n =>
    by_cases h2 : mn X c < 2
    · rw [tsz_1 h h2]
      exact Nat.le_refl _
    · rw [tsz_s h2]
      omega
/-- a tree stands in its own cells -/
theorem TC_congr {X : sX} {tr : Nat → Nat} {f g : Nat → Int} : ∀ n (c : Nat → Int) k dp i, ¬ mn X c ≤ 0 → (∀ j, 12 * i ≤ j → j < 12 * (i + tsz X n c k) → g j = f j) → TC X tr f n c k dp i → TC X tr g n c k dp i
  | 0, c, k, dp, i, hm, h, q => by
    have := tsz_p (n := 0) (k := k) hm
    exact LF_congr (fun j a b => h j a (by omega)) q
  | n + 1, c, k, dp, i, hm, h, q => by
    have hp := tsz_p (n := n + 1) (k := k) hm
    rcases q with ⟨q1, q2⟩ | ⟨q1, q2, q3, q4, q5⟩
    · exact Or.inl ⟨q1, LF_congr (fun j a b => h j a (by omega)) q2⟩
    · rw [tsz_s q1] at h
      refine Or.inr ⟨q1, NH_congr (fun j a b => h j (by omega) (by omega)) q2, NB_congr (fun j a b => h j (by omega) (by omega)) q3, fun u hu => ?_, fun v hv w => ?_⟩
      · obtain ⟨b1, b2, _⟩ := cl_bd (X := X) (k := k) (i := i) hu
        rcases q4 u hu with ⟨a1, a2⟩ | ⟨a1, a2, a3⟩
        · exact Or.inl ⟨a1, by rw [h _ (by omega) (by omega), a2]⟩
        · refine Or.inr ⟨a1, by rw [h _ (by omega) (by omega), a2], TC_congr n _ _ _ _ a1 (fun j z1 z2 => h j (by omega) ?_) a3⟩
          have m1 := tof_s X n c k (wAt X c (yj X n c k)) u
          have m2 : tof X n c k (wAt X c (yj X n c k)) (u + 1) ≤ tof X n c k (wAt X c (yj X n c k)) (oc X k) := sN'_mono (by omega)
          omega
      · rw [h _ (by omega) (by omega)]
        exact q5 v hv w
/-- the node of level i: outcomes below u are done, then a link -/
def ND (X : sX) (tr : Nat → Nat) (f : Nat → Int) (c0 : Nat → Int) (k0 n0 : Nat) (js : Nat → Nat) (os : Nat → Int) (i u : Nat) (lk : Int) : Prop := NH X f (csq X c0 k0 js os i) i (ndq X c0 k0 n0 js os i) ∧ NB X f (csq X c0 k0 js os i) (wAt X (csq X c0 k0 js os i) (js i)) (ndq X c0 k0 n0 js os i) ∧ (∀ v, v < u → (mn X (chd X (csq X c0 k0 js os i) (k0 + i) (wAt X (csq X c0 k0 js os i) (js i)) v) ≤ 0 ∧ f (cl X (k0 + i) (ndq X c0 k0 n0 js os i) v) = -1000) ∨ (¬ mn X (chd X (csq X c0 k0 js os i) (k0 + i) (wAt X (csq X c0 k0 js os i) (js i)) v) ≤ 0 ∧ f (cl X (k0 + i) (ndq X c0 k0 n0 js os i) v) = ((ndq X c0 k0 n0 js os i + 1 + tof X (n0 - (i + 1)) (csq X c0 k0 js os i) (k0 + i) (wAt X (csq X c0 k0 js os i) (js i)) v : Nat) : Int) ∧ TC X tr f (n0 - (i + 1)) (chd X (csq X c0 k0 js os i) (k0 + i) (wAt X (csq X c0 k0 js os i) (js i)) v) (k0 + i + 1) (i + 1) (ndq X c0 k0 n0 js os i + 1 + tof X (n0 - (i + 1)) (csq X c0 k0 js os i) (k0 + i) (wAt X (csq X c0 k0 js os i) (js i)) v))) ∧ (∀ v, u < v → v < oc X (k0 + i) → f (cl X (k0 + i) (ndq X c0 k0 n0 js os i) v) = -1000) ∧ (u < oc X (k0 + i) → f (cl X (k0 + i) (ndq X c0 k0 n0 js os i) u) = lk) ∧ ∀ v, v < 7 → (∀ w, w < oc X (k0 + i) → cl X (k0 + i) (ndq X c0 k0 n0 js os i) w ≠ 12 * ndq X c0 k0 n0 js os i + 5 + v) → f (12 * ndq X c0 k0 n0 js os i + 5 + v) = -1000
/-- cells below stay -/
theorem ND_congr {X : sX} {tr : Nat → Nat} {f g : Nat → Int} {c0 : Nat → Int} {k0 n0 : Nat} {js : Nat → Nat} {os : Nat → Int} {i u : Nat} {lk : Int} (hu : u ≤ oc X (k0 + i)) (h : ∀ j, j < 12 * (ndq X c0 k0 n0 js os i + 1 + tof X (n0 - (i + 1)) (csq X c0 k0 js os i) (k0 + i) (wAt X (csq X c0 k0 js os i) (js i)) u) → g j = f j) (q : ND X tr f c0 k0 n0 js os i u lk) : ND X tr g c0 k0 n0 js os i u lk := by
  unfold ND at q ⊢
  generalize ndq X c0 k0 n0 js os i = d at *
  generalize csq X c0 k0 js os i = c at *
  generalize wAt X c (js i) = w at *
  obtain ⟨q1, q2, q3, q4, q5, q6⟩ := q
  refine ⟨NH_congr (fun j a b => h j (by omega)) q1, NB_congr (fun j a b => h j (by omega)) q2, fun v hv => ?_, fun v v1 v2 => ?_, fun a => ?_, fun v v1 v2 => ?_⟩
  · obtain ⟨b1, b2, _⟩ := cl_bd (X := X) (k := k0 + i) (i := d) (u := v) (by omega)
    rcases q3 v hv with ⟨a1, a2⟩ | ⟨a1, a2, a3⟩
    · exact Or.inl ⟨a1, by rw [h _ (by omega), a2]⟩
    · refine Or.inr ⟨a1, by rw [h _ (by omega), a2], TC_congr _ _ _ _ _ a1 (fun j z1 z2 => h j ?_) a3⟩
      have m1 := tof_s X (n0 - (i + 1)) c (k0 + i) w v
      have m2 : tof X (n0 - (i + 1)) c (k0 + i) w (v + 1) ≤ tof X (n0 - (i + 1)) c (k0 + i) w u := sN'_mono (by omega)
      omega
  · obtain ⟨b1, b2, _⟩ := cl_bd (X := X) (k := k0 + i) (i := d) v2
    rw [h _ (by omega)]
    exact q4 v v1 v2
  · obtain ⟨b1, b2, _⟩ := cl_bd (X := X) (k := k0 + i) (i := d) a
    rw [h _ (by omega)]
    exact q5 a
  · rw [h _ (by omega)]
    exact q6 v v1 v2
