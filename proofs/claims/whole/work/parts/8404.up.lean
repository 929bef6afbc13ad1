/-! the reference: answers go up -/
theorem GO_end {d : Nat} {p1 p2 x : Int} {σ : am_S} {K : Int → am_S → Prop} (hF : MF σ) (hT : sI σ 31 26 = 0) (hx : ¬ x = 0) (h : K x σ) : GO d p1 p2 x σ K := by
  intro z4
  exact v_M_goes_2 d p1 p2 x z4 σ K hF hT ⟨fun q => absurd q hx, fun _ => h⟩
/-- no STEP is allowed -/
theorem GO_stop {d : Nat} {p1 : Int} {σ : am_S} {K : Int → am_S → Prop} (hF : MF σ) (hT : sI σ 31 26 = 0) (h58 : sI σ 31 58 = 0 ∨ sI σ 31 58 = 2) (h39 : sI σ 31 39 = 0) (h : K 0 σ) : GO d p1 1 0 σ K := by
  intro z4
  refine v_M_goes_2 d p1 1 0 z4 σ K hF hT ⟨fun _ => ⟨fun q => ⟨fun w => absurd w (by decide), fun _ => ⟨fun _ => h, fun w => absurd h39 w⟩⟩, fun q => ⟨fun q2 => ⟨fun w => absurd w (by decide), fun _ => ⟨fun _ => h, fun w => absurd h39 w⟩⟩, fun q2 => ?_⟩⟩, fun q => absurd rfl q⟩
  rcases h58 with e | e
  · exact absurd e q
  · exact absurd e q2
theorem goN (d : Nat) {L : Nat} {p1 p2 : Int} {σ : am_S} {K : Int → am_S → Prop} (hF : MF σ) (hT : sI σ 31 26 = 0) (h57 : sI σ 31 57 = L) (hL : L < 14) (h1 : (L : Int) = p1 → K 2 (putI σ 31 60 (sI σ 58 L))) (h2 : ¬ (L : Int) = p1 → ∃ L', L = L' + 1 ∧ GO d p1 p2 0 (putI (putI (putI (putI σ 31 60 (sI σ 58 L)) 31 57 (L' : Int)) 31 60 (sI σ 58 L')) 31 58 1) K) : UP d p1 p2 0 σ K := by
  intro z2
  refine v_M_goesUp_2 (d + 2) p1 0 z2 σ _ hF hT ⟨fun _ => ?_, fun q => absurd rfl q⟩
  rw [h57, Int.toNat_natCast]
  refine ⟨by omega, fun e => ⟨⟨MF_I hF rfl, by rw [put_at, if_neg (by decide)]; exact hT⟩, GO_end (MF_I hF rfl) (by rw [put_at, if_neg (by decide)]; exact hT) (by decide) (h1 e)⟩, fun e => ?_⟩
  obtain ⟨L', e2, hg⟩ := h2 e
  rw [show (L : Int) - 1 = (L' : Int) by omega, Int.toNat_natCast]
  refine ⟨by omega, by omega, ⟨MF_I hF rfl, ?_⟩, hg⟩
  rw [put_at, if_neg (by decide), put_at, if_neg (by decide), put_at, if_neg (by decide), put_at, if_neg (by decide)]
  exact hT
theorem m_keep (d : Nat) {lv r : Nat} {X : sX} {c f : Nat → Int} {tr : Nat → Nat} {σ : am_S} {K : am_S → Prop} (hF : MF σ) (hT : sI σ 31 26 = 0) (hX : XV X) (h2 : sI σ 31 2 = xN X) (h40 : sI σ 31 40 = xM X) (hlv : lv < 14) (hk : sI σ 31 59 = 0 ∨ sI σ 31 59 = 1) (hr : sI σ 31 60 = r) (hr6 : r < 6000) (hc : LC σ lv X c) (htr : ∀ s, s < xM X → sI σ 51 s = tr s) (hf : sI σ 31 59 = 1 → ¬ mn X c ≤ 1 → ∀ q, q < xN X → sI σ 66 (12 * lv + q) = f q ∧ -1 ≤ f q ∧ f q ≤ 1)
    (h0 : sI σ 31 59 = 0 ∨ mn X c ≤ 0 → K σ) (h : ∀ s, sI σ 31 59 = 1 → ¬ mn X c ≤ 0 → KPP σ s lv r X tr c f → K s) : am_Calls PP MLL (d + 1) m_M_keep [qr (31, 12, 89), qi (lv : Int), qi (mn X c)] σ (kV K) := by
  have mb := mn_bd X c
  by_cases c0 : sI σ 31 59 = 0
  · exact v_M_keep_0 d _ _ σ K hF hT ⟨fun _ => h0 (Or.inl c0), fun w => absurd c0 w⟩
  · by_cases c1 : mn X c ≤ 0
    · exact v_M_keep_0 d _ _ σ K hF hT ⟨fun _ => h0 (Or.inr c1), fun _ => ⟨fun _ => h0 (Or.inr c1), fun w => absurd (by omega) w⟩⟩
    · exact c_M_keep d hF hT hX h2 h40 hlv (by omega) hr hr6 c1 hc htr (fun q => hf (by omega) (by omega)) (fun s hs => h s (by omega) c1 hs)
/-- the store behind keep -/
def KE (σ s : am_S) (L r : Nat) (X : sX) (tr : Nat → Nat) (c f : Nat → Int) : Prop := ((sI σ 31 59 = 0 ∨ mn X c ≤ 0) ∧ s = σ) ∨ (sI σ 31 59 = 1 ∧ ¬ mn X c ≤ 0 ∧ KPP σ s L r X tr c f)
theorem KE_o {σ s : am_S} {L r : Nat} {X : sX} {tr : Nat → Nat} {c f : Nat → Int} (h : KE σ s L r X tr c f) : s.2 = σ.2 ∧ (∀ x, (x < 67 ∨ 73 < x) → x ≠ 31 → sI s x = sI σ x) ∧ (∀ x, 67 ≤ x → x ≤ 73 → ∀ j, j ≠ r → sI s x j = sI σ x j) ∧ ∀ j, j ≠ 60 → sI s 31 j = sI σ 31 j := by
  rcases h with ⟨_, e⟩ | ⟨_, _, h1, h2, h3, h4, _⟩
  · rw [e]
    exact ⟨rfl, fun _ _ _ => rfl, fun _ _ _ _ _ => rfl, fun _ _ => rfl⟩
  · exact ⟨h1, h2, h3, h4⟩
theorem goY (d : Nat) {L r ob n : Nat} {X : sX} {c f : Nat → Int} {tr : Nat → Nat} {p1 p2 : Int} {σ : am_S} {K : Int → am_S → Prop} (hF : MF σ) (hX : MX σ X ob n tr) (h57 : sI σ 31 57 = L) (hL : L < 14) (hk : sI σ 31 59 = 0 ∨ sI σ 31 59 = 1) (hr : sI σ 31 60 = r) (hr6 : r < 6000) (hc : LC σ L X c) (hf : sI σ 31 59 = 1 → ¬ mn X c ≤ 1 → ∀ q, q < xN X → sI σ 66 (12 * L + q) = f q ∧ -1 ≤ f q ∧ f q ≤ 1)
    (h1 : (L : Int) = p1 → ∀ s, KE σ s L r X tr c f → K 1 s) (h2 : ¬ (L : Int) = p1 → ∃ L', L = L' + 1 ∧ (-100 ≤ sI σ 57 L' ∧ sI σ 57 L' ≤ 100) ∧ ∀ s, KE σ s L r X tr c f → (sI σ 56 L' < sI σ 57 L' + 1 → UP d p1 p2 1 (putI (putI s 31 57 (L' : Int)) 57 L' (sI σ 57 L' + 1)) K) ∧ (¬ sI σ 56 L' < sI σ 57 L' + 1 → GO d p1 p2 0 (putI (putI (putI s 31 57 (L' : Int)) 57 L' (sI σ 57 L' + 1)) 31 58 3) K)) : UP d p1 p2 1 σ K := by
  intro z2
  obtain ⟨xv, x2, x40, xs, xt, xd, x36, xo, xn, xq, xk, xl, xO', x26⟩ := hX
  refine v_M_goesUp_2 (d + 2) p1 1 z2 σ _ hF x26 ⟨fun q => absurd q (by decide), fun _ => ?_⟩
  rw [h57]
  refine c_M_manyAt (d + 2) hF hL x40 xv.2.1 hc ⟨⟨hF, x26⟩, ?_⟩
  have fin : ∀ s, KE σ s L r X tr c f → (MF s ∧ sI s 31 26 = 0) ∧ (((sI s 31 57) = p1 → ((MF s ∧ sI s 31 26 = 0) ∧ GO d p1 p2 1 s K)) ∧ (¬ ((sI s 31 57) = p1) → (-2147483648 ≤ (sI s 31 57) - 1 ∧ (sI s 31 57) - 1 < 2147483648) ∧ (0 ≤ ((sI s 31 57) - 1) ∧ ((sI s 31 57) - 1) < 14 ∧ -2147483648 ≤ (sI s 57 (Int.toNat ((sI s 31 57) - 1))) + 1 ∧ (sI s 57 (Int.toNat ((sI s 31 57) - 1))) + 1 < 2147483648) ∧
          (((sI s 56 (Int.toNat ((sI s 31 57) - 1))) < (sI (putI (putI s 31 57 ((sI s 31 57) - 1)) 57 (Int.toNat ((sI s 31 57) - 1)) ((sI s 57 (Int.toNat ((sI s 31 57) - 1))) + 1)) 57 (Int.toNat ((sI s 31 57) - 1))) →
            am_Runs PP MLL (d + 3) m_M_goesUp 2 [some (qr (31, 12, 89)), some (qi p1), z2, some (qi 1)] [] (putI (putI s 31 57 ((sI s 31 57) - 1)) 57 (Int.toNat ((sI s 31 57) - 1)) ((sI s 57 (Int.toNat ((sI s 31 57) - 1))) + 1)) (kI fun x s => (MF s ∧ sI s 31 26 = 0) ∧ GO d p1 p2 x s K)) ∧
          (¬ ((sI s 56 (Int.toNat ((sI s 31 57) - 1))) < (sI (putI (putI s 31 57 ((sI s 31 57) - 1)) 57 (Int.toNat ((sI s 31 57) - 1)) ((sI s 57 (Int.toNat ((sI s 31 57) - 1))) + 1)) 57 (Int.toNat ((sI s 31 57) - 1)))) →
            ((MF (putI (putI (putI s 31 57 ((sI s 31 57) - 1)) 57 (Int.toNat ((sI s 31 57) - 1)) ((sI s 57 (Int.toNat ((sI s 31 57) - 1))) + 1)) 31 58 3) ∧ sI (putI (putI (putI s 31 57 ((sI s 31 57) - 1)) 57 (Int.toNat ((sI s 31 57) - 1)) ((sI s 57 (Int.toNat ((sI s 31 57) - 1))) + 1)) 31 58 3) 31 26 = 0) ∧ GO d p1 p2 0 (putI (putI (putI s 31 57 ((sI s 31 57) - 1)) 57 (Int.toNat ((sI s 31 57) - 1)) ((sI s 57 (Int.toNat ((sI s 31 57) - 1))) + 1)) 31 58 3) K))))) := by
    intro s hs
    obtain ⟨k1, k2, k3, k4⟩ := KE_o hs
    have Fs : MF s := MF_I hF k1
    have s26 : sI s 31 26 = 0 := by rw [k4 26 (by decide)]; exact x26
    have s57 : sI s 31 57 = L := by rw [k4 57 (by decide)]; exact h57
    rw [s57]
    refine ⟨⟨Fs, s26⟩, fun e => ⟨⟨Fs, s26⟩, GO_end Fs s26 (by decide) (h1 e s hs)⟩, fun e => ?_⟩
    obtain ⟨L', e2, hb, hg⟩ := h2 e
    obtain ⟨g1, g2⟩ := hg s hs
    rw [show (L : Int) - 1 = (L' : Int) by omega, Int.toNat_natCast, put_at, if_pos rfl, k2 57 (by omega) (by decide), k2 56 (by omega) (by decide)]
    refine ⟨by omega, by omega, fun q => g1 q z2, fun q => ⟨⟨MF_I Fs rfl, ?_⟩, g2 q⟩⟩
    rw [put_at, if_neg (by decide), put_ne (by decide), put_at, if_neg (by decide)]
    exact s26
  refine m_keep (d + 2) hF x26 xv x2 x40 hL hk hr hr6 hc (fun s hs => (xt s hs).1) hf (fun q => fin σ (Or.inl ⟨q, rfl⟩)) (fun s q1 q2 q3 => fin s (Or.inr ⟨q1, q2, q3⟩))
