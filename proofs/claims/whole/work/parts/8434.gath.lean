/-! the class: suspects are gathered, whole -/
theorem IT_own {σ : am_S} {own own' : Nat → Nat} {aH nH aL nL aY nY aS nS N l m T W : Nat} {kd : Int} (he : ∀ x, x < sN σ → own' x = own x) (h : IT σ own aH nH aL nL aY nY aS nS N l m T W kd) : IT σ own' aH nH aL nL aY nY aS nS N l m T W kd := by
  obtain ⟨hR, ⟨o1, o2, o3, o4, o5⟩, ti, kt, ks, w, l', z, ⟨p1, p2, p3, p4⟩, h87⟩ := h
  exact ⟨hR, ⟨fun a ha => by rw [he a (by omega)]; exact o1 a ha, by rw [he aH p1]; exact o2, by rw [he aL p2]; exact o3, by rw [he aY p3]; exact o4, by rw [he aS p4]; exact o5⟩, ti, kt, ks, w, l', z, ⟨p1, p2, p3, p4⟩, h87⟩
theorem c_pairs (d : Nat) {aH nH aL nL aY nY aS nS aI nI n l m T W : Nat} {own : Nat → Nat} {kd : Int} {σ0 σ : am_S} {K : am_S → Prop} (hI : IT σ0 own aH nH aL nL aY nY aS nS n l m T W kd) (hF : MF σ0) (hG : GSf σ0 σ aI) (hoI : own aI = 16) (hi : sR σ 13 4 = some (aI, 20, nI)) (hnI : 3960 ≤ nI) (hM : lfN (sI σ0 37) T ≤ 60) (hM1 : 1 ≤ lfN (sI σ0 37) T) (hS : SUS σ n (lfN (sI σ0 37) T) (trX σ0 T) (cX σ0 T)) (hn : n ≤ 12)
    (h : ∀ s, s.2 = σ.2 → (∀ x, x ≠ aI → sI s x = sI σ x) → (∀ a b p, a < b → b < n → p < lfN (sI σ0 37) T → sI s aI (fop a b + p) = xpl σ0 n l m kd T p a b) → K s) : ∀ z3, am_Runs PP MLL (d + 5) m_Suspects_gather 52 [some (qr (13, 6, 5)), some (qr (3, 9, 11)), some (qi 1), z3] [] σ (kV K) := by
  have hI' := hI
  obtain ⟨hR, ow, ti, kt, ks, ⟨w1, w2, w3, w4, w5, w6, w7, w8⟩, ⟨l1, l2, l3, l4⟩, _, ⟨p1, p2, p3, p4⟩, h87⟩ := hI
  obtain ⟨o1, o2, o3, o4, o5⟩ := ow
  have nI87 : ∀ x, x < 87 → x ≠ 16 → x ≠ aI := fun x hx h16 e => by
    have := o1 x hx
    rw [e, hoI] at this
    omega
  have hGs : ∀ s, s.2 = σ.2 → (∀ x, x ≠ aI → sI s x = sI σ x) → GSf σ0 s aI := fun s s2 so => ⟨fun x x1 x2 x3 x4 x5 => (so x x5).trans (hG.1 x x1 x2 x3 x4 x5), fun x hx j => by
    rcases hG.2.1 x hx j with e | e
    · exact Or.inl e
    · exact Or.inr (by rw [R2' s2]; exact e), by have := hG.2.2; unfold sN at *; rw [s2]; exact this⟩
  have hSs : ∀ s, (∀ x, x ≠ aI → sI s x = sI σ x) → SUS s n (lfN (sI σ0 37) T) (trX σ0 T) (cX σ0 T) := fun s so => by
    unfold SUS
    rw [so 13 (nI87 13 (by decide) (by decide)), so 14 (nI87 14 (by decide) (by decide)), so 15 (nI87 15 (by decide) (by decide))]
    exact hS
  have loop : ∀ q b s, b + q = max n 1 → 1 ≤ b → s.2 = σ.2 → (∀ x, x ≠ aI → sI s x = sI σ x) → (∀ a' b' p, a' < b' → b' < b → p < lfN (sI σ0 37) T → sI s aI (fop a' b' + p) = xpl σ0 n l m kd T p a' b') → ∀ z3, am_Runs PP MLL (d + 5) m_Suspects_gather 52 [some (qr (13, 6, 5)), some (qr (3, 9, 11)), some (qi (b : Int)), z3] [] s (kV K) := by
    intro q
    induction q with
    | zero =>
      intro b s hb h1 s2 so sd z3
      have Ts := GSf_TR (hGs s s2 so) h87 hR
      refine v_Suspects_gather_52 d aH nH aL nL aY nY aS nS aI nI _ z3 s K Ts (by rw [R2' s2]; exact hi) ⟨fun _ => ?_, fun c => absurd (by rw [(hSs s so).1]; omega) c⟩
      exact h s s2 so (fun a b' p ha hb' hp => sd a b' p ha (by omega) hp)
    | succ q ih =>
      intro b s hb h1 s2 so sd z3
      have Ts := GSf_TR (hGs s s2 so) h87 hR
      refine v_Suspects_gather_52 d aH nH aL nL aY nY aS nS aI nI _ z3 s K Ts (by rw [R2' s2]; exact hi) ⟨fun c => absurd c (by rw [(hSs s so).1]; omega), fun _ => ?_⟩
      have inner : ∀ qa a s, a + qa = b → s.2 = σ.2 → (∀ x, x ≠ aI → sI s x = sI σ x) → (∀ a' b' p, a' < b' → (b' < b ∨ (b' = b ∧ a' < a)) → p < lfN (sI σ0 37) T → sI s aI (fop a' b' + p) = xpl σ0 n l m kd T p a' b') → am_Runs PP MLL (d + 5) m_Suspects_gather 58 [some (qr (13, 6, 5)), some (qr (3, 9, 11)), some (qi (b : Int)), some (qi (a : Int))] [] s (kV K) := by
        intro qa
        induction qa with
        | zero =>
          intro a s ha s2 so sd
          have Ts := GSf_TR (hGs s s2 so) h87 hR
          refine v_Suspects_gather_58 d aH nH aL nL aY nY aS nS aI nI _ _ s K Ts (by rw [R2' s2]; exact hi) ⟨fun _ => ⟨by omega, ?_⟩, fun c => absurd (by omega) c⟩
          rw [show (b : Int) + 1 = ((b + 1 : Nat) : Int) by omega]
          exact ih (b + 1) s (by omega) (by omega) s2 so (fun a' b' p ha' hb' hp => sd a' b' p ha' (by omega) hp) _
        | succ qa iha =>
          intro a s ha s2 so sd
          have Gs := hGs s s2 so
          have Ts := GSf_TR Gs h87 hR
          have hi' : sR s 13 4 = some (aI, 20, nI) := by rw [R2' s2]; exact hi
          refine v_Suspects_gather_58 d aH nH aL nL aY nY aS nS aI nI _ _ s K Ts hi' ⟨fun c => absurd c (by omega), fun _ => ?_⟩
          refine c_mapPair d hI' hF Gs hoI hi' hnI hM hM1 (hSs s so) (by omega) (by omega) hn (fun t t2 to t3 t4 => ?_)
          have t2' := t2.trans s2
          have to' : ∀ x, x ≠ aI → sI t x = sI σ x := fun x hx => (to x hx).trans (so x hx)
          refine ⟨⟨GSf_TR (hGs t t2' to') h87 hR, by rw [R2' t2']; exact hi⟩, by omega, ?_⟩
          rw [show (a : Int) + 1 = ((a + 1 : Nat) : Int) by omega]
          refine iha (a + 1) t (by omega) t2' to' (fun a' b' p ha' hb' hp => ?_)
          by_cases e : b' = b ∧ a' = a
          · rw [e.1, e.2]
            exact t4 p hp
          · have lt := fop_lt ⟨b, by omega⟩ ⟨a, by omega⟩ ⟨b', by omega⟩ ⟨a', by omega⟩ (show a < b by omega) ha' (show b' < b ∨ (b' = b ∧ a' < a) by omega)
            have lt' : fop a' b' + 60 ≤ fop a b := lt
            rw [t3 _ (by omega)]
            exact sd a' b' p ha' (by omega) hp
      exact inner b 0 s (by omega) s2 so (fun a' b' p ha' hb' hp => sd a' b' p ha' (by omega) hp)
  exact loop _ 1 σ (show 1 + (max n 1 - 1) = max n 1 by omega) (Nat.le_refl _) rfl (fun _ _ => rfl) (fun a' b' p ha' hb' => by omega)
theorem c_gather (d : Nat) {aH nH aL nL aY nY aS nS aI nI n l m T W : Nat} {own : Nat → Nat} {kd : Int} {σ : am_S} {K : am_S → Prop} (hI : IT σ own aH nH aL nL aY nY aS nS n l m T W kd) (hF : MF σ) (hi : sR σ 13 4 = some (aI, 20, nI)) (hoI : own aI = 16) (haI : aI < sN σ) (hnI : nI ≤ 8000) (hM : lfN (sI σ 37) T ≤ 60) (hM1 : 1 ≤ lfN (sI σ 37) T) (hn : n ≤ 12)
    (h : ∀ s aI' nI', GSf σ s aI → sR s 13 4 = some (aI', 20, nI') → 3960 ≤ nI' → nI' ≤ 8000 → ((aI' = aI ∧ nI' = nI ∧ sN s = sN σ ∧ sU s = sU σ) ∨ (aI' = sN σ ∧ sN s = sN σ + 1 ∧ sU s = sU σ + nI' ∧ 2 * nI ≤ nI')) → SUS s n (lfN (sI σ 37) T) (trX σ T) (cX σ T) → (∀ a b p, a < b → b < n → p < lfN (sI σ 37) T → sI s aI' (fop a b + p) = xpl σ n l m kd T p a b) → K s) : am_Calls PP MLL (d + 6) m_Suspects_gather [qr (13, 6, 5), qr (3, 9, 11)] σ (kV K) := by
  have hI' := hI
  obtain ⟨hR, ow, ti, kt, ks, ⟨w1, w2, w3, w4, w5, w6, w7, w8⟩, ⟨l1, l2, l3, l4⟩, _, ⟨p1, p2, p3, p4⟩, h87⟩ := hI
  obtain ⟨o1, o2, o3, o4, o5⟩ := ow
  have ne : ∀ y r, own y = r → r < 13 ∨ 15 < r → y ≠ 13 ∧ y ≠ 14 ∧ y ≠ 15 := by
    intro y r hy hr
    refine ⟨fun e => ?_, fun e => ?_, fun e => ?_⟩ <;> (rw [e, o1 _ (by decide)] at hy; omega)
  have neS := ne aS 7 o5 (by omega)
  have neY := ne aY 6 o4 (by omega)
  -- behind the first loop
  have room : ∀ s, s.2 = σ.2 → (∀ x, x ≠ 13 → x ≠ 14 → x ≠ 15 → sI s x = sI σ x) → SUS s n (lfN (sI σ 37) T) (trX σ T) (cX σ T) → ∀ z3, am_Calls PP MLL (d + 5) m_C_roomFor_AIIAI [qr (aI, 20, nI), qi 3960] s (kO fun x4 s4 =>
      (TR s4 aH nH aL nL aY nY aS nS ∧ sR s4 13 4 = some (aI, 20, nI)) ∧
      am_Runs PP MLL (d + 5) m_Suspects_gather 52 [some (qr (13, 6, 5)), some (qr (3, 9, 11)), some (qi 1), z3] [] (putR s4 13 4 x4) (kV K)) := by
    intro s s2 so hS z3
    have eN : sN s = sN σ := by unfold sN; rw [s2]
    have eU : sU s = sU σ := by unfold sU; rw [s2]
    have hi' : sR s 13 4 = some (aI, 20, nI) := by rw [R2' s2]; exact hi
    refine c_rmI (d + 2) (need := 3960) (by omega) (by omega) (by decide) (fun t a' n' hr => ?_)
    obtain ⟨⟨f1, f2⟩, r2, r3, r4, r5⟩ := hr
    have tR : ∀ x j, x < sN σ → sR t x j = sR σ x j := fun x j hx => by rw [(f1 x (by omega)).2 j, R2' s2]
    have Tt : TR t aH nH aL nL aY nY aS nS := by
      obtain ⟨c, q1, q2, q3, q4⟩ := hR
      refine ⟨fun a j r hr => ?_, by rw [tR 3 6 (by omega)]; exact q1, by rw [tR 3 7 (by omega)]; exact q2, by rw [tR 3 8 (by omega)]; exact q3, by rw [tR 3 9 (by omega)]; exact q4⟩
      obtain ⟨z1, _⟩ := cref_dec _ (crefF_mem _ a j r hr)
      rw [tR a j (by omega)]
      exact c a j r hr
    refine ⟨⟨Tt, by rw [tR 13 4 (by omega)]; exact hi⟩, ?_⟩
    obtain ⟨Z, eZ⟩ : ∃ Z, Z = putR t 13 4 (some (a', 20, n')) := ⟨_, rfl⟩
    rw [← eZ]
    have zR : ∀ x j, sR Z x j = if x = 13 ∧ j = 4 then some (a', 20, n') else sR t x j := fun x j => by rw [eZ]; rfl
    have zI : ∀ x, sI Z x = sI t x := fun x => by rw [eZ]; rfl
    have zN : sN Z = sN t := by rw [eZ]; rfl
    have zU : sU Z = sU t := by rw [eZ]; rfl
    obtain ⟨own', eo⟩ : ∃ own' : Nat → Nat, own' = fun y => if y = a' then 16 else own y := ⟨_, rfl⟩
    have ho' : ∀ x, x < sN σ → own' x = own x := fun x hx => by
      rw [eo]
      show (if x = a' then 16 else own x) = own x
      by_cases e : x = a'
      · rw [if_pos e]
        rcases r5 with ⟨q1, _⟩ | ⟨q1, _⟩
        · rw [e, q1, hoI]
        · omega
      · rw [if_neg e]
    have oa : own' a' = 16 := by rw [eo]; exact if_pos rfl
    have GZ : GSf σ Z a' := ⟨fun x x1 x2 x3 x4 _ => by rw [zI, (f1 x (by omega)).1, so x x2 x3 x4], fun x hx j => by
      by_cases e : x = 13 ∧ j = 4
      · exact Or.inl e
      · exact Or.inr (by rw [zR, if_neg e, tR x j hx]), by rw [zN]; omega⟩
    have SZ : SUS Z n (lfN (sI σ 37) T) (trX σ T) (cX σ T) := by
      unfold SUS
      rw [zI, zI, zI, (f1 13 (by omega)).1, (f1 14 (by omega)).1, (f1 15 (by omega)).1]
      exact hS
    refine c_pairs d (IT_own ho' hI') hF GZ oa (by rw [zR, if_pos ⟨rfl, rfl⟩]) r2 hM hM1 SZ hn (fun u u2 uo u3 => ?_) _
    have uN : sN u = sN Z := by unfold sN; rw [u2]
    have uU : sU u = sU Z := by unfold sU; rw [u2]
    refine h u a' n' ⟨fun x x1 x2 x3 x4 x5 => ?_, fun x hx j => ?_, by rw [uN, zN]; omega⟩ (by rw [R2' u2, zR, if_pos ⟨rfl, rfl⟩]) r2 (by omega) ?_ ?_ u3
    · have : x ≠ a' := by
        rcases r5 with ⟨q1, _⟩ | ⟨q1, _⟩
        · rw [q1]; exact x5
        · omega
      rw [uo x this, zI, (f1 x (by omega)).1, so x x2 x3 x4]
    · rw [R2' u2]
      exact GZ.2.1 x hx j
    · rw [uN, uU, zN, zU]
      rcases r5 with ⟨q1, q2, q3⟩ | ⟨q1, q2, q3, q4, q5, q6⟩
      · exact Or.inl ⟨q1, q2, by rw [q3]; exact eN, by rw [q3]; exact eU⟩
      · exact Or.inr ⟨by omega, by omega, by omega, q4⟩
    · have nI87 : ∀ x, x < 87 → x ≠ 16 → x ≠ a' := fun x hx h16 e => by
        have := ho' x (by omega)
        rw [e, oa, ← e, o1 x hx] at this
        omega
      unfold SUS
      rw [uo 13 (nI87 13 (by decide) (by decide)), uo 14 (nI87 14 (by decide) (by decide)), uo 15 (nI87 15 (by decide) (by decide))]
      exact SZ
  have TRs : ∀ s, s.2 = σ.2 → TR s aH nH aL nL aY nY aS nS := fun s s2 => by
    have e : sR s = sR σ := by
      funext a j
      exact R2' s2 a j
    unfold TR CF
    rw [e]
    exact hR
  have loop : ∀ q t s, t + q = T → s.2 = σ.2 → (∀ x, x ≠ 13 → x ≠ 14 → x ≠ 15 → sI s x = sI σ x) → SUS s n (lfN (sI σ 37) t) (trX σ T) (cX σ T) → ∀ z3, am_Runs PP MLL (d + 5) m_Suspects_gather 9 [some (qr (13, 6, 5)), some (qr (3, 9, 11)), some (qi (t : Int)), z3] [] s (kV K) := by
    intro q
    induction q with
    | zero =>
      intro t s ht s2 so hS z3
      have et : t = T := by omega
      subst et
      refine v_Suspects_gather_9 d aH nH aL nL aY nY aS nS aI nI _ z3 s K (TRs s s2) (by rw [R2' s2]; exact hi) ⟨fun _ => room s s2 so hS z3, fun c => absurd (by rw [so 3 (by decide) (by decide) (by decide), w3]; exact Int.le_refl _) c⟩
    | succ q ih =>
      intro t s ht s2 so hS z3
      obtain ⟨k1, k2, k3, k4, k5, k6, k7⟩ := ks t (by omega)
      have tm := lfN_mono (g := sI σ 37) (i := t) (j := T) (by omega)
      have pw : (2 : Int) ^ W ≤ 1073741824 := by
        have : (2 : Nat) ^ W ≤ 2 ^ 30 := Nat.pow_le_pow_right (by decide) w1
        have e : ((2 ^ W : Nat) : Int) = (2 : Int) ^ W := by rw [Int.natCast_pow]; rfl
        rw [← e]
        have : (2 : Nat) ^ 30 = 1073741824 := by decide
        omega
      refine v_Suspects_gather_9 d aH nH aL nL aY nY aS nS aI nI _ z3 s K (TRs s s2) (by rw [R2' s2]; exact hi) ⟨fun c => absurd c (by rw [so 3 (by decide) (by decide) (by decide), w3]; omega), fun _ => ?_⟩
      rw [hS.2.1]
      refine ⟨fun c => ?_, fun c => ⟨by omega, ?_⟩⟩
      · have e60 : lfN (sI σ 37) t = lfN (sI σ 37) T := by omega
        rw [e60] at hS
        exact room s s2 so hS z3
      · rw [Int.toNat_natCast, so aS neS.1 neS.2.1 neS.2.2, k1, Int.toNat_natCast, put_ne neY.2.1, so aY neY.1 neY.2.1 neY.2.2, k4, k7, show (t : Int) + 1 = ((t + 1 : Nat) : Int) by omega]
        refine ⟨fun e => ?_, fun e => ⟨by omega, ?_⟩⟩
        · have hg : sI σ 37 t < 0 := by omega
          have lt := lfN_lt hg (show t < T by omega)
          have es := lfN_s hg
          have etr : trX σ T (lfN (sI σ 37) t) = t := by
            unfold trX
            rw [if_pos lt, trp_lf (by omega) hg]
          refine ⟨by omega, by omega, by omega, by omega, ?_⟩
          obtain ⟨Z, eZ⟩ : ∃ Z, Z = putI (putI (putI s 14 (lfN (sI σ 37) t) (t : Int)) 15 (lfN (sI σ 37) t) (sI σ 36 t)) 13 3 (((lfN (sI σ 37) t : Nat) : Int) + 1) := ⟨_, rfl⟩
          rw [← eZ]
          refine ih (t + 1) Z (by omega) (by rw [eZ]; exact s2) (fun x x1 x2 x3 => by rw [eZ, put_ne x1, put_ne x3, put_ne x2, so x x1 x2 x3]) ⟨?_, ?_, fun p hp => ?_⟩ _
          · rw [eZ, put_at, if_neg (by decide), put_ne (by decide), put_ne (by decide)]
            exact hS.1
          · rw [eZ, put_at, if_pos rfl, es]
            omega
          · rw [eZ, put_ne (by decide), put_ne (by decide), put_at, put_ne (by decide), put_at, put_ne (by decide)]
            by_cases e2 : p = lfN (sI σ 37) t
            · rw [if_pos e2, if_pos e2, e2]
              unfold cX
              rw [etr]
              exact ⟨rfl, rfl⟩
            · rw [if_neg e2, if_neg e2]
              exact hS.2.2 p (by omega)
        · have hg : ¬ sI σ 37 t < 0 := by omega
          exact ih (t + 1) s (by omega) s2 so (by rw [lfN_n hg]; exact hS) _
  refine v_Suspects_gather_0 d aH nH aL nL aY nY aS nS aI nI σ K hR hi ?_
  rw [w2]
  obtain ⟨Z, eZ⟩ : ∃ Z, Z = putI (putI σ 13 2 (n : Int)) 13 3 0 := ⟨_, rfl⟩
  rw [← eZ]
  refine loop T 0 Z (by omega) (by rw [eZ]; rfl) (fun x x1 x2 x3 => by rw [eZ, put_ne x1, put_ne x1]) ⟨?_, ?_, fun p hp => absurd hp (Nat.not_lt_zero p)⟩ _
  · rw [eZ, put_at, if_neg (by decide), put_at, if_pos rfl]
  · rw [eZ, put_at, if_pos rfl]
    rfl
