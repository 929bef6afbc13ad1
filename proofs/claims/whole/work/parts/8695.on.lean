/-! the search goes on, with what is allowed still -/
theorem m_goesOn9 (d : Nat) {ob n k0 : Nat} {X : sX} {tr : Nat → Nat} {c0 : Nat → Int} (hm : ¬ mn X c0 ≤ 0) : ∀ (N T : Nat) {A : sA} {σ : am_S} {v2 : Int} {K : Int → am_S → Prop}, T ≤ N → ¬ v2 = 0 → MS σ X ob n tr c0 k0 A → sI σ 31 34 = 0 → sI σ 31 35 = -1000 → sI σ 31 73 = 0 → sI σ 31 39 = T → (0 ≤ sI σ 31 37 ∧ sI σ 31 37 + T ≤ 100000) → (∀ s, MG σ s → MR s X ob n tr c0 k0 (stn X c0 k0 T A) → sI s 31 37 = sI σ 31 37 + (stc X c0 k0 T A : Nat) → (0 ≤ sI s 31 39 ∧ sI s 31 39 ≤ T) → K (sI s 31 34) s) → ∀ z1 z3, am_Runs PP MLL (d + 5) m_M_goesOn 11 [some (qr (31, 12, 89)), z1, some (qi v2), z3] [] σ (kI K) := by
  intro N
  induction N with
  | zero => 
    intro T A σ v2 K hT hv hM h34 h35 h73 h39 h37 k z1 z3
    have hb : MF σ ∧ sI σ 31 26 = 0 := by
      rcases hM with ⟨_, q⟩ | ⟨_, q⟩
      · exact ⟨q.1.1, q.1.2.1.2.2.2.2.2.2.2.2.2.2.2.2.2⟩
      · exact ⟨q.1.1, q.1.2.1.2.2.2.2.2.2.2.2.2.2.2.2.2⟩
    have t0 : T = 0 := by omega
    subst t0
    refine v_M_goesOn_11 d v2 z1 z3 σ K hb.1 hb.2 ⟨fun c => absurd c hv, fun _ => ⟨fun _ => ?_, fun c => absurd h34 c⟩⟩
    refine v_M_goes_0 d 0 1 σ _ hb.1 hb.2 ?_
    refine gRun d 0 hM h39 (by omega) (fun s f1 f2 f3 f4 f5 => ?_) (fun s t n0 js os f1 f2 => by omega) (fun s t n0 js os f1 f2 => by omega) _
    obtain ⟨e1, e2, e3⟩ := MFr_MG f1
    have F2 : MF s := MF_I hb.1 e1
    have T2 : sI s 31 26 = 0 := by rw [f1.2.2.1 26 (by decide) (by decide) (by decide) (by decide) (by decide)]; exact hb.2
    have s34 : sI s 31 34 = 0 := by rw [f1.2.2.1 34 (by decide) (by decide) (by decide) (by decide) (by decide)]; exact h34
    refine ⟨⟨F2, T2⟩, fun _ => ?_, fun c => absurd rfl c⟩
    refine v_M_goesOn_11 d 0 _ _ s K F2 T2 ⟨fun _ => ?_, fun c => absurd rfl c⟩
    rw [if_pos s34, ← s34]
    exact k s (MFr_MG f1) (Or.inl ⟨f2, s34, by rw [f1.2.2.1 35 (by decide) (by decide) (by decide) (by decide) (by decide)]; exact h35, by rw [f1.2.2.1 73 (by decide) (by decide) (by decide) (by decide) (by decide)]; exact h73⟩) (by rw [f4, f3]) (by rw [f5]; omega)
  | succ N ih =>
    intro T A σ v2 K hT hv hM h34 h35 h73 h39 h37 k z1 z3
    have hb : MF σ ∧ sI σ 31 26 = 0 := by
      rcases hM with ⟨_, q⟩ | ⟨_, q⟩
      · exact ⟨q.1.1, q.1.2.1.2.2.2.2.2.2.2.2.2.2.2.2.2⟩
      · exact ⟨q.1.1, q.1.2.1.2.2.2.2.2.2.2.2.2.2.2.2.2⟩
    refine v_M_goesOn_11 d v2 z1 z3 σ K hb.1 hb.2 ⟨fun c => absurd c hv, fun _ => ⟨fun _ => ?_, fun c => absurd h34 c⟩⟩
    refine v_M_goes_0 d 0 1 σ _ hb.1 hb.2 ?_
    refine gRun d T hM h39 (by omega) (fun s f1 f2 f3 f4 f5 => ?_) (fun s t n0 js os f1 f2 f3 f4 f5 f6 f7 => ?_) (fun s t n0 js os f1 f2 f3 f4 f5 f6 f7 => ?_) _
    · have g := f1.2.2.1
      have F2 : MF s := MF_I hb.1 f1.1
      have T2 : sI s 31 26 = 0 := by rw [g 26 (by decide) (by decide) (by decide) (by decide) (by decide)]; exact hb.2
      have s34 : sI s 31 34 = 0 := by rw [g 34 (by decide) (by decide) (by decide) (by decide) (by decide)]; exact h34
      refine ⟨⟨F2, T2⟩, fun _ => ?_, fun c => absurd rfl c⟩
      refine v_M_goesOn_11 d 0 _ _ s K F2 T2 ⟨fun _ => ?_, fun c => absurd rfl c⟩
      rw [if_pos s34, ← s34]
      exact k s (MFr_MG f1) (Or.inl ⟨f2, s34, by rw [g 35 (by decide) (by decide) (by decide) (by decide) (by decide)]; exact h35, by rw [g 73 (by decide) (by decide) (by decide) (by decide) (by decide)]; exact h73⟩) (by rw [f4, f3]) (by rw [f5]; omega)
    · have g := f1.2.2.1
      obtain ⟨hB, hr, hL, hc⟩ := f7
      have F2 : MF s := hB.1
      have T2 : sI s 31 26 = 0 := hB.2.1.2.2.2.2.2.2.2.2.2.2.2.2.2
      have n6 := hB.2.2.2.2.2.2.1
      have cv := hB.2.2.2.2.2.2.2.2
      have xv := hB.2.1.1
      obtain ⟨r60, rRS⟩ := hr.resolve_left hm
      have t6 : tsz X n0 c0 k0 ≤ 6000 := by
        have a1 := tsz_phi xv n0 c0 k0 cv
        have a2 := phi_bd xv (c := c0) (k := k0) n6
        omega
      refine ⟨⟨F2, T2⟩, fun c => absurd c (by decide), fun _ => ⟨fun _ => ?_, fun c => absurd rfl c⟩⟩
      obtain ⟨Z, eZ⟩ : ∃ Z, Z = putI (putI s 31 35 (sI s 54 0)) 31 34 1 := ⟨_, rfl⟩
      rw [← eZ]
      have Z2 : Z.2 = s.2 := by rw [eZ]; rfl
      have Zo : ∀ x, x ≠ 31 → sI Z x = sI s x := fun x hx => by rw [eZ, put_ne hx, put_ne hx]
      have Z31 : ∀ j, sI Z 31 j = if j = 34 then 1 else if j = 35 then (n0 : Int) else sI s 31 j := fun j => by rw [eZ, put_at, put_at, hL.2.1]
      have z31 : ∀ j, j ≠ 34 → j ≠ 35 → sI Z 31 j = sI s 31 j := fun j j1 j2 => by rw [Z31, if_neg j1, if_neg j2]
      have frZ : MG s Z := ⟨Z2, fun x _ x2 => Zo x x2, fun j a b _ _ _ _ _ _ => z31 j a b⟩
      refine c_M_build (d + 4) (tr := tr) (n0 := n0) (k0 := k0) (c0 := c0) (MF_I F2 Z2) (by rw [z31 26 (by decide) (by decide)]; exact T2) hm (by rw [z31 60 (by decide) (by decide)]; exact r60) t6 n6 (RS_fr n0 _ _ _ _ _ hm (fun x x1 x2 j _ _ => by rw [Zo x (by omega)]) rRS) (fun b hb' => ?_)
      obtain ⟨b1, b2, b3, b4, b5, b6, b7⟩ := hb'
      have Fb : MF b := MF_I (MF_I F2 Z2) b1
      have Tb : sI b 31 26 = 0 := by rw [b3 26 (by decide), z31 26 (by decide) (by decide)]; exact T2
      have b34 : sI b 31 34 = 1 := by rw [b3 34 (by decide), Z31, if_pos rfl]
      refine ⟨⟨Fb, Tb⟩, ?_⟩
      refine v_M_goesOn_11 d v2 _ _ b K Fb Tb ⟨fun c => absurd c hv, fun _ => ⟨fun c => absurd c (by rw [b34]; decide), fun _ => ?_⟩⟩
      have frb : MG Z b := ⟨b1, fun x x1 x2 => by
        by_cases e : x = 79
        · rw [e]; exact b4
        · exact b2 x (by omega) x2, fun j _ _ _ _ _ _ _ a => b3 j a⟩
      have fin := k b (MG_tr (MFr_MG f1) (MG_tr frZ frb)) ?_ ?_ (by rw [b3 39 (by decide), z31 39 (by decide) (by decide), f3]; omega)
      · rw [b34] at fin
        exact fin
      · rw [f5]
        refine Or.inr (Or.inl ⟨rfl, ?_, b34, by rw [b3 35 (by decide), Z31, if_neg (by decide), if_pos rfl], b5, RS_fr n0 _ _ _ _ _ hm (fun x x1 x2 j _ _ => by rw [b2 x (by omega) (by omega), Zo x (by omega)]) rRS, b6, b7, hc, by rw [b3 60 (by decide), z31 60 (by decide) (by decide)]; exact r60⟩)
        obtain ⟨hB1, hB2, hB3, hB4, hB5⟩ := hB
        refine ⟨Fb, MX_fr hB2 (fun x x1 x2 => by rw [b2 x (by omega) x2, Zo x x2]) (fun j hj => by rw [b3 j (by omega), z31 j (by omega) (by omega)]), fun j => by rw [b2 64 (by decide) (by decide), b2 65 (by decide) (by decide), Zo 64 (by decide), Zo 65 (by decide)]; exact hB3 j, by rw [b3 59 (by decide), z31 59 (by decide) (by decide)]; exact hB4, hB5⟩
      · rw [b3 37 (by decide), z31 37 (by decide) (by decide)]
        omega
    · have g := f1.2.2.1
      obtain ⟨hB, h57, h60, hL, hc⟩ := f7
      have F2 : MF s := hB.1
      have T2 : sI s 31 26 = 0 := hB.2.1.2.2.2.2.2.2.2.2.2.2.2.2.2
      have n6 := hB.2.2.2.2.2.2.1
      have s34 : sI s 31 34 = 0 := by rw [g 34 (by decide) (by decide) (by decide) (by decide) (by decide)]; exact h34
      have s35 : sI s 31 35 = -1000 := by rw [g 35 (by decide) (by decide) (by decide) (by decide) (by decide)]; exact h35
      have s73 : sI s 31 73 = 0 := by rw [g 73 (by decide) (by decide) (by decide) (by decide) (by decide)]; exact h73
      refine ⟨⟨F2, T2⟩, fun c => absurd c (by decide), fun _ => ⟨fun c => absurd c (by decide), fun _ => ?_⟩⟩
      rw [hL.2.1]
      refine ⟨fun e6 => ?_, fun e6 => ⟨by omega, ?_⟩⟩
      · have e6' : 6 ≤ n0 := by omega
        have eu : upN X c0 k0 n0 js os 0 = (3, n0, 0, js, os) := by
          show (if 6 ≤ n0 then ((3, n0, 0, js, os) : sA) else (0, n0 + 1, 0, js, os)) = _
          rw [if_pos e6']
        rw [eu] at f5 f6
        obtain ⟨w1, w2⟩ := stn_e (X := X) (c0 := c0) (k0 := k0) (A := (3, n0, 0, js, os)) (show 2 ≤ 3 by decide) t
        rw [w1] at f5
        rw [w2] at f6
        obtain ⟨Z, eZ⟩ : ∃ Z, Z = putI s 31 34 1 := ⟨_, rfl⟩
        rw [← eZ]
        have Z2 : Z.2 = s.2 := by rw [eZ]; rfl
        have Zo : ∀ x, x ≠ 31 → sI Z x = sI s x := fun x hx => by rw [eZ, put_ne hx]
        have Z34 : sI Z 31 34 = 1 := by rw [eZ, put_at, if_pos rfl]
        have z31 : ∀ j, j ≠ 34 → sI Z 31 j = sI s 31 j := fun j j1 => by rw [eZ, put_at, if_neg j1]
        have FZ : MF Z := MF_I F2 Z2
        have TZ : sI Z 31 26 = 0 := by rw [z31 26 (by decide)]; exact T2
        refine v_M_goesOn_11 d v2 _ _ Z K FZ TZ ⟨fun c => absurd c hv, fun _ => ⟨fun c => absurd c (by rw [Z34]; decide), fun _ => ?_⟩⟩
        have fin := k Z (MG_tr (MFr_MG f1) ⟨Z2, fun x _ x2 => Zo x x2, fun j a _ _ _ _ _ _ _ => z31 j a⟩) ?_ ?_ (by rw [z31 39 (by decide), f3]; omega)
        · rw [Z34] at fin
          exact fin
        · rw [f5]
          have e0 : n0 = 6 := by omega
          rw [e0] at hB
          obtain ⟨hB1, hB2, hB3, hB4, hB5⟩ := hB
          exact Or.inr (Or.inr ⟨rfl, ⟨FZ, MX_fr hB2 (fun x x1 x2 => Zo x x2) (fun j hj => z31 j (by omega)), fun j => by rw [Zo 64 (by decide), Zo 65 (by decide)]; exact hB3 j, by rw [z31 59 (by decide)]; exact hB4, hB5⟩, Z34, by rw [z31 35 (by decide)]; exact s35, by rw [z31 73 (by decide)]; exact s73⟩)
        · rw [z31 37 (by decide)]
          omega
      · have e6' : ¬ 6 ≤ n0 := by omega
        have eu : upN X c0 k0 n0 js os 0 = (0, n0 + 1, 0, js, os) := by
          show (if 6 ≤ n0 then ((3, n0, 0, js, os) : sA) else (0, n0 + 1, 0, js, os)) = _
          rw [if_neg e6']
        rw [eu] at f5 f6
        rw [show (n0 : Int) + 1 = ((n0 + 1 : Nat) : Int) by omega]
        obtain ⟨Z, eZ⟩ : ∃ Z, Z = putI (putI (putI s 54 0 ((n0 + 1 : Nat) : Int)) 31 57 0) 31 58 0 := ⟨_, rfl⟩
        rw [← eZ]
        have Z2 : Z.2 = s.2 := by rw [eZ]; rfl
        have Zo : ∀ x, x ≠ 31 → x ≠ 54 → sI Z x = sI s x := fun x hx hx2 => by rw [eZ, put_ne hx, put_ne hx, put_ne hx2]
        have z31 : ∀ j, j ≠ 57 → j ≠ 58 → sI Z 31 j = sI s 31 j := fun j j1 j2 => by rw [eZ, put_at, if_neg j2, put_at, if_neg j1, put_ne (by decide)]
        have Z57 : sI Z 31 57 = 0 := by rw [eZ, put_at, if_neg (by decide), put_at, if_pos rfl]
        have Z58 : sI Z 31 58 = 0 := by rw [eZ, put_at, if_pos rfl]
        have Z54 : sI Z 54 0 = ((n0 + 1 : Nat) : Int) := by rw [eZ, put_ne (by decide), put_ne (by decide), put_at, if_pos rfl]
        obtain ⟨hB1, hB2, hB3, hB4, hB5, hB6, hB7, hB8, hB9⟩ := hB
        have hM0 : M0 Z 1 0 0 X ob n tr c0 k0 (n0 + 1) js os 0 := by
          refine ⟨⟨MF_I F2 Z2, MX_fr hB2 (fun x x1 x2 => Zo x x2 (by omega)) (fun j hj => z31 j (by omega) (by omega)), fun j => by rw [Zo 64 (by decide) (by decide), Zo 65 (by decide) (by decide)]; exact hB3 j, by rw [z31 59 (by decide) (by decide)]; exact hB4, hB5, hB6, by omega, hB8, hB9⟩, fun i hi => absurd hi (Nat.not_lt_zero i), Z58, Z57, fun i hi => absurd hi (Nat.not_lt_zero i), ⟨fun q hq => by rw [Zo 53 (by decide) (by decide)]; exact hL.1 q hq, Z54, by rw [Zo 55 (by decide) (by decide)]; exact hL.2.2⟩, ?_⟩
          rw [z31 60 (by decide) (by decide), h60, rkp_0]
          rfl
        refine ih t (A := (0, n0 + 1, 0, js, os)) (by omega) hv (Or.inl ⟨rfl, hM0⟩) (by rw [z31 34 (by decide) (by decide)]; exact s34) (by rw [z31 35 (by decide) (by decide)]; exact s35) (by rw [z31 73 (by decide) (by decide)]; exact s73) (by rw [z31 39 (by decide) (by decide)]; exact f3) (by rw [z31 37 (by decide) (by decide)]; omega) (fun s' w1 w2 w3 w4 => k s' (MG_tr (MFr_MG f1) (MG_tr ⟨Z2, fun x x1 x2 => Zo x x2 (by omega), fun j _ _ _ _ a b _ _ => z31 j a b⟩ w1)) (by rw [f5]; exact w2) ?_ (by omega)) _ _
        rw [w3, z31 37 (by decide) (by decide)]
        omega
theorem c_M_goesOn9 (d : Nat) {ob n k0 T st : Nat} {X : sX} {tr : Nat → Nat} {c0 : Nat → Int} {A : sA} {σ : am_S} {K : Int → am_S → Prop} (hm : ¬ mn X c0 ≤ 0) (hM : MS σ X ob n tr c0 k0 A) (h34 : sI σ 31 34 = 0) (h35 : sI σ 31 35 = -1000) (h73 : sI σ 31 73 = 0) (h37 : sI σ 31 37 = st) (hst : st + T ≤ 100000) (h38 : 0 ≤ sI σ 31 38 ∧ sI σ 31 38 ≤ 1000000) (k : ∀ s, MG (putI σ 31 38 (sI σ 31 38 + T)) s → MR s X ob n tr c0 k0 (stn X c0 k0 T A) → sI s 31 37 = ((st + stc X c0 k0 T A : Nat) : Int) → (0 ≤ sI s 31 39 ∧ sI s 31 39 ≤ T) → K (sI s 31 34) s) : am_Calls PP MLL (d + 6) m_M_goesOn [qr (31, 12, 89), qi (T : Int)] σ (kI K) := by
  have hb : MF σ ∧ sI σ 31 26 = 0 := by
    rcases hM with ⟨_, q⟩ | ⟨_, q⟩
    · exact ⟨q.1.1, q.1.2.1.2.2.2.2.2.2.2.2.2.2.2.2.2⟩
    · exact ⟨q.1.1, q.1.2.1.2.2.2.2.2.2.2.2.2.2.2.2.2⟩
  refine v_M_goesOn_0 d (T : Int) σ K hb.1 hb.2 ⟨by omega, ?_⟩
  obtain ⟨Z, eZ⟩ : ∃ Z, Z = putI (putI σ 31 39 (T : Int)) 31 38 (sI σ 31 38 + (T : Int)) := ⟨_, rfl⟩
  rw [← eZ]
  have Z2 : Z.2 = σ.2 := by rw [eZ]; rfl
  have Zo : ∀ x, x ≠ 31 → sI Z x = sI σ x := fun x hx => by rw [eZ, put_ne hx, put_ne hx]
  have z31 : ∀ j, j ≠ 38 → j ≠ 39 → sI Z 31 j = sI σ 31 j := fun j j1 j2 => by rw [eZ, put_at, if_neg j1, put_at, if_neg j2]
  have Z39 : sI Z 31 39 = T := by rw [eZ, put_at, if_neg (by decide), put_at, if_pos rfl]
  have hMZ : MS Z X ob n tr c0 k0 A := by
    have mb : ∀ n0, MB σ 1 0 X ob n tr c0 k0 n0 → MB Z 1 0 X ob n tr c0 k0 n0 := fun n0 ⟨hB1, hB2, hB3, hB4, hB5⟩ => ⟨MF_I hB1 Z2, MX_fr hB2 (fun x x1 x2 => Zo x x2) (fun j hj => z31 j (by omega) (by omega)), fun j => by rw [Zo 64 (by decide), Zo 65 (by decide)]; exact hB3 j, by rw [z31 59 (by decide) (by decide)]; exact hB4, hB5⟩
    rcases hM with ⟨e, q1, q2, q3, q4, q5, q6, q7⟩ | ⟨e, q1, q2, q3, q4, q5, q6, q7, q8, q9, q10⟩
    · have xv := q1.2.1.1
      exact Or.inl ⟨e, mb _ q1, q2, by rw [z31 58 (by decide) (by decide)]; exact q3, by rw [z31 57 (by decide) (by decide)]; exact q4, ML_eq xv Zo q5, LA_fr xv.2.1 (fun j _ _ => by rw [Zo 53 (by decide)]) (by rw [Zo 54 (by decide)]) (by rw [Zo 55 (by decide)]) q6, by rw [z31 60 (by decide) (by decide)]; exact q7⟩
    · have xv := q1.2.1.1
      exact Or.inr ⟨e, mb _ q1, q2, q3, by rw [z31 58 (by decide) (by decide)]; exact q4, by rw [z31 57 (by decide) (by decide)]; exact q5, ML_eq xv Zo q6, LA_fr xv.2.1 (fun j _ _ => by rw [Zo 53 (by decide)]) (by rw [Zo 54 (by decide)]) (by rw [Zo 55 (by decide)]) q7, LW_fr xv (by rw [Zo 59 (by decide)]) (by rw [Zo 60 (by decide)]) (by rw [Zo 61 (by decide)]) (fun x x1 x2 q _ _ => by rw [Zo x (by omega)]) q8, by rw [Zo 58 (by decide)]; exact q9, by rw [z31 60 (by decide) (by decide)]; exact q10⟩
  refine m_goesOn9 d hm T T (Nat.le_refl _) (by decide) hMZ (by rw [z31 34 (by decide) (by decide)]; exact h34) (by rw [z31 35 (by decide) (by decide)]; exact h35) (by rw [z31 73 (by decide) (by decide)]; exact h73) Z39 (by rw [z31 37 (by decide) (by decide), h37]; omega) (fun s f1 f2 f3 f4 => k s ?_ f2 ?_ f4) _ _
  · obtain ⟨g1, g2, g3⟩ := f1
    refine ⟨g1.trans Z2, fun x x1 x2 => by rw [g2 x x1 x2, Zo x x2, put_ne x2], fun j a b c d e f g i => ?_⟩
    rw [g3 j a b c d e f g i, eZ, put_at, put_at, put_at, if_neg d]
  · rw [f3, z31 37 (by decide) (by decide), h37]
    omega
theorem stc_le {X : sX} {c0 : Nat → Int} {k0 : Nat} : ∀ T A, stc X c0 k0 T A ≤ T
  | 0, _ => Nat.le_refl _
  | T + 1, A => by
    show (if 2 ≤ A.1 then 0 else 1 + stc X c0 k0 T (stp X c0 k0 A)) ≤ T + 1
    split
    · omega
    · have := stc_le (X := X) (c0 := c0) (k0 := k0) T (stp X c0 k0 A)
      omega
