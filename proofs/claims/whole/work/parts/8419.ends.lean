/-! every case is decided -/
def EnN (X : sX) (c0 : Nat → Int) (k0 n0 : Nat) : Nat → sA → Prop
  | 0, _ => False
  | T + 1, A => (2 ≤ (stp X c0 k0 A).1 ∨ (stp X c0 k0 A).2.1 ≠ n0) ∨ EnN X c0 k0 n0 T (stp X c0 k0 A)
def Ends (X : sX) (c0 : Nat → Int) (k0 n0 : Nat) (A : sA) : Prop := ∃ T, EnN X c0 k0 n0 T A
def EO (X : sX) (c0 : Nat → Int) (k0 n0 : Nat) (B : sA) : Prop := (2 ≤ B.1 ∨ B.2.1 ≠ n0) ∨ Ends X c0 k0 n0 B
theorem EO_e {X : sX} {c0 : Nat → Int} {k0 n0 : Nat} {A B : sA} (e : stp X c0 k0 A = B) (h : EO X c0 k0 n0 B) : Ends X c0 k0 n0 A := by
  rcases h with h | h
  · exact ⟨1, Or.inl (by rw [e]; exact h)⟩
  · obtain ⟨T, hT⟩ := h
    exact ⟨T + 1, Or.inr (by rw [e]; exact hT)⟩
theorem Ends_l {X : sX} (hX : XV X) {c0 : Nat → Int} {k0 n0 : Nat} : ∀ (q l : Nat) (js : Nat → Nat) (os : Nat → Int), l + q = n0 → (∀ js' os', (∀ i, i < l → js i = js' i ∧ os i = os' i) → EO X c0 k0 n0 (upY X k0 n0 js' os' l)) → (∀ js' os', (∀ i, i < l → js i = js' i ∧ os i = os' i) → EO X c0 k0 n0 (upN X c0 k0 n0 js' os' l)) → Ends X c0 k0 n0 (0, n0, l, js, os)
  | q, l, js, os, hl, hy, hn => by
    by_cases m : mn X (csq X c0 k0 js os l) < 2
    · exact EO_e (stp_Y m) (hy js os (fun _ _ => ⟨rfl, rfl⟩))
    · by_cases b : big X (n0 - l) (csq X c0 k0 js os l)
      · exact EO_e (stp_B m b) (hn js os (fun _ _ => ⟨rfl, rfl⟩))
      · have l0 : ¬ n0 - l = 0 := fun e => b (Or.inl e)
        cases q with
        | zero => omega
        | succ q =>
          have hw := stp_W m b
          cases ew : wsq X (csq X c0 k0 js os l) 0 with
          | none =>
            rw [ew] at hw
            exact EO_e hw (hn js os (fun _ _ => ⟨rfl, rfl⟩))
          | some w =>
            rw [ew] at hw
            refine EO_e hw (Or.inr (EO_e stp_L (Or.inr ?_)))
            have hmo := oc_37 X (k0 + l)
            have Q : ∀ (N : Nat) (js' : Nat → Nat) (os' : Nat → Int), (∀ i, i < l → js i = js' i ∧ os i = os' i) → js' l < wct X (csq X c0 k0 js os l) → -mo (xK X (k0 + l)) ≤ os' l → os' l ≤ mo (xK X (k0 + l)) → (wct X (csq X c0 k0 js os l) - js' l) * 8 + (mo (xK X (k0 + l)) - os' l).toNat ≤ N → Ends X c0 k0 n0 (0, n0, l + 1, js', os') := by
              intro N
              induction N with
              | zero =>
                intro js' os' _ h1 _ _ h4
                omega
              | succ N ih =>
                intro js' os' ha h1 h2 h3 h4
                refine Ends_l hX q (l + 1) js' os' (by omega) (fun js2 os2 h => ?_) (fun js2 os2 h => ?_)
                · have e := h l (by omega)
                  have ag : ∀ i, i < l → js i = js2 i ∧ os i = os2 i := fun i hi => ⟨(ha i hi).1.trans (h i (by omega)).1, (ha i hi).2.trans (h i (by omega)).2⟩
                  show EO X c0 k0 n0 (if os2 l < mo (xK X (k0 + l)) then (0, n0, l + 1, js2, ud os2 l (os2 l + 1)) else upY X k0 n0 js2 os2 l)
                  by_cases g : os2 l < mo (xK X (k0 + l))
                  · rw [if_pos g]
                    have u : ud os2 l (os2 l + 1) l = os2 l + 1 := by unfold ud; rw [if_pos rfl]
                    refine Or.inr (ih js2 _ (fun i hi => ⟨(ag i hi).1, by unfold ud; rw [if_neg (by omega)]; exact (ag i hi).2⟩) (by rw [← e.1]; exact h1) (by rw [u, ← e.2]; omega) (by rw [u]; omega) ?_)
                    rw [u, ← e.1, ← e.2]
                    omega
                  · rw [if_neg g]
                    exact hy js2 os2 ag
                · have e := h l (by omega)
                  have ag : ∀ i, i < l → js i = js2 i ∧ os i = os2 i := fun i hi => ⟨(ha i hi).1.trans (h i (by omega)).1, (ha i hi).2.trans (h i (by omega)).2⟩
                  have ec := csq_congr (X := X) (c0 := c0) (k0 := k0) l ag
                  show EO X c0 k0 n0 (match wsq X (csq X c0 k0 js2 os2 l) (js2 l + 1) with | some _ => (1, n0, l, uN js2 l (js2 l + 1), os2) | none => upN X c0 k0 n0 js2 os2 l)
                  cases g : wsq X (csq X c0 k0 js2 os2 l) (js2 l + 1) with
                  | none => exact hn js2 os2 ag
                  | some w2 =>
                    have lt := wct_iff hX g
                    rw [← ec] at lt
                    have u1 : uN js2 l (js2 l + 1) l = js2 l + 1 := by unfold uN; rw [if_pos rfl]
                    have u2 : ud os2 l (-mo (xK X (k0 + l))) l = -mo (xK X (k0 + l)) := by unfold ud; rw [if_pos rfl]
                    refine Or.inr (EO_e stp_L (Or.inr (ih _ _ (fun i hi => ⟨by unfold uN; rw [if_neg (by omega)]; exact (ag i hi).1, by unfold ud; rw [if_neg (by omega)]; exact (ag i hi).2⟩) (by rw [u1]; exact lt) (by rw [u2]; omega) (by rw [u2]; omega) ?_)))
                    rw [u1, u2, ← e.1]
                    rw [← e.1] at lt
                    omega
            have lt := wct_iff hX ew
            have u1 : uN js l 0 l = 0 := by unfold uN; rw [if_pos rfl]
            have u2 : ud os l (-mo (xK X (k0 + l))) l = -mo (xK X (k0 + l)) := by unfold ud; rw [if_pos rfl]
            exact Q _ _ _ (fun i hi => ⟨by unfold uN; rw [if_neg (by omega)], by unfold ud; rw [if_neg (by omega)]⟩) (by rw [u1]; exact lt) (by rw [u2]; omega) (by rw [u2]; omega) (Nat.le_refl _)
theorem Ends_0 {X : sX} (hX : XV X) {c0 : Nat → Int} {k0 n0 : Nat} (js : Nat → Nat) (os : Nat → Int) : Ends X c0 k0 n0 (0, n0, 0, js, os) := by
  refine Ends_l hX n0 0 js os (by omega) (fun js' os' _ => Or.inl (Or.inl (Nat.le_refl 2))) (fun js' os' _ => Or.inl ?_)
  show 2 ≤ (if 6 ≤ n0 then ((3, n0, 0, js', os') : sA) else (0, n0 + 1, 0, js', os')).1 ∨ (if 6 ≤ n0 then ((3, n0, 0, js', os') : sA) else (0, n0 + 1, 0, js', os')).2.1 ≠ n0
  by_cases g : 6 ≤ n0
  · rw [if_pos g]
    exact Or.inl (show 2 ≤ 3 by decide)
  · rw [if_neg g]
    exact Or.inr (by show n0 + 1 ≠ n0; omega)
/-- the reference: a case is decided, uncounted -/
theorem gRun7 (d : Nat) {R ob n k0 n0 : Nat} {X : sX} {tr : Nat → Nat} {c0 : Nat → Int} (hR : R < 6000) {A : sA} (hE : Ends X c0 k0 n0 A) : ∀ {σ : am_S} {K : Int → am_S → Prop}, A.2.1 = n0 → ((A.1 = 0 ∧ M0 σ 0 R 7 X ob n tr c0 k0 n0 A.2.2.2.1 A.2.2.2.2 A.2.2.1) ∨ (A.1 = 1 ∧ M2 σ 0 R 7 X ob n tr c0 k0 n0 A.2.2.2.1 A.2.2.2.2 A.2.2.1)) → (0 ≤ sI σ 31 39 ∧ sI σ 31 39 ≤ 1000000) → (0 ≤ sI σ 31 37 ∧ sI σ 31 37 ≤ 1000000) → (∀ s, MFr σ s 7 → sI s 31 37 = sI σ 31 37 ∧ sI s 31 39 = sI σ 31 39 → MB s 0 7 X ob n tr c0 k0 n0 → sI s 31 60 = R → can X n0 c0 k0 → K 1 s) → (∀ s, MFr σ s 7 → sI s 31 37 = sI σ 31 37 ∧ sI s 31 39 = sI σ 31 39 → MB s 0 7 X ob n tr c0 k0 n0 → sI s 31 60 = R → ¬ can X n0 c0 k0 → K 2 s) → GO d ((7 : Nat) : Int) 0 0 σ K := by
  have main : ∀ (A : sA), (∀ A', stp X c0 k0 A = A' → ¬ (2 ≤ A'.1 ∨ A'.2.1 ≠ n0) → ∀ {σ : am_S} {K : Int → am_S → Prop}, A'.2.1 = n0 → ((A'.1 = 0 ∧ M0 σ 0 R 7 X ob n tr c0 k0 n0 A'.2.2.2.1 A'.2.2.2.2 A'.2.2.1) ∨ (A'.1 = 1 ∧ M2 σ 0 R 7 X ob n tr c0 k0 n0 A'.2.2.2.1 A'.2.2.2.2 A'.2.2.1)) → (0 ≤ sI σ 31 39 ∧ sI σ 31 39 ≤ 1000000) → (0 ≤ sI σ 31 37 ∧ sI σ 31 37 ≤ 1000000) → (∀ s, MFr σ s 7 → sI s 31 37 = sI σ 31 37 ∧ sI s 31 39 = sI σ 31 39 → MB s 0 7 X ob n tr c0 k0 n0 → sI s 31 60 = R → can X n0 c0 k0 → K 1 s) → (∀ s, MFr σ s 7 → sI s 31 37 = sI σ 31 37 ∧ sI s 31 39 = sI σ 31 39 → MB s 0 7 X ob n tr c0 k0 n0 → sI s 31 60 = R → ¬ can X n0 c0 k0 → K 2 s) → GO d ((7 : Nat) : Int) 0 0 σ K) → ∀ {σ : am_S} {K : Int → am_S → Prop}, A.2.1 = n0 → ((A.1 = 0 ∧ M0 σ 0 R 7 X ob n tr c0 k0 n0 A.2.2.2.1 A.2.2.2.2 A.2.2.1) ∨ (A.1 = 1 ∧ M2 σ 0 R 7 X ob n tr c0 k0 n0 A.2.2.2.1 A.2.2.2.2 A.2.2.1)) → (0 ≤ sI σ 31 39 ∧ sI σ 31 39 ≤ 1000000) → (0 ≤ sI σ 31 37 ∧ sI σ 31 37 ≤ 1000000) → (∀ s, MFr σ s 7 → sI s 31 37 = sI σ 31 37 ∧ sI s 31 39 = sI σ 31 39 → MB s 0 7 X ob n tr c0 k0 n0 → sI s 31 60 = R → can X n0 c0 k0 → K 1 s) → (∀ s, MFr σ s 7 → sI s 31 37 = sI σ 31 37 ∧ sI s 31 39 = sI σ 31 39 → MB s 0 7 X ob n tr c0 k0 n0 → sI s 31 60 = R → ¬ can X n0 c0 k0 → K 2 s) → GO d ((7 : Nat) : Int) 0 0 σ K := by
    intro A ih σ K hA hM h39 h37 h1 h2
    obtain ⟨ph, n1, l, js, os⟩ := A
    have en : n1 = n0 := hA
    subst en
    have go : ∀ A' s, stp X c0 k0 (ph, n1, l, js, os) = A' → ¬ (2 ≤ A'.1 ∨ A'.2.1 ≠ n1) → ((A'.1 = 0 ∧ M0 s 0 R 7 X ob n tr c0 k0 n1 A'.2.2.2.1 A'.2.2.2.2 A'.2.2.1) ∨ (A'.1 = 1 ∧ M2 s 0 R 7 X ob n tr c0 k0 n1 A'.2.2.2.1 A'.2.2.2.2 A'.2.2.1)) → MFr σ s 7 → sI s 31 37 = sI σ 31 37 ∧ sI s 31 39 = sI σ 31 39 → GO d ((7 : Nat) : Int) 0 0 s K := by
      intro A' s e nf hs fr c
      refine ih A' e nf (Classical.byContradiction fun q => nf (Or.inr q)) hs (by rw [c.2]; exact h39) (by rw [c.1]; exact h37) (fun s' f1 f2 f3 f4 f5 => h1 s' (MFr_tr fr f1) (by rw [f2.1, f2.2]; exact c) f3 f4 f5) (fun s' f1 f2 f3 f4 f5 => h2 s' (MFr_tr fr f1) (by rw [f2.1, f2.2]; exact c) f3 f4 f5)
    have goN : ∀ s, stp X c0 k0 (ph, n1, l, js, os) = upN X c0 k0 n1 js os l → l ≤ 6 → NM s 0 R 7 X ob n tr c0 k0 n1 js os l → MFr σ s 7 → sI s 31 37 = sI σ 31 37 ∧ sI s 31 39 = sI σ 31 39 → UP d ((7 : Nat) : Int) 0 0 s K := by
      intro s e hl hs fr c
      refine nM d l hl hs (fun eu s' f1 f2 f3 f4 f5 f6 f7 => ?_) (fun s' l' eu f1 f2 f3 => ?_)
      · exact h2 s' (MFr_tr fr f1) (by rw [f2.1, f2.2]; exact c) f3 f5 f7
      · exact go _ s' (e.trans eu) (fun q => by rcases q with q | q; exact absurd q (by show ¬ 2 ≤ 1; decide); exact q rfl) (Or.inr ⟨rfl, f3⟩) (MFr_tr fr f1) (by rw [f2.1, f2.2]; exact c)
    have z0 : ∀ {a b : Int}, a = b + 0 → a = b := fun h => by omega
    have z1 : ∀ {a b : Int}, a = b - 0 → a = b := fun h => by omega
    rcases hM with ⟨e, hP⟩ | ⟨e, hP⟩
    · have e' : ph = 0 := e
      subst e'
      have hP' : M0 σ 0 R 7 X ob n tr c0 k0 n1 js os l := hP
      have ln := GL_n hP'.2.1
      have n6 := hP'.1.2.2.2.2.2.2.1
      refine s0 d hP' (Or.inl rfl) h39 h37 (fun s fr c m hY => ?_) (fun s fr c m b hN => ?_) (fun s fr c m b w hS => ?_)
      · have c' := And.intro (z0 c.1) (z1 c.2)
        refine yM d ⟨fun q => absurd q (by decide), hR⟩ l (by omega) hY (fun eu s' f1 f2 f3 f4 f5 f6 f7 f8 => ?_) (fun s' l' os' eu f1 f2 f3 => ?_)
        · exact h1 s' (MFr_tr fr f1) (by rw [f2.1, f2.2]; exact c') f3 (f6 rfl) f8
        · exact go _ s' ((stp_Y m).trans eu) (fun q => by rcases q with q | q; exact absurd q (by show ¬ 2 ≤ 0; decide); exact q rfl) (Or.inl ⟨rfl, f3⟩) (MFr_tr fr f1) (by rw [f2.1, f2.2]; exact c')
      · refine goN s ?_ (by omega) hN fr ⟨z0 c.1, z1 c.2⟩
        rcases b with b | ⟨b, w⟩
        · exact stp_B m b
        · rw [stp_W m b, w]
      · refine go (1, n1, l, uN js l 0, os) s ?_ (fun q => by rcases q with q | q; exact absurd q (by show ¬ 2 ≤ 1; decide); exact q rfl) (Or.inr ⟨rfl, hS⟩) fr ⟨z0 c.1, z1 c.2⟩
        rw [stp_W m b, w]
    · have e' : ph = 1 := e
      subst e'
      have hP' : M2 σ 0 R 7 X ob n tr c0 k0 n1 js os l := hP
      exact sLook d hP' (Or.inl rfl) h39 h37 (fun s fr c hS => go _ s stp_L (fun q => by rcases q with q | q; exact absurd q (by show ¬ 2 ≤ 0; decide); exact q rfl) (Or.inl ⟨rfl, hS⟩) fr ⟨z0 c.1, z1 c.2⟩)
  obtain ⟨T, hT⟩ := hE
  induction T generalizing A with
  | zero => intro σ K; exact absurd hT id
  | succ T ih =>
    intro σ K
    rcases hT with hf | hf
    · exact main _ (fun A' e nf => absurd (by rw [← e]; exact hf) nf)
    · exact main _ (fun A' e nf => by subst e; exact ih hf)
