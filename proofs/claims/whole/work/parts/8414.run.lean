/-! the reference: the counted run -/
def MS (σ : am_S) (X : sX) (ob n : Nat) (tr : Nat → Nat) (c0 : Nat → Int) (k0 : Nat) (A : sA) : Prop := (A.1 = 0 ∧ M0 σ 1 0 0 X ob n tr c0 k0 A.2.1 A.2.2.2.1 A.2.2.2.2 A.2.2.1) ∨ (A.1 = 1 ∧ M2 σ 1 0 0 X ob n tr c0 k0 A.2.1 A.2.2.2.1 A.2.2.2.2 A.2.2.1)
/-- yes at the first level -/
def YE (s : am_S) (X : sX) (ob n : Nat) (tr : Nat → Nat) (c0 : Nat → Int) (k0 n0 : Nat) : Prop := MB s 1 0 X ob n tr c0 k0 n0 ∧ (mn X c0 ≤ 0 ∨ (sI s 31 60 = tsz X n0 c0 k0 ∧ RS s X tr n0 c0 k0 0 0 0)) ∧ LA s 0 X c0 n0 k0 ∧ can X n0 c0 k0
/-- no at the first level -/
def NE (s : am_S) (X : sX) (ob n : Nat) (tr : Nat → Nat) (c0 : Nat → Int) (k0 n0 : Nat) : Prop := MB s 1 0 X ob n tr c0 k0 n0 ∧ sI s 31 57 = 0 ∧ sI s 31 60 = 0 ∧ LA s 0 X c0 n0 k0 ∧ ¬ can X n0 c0 k0
theorem stn_e {X : sX} {c0 : Nat → Int} {k0 : Nat} {A : sA} (h : 2 ≤ A.1) : ∀ t, stn X c0 k0 t A = A ∧ stc X c0 k0 t A = 0
  | 0 => ⟨rfl, rfl⟩
  | t + 1 => by
    unfold stn stc
    rw [if_pos h, if_pos h]
    exact ⟨rfl, rfl⟩
theorem stn_n {X : sX} {c0 : Nat → Int} {k0 t : Nat} {A A' : sA} (h : ¬ 2 ≤ A.1) (e : stp X c0 k0 A = A') : stn X c0 k0 (t + 1) A = stn X c0 k0 t A' ∧ stc X c0 k0 (t + 1) A = 1 + stc X c0 k0 t A' := by
  have u1 : stn X c0 k0 (t + 1) A = if 2 ≤ A.1 then A else stn X c0 k0 t (stp X c0 k0 A) := rfl
  have u2 : stc X c0 k0 (t + 1) A = if 2 ≤ A.1 then 0 else 1 + stc X c0 k0 t (stp X c0 k0 A) := rfl
  rw [u1, u2, if_neg h, if_neg h, e]
  exact ⟨rfl, rfl⟩
theorem gRun (d : Nat) {ob n k0 : Nat} {X : sX} {tr : Nat → Nat} {c0 : Nat → Int} : ∀ (T : Nat) {A : sA} {σ : am_S} {K : Int → am_S → Prop}, MS σ X ob n tr c0 k0 A → sI σ 31 39 = T → (0 ≤ sI σ 31 37 ∧ sI σ 31 37 + T ≤ 100000) → (∀ s, MFr σ s 0 → MS s X ob n tr c0 k0 (stn X c0 k0 T A) → stc X c0 k0 T A = T → sI s 31 37 = sI σ 31 37 + T → sI s 31 39 = 0 → K 0 s) → (∀ s t n0 js os, MFr σ s 0 → t < T → sI s 31 39 = (t : Nat) → sI s 31 37 + t = sI σ 31 37 + T → stn X c0 k0 T A = (2, n0, 0, js, os) → stc X c0 k0 T A + t = T → YE s X ob n tr c0 k0 n0 → K 1 s) → (∀ s t n0 js os, MFr σ s 0 → t < T → sI s 31 39 = (t : Nat) → sI s 31 37 + t = sI σ 31 37 + T → stn X c0 k0 T A = stn X c0 k0 t (upN X c0 k0 n0 js os 0) → stc X c0 k0 T A + t = T + stc X c0 k0 t (upN X c0 k0 n0 js os 0) → NE s X ob n tr c0 k0 n0 → K 2 s) → GO d ((0 : Nat) : Int) 1 0 σ K
  | 0, A, σ, K, hM, h39, _, h0, _, _ => by
    have hb : MF σ ∧ sI σ 31 26 = 0 ∧ (sI σ 31 58 = 0 ∨ sI σ 31 58 = 2) := by
      rcases hM with ⟨_, q⟩ | ⟨_, q⟩
      · exact ⟨q.1.1, q.1.2.1.2.2.2.2.2.2.2.2.2.2.2.2.2, Or.inl q.2.2.1⟩
      · exact ⟨q.1.1, q.1.2.1.2.2.2.2.2.2.2.2.2.2.2.2.2, Or.inr q.2.2.2.1⟩
    exact GO_stop hb.1 hb.2.1 hb.2.2 h39 (h0 σ (MFr_rf σ 0) hM rfl (by omega) h39)
  | T + 1, A, σ, K, hM, h39, h37, h0, h1, h2 => by
    have hA : ¬ 2 ≤ A.1 := by
      rcases hM with ⟨e, _⟩ | ⟨e, _⟩
      · rw [e]; decide
      · rw [e]; decide
    have go : ∀ A' s, stp X c0 k0 A = A' → MS s X ob n tr c0 k0 A' → MFr σ s 0 → sI s 31 37 = sI σ 31 37 + 1 ∧ sI s 31 39 = sI σ 31 39 - 1 → GO d ((0 : Nat) : Int) 1 0 s K := by
      intro A' s e hs fr c
      obtain ⟨u1, u2⟩ := stn_n (t := T) hA e
      refine gRun d T hs (by omega) (by omega) (fun s' f1 f2 f3 f4 f5 => ?_) (fun s' t n0 js os f1 f2 f3 f4 f5 f6 f7 => ?_) (fun s' t n0 js os f1 f2 f3 f4 f5 f6 f7 => ?_)
      · exact h0 s' (MFr_tr fr f1) (by rw [u1]; exact f2) (by omega) (by omega) f5
      · exact h1 s' t n0 js os (MFr_tr fr f1) (by omega) f3 (by omega) (by rw [u1]; exact f5) (by omega) f7
      · exact h2 s' t n0 js os (MFr_tr fr f1) (by omega) f3 (by omega) (by rw [u1]; exact f5) (by omega) f7
    have goN : ∀ s n0 l js os, stp X c0 k0 A = upN X c0 k0 n0 js os l → l ≤ 6 → NM s 1 0 0 X ob n tr c0 k0 n0 js os l → MFr σ s 0 → sI s 31 37 = sI σ 31 37 + 1 ∧ sI s 31 39 = sI σ 31 39 - 1 → UP d ((0 : Nat) : Int) 1 0 s K := by
      intro s n0 l js os e hl hs fr c
      refine nM d l hl hs (fun eu s' f1 f2 f3 f4 f5 f6 f7 => ?_) (fun s' l' eu f1 f2 f3 => ?_)
      · obtain ⟨u1, u2⟩ := stn_n (t := T) hA (e.trans eu)
        exact h2 s' T n0 js os (MFr_tr fr f1) (by omega) (by omega) (by omega) u1 (by omega) ⟨f3, f4, f5, f6, f7⟩
      · exact go _ s' (e.trans eu) (Or.inr ⟨rfl, f3⟩) (MFr_tr fr f1) (by omega)
    obtain ⟨ph, n0, l, js, os⟩ := A
    rcases hM with ⟨e, hP⟩ | ⟨e, hP⟩
    · have e' : ph = 0 := e
      subst e'
      have hP' : M0 σ 1 0 0 X ob n tr c0 k0 n0 js os l := hP
      have ln := GL_n hP'.2.1
      have n6 := hP'.1.2.2.2.2.2.2.1
      refine s0 d hP' (Or.inr ⟨rfl, by omega⟩) (by omega) (by omega) (fun s fr c m hY => ?_) (fun s fr c m b hN => ?_) (fun s fr c m b w hS => ?_)
      · refine yM d ⟨fun _ => ⟨rfl, rfl⟩, by decide⟩ l (by omega) hY (fun eu s' f1 f2 f3 f4 f5 f6 f7 f8 => ?_) (fun s' l' os' eu f1 f2 f3 => ?_)
        · obtain ⟨u1, u2⟩ := stn_n (t := T) hA ((stp_Y m).trans eu)
          obtain ⟨w1, w2⟩ := stn_e (X := X) (c0 := c0) (k0 := k0) (A := (2, n0, 0, js, os)) (Nat.le_refl 2) T
          exact h1 s' T n0 js os (MFr_tr fr f1) (by omega) (by omega) (by omega) (by rw [u1, w1]) (by rw [u2, w2]; omega) ⟨f3, f5 rfl, f7, f8⟩
        · exact go _ s' ((stp_Y m).trans eu) (Or.inl ⟨rfl, f3⟩) (MFr_tr fr f1) (by omega)
      · refine goN s n0 l js os ?_ (by omega) hN fr c
        rcases b with b | ⟨b, w⟩
        · exact stp_B m b
        · rw [stp_W m b, w]
      · refine go (1, n0, l, uN js l 0, os) s ?_ (Or.inr ⟨rfl, hS⟩) fr c
        rw [stp_W m b, w]
    · have e' : ph = 1 := e
      subst e'
      have hP' : M2 σ 1 0 0 X ob n tr c0 k0 n0 js os l := hP
      exact sLook d hP' (Or.inr ⟨rfl, by omega⟩) (by omega) (by omega) (fun s fr c hS => go _ s stp_L (Or.inl ⟨rfl, hS⟩) fr c)
