/-! the reference: a STEP that asks -/
theorem s0 (d : Nat) {kp R f ob n k0 n0 l : Nat} {X : sX} {tr : Nat → Nat} {c0 : Nat → Int} {js : Nat → Nat} {os : Nat → Int} {p2 : Int} {σ : am_S} {K : Int → am_S → Prop} (hM : M0 σ kp R f X ob n tr c0 k0 n0 js os l) (hp : p2 = 0 ∨ (p2 = 1 ∧ ¬ sI σ 31 39 = 0)) (h39 : 0 ≤ sI σ 31 39 ∧ sI σ 31 39 ≤ 1000000) (h37 : 0 ≤ sI σ 31 37 ∧ sI σ 31 37 ≤ 1000000)
    (hY : ∀ s, MFr σ s f → sI s 31 37 = sI σ 31 37 + p2 ∧ sI s 31 39 = sI σ 31 39 - p2 → mn X (csq X c0 k0 js os l) < 2 → YM s kp R f X ob n tr c0 k0 n0 js os l → UP d (f : Int) p2 1 s K)
    (hN : ∀ s, MFr σ s f → sI s 31 37 = sI σ 31 37 + p2 ∧ sI s 31 39 = sI σ 31 39 - p2 → ¬ mn X (csq X c0 k0 js os l) < 2 → (big X (n0 - l) (csq X c0 k0 js os l) ∨ (¬ big X (n0 - l) (csq X c0 k0 js os l) ∧ wsq X (csq X c0 k0 js os l) 0 = none)) → NM s kp R f X ob n tr c0 k0 n0 js os l → UP d (f : Int) p2 0 s K)
    (hS : ∀ s, MFr σ s f → sI s 31 37 = sI σ 31 37 + p2 ∧ sI s 31 39 = sI σ 31 39 - p2 → ¬ mn X (csq X c0 k0 js os l) < 2 → ¬ big X (n0 - l) (csq X c0 k0 js os l) → wsq X (csq X c0 k0 js os l) 0 = some (wAt X (csq X c0 k0 js os l) 0) → M2 s kp R f X ob n tr c0 k0 n0 (uN js l 0) os l → GO d (f : Int) p2 0 s K) : GO d (f : Int) p2 0 σ K := by
  obtain ⟨hB, hG, h58, h57, hML, hLA, h60⟩ := hM
  have f7 := hB.2.2.2.2.2.1
  have n6 := hB.2.2.2.2.2.2.1
  have xv := hB.2.1.1
  have ln := GL_n hG
  obtain ⟨B, eB⟩ : ∃ B, B = mk0 σ p2 (f + l) := ⟨_, rfl⟩
  have B2 : B.2 = σ.2 := by rw [eB]; rfl
  have Bo : ∀ x, x ≠ 31 → x ≠ 58 → sI B x = sI σ x := fun x x1 x2 => by rw [eB]; unfold mk0; rw [put_ne x2, put_ne x1, put_ne x1]
  have B31 : ∀ j, j ≠ 37 → j ≠ 39 → sI B 31 j = sI σ 31 j := fun j j1 j2 => by rw [eB]; unfold mk0; rw [put_ne (by decide), put_at, if_neg j1, put_at, if_neg j2]
  have B37 : sI B 31 37 = sI σ 31 37 + p2 := by rw [eB]; unfold mk0; rw [put_ne (by decide), put_at, if_pos rfl]
  have B39 : sI B 31 39 = sI σ 31 39 - p2 := by rw [eB]; unfold mk0; rw [put_ne (by decide), put_at, if_neg (by decide), put_at, if_pos rfl]
  have B58 : ∀ j, sI B 58 j = if j = f + l then sI σ 31 60 else sI σ 58 j := fun j => by rw [eB]; unfold mk0; rw [put_at, put_ne (by decide), put_ne (by decide)]
  have frB : ∀ f', f' ≤ f + l → MFr σ B f' := fun f' hf' => ⟨B2, fun x x1 x2 => Bo x x2 (by omega), fun j j1 j2 _ _ _ => B31 j j1 j2, fun j _ => by rw [Bo 53 (by decide) (by decide)], fun x x1 x2 j hj => by
    by_cases e : x = 58
    · rw [e, B58, if_neg (by omega)]
    · rw [Bo x (by omega) e], fun x x1 x2 j _ => by rw [Bo x (by omega) (by omega)], fun _ x x1 x2 => Bo x (by omega) (by omega)⟩
  have BB : MB B kp f X ob n tr c0 k0 n0 := MB_fr hB (frB f (by omega)) (fun j => by rw [Bo 64 (by decide) (by decide), Bo 65 (by decide) (by decide)]; exact hB.2.2.1 j)
  have MLB : ML' B kp R f X tr c0 k0 n0 js os l := ML_fr xv hG hML (frB (f + l) (Nat.le_refl _)) (fun _ x x1 x2 j _ => by rw [Bo x (by omega) (by omega)])
  have LAB : LA B (f + l) X (csq X c0 k0 js os l) (n0 - l) (k0 + l) := LA_fr xv.2.1 (fun j _ _ => by rw [Bo 53 (by decide) (by decide)]) (by rw [Bo 54 (by decide) (by decide)]) (by rw [Bo 55 (by decide) (by decide)]) hLA
  have c37 : sI B 31 37 = sI σ 31 37 + p2 ∧ sI B 31 39 = sI σ 31 39 - p2 := ⟨B37, B39⟩
  have b57 : sI B 31 57 = (f + l : Nat) := by rw [B31 57 (by decide) (by decide)]; exact h57
  refine mg0 d (nn := n0 - l) hB.1 hB.2.1 h58 h57 (by omega) hLA.1 hLA.2.1 (by omega) hp h39 h37 (fun m => ?_) (fun m b => ?_) (fun m b s hs => ?_)
  · rw [← eB]
    exact hY B (frB f (by omega)) c37 m ⟨BB, hG, can_2 m, b57, MLB, LAB, Or.inl ⟨m, by rw [B31 60 (by decide) (by decide)]; exact h60⟩⟩
  · rw [← eB]
    exact hN B (frB f (by omega)) c37 m (Or.inl b) ⟨BB, hG, can_b m b, b57, MLB, LAB, by rw [B58, if_pos rfl]; exact h60⟩
  · rw [← eB] at hs
    obtain ⟨a1, a2, a3, a4, a5, a6, a7, a8, a9⟩ := hs
    have l0 : ¬ n0 - l = 0 := fun e => b (Or.inl e)
    have en : n0 - l = n0 - (l + 1) + 1 := by omega
    have frs : ∀ f', f' ≤ f + l → MFr B s f' := fun f' hf' => ⟨a1, fun x x1 x2 => a2 x x2 (by omega) (by omega) (by omega) (by omega) (by omega), fun j _ _ _ j4 _ => a3 j j4, fun j _ => by rw [a2 53 (by decide) (by decide) (by decide) (by decide) (by decide) (by decide)], fun x x1 x2 j hj => by
      by_cases e : x = 59
      · rw [e]; exact (a5 j (by omega)).1
      · by_cases e2 : x = 60
        · rw [e2]; exact (a5 j (by omega)).2.1
        · by_cases e3 : x = 61
          · rw [e3]; exact (a5 j (by omega)).2.2
          · rw [a2 x (by omega) e e2 e3 (by omega) (by omega)], fun x x1 x2 j hj => by
      by_cases e : x = 62
      · rw [e]; exact (a6 j (by omega)).1
      · by_cases e2 : x = 63
        · rw [e2]; exact (a6 j (by omega)).2
        · rw [a2 x (by omega) (by omega) (by omega) (by omega) e e2], fun _ x x1 x2 => a2 x (by omega) (by omega) (by omega) (by omega) (by omega) (by omega)⟩
    have so : ∀ x, x ≠ 31 → x ≠ 59 → x ≠ 60 → x ≠ 61 → x ≠ 62 → x ≠ 63 → sI s x = sI B x := a2
    have Bs : MB s kp f X ob n tr c0 k0 n0 := MB_fr BB (frs f (by omega)) (fun j => by rw [so 64 (by decide) (by decide) (by decide) (by decide) (by decide) (by decide), so 65 (by decide) (by decide) (by decide) (by decide) (by decide) (by decide)]; exact BB.2.2.1 j)
    have x26 := Bs.2.1.2.2.2.2.2.2.2.2.2.2.2.2.2
    have s57 : sI s 31 57 = (f + l : Nat) := by rw [a3 57 (by decide)]; exact b57
    refine mg1 d Bs.1 x26 a4 s57 (m_first (d + 1) Bs.1 xv (by omega) Bs.2.1.2.1 Bs.2.2.1 a7 a8 a9 ?_ ?_)
    · intro w0 w1 t t1 t2 t3
      have frt : ∀ f', f' ≤ f + l → MFr s t f' := fun f' hf' => ⟨t1, fun x x1 x2 => t2 x (by omega), fun j _ _ _ _ _ => by rw [t2 31 (by decide)], fun j _ => by rw [t2 53 (by decide)], fun x x1 x2 j hj => by
        by_cases e : x = 59
        · rw [e]; exact t3 j (by omega)
        · rw [t2 x e], fun x x1 x2 j _ => by rw [t2 x (by omega)], fun _ x x1 x2 => t2 x (by omega)⟩
      have Bt : MB t kp f X ob n tr c0 k0 n0 := MB_fr Bs (frt f (by omega)) (fun j => by rw [t2 64 (by decide), t2 65 (by decide)]; exact Bs.2.2.1 j)
      have tB : ∀ x, x ≠ 31 → x ≠ 59 → x ≠ 60 → x ≠ 61 → x ≠ 62 → x ≠ 63 → sI t x = sI B x := fun x x1 x2 x3 x4 x5 x6 => by rw [t2 x x2, so x x1 x2 x3 x4 x5 x6]
      refine ⟨⟨Bt.1, by rw [t2 31 (by decide)]; exact x26⟩, fun _ => ?_, fun e => absurd rfl e⟩
      refine hN t (MFr_tr (frB f (by omega)) (MFr_tr (frs f (by omega)) (frt f (by omega)))) (by rw [t2 31 (by decide), a3 37 (by decide), a3 39 (by decide)]; exact c37) m (Or.inr ⟨b, w1⟩) ⟨Bt, hG, ?_, by rw [t2 31 (by decide)]; exact s57, ML_fr xv hG MLB (MFr_tr (frs (f + l) (Nat.le_refl _)) (frt (f + l) (Nat.le_refl _))) (fun _ x x1 x2 j _ => by rw [tB x (by omega) (by omega) (by omega) (by omega) (by omega) (by omega)]), LA_fr xv.2.1 (fun j _ _ => by rw [tB 53 (by decide) (by decide) (by decide) (by decide) (by decide) (by decide)]) (by rw [tB 54 (by decide) (by decide) (by decide) (by decide) (by decide) (by decide)]) (by rw [tB 55 (by decide) (by decide) (by decide) (by decide) (by decide) (by decide)]) LAB, by rw [tB 58 (by decide) (by decide) (by decide) (by decide) (by decide) (by decide), B58, if_pos rfl]; exact h60⟩
      rw [en] at b ⊢
      exact N_end xv m b (fun j hj => by omega)
    · intro t w0 w1 t1 t2 t3 t4
      refine ⟨⟨MF_I Bs.1 t1.1, by rw [t1.2.1 31 (by decide) (by decide) (by decide) (by decide) (by decide)]; exact x26⟩, fun e => absurd e (by decide), fun _ => ?_⟩
      obtain ⟨y1, y2, y3, y4⟩ := t1
      obtain ⟨Z, eZ⟩ : ∃ Z, Z = putI t 31 58 2 := ⟨_, rfl⟩
      rw [← eZ]
      have Z2 : Z.2 = s.2 := by rw [eZ]; exact y1
      have Zo : ∀ x, x ≠ 31 → sI Z x = sI t x := fun x hx => by rw [eZ, put_ne hx]
      have e31 : sI t 31 = sI s 31 := y2 31 (by decide) (by decide) (by decide) (by decide) (by decide)
      have Z31 : ∀ j, j ≠ 58 → sI Z 31 j = sI s 31 j := fun j hj => by rw [eZ, put_at, if_neg hj, e31]
      have frz : ∀ f', f' ≤ f + l → MFr s Z f' := fun f' hf' => ⟨Z2, fun x x1 x2 => by rw [Zo x x2, y2 x (by omega) (by omega) (by omega) (by omega) (by omega)], fun j _ _ _ j4 _ => Z31 j j4, fun j _ => by rw [Zo 53 (by decide), y2 53 (by decide) (by decide) (by decide) (by decide) (by decide)], fun x x1 x2 j hj => by
        rw [Zo x (by omega)]
        by_cases e : x = 59
        · rw [e]; exact (y3 j (by omega)).1
        · by_cases e2 : x = 60
          · rw [e2]; exact (y3 j (by omega)).2
          · rw [y2 x e e2 (by omega) (by omega) (by omega)], fun x x1 x2 j hj => by
        rw [Zo x (by omega)]
        by_cases e : x = 64
        · rw [e]; exact (y4 j (by omega)).1
        · by_cases e2 : x = 65
          · rw [e2]; exact (y4 j (by omega)).2.1
          · by_cases e3 : x = 66
            · rw [e3]; exact (y4 j (by omega)).2.2
            · rw [y2 x (by omega) (by omega) e e2 e3], fun _ x x1 x2 => by rw [Zo x (by omega), y2 x (by omega) (by omega) (by omega) (by omega) (by omega)]⟩
      have BZ : MB Z kp f X ob n tr c0 k0 n0 := MB_fr Bs (frz f (by omega)) (fun j => by rw [Zo 64 (by decide), Zo 65 (by decide)]; exact t2 j)
      have cgl : ∀ q, q < l → js q = uN js l 0 q ∧ os q = os q := fun q hq => ⟨by unfold uN; rw [if_neg (by omega)], rfl⟩
      have ujl : uN js l 0 l = 0 := by unfold uN; rw [if_pos rfl]
      have ec := csq_congr (X := X) (c0 := c0) (k0 := k0) l cgl
      have ek := rkp_cg (kp := kp) (R := R) (X := X) (c0 := c0) (k0 := k0) (n0 := n0) (i := l) cgl
      have zB : ∀ x, (x < 59 ∨ 66 < x) → x ≠ 31 → sI Z x = sI B x := fun x x1 x2 => by rw [Zo x x2, y2 x (by omega) (by omega) (by omega) (by omega) (by omega), so x x2 (by omega) (by omega) (by omega) (by omega) (by omega)]
      refine hS Z (MFr_tr (frB f (by omega)) (MFr_tr (frs f (by omega)) (frz f (by omega)))) (by rw [Z31 37 (by decide), Z31 39 (by decide), a3 37 (by decide), a3 39 (by decide)]; exact c37) m b w1 ⟨BZ, GL_cg cgl hG, ⟨by omega, by rw [← ec]; exact m, by rw [← ec]; exact b, by rw [← ec, ujl]; exact w0, fun j hj => by rw [ujl] at hj; omega⟩, by rw [eZ, put_at, if_pos rfl], by rw [Z31 57 (by decide)]; exact s57, ML_cg cgl (ML_fr xv hG MLB (MFr_tr (frs (f + l) (Nat.le_refl _)) (frz (f + l) (Nat.le_refl _))) (fun _ x x1 x2 j _ => by rw [zB x (by omega) (by omega)])), ?_, ?_, by rw [← ek, zB 58 (by omega) (by decide), B58, if_pos rfl]; exact h60, by rw [← ek, Z31 60 (by decide), a3 60 (by decide), B31 60 (by decide) (by decide)]; exact h60⟩
      · rw [← ec]
        exact LA_fr xv.2.1 (fun j _ _ => by rw [zB 53 (by omega) (by decide)]) (by rw [zB 54 (by omega) (by decide)]) (by rw [zB 55 (by omega) (by decide)]) LAB
      · rw [← ec, ujl]
        exact LW_fr (σ := t) xv (by rw [Zo 59 (by decide)]) (by rw [Zo 60 (by decide)]) (by rw [Zo 61 (by decide)]) (fun x x1 x2 q _ _ => by rw [Zo x (by omega)]) ⟨t3, t4⟩
