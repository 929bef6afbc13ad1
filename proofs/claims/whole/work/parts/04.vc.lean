theorem am_cV {P : am_P} {ML : Nat → Nat} {d m : Nat} {vs : List am_V} {σ : am_S} {f g : am_S → Prop} (h : am_Calls P ML d m vs σ (kV f)) (hk : ∀ τ, f τ → g τ) : am_Calls P ML d m vs σ (kV g) := am_Calls_mono h fun v τ hv => by
  rcases v with _ | v
  · exact hk _ hv
  · exact hv
theorem am_cI {P : am_P} {ML : Nat → Nat} {d m : Nat} {vs : List am_V} {σ : am_S} {f g : Int → am_S → Prop} (h : am_Calls P ML d m vs σ (kI f)) (hk : ∀ x τ, f x τ → g x τ) : am_Calls P ML d m vs σ (kI g) := am_Calls_mono h fun v τ hv => by
  rcases v with _ | x | x | x
  · exact hv
  · exact hk _ _ hv
  · exact hv
  · exact hv
theorem am_cL {P : am_P} {ML : Nat → Nat} {d m : Nat} {vs : List am_V} {σ : am_S} {f g : Int → am_S → Prop} (h : am_Calls P ML d m vs σ (kL f)) (hk : ∀ x τ, f x τ → g x τ) : am_Calls P ML d m vs σ (kL g) := am_Calls_mono h fun v τ hv => by
  rcases v with _ | x | x | x
  · exact hv
  · exact hv
  · exact hk _ _ hv
  · exact hv
theorem am_cO {P : am_P} {ML : Nat → Nat} {d m : Nat} {vs : List am_V} {σ : am_S} {f g : Option am_R → am_S → Prop} (h : am_Calls P ML d m vs σ (kO f)) (hk : ∀ x τ, f x τ → g x τ) : am_Calls P ML d m vs σ (kO g) := am_Calls_mono h fun v τ hv => by
  rcases v with _ | x | x | x
  · exact hv
  · exact hv
  · exact hv
  · exact hk _ _ hv
theorem v_Pan_load_0 (d : Nat) (p0 : Nat) (σ : am_S) (K : Int → am_S → Prop) (h :
  am_Runs PP MLL d m_Pan_load 4 [some (qr (p0, 2, 2)), some (qi 0), some (qi 0)] [] σ (kI K)) : am_Runs PP MLL d m_Pan_load 0 [some (qr (p0, 2, 2)), none, none] [] σ (kI K) := am_wE_ok 200 (h)

theorem v_Pan_load_4 (d : Nat) (p0 : Nat) (v1 v2 : Int) (σ : am_S) (K : Int → am_S → Prop) (h :
  (((sI σ p0 1) ≤ v2 →
    K v1 σ) ∧
  (¬ ((sI σ p0 1) ≤ v2) →
    ((rg (sR σ p0 0)).2.1 = 20 ∧ 0 ≤ v2 ∧ v2 < (((rg (sR σ p0 0)).2.2 : Nat) : Int)) ∧
    (((sI σ ((rg (sR σ p0 0)).1) (Int.toNat v2)) = (-1) →
      am_Runs PP MLL d m_Pan_load 4 [some (qr (p0, 2, 2)), some (qi v1), some (qi (w32 (v2 + 1)))] [] σ (kI K)) ∧
    (¬ ((sI σ ((rg (sR σ p0 0)).1) (Int.toNat v2)) = (-1)) →
      am_Runs PP MLL d m_Pan_load 4 [some (qr (p0, 2, 2)), some (qi (w32 (v1 + 1))), some (qi (w32 (v2 + 1)))] [] σ (kI K)))))) : am_Runs PP MLL d m_Pan_load 4 [some (qr (p0, 2, 2)), some (qi v1), some (qi v2)] [] σ (kI K) := am_wE_ok 200 (⟨rfl, ⟨fun c1 => (h.1 c1), fun c1 => ⟨rfl, ⟨⟨(h.2 c1).1.1, (h.2 c1).1.2.1, (h.2 c1).1.2.2⟩, ⟨fun c2 => ((h.2 c1).2.1 c2), fun c2 => ((h.2 c1).2.2 c2)⟩⟩⟩⟩⟩)

theorem v_Pan_reaches_0 (d : Nat) (p0 : Nat) (p1 p2 : Int) (σ : am_S) (K : Int → am_S → Prop) (h :
  ((p1 < 0 →
    K 0 σ) ∧
  (¬ (p1 < 0) →
    ((p2 < 0 →
      K 0 σ) ∧
    (¬ (p2 < 0) →
      (((sI σ p0 1) < p1 →
        K 0 σ) ∧
      (¬ ((sI σ p0 1) < p1) →
        (((w32 ((sI σ p0 1) - p1)) < p2 →
          K 0 σ) ∧
        (¬ ((w32 ((sI σ p0 1) - p1)) < p2) →
          K 1 σ))))))))) : am_Runs PP MLL d m_Pan_reaches 0 [some (qr (p0, 2, 2)), some (qi p1), some (qi p2)] [] σ (kI K) := am_wE_ok 200 (⟨fun c1 => ⟨(Or.inl rfl), (h.1 c1)⟩, fun c1 => ⟨fun c2 => ⟨(Or.inl rfl), ((h.2 c1).1 c2)⟩, fun c2 => ⟨rfl, ⟨fun c3 => ⟨(Or.inl rfl), (((h.2 c1).2 c2).1 c3)⟩, fun c3 => ⟨rfl, ⟨fun c4 => ⟨(Or.inl rfl), ((((h.2 c1).2 c2).2 c3).1 c4)⟩, fun c4 => ⟨(Or.inr rfl), ((((h.2 c1).2 c2).2 c3).2 c4)⟩⟩⟩⟩⟩⟩⟩)

theorem v_C_found_0 (d : Nat) (p0 : Nat) (p1 p2 : Int) (σ : am_S) (K : Int → am_S → Prop) (h :
  let s1 := putI σ p0 8 p2;
  let s2 := putI s1 p0 9 (w32 ((sI s1 p0 9) + 1));
  ((rg (sR s2 p0 1)).2.1 = 22 ∧ 0 ≤ p1 ∧ p1 < (((rg (sR s2 p0 1)).2.2 : Nat) : Int)) ∧
  (rg (sR s2 ((rg (sR s2 p0 1)).1) (Int.toNat p1))).2.1 = 0 ∧
  (((sI s2 ((rg (sR s2 ((rg (sR s2 p0 1)).1) (Int.toNat p1))).1) 6) = 0 →
    let s4 := putI s2 ((rg (sR s2 ((rg (sR s2 p0 1)).1) (Int.toNat p1))).1) 8 p2;
    K (w32 ((-1010) - p2)) s4) ∧
  (¬ ((sI s2 ((rg (sR s2 ((rg (sR s2 p0 1)).1) (Int.toNat p1))).1) 6) = 0) →
    K (w32 ((-1010) - p2)) s2))) : am_Runs PP MLL d m_C_found 0 [some (qr (p0, 11, 10)), some (qi p1), some (qi p2)] [] σ (kI K) := am_wE_ok 200 (⟨rfl, ⟨rfl, ⟨rfl, ⟨rfl, ⟨⟨h.1.1, h.1.2.1, h.1.2.2⟩, ⟨h.2.1, ⟨fun c3 => ⟨rfl, ⟨⟨h.1.1, h.1.2.1, h.1.2.2⟩, ⟨h.2.1, (h.2.2.1 c3)⟩⟩⟩, fun c3 => (h.2.2.2 c3)⟩⟩⟩⟩⟩⟩⟩)

theorem v_C_unpan_0 (d : Nat) (p0 : Nat) (p1 p2 : Int) (σ : am_S) (K : Int → am_S → Prop) (h :
  am_Calls PP MLL d m_C_cameWith [qr (p0, 11, 10), qi p1] σ (kI fun x1 s1 =>
    ((x1 = 0 →
      K (-1001) s1) ∧
    (¬ (x1 = 0) →
      am_Calls PP MLL d m_C_isSide [qi p2] s1 (kI fun x3 s3 =>
        ((x3 = 0 →
          K (-1001) s3) ∧
        (¬ (x3 = 0) →
          ((rg (sR s3 p0 1)).2.1 = 22 ∧ 0 ≤ p1 ∧ p1 < (((rg (sR s3 p0 1)).2.2 : Nat) : Int)) ∧
          am_Calls PP MLL d m_C_withoutPan [qo (sR s3 ((rg (sR s3 p0 1)).1) (Int.toNat p1)), qi p2] s3 (kI fun x5 s5 =>
            ((x5 = 0 →
              ((rg (sR s5 p0 1)).2.1 = 22 ∧ p1 < (((rg (sR s5 p0 1)).2.2 : Nat) : Int)) ∧
              (rg (sR s5 ((rg (sR s5 p0 1)).1) (Int.toNat p1))).2.1 = 0 ∧
              am_Calls PP MLL d m_Balance_panOf [qo (sR s5 ((rg (sR s5 p0 1)).1) (Int.toNat p1)), qi p2] s5 (kO fun x7 s7 =>
                (rg x7).2.1 = 2 ∧
                let s8 := putI s7 ((rg x7).1) 1 (-1);
                K (sI s7 ((rg x7).1) 1) s8)) ∧
            (¬ (x5 = 0) →
              am_Calls PP MLL d m_C_found [qr (p0, 11, 10), qi p1, qi x5] s5 (kI fun x9 s9 =>
                K x9 s9))))))))))) : am_Runs PP MLL d m_C_unpan 0 [some (qr (p0, 11, 10)), some (qi p1), some (qi p2), none, none, none] [] σ (kI K) := am_wE_ok 200 (⟨rfl, (am_cI h fun x1 s1 h1 => ⟨fun c2 => (h1.1 c2), fun c2 => (am_cI (h1.2 c2) fun x3 s3 h3 => ⟨fun c4 => (h3.1 c4), fun c4 => ⟨rfl, ⟨⟨(h3.2 c4).1.1, (h3.2 c4).1.2.1, (h3.2 c4).1.2.2⟩, (am_cI (h3.2 c4).2 fun x5 s5 h5 => ⟨fun c6 => ⟨rfl, ⟨⟨(h5.1 c6).1.1, (h3.2 c4).1.2.1, (h5.1 c6).1.2⟩, ⟨(h5.1 c6).2.1, (am_cO (h5.1 c6).2.2 fun x7 s7 h7 => ⟨h7.1, ⟨h7.1, h7.2⟩⟩)⟩⟩⟩, fun c6 => ⟨rfl, (am_cI (h5.2 c6) fun x9 s9 h9 => h9)⟩⟩)⟩⟩⟩)⟩)⟩)

theorem v_Mth_floorMod_0 (d : Nat) (p0 p1 : Int) (σ : am_S) (K : Int → am_S → Prop) (h :
  p1 ≠ 0 ∧
  ((0 ≤ (a_xor p0 p1) →
    K (Int.tmod p0 p1) σ) ∧
  (¬ (0 ≤ (a_xor p0 p1)) →
    (((Int.tmod p0 p1) = 0 →
      K (Int.tmod p0 p1) σ) ∧
    (¬ ((Int.tmod p0 p1) = 0) →
      K (w32 ((Int.tmod p0 p1) + p1)) σ))))) : am_Runs PP MLL d m_Mth_floorMod 0 [some (qi p0), some (qi p1), none] [] σ (kI K) := am_wE_ok 200 (⟨h.1, ⟨fun c1 => (h.2.1 c1), fun c1 => ⟨fun c2 => ((h.2.2 c1).1 c2), fun c2 => ((h.2.2 c1).2 c2)⟩⟩⟩)

theorem v_Trace_note_0 (d : Nat) (p0 : Nat) (p1 : Int) (σ : am_S) (K : am_S → Prop) (h :
  (((sI σ p0 2) = 0 →
    K σ) ∧
  (¬ ((sI σ p0 2) = 0) →
    (20 ≤ (rg (sR σ p0 0)).2.1 ∧ (rg (sR σ p0 0)).2.1 < 25) ∧
    (((((rg (sR σ p0 0)).2.2 : Nat) : Int) ≤ (sI σ p0 1) →
      K σ) ∧
    (¬ ((((rg (sR σ p0 0)).2.2 : Nat) : Int) ≤ (sI σ p0 1)) →
      ((rg (sR σ p0 0)).2.1 = 20 ∧ 0 ≤ (sI σ p0 1) ∧ (sI σ p0 1) < (((rg (sR σ p0 0)).2.2 : Nat) : Int)) ∧
      let s3 := putI σ ((rg (sR σ p0 0)).1) (Int.toNat (sI σ p0 1)) p1;
      let s4 := putI s3 p0 1 (w32 ((sI s3 p0 1) + 1));
      K s4))))) : am_Runs PP MLL d m_Trace_note 0 [some (qr (p0, 7, 3)), some (qi p1)] [] σ (kV K) := am_wE_ok 200 (⟨rfl, ⟨fun c1 => (h.1 c1), fun c1 => ⟨rfl, ⟨rfl, ⟨⟨(h.2 c1).1.1, (h.2 c1).1.2⟩, ⟨fun c2 => ((h.2 c1).2.1 c2), fun c2 => ⟨rfl, ⟨rfl, ⟨⟨((h.2 c1).2.2 c2).1.1, ((h.2 c1).2.2 c2).1.2.1, ((h.2 c1).2.2 c2).1.2.2⟩, ⟨rfl, ⟨rfl, ((h.2 c1).2.2 c2).2⟩⟩⟩⟩⟩⟩⟩⟩⟩⟩⟩)

theorem v_M_lay_0 (d : Nat) (p0 : Nat) (p1 : Int) (σ : am_S) (K : am_S → Prop) (h :
  am_Runs PP MLL d m_M_lay 2 [some (qr (p0, 12, 89)), some (qi p1), some (qi 0), none, none] [] σ (kV K)) : am_Runs PP MLL d m_M_lay 0 [some (qr (p0, 12, 89)), some (qi p1), none, none, none] [] σ (kV K) := am_wE_ok 200 (h)

theorem v_M_lay_2 (d : Nat) (p0 : Nat) (p1 v2 : Int) (z3 z4 : Option am_V) (σ : am_S) (K : am_S → Prop) (h :
  ((40 ≤ v2 →
    let s2 := putI σ p0 30 0;
    let s3 := putI s2 p0 31 0;
    let s4 := putI s3 p0 32 0;
    am_Runs PP MLL d m_M_lay 23 [some (qr (p0, 12, 89)), some (qi p1), some (qi 0), z3, z4] [] s4 (kV K)) ∧
  (¬ (40 ≤ v2) →
    ((rg (sR σ p0 29)).2.1 = 20 ∧ 0 ≤ v2 ∧ v2 < (((rg (sR σ p0 29)).2.2 : Nat) : Int)) ∧
    let s5 := putI σ ((rg (sR σ p0 29)).1) (Int.toNat v2) 0;
    am_Runs PP MLL d m_M_lay 2 [some (qr (p0, 12, 89)), some (qi p1), some (qi (w32 (v2 + 1))), z3, z4] [] s5 (kV K)))) : am_Runs PP MLL d m_M_lay 2 [some (qr (p0, 12, 89)), some (qi p1), some (qi v2), z3, z4] [] σ (kV K) := am_wE_ok 200 (⟨fun c1 => ⟨⟨rfl, (Or.inl rfl)⟩, ⟨rfl, ⟨rfl, (h.1 c1)⟩⟩⟩, fun c1 => ⟨rfl, ⟨⟨(h.2 c1).1.1, (h.2 c1).1.2.1, (h.2 c1).1.2.2⟩, (h.2 c1).2⟩⟩⟩)

theorem v_M_lay_23 (d : Nat) (p0 : Nat) (p1 v2 : Int) (z3 z4 : Option am_V) (σ : am_S) (K : am_S → Prop) (h :
  ((2 ≤ v2 →
    K σ) ∧
  (¬ (2 ≤ v2) →
    am_Runs PP MLL d m_M_lay 28 [some (qr (p0, 12, 89)), some (qi p1), some (qi v2), some (qi 0), z4] [] σ (kV K)))) : am_Runs PP MLL d m_M_lay 23 [some (qr (p0, 12, 89)), some (qi p1), some (qi v2), z3, z4] [] σ (kV K) := am_wE_ok 200 (⟨fun c1 => (h.1 c1), fun c1 => (h.2 c1)⟩)

theorem v_M_lay_28 (d : Nat) (p0 : Nat) (p1 v2 v3 : Int) (z4 : Option am_V) (σ : am_S) (K : am_S → Prop) (h :
  ((rg (sR σ p0 20)).2.1 = 20 ∧ 0 ≤ (w32 ((w32 (2 * p1)) + v2)) ∧ (w32 ((w32 (2 * p1)) + v2)) < (((rg (sR σ p0 20)).2.2 : Nat) : Int)) ∧
  (((sI σ ((rg (sR σ p0 20)).1) (Int.toNat (w32 ((w32 (2 * p1)) + v2)))) ≤ v3 →
    am_Runs PP MLL d m_M_lay 23 [some (qr (p0, 12, 89)), some (qi p1), some (qi (w32 (v2 + 1))), some (qi v3), z4] [] σ (kV K)) ∧
  (¬ ((sI σ ((rg (sR σ p0 20)).1) (Int.toNat (w32 ((w32 (2 * p1)) + v2)))) ≤ v3) →
    ((rg (sR σ p0 21)).2.1 = 20 ∧ 0 ≤ (w32 ((w32 (20 * (w32 ((w32 (2 * p1)) + v2)))) + v3)) ∧ (w32 ((w32 (20 * (w32 ((w32 (2 * p1)) + v2)))) + v3)) < (((rg (sR σ p0 21)).2.2 : Nat) : Int)) ∧
    (((sI σ ((rg (sR σ p0 21)).1) (Int.toNat (w32 ((w32 (20 * (w32 ((w32 (2 * p1)) + v2)))) + v3)))) < 0 →
      am_Runs PP MLL d m_M_lay 28 [some (qr (p0, 12, 89)), some (qi p1), some (qi v2), some (qi (w32 (v3 + 1))), some (qi (sI σ ((rg (sR σ p0 21)).1) (Int.toNat (w32 ((w32 (20 * (w32 ((w32 (2 * p1)) + v2)))) + v3)))))] [] σ (kV K)) ∧
    (¬ ((sI σ ((rg (sR σ p0 21)).1) (Int.toNat (w32 ((w32 (20 * (w32 ((w32 (2 * p1)) + v2)))) + v3)))) < 0) →
      (((sI σ p0 30) = 0 →
        ((rg (sR σ p0 29)).2.1 = 20 ∧ 0 ≤ (sI σ ((rg (sR σ p0 21)).1) (Int.toNat (w32 ((w32 (20 * (w32 ((w32 (2 * p1)) + v2)))) + v3)))) ∧ (sI σ ((rg (sR σ p0 21)).1) (Int.toNat (w32 ((w32 (20 * (w32 ((w32 (2 * p1)) + v2)))) + v3)))) < (((rg (sR σ p0 29)).2.2 : Nat) : Int)) ∧
        (((sI σ ((rg (sR σ p0 29)).1) (Int.toNat (sI σ ((rg (sR σ p0 21)).1) (Int.toNat (w32 ((w32 (20 * (w32 ((w32 (2 * p1)) + v2)))) + v3)))))) = 0 →
          let s5 := putI σ p0 30 0;
          ((v2 = 0 →
            ((rg (sR s5 p0 29)).2.1 = 20 ∧ (sI σ ((rg (sR σ p0 21)).1) (Int.toNat (w32 ((w32 (20 * (w32 ((w32 (2 * p1)) + v2)))) + v3)))) < (((rg (sR s5 p0 29)).2.2 : Nat) : Int)) ∧
            let s7 := putI s5 ((rg (sR s5 p0 29)).1) (Int.toNat (sI σ ((rg (sR σ p0 21)).1) (Int.toNat (w32 ((w32 (20 * (w32 ((w32 (2 * p1)) + v2)))) + v3))))) 1;
            ((v2 = 0 →
              let s9 := putI s7 p0 31 (w32 ((sI s7 p0 31) + 1));
              ((v2 = 1 →
                let s11 := putI s9 p0 32 (w32 ((sI s9 p0 32) + 1));
                am_Runs PP MLL d m_M_lay 28 [some (qr (p0, 12, 89)), some (qi p1), some (qi v2), some (qi (w32 (v3 + 1))), some (qi (sI σ ((rg (sR σ p0 21)).1) (Int.toNat (w32 ((w32 (20 * (w32 ((w32 (2 * p1)) + v2)))) + v3)))))] [] s11 (kV K)) ∧
              (¬ (v2 = 1) →
                let s12 := putI s9 p0 32 (w32 ((sI s9 p0 32) + 0));
                am_Runs PP MLL d m_M_lay 28 [some (qr (p0, 12, 89)), some (qi p1), some (qi v2), some (qi (w32 (v3 + 1))), some (qi (sI σ ((rg (sR σ p0 21)).1) (Int.toNat (w32 ((w32 (20 * (w32 ((w32 (2 * p1)) + v2)))) + v3)))))] [] s12 (kV K)))) ∧
            (¬ (v2 = 0) →
              let s13 := putI s7 p0 31 (w32 ((sI s7 p0 31) + 0));
              ((v2 = 1 →
                let s15 := putI s13 p0 32 (w32 ((sI s13 p0 32) + 1));
                am_Runs PP MLL d m_M_lay 28 [some (qr (p0, 12, 89)), some (qi p1), some (qi v2), some (qi (w32 (v3 + 1))), some (qi (sI σ ((rg (sR σ p0 21)).1) (Int.toNat (w32 ((w32 (20 * (w32 ((w32 (2 * p1)) + v2)))) + v3)))))] [] s15 (kV K)) ∧
              (¬ (v2 = 1) →
                let s16 := putI s13 p0 32 (w32 ((sI s13 p0 32) + 0));
                am_Runs PP MLL d m_M_lay 28 [some (qr (p0, 12, 89)), some (qi p1), some (qi v2), some (qi (w32 (v3 + 1))), some (qi (sI σ ((rg (sR σ p0 21)).1) (Int.toNat (w32 ((w32 (20 * (w32 ((w32 (2 * p1)) + v2)))) + v3)))))] [] s16 (kV K)))))) ∧
          (¬ (v2 = 0) →
            ((rg (sR s5 p0 29)).2.1 = 20 ∧ (sI σ ((rg (sR σ p0 21)).1) (Int.toNat (w32 ((w32 (20 * (w32 ((w32 (2 * p1)) + v2)))) + v3)))) < (((rg (sR s5 p0 29)).2.2 : Nat) : Int)) ∧
            let s17 := putI s5 ((rg (sR s5 p0 29)).1) (Int.toNat (sI σ ((rg (sR σ p0 21)).1) (Int.toNat (w32 ((w32 (20 * (w32 ((w32 (2 * p1)) + v2)))) + v3))))) (-1);
            ((v2 = 0 →
              let s19 := putI s17 p0 31 (w32 ((sI s17 p0 31) + 1));
              ((v2 = 1 →
                let s21 := putI s19 p0 32 (w32 ((sI s19 p0 32) + 1));
                am_Runs PP MLL d m_M_lay 28 [some (qr (p0, 12, 89)), some (qi p1), some (qi v2), some (qi (w32 (v3 + 1))), some (qi (sI σ ((rg (sR σ p0 21)).1) (Int.toNat (w32 ((w32 (20 * (w32 ((w32 (2 * p1)) + v2)))) + v3)))))] [] s21 (kV K)) ∧
              (¬ (v2 = 1) →
                let s22 := putI s19 p0 32 (w32 ((sI s19 p0 32) + 0));
                am_Runs PP MLL d m_M_lay 28 [some (qr (p0, 12, 89)), some (qi p1), some (qi v2), some (qi (w32 (v3 + 1))), some (qi (sI σ ((rg (sR σ p0 21)).1) (Int.toNat (w32 ((w32 (20 * (w32 ((w32 (2 * p1)) + v2)))) + v3)))))] [] s22 (kV K)))) ∧
            (¬ (v2 = 0) →
              let s23 := putI s17 p0 31 (w32 ((sI s17 p0 31) + 0));
              ((v2 = 1 →
                let s25 := putI s23 p0 32 (w32 ((sI s23 p0 32) + 1));
                am_Runs PP MLL d m_M_lay 28 [some (qr (p0, 12, 89)), some (qi p1), some (qi v2), some (qi (w32 (v3 + 1))), some (qi (sI σ ((rg (sR σ p0 21)).1) (Int.toNat (w32 ((w32 (20 * (w32 ((w32 (2 * p1)) + v2)))) + v3)))))] [] s25 (kV K)) ∧
              (¬ (v2 = 1) →
                let s26 := putI s23 p0 32 (w32 ((sI s23 p0 32) + 0));
                am_Runs PP MLL d m_M_lay 28 [some (qr (p0, 12, 89)), some (qi p1), some (qi v2), some (qi (w32 (v3 + 1))), some (qi (sI σ ((rg (sR σ p0 21)).1) (Int.toNat (w32 ((w32 (20 * (w32 ((w32 (2 * p1)) + v2)))) + v3)))))] [] s26 (kV K)))))))) ∧
        (¬ ((sI σ ((rg (sR σ p0 29)).1) (Int.toNat (sI σ ((rg (sR σ p0 21)).1) (Int.toNat (w32 ((w32 (20 * (w32 ((w32 (2 * p1)) + v2)))) + v3)))))) = 0) →
          let s27 := putI σ p0 30 1;
          ((v2 = 0 →
            ((rg (sR s27 p0 29)).2.1 = 20 ∧ (sI σ ((rg (sR σ p0 21)).1) (Int.toNat (w32 ((w32 (20 * (w32 ((w32 (2 * p1)) + v2)))) + v3)))) < (((rg (sR s27 p0 29)).2.2 : Nat) : Int)) ∧
            let s29 := putI s27 ((rg (sR s27 p0 29)).1) (Int.toNat (sI σ ((rg (sR σ p0 21)).1) (Int.toNat (w32 ((w32 (20 * (w32 ((w32 (2 * p1)) + v2)))) + v3))))) 1;
            ((v2 = 0 →
              let s31 := putI s29 p0 31 (w32 ((sI s29 p0 31) + 1));
              ((v2 = 1 →
                let s33 := putI s31 p0 32 (w32 ((sI s31 p0 32) + 1));
                am_Runs PP MLL d m_M_lay 28 [some (qr (p0, 12, 89)), some (qi p1), some (qi v2), some (qi (w32 (v3 + 1))), some (qi (sI σ ((rg (sR σ p0 21)).1) (Int.toNat (w32 ((w32 (20 * (w32 ((w32 (2 * p1)) + v2)))) + v3)))))] [] s33 (kV K)) ∧
              (¬ (v2 = 1) →
                let s34 := putI s31 p0 32 (w32 ((sI s31 p0 32) + 0));
                am_Runs PP MLL d m_M_lay 28 [some (qr (p0, 12, 89)), some (qi p1), some (qi v2), some (qi (w32 (v3 + 1))), some (qi (sI σ ((rg (sR σ p0 21)).1) (Int.toNat (w32 ((w32 (20 * (w32 ((w32 (2 * p1)) + v2)))) + v3)))))] [] s34 (kV K)))) ∧
            (¬ (v2 = 0) →
              let s35 := putI s29 p0 31 (w32 ((sI s29 p0 31) + 0));
              ((v2 = 1 →
                let s37 := putI s35 p0 32 (w32 ((sI s35 p0 32) + 1));
                am_Runs PP MLL d m_M_lay 28 [some (qr (p0, 12, 89)), some (qi p1), some (qi v2), some (qi (w32 (v3 + 1))), some (qi (sI σ ((rg (sR σ p0 21)).1) (Int.toNat (w32 ((w32 (20 * (w32 ((w32 (2 * p1)) + v2)))) + v3)))))] [] s37 (kV K)) ∧
              (¬ (v2 = 1) →
                let s38 := putI s35 p0 32 (w32 ((sI s35 p0 32) + 0));
                am_Runs PP MLL d m_M_lay 28 [some (qr (p0, 12, 89)), some (qi p1), some (qi v2), some (qi (w32 (v3 + 1))), some (qi (sI σ ((rg (sR σ p0 21)).1) (Int.toNat (w32 ((w32 (20 * (w32 ((w32 (2 * p1)) + v2)))) + v3)))))] [] s38 (kV K)))))) ∧
          (¬ (v2 = 0) →
            ((rg (sR s27 p0 29)).2.1 = 20 ∧ (sI σ ((rg (sR σ p0 21)).1) (Int.toNat (w32 ((w32 (20 * (w32 ((w32 (2 * p1)) + v2)))) + v3)))) < (((rg (sR s27 p0 29)).2.2 : Nat) : Int)) ∧
            let s39 := putI s27 ((rg (sR s27 p0 29)).1) (Int.toNat (sI σ ((rg (sR σ p0 21)).1) (Int.toNat (w32 ((w32 (20 * (w32 ((w32 (2 * p1)) + v2)))) + v3))))) (-1);
            ((v2 = 0 →
              let s41 := putI s39 p0 31 (w32 ((sI s39 p0 31) + 1));
              ((v2 = 1 →
                let s43 := putI s41 p0 32 (w32 ((sI s41 p0 32) + 1));
                am_Runs PP MLL d m_M_lay 28 [some (qr (p0, 12, 89)), some (qi p1), some (qi v2), some (qi (w32 (v3 + 1))), some (qi (sI σ ((rg (sR σ p0 21)).1) (Int.toNat (w32 ((w32 (20 * (w32 ((w32 (2 * p1)) + v2)))) + v3)))))] [] s43 (kV K)) ∧
              (¬ (v2 = 1) →
                let s44 := putI s41 p0 32 (w32 ((sI s41 p0 32) + 0));
                am_Runs PP MLL d m_M_lay 28 [some (qr (p0, 12, 89)), some (qi p1), some (qi v2), some (qi (w32 (v3 + 1))), some (qi (sI σ ((rg (sR σ p0 21)).1) (Int.toNat (w32 ((w32 (20 * (w32 ((w32 (2 * p1)) + v2)))) + v3)))))] [] s44 (kV K)))) ∧
            (¬ (v2 = 0) →
              let s45 := putI s39 p0 31 (w32 ((sI s39 p0 31) + 0));
              ((v2 = 1 →
                let s47 := putI s45 p0 32 (w32 ((sI s45 p0 32) + 1));
                am_Runs PP MLL d m_M_lay 28 [some (qr (p0, 12, 89)), some (qi p1), some (qi v2), some (qi (w32 (v3 + 1))), some (qi (sI σ ((rg (sR σ p0 21)).1) (Int.toNat (w32 ((w32 (20 * (w32 ((w32 (2 * p1)) + v2)))) + v3)))))] [] s47 (kV K)) ∧
              (¬ (v2 = 1) →
                let s48 := putI s45 p0 32 (w32 ((sI s45 p0 32) + 0));
                am_Runs PP MLL d m_M_lay 28 [some (qr (p0, 12, 89)), some (qi p1), some (qi v2), some (qi (w32 (v3 + 1))), some (qi (sI σ ((rg (sR σ p0 21)).1) (Int.toNat (w32 ((w32 (20 * (w32 ((w32 (2 * p1)) + v2)))) + v3)))))] [] s48 (kV K)))))))))) ∧
      (¬ ((sI σ p0 30) = 0) →
        let s49 := putI σ p0 30 1;
        ((v2 = 0 →
          ((rg (sR s49 p0 29)).2.1 = 20 ∧ 0 ≤ (sI σ ((rg (sR σ p0 21)).1) (Int.toNat (w32 ((w32 (20 * (w32 ((w32 (2 * p1)) + v2)))) + v3)))) ∧ (sI σ ((rg (sR σ p0 21)).1) (Int.toNat (w32 ((w32 (20 * (w32 ((w32 (2 * p1)) + v2)))) + v3)))) < (((rg (sR s49 p0 29)).2.2 : Nat) : Int)) ∧
          let s51 := putI s49 ((rg (sR s49 p0 29)).1) (Int.toNat (sI σ ((rg (sR σ p0 21)).1) (Int.toNat (w32 ((w32 (20 * (w32 ((w32 (2 * p1)) + v2)))) + v3))))) 1;
          ((v2 = 0 →
            let s53 := putI s51 p0 31 (w32 ((sI s51 p0 31) + 1));
            ((v2 = 1 →
              let s55 := putI s53 p0 32 (w32 ((sI s53 p0 32) + 1));
              am_Runs PP MLL d m_M_lay 28 [some (qr (p0, 12, 89)), some (qi p1), some (qi v2), some (qi (w32 (v3 + 1))), some (qi (sI σ ((rg (sR σ p0 21)).1) (Int.toNat (w32 ((w32 (20 * (w32 ((w32 (2 * p1)) + v2)))) + v3)))))] [] s55 (kV K)) ∧
            (¬ (v2 = 1) →
              let s56 := putI s53 p0 32 (w32 ((sI s53 p0 32) + 0));
              am_Runs PP MLL d m_M_lay 28 [some (qr (p0, 12, 89)), some (qi p1), some (qi v2), some (qi (w32 (v3 + 1))), some (qi (sI σ ((rg (sR σ p0 21)).1) (Int.toNat (w32 ((w32 (20 * (w32 ((w32 (2 * p1)) + v2)))) + v3)))))] [] s56 (kV K)))) ∧
          (¬ (v2 = 0) →
            let s57 := putI s51 p0 31 (w32 ((sI s51 p0 31) + 0));
            ((v2 = 1 →
              let s59 := putI s57 p0 32 (w32 ((sI s57 p0 32) + 1));
              am_Runs PP MLL d m_M_lay 28 [some (qr (p0, 12, 89)), some (qi p1), some (qi v2), some (qi (w32 (v3 + 1))), some (qi (sI σ ((rg (sR σ p0 21)).1) (Int.toNat (w32 ((w32 (20 * (w32 ((w32 (2 * p1)) + v2)))) + v3)))))] [] s59 (kV K)) ∧
            (¬ (v2 = 1) →
              let s60 := putI s57 p0 32 (w32 ((sI s57 p0 32) + 0));
              am_Runs PP MLL d m_M_lay 28 [some (qr (p0, 12, 89)), some (qi p1), some (qi v2), some (qi (w32 (v3 + 1))), some (qi (sI σ ((rg (sR σ p0 21)).1) (Int.toNat (w32 ((w32 (20 * (w32 ((w32 (2 * p1)) + v2)))) + v3)))))] [] s60 (kV K)))))) ∧
        (¬ (v2 = 0) →
          ((rg (sR s49 p0 29)).2.1 = 20 ∧ 0 ≤ (sI σ ((rg (sR σ p0 21)).1) (Int.toNat (w32 ((w32 (20 * (w32 ((w32 (2 * p1)) + v2)))) + v3)))) ∧ (sI σ ((rg (sR σ p0 21)).1) (Int.toNat (w32 ((w32 (20 * (w32 ((w32 (2 * p1)) + v2)))) + v3)))) < (((rg (sR s49 p0 29)).2.2 : Nat) : Int)) ∧
          let s61 := putI s49 ((rg (sR s49 p0 29)).1) (Int.toNat (sI σ ((rg (sR σ p0 21)).1) (Int.toNat (w32 ((w32 (20 * (w32 ((w32 (2 * p1)) + v2)))) + v3))))) (-1);
          ((v2 = 0 →
            let s63 := putI s61 p0 31 (w32 ((sI s61 p0 31) + 1));
            ((v2 = 1 →
              let s65 := putI s63 p0 32 (w32 ((sI s63 p0 32) + 1));
              am_Runs PP MLL d m_M_lay 28 [some (qr (p0, 12, 89)), some (qi p1), some (qi v2), some (qi (w32 (v3 + 1))), some (qi (sI σ ((rg (sR σ p0 21)).1) (Int.toNat (w32 ((w32 (20 * (w32 ((w32 (2 * p1)) + v2)))) + v3)))))] [] s65 (kV K)) ∧
            (¬ (v2 = 1) →
              let s66 := putI s63 p0 32 (w32 ((sI s63 p0 32) + 0));
              am_Runs PP MLL d m_M_lay 28 [some (qr (p0, 12, 89)), some (qi p1), some (qi v2), some (qi (w32 (v3 + 1))), some (qi (sI σ ((rg (sR σ p0 21)).1) (Int.toNat (w32 ((w32 (20 * (w32 ((w32 (2 * p1)) + v2)))) + v3)))))] [] s66 (kV K)))) ∧
          (¬ (v2 = 0) →
            let s67 := putI s61 p0 31 (w32 ((sI s61 p0 31) + 0));
            ((v2 = 1 →
              let s69 := putI s67 p0 32 (w32 ((sI s67 p0 32) + 1));
              am_Runs PP MLL d m_M_lay 28 [some (qr (p0, 12, 89)), some (qi p1), some (qi v2), some (qi (w32 (v3 + 1))), some (qi (sI σ ((rg (sR σ p0 21)).1) (Int.toNat (w32 ((w32 (20 * (w32 ((w32 (2 * p1)) + v2)))) + v3)))))] [] s69 (kV K)) ∧
            (¬ (v2 = 1) →
              let s70 := putI s67 p0 32 (w32 ((sI s67 p0 32) + 0));
              am_Runs PP MLL d m_M_lay 28 [some (qr (p0, 12, 89)), some (qi p1), some (qi v2), some (qi (w32 (v3 + 1))), some (qi (sI σ ((rg (sR σ p0 21)).1) (Int.toNat (w32 ((w32 (20 * (w32 ((w32 (2 * p1)) + v2)))) + v3)))))] [] s70 (kV K)))))))))))))) : am_Runs PP MLL d m_M_lay 28 [some (qr (p0, 12, 89)), some (qi p1), some (qi v2), some (qi v3), z4] [] σ (kV K) := am_wE_ok 200 (⟨rfl, ⟨⟨h.1.1, h.1.2.1, h.1.2.2⟩, ⟨fun c1 => (h.2.1 c1), fun c1 => ⟨rfl, ⟨⟨(h.2.2 c1).1.1, (h.2.2 c1).1.2.1, (h.2.2 c1).1.2.2⟩, ⟨fun c2 => ((h.2.2 c1).2.1 c2), fun c2 => ⟨rfl, ⟨fun c3 => ⟨rfl, ⟨⟨(((h.2.2 c1).2.2 c2).1 c3).1.1, (((h.2.2 c1).2.2 c2).1 c3).1.2.1, (((h.2.2 c1).2.2 c2).1 c3).1.2.2⟩, ⟨fun c4 => ⟨⟨rfl, (Or.inl rfl)⟩, ⟨rfl, ⟨fun c6 => ⟨⟨(((((h.2.2 c1).2.2 c2).1 c3).2.1 c4).1 c6).1.1, (((h.2.2 c1).2.2 c2).1 c3).1.2.1, (((((h.2.2 c1).2.2 c2).1 c3).2.1 c4).1 c6).1.2⟩, ⟨rfl, ⟨fun c8 => ⟨rfl, ⟨rfl, ⟨fun c10 => ⟨rfl, (((((((h.2.2 c1).2.2 c2).1 c3).2.1 c4).1 c6).2.1 c8).1 c10)⟩, fun c10 => ⟨rfl, (((((((h.2.2 c1).2.2 c2).1 c3).2.1 c4).1 c6).2.1 c8).2 c10)⟩⟩⟩⟩, fun c8 => ⟨rfl, ⟨rfl, ⟨fun c14 => ⟨rfl, (((((((h.2.2 c1).2.2 c2).1 c3).2.1 c4).1 c6).2.2 c8).1 c14)⟩, fun c14 => ⟨rfl, (((((((h.2.2 c1).2.2 c2).1 c3).2.1 c4).1 c6).2.2 c8).2 c14)⟩⟩⟩⟩⟩⟩⟩, fun c6 => ⟨⟨(((((h.2.2 c1).2.2 c2).1 c3).2.1 c4).2 c6).1.1, (((h.2.2 c1).2.2 c2).1 c3).1.2.1, (((((h.2.2 c1).2.2 c2).1 c3).2.1 c4).2 c6).1.2⟩, ⟨rfl, ⟨fun c18 => ⟨rfl, ⟨rfl, ⟨fun c20 => ⟨rfl, (((((((h.2.2 c1).2.2 c2).1 c3).2.1 c4).2 c6).2.1 c18).1 c20)⟩, fun c20 => ⟨rfl, (((((((h.2.2 c1).2.2 c2).1 c3).2.1 c4).2 c6).2.1 c18).2 c20)⟩⟩⟩⟩, fun c18 => ⟨rfl, ⟨rfl, ⟨fun c24 => ⟨rfl, (((((((h.2.2 c1).2.2 c2).1 c3).2.1 c4).2 c6).2.2 c18).1 c24)⟩, fun c24 => ⟨rfl, (((((((h.2.2 c1).2.2 c2).1 c3).2.1 c4).2 c6).2.2 c18).2 c24)⟩⟩⟩⟩⟩⟩⟩⟩⟩⟩, fun c4 => ⟨⟨rfl, (Or.inr rfl)⟩, ⟨rfl, ⟨fun c28 => ⟨⟨(((((h.2.2 c1).2.2 c2).1 c3).2.2 c4).1 c28).1.1, (((h.2.2 c1).2.2 c2).1 c3).1.2.1, (((((h.2.2 c1).2.2 c2).1 c3).2.2 c4).1 c28).1.2⟩, ⟨rfl, ⟨fun c30 => ⟨rfl, ⟨rfl, ⟨fun c32 => ⟨rfl, (((((((h.2.2 c1).2.2 c2).1 c3).2.2 c4).1 c28).2.1 c30).1 c32)⟩, fun c32 => ⟨rfl, (((((((h.2.2 c1).2.2 c2).1 c3).2.2 c4).1 c28).2.1 c30).2 c32)⟩⟩⟩⟩, fun c30 => ⟨rfl, ⟨rfl, ⟨fun c36 => ⟨rfl, (((((((h.2.2 c1).2.2 c2).1 c3).2.2 c4).1 c28).2.2 c30).1 c36)⟩, fun c36 => ⟨rfl, (((((((h.2.2 c1).2.2 c2).1 c3).2.2 c4).1 c28).2.2 c30).2 c36)⟩⟩⟩⟩⟩⟩⟩, fun c28 => ⟨⟨(((((h.2.2 c1).2.2 c2).1 c3).2.2 c4).2 c28).1.1, (((h.2.2 c1).2.2 c2).1 c3).1.2.1, (((((h.2.2 c1).2.2 c2).1 c3).2.2 c4).2 c28).1.2⟩, ⟨rfl, ⟨fun c40 => ⟨rfl, ⟨rfl, ⟨fun c42 => ⟨rfl, (((((((h.2.2 c1).2.2 c2).1 c3).2.2 c4).2 c28).2.1 c40).1 c42)⟩, fun c42 => ⟨rfl, (((((((h.2.2 c1).2.2 c2).1 c3).2.2 c4).2 c28).2.1 c40).2 c42)⟩⟩⟩⟩, fun c40 => ⟨rfl, ⟨rfl, ⟨fun c46 => ⟨rfl, (((((((h.2.2 c1).2.2 c2).1 c3).2.2 c4).2 c28).2.2 c40).1 c46)⟩, fun c46 => ⟨rfl, (((((((h.2.2 c1).2.2 c2).1 c3).2.2 c4).2 c28).2.2 c40).2 c46)⟩⟩⟩⟩⟩⟩⟩⟩⟩⟩⟩⟩⟩, fun c3 => ⟨⟨rfl, (Or.inr rfl)⟩, ⟨rfl, ⟨fun c50 => ⟨⟨((((h.2.2 c1).2.2 c2).2 c3).1 c50).1.1, ((((h.2.2 c1).2.2 c2).2 c3).1 c50).1.2.1, ((((h.2.2 c1).2.2 c2).2 c3).1 c50).1.2.2⟩, ⟨rfl, ⟨fun c52 => ⟨rfl, ⟨rfl, ⟨fun c54 => ⟨rfl, ((((((h.2.2 c1).2.2 c2).2 c3).1 c50).2.1 c52).1 c54)⟩, fun c54 => ⟨rfl, ((((((h.2.2 c1).2.2 c2).2 c3).1 c50).2.1 c52).2 c54)⟩⟩⟩⟩, fun c52 => ⟨rfl, ⟨rfl, ⟨fun c58 => ⟨rfl, ((((((h.2.2 c1).2.2 c2).2 c3).1 c50).2.2 c52).1 c58)⟩, fun c58 => ⟨rfl, ((((((h.2.2 c1).2.2 c2).2 c3).1 c50).2.2 c52).2 c58)⟩⟩⟩⟩⟩⟩⟩, fun c50 => ⟨⟨((((h.2.2 c1).2.2 c2).2 c3).2 c50).1.1, ((((h.2.2 c1).2.2 c2).2 c3).2 c50).1.2.1, ((((h.2.2 c1).2.2 c2).2 c3).2 c50).1.2.2⟩, ⟨rfl, ⟨fun c62 => ⟨rfl, ⟨rfl, ⟨fun c64 => ⟨rfl, ((((((h.2.2 c1).2.2 c2).2 c3).2 c50).2.1 c62).1 c64)⟩, fun c64 => ⟨rfl, ((((((h.2.2 c1).2.2 c2).2 c3).2 c50).2.1 c62).2 c64)⟩⟩⟩⟩, fun c62 => ⟨rfl, ⟨rfl, ⟨fun c68 => ⟨rfl, ((((((h.2.2 c1).2.2 c2).2 c3).2 c50).2.2 c62).1 c68)⟩, fun c68 => ⟨rfl, ((((((h.2.2 c1).2.2 c2).2 c3).2 c50).2.2 c62).2 c68)⟩⟩⟩⟩⟩⟩⟩⟩⟩⟩⟩⟩⟩⟩⟩⟩⟩⟩)

