/-! goals of the reference's methods (by program: wip/vc.py) -/
set_option maxRecDepth 20000 in
theorem v_M_in_0 (d : Nat) (p0 p1 p2 : Int) (σ : am_S) (K : Int → am_S → Prop) (h :
  ((p0 < p1 →
    K 0 σ) ∧
  (¬ (p0 < p1) →
    ((p2 < p0 →
      K 0 σ) ∧
    (¬ (p2 < p0) →
      K 1 σ))))) : am_Runs PP MLL d m_M_in 0 [some (qi p0), some (qi p1), some (qi p2)] [] σ (kI K) := am_wE_ok 200 (⟨fun c1 => ⟨(Or.inl rfl), (h.1 c1)⟩, fun c1 => ⟨fun c2 => ⟨(Or.inl rfl), ((h.2 c1).1 c2)⟩, fun c2 => ⟨(Or.inr rfl), ((h.2 c1).2 c2)⟩⟩⟩)

set_option maxRecDepth 20000 in
theorem v_M_choose_0 (d : Nat) (p0 p1 : Int) (σ : am_S) (K : Int → am_S → Prop) (h :
  am_Runs PP MLL d m_M_choose 4 [some (qi p0), some (qi p1), some (qi 1), some (qi 0)] [] σ (kI K)) : am_Runs PP MLL d m_M_choose 0 [some (qi p0), some (qi p1), none, none] [] σ (kI K) := am_wE_ok 200 (h)

set_option maxRecDepth 20000 in
theorem v_M_choose_4 (d : Nat) (p0 p1 v2 v3 : Int) (σ : am_S) (K : Int → am_S → Prop) (h :
  ((p1 ≤ v3 →
    K v2 σ) ∧
  (¬ (p1 ≤ v3) →
    (w32 (v3 + 1)) ≠ 0 ∧
    am_Runs PP MLL d m_M_choose 4 [some (qi p0), some (qi p1), some (qi (w32 (Int.tdiv (w32 (v2 * (w32 (p0 - v3)))) (w32 (v3 + 1))))), some (qi (w32 (v3 + 1)))] [] σ (kI K)))) : am_Runs PP MLL d m_M_choose 4 [some (qi p0), some (qi p1), some (qi v2), some (qi v3)] [] σ (kI K) := am_wE_ok 200 (⟨fun c1 => (h.1 c1), fun c1 => ⟨(h.2 c1).1, (h.2 c1).2⟩⟩)

set_option maxRecDepth 20000 in
theorem v_M_signsOf_0 (d : Nat) (p0 p1 : Int) (σ : am_S) (K : Int → am_S → Prop) (h :
  ((p1 = 3 →
    K (a_shl 1 p0) σ) ∧
  (¬ (p1 = 3) →
    K 1 σ))) : am_Runs PP MLL d m_M_signsOf 0 [some (qi p0), some (qi p1)] [] σ (kI K) := am_wE_ok 200 (⟨fun c1 => (h.1 c1), fun c1 => (h.2 c1)⟩)

set_option maxRecDepth 20000 in
theorem v_M_addTruths_0 (d : Nat) (p1 p2 p3 p4 : Int) (σ : am_S) (K : am_S → Prop) (hF : MF σ) (h :
  am_Calls PP MLL d m_M_signsOf [qi p1, qi (sI σ 31 3)] σ (kI fun x1 s1 =>
    MF s1 ∧
    am_Runs PP MLL d m_M_addTruths 7 [some (qr (31, 12, 89)), some (qi p1), some (qi p2), some (qi p3), some (qi p4), some (qi x1), some (qi 0), none] [] s1 (kV K))) : am_Runs PP MLL d m_M_addTruths 0 [some (qr (31, 12, 89)), some (qi p1), some (qi p2), some (qi p3), some (qi p4), none, none, none] [] σ (kV K) := am_wEM_ok 200 hF (⟨rfl, (am_cI h fun x1 s1 h1 => ⟨h1.1, h1.2⟩)⟩)

set_option maxRecDepth 20000 in
theorem v_M_addTruths_7 (d : Nat) (p1 p2 p3 p4 v5 v6 : Int) (z7 : Option am_V) (σ : am_S) (K : am_S → Prop) (hF : MF σ) (h :
  ((v5 ≤ v6 →
    K σ) ∧
  (¬ (v5 ≤ v6) →
    (0 ≤ (sI σ 31 5) ∧ (sI σ 31 5) < ((10000 : Nat) : Int)) ∧
    let s2 := putI σ 33 (Int.toNat (sI σ 31 5)) p1;
    am_Runs PP MLL d m_M_addTruths 18 [some (qr (31, 12, 89)), some (qi p1), some (qi p2), some (qi p3), some (qi p4), some (qi v5), some (qi v6), some (qi 0)] [] s2 (kV K)))) : am_Runs PP MLL d m_M_addTruths 7 [some (qr (31, 12, 89)), some (qi p1), some (qi p2), some (qi p3), some (qi p4), some (qi v5), some (qi v6), z7] [] σ (kV K) := am_wEM_ok 200 hF (⟨fun c1 => (h.1 c1), fun c1 => ⟨rfl, ⟨rfl, ⟨⟨rfl, (h.2 c1).1.1, (h.2 c1).1.2⟩, (h.2 c1).2⟩⟩⟩⟩)

set_option maxRecDepth 20000 in
theorem v_M_addTruths_18 (d : Nat) (p1 p2 p3 p4 v5 v6 v7 : Int) (σ : am_S) (K : am_S → Prop) (hF : MF σ) (h :
  ((p1 ≤ v7 →
    (0 ≤ (sI σ 31 5) ∧ (sI σ 31 5) < ((10000 : Nat) : Int)) ∧
    let s2 := putI σ 36 (Int.toNat (sI σ 31 5)) 0;
    (0 ≤ (sI s2 31 5) ∧ (sI s2 31 5) < ((10000 : Nat) : Int)) ∧
    let s3 := putI s2 37 (Int.toNat (sI s2 31 5)) (-1);
    (0 ≤ (sI s3 31 5) ∧ (sI s3 31 5) < ((10000 : Nat) : Int)) ∧
    let s4 := putI s3 38 (Int.toNat (sI s3 31 5)) 0;
    let s5 := putI s4 31 5 (w32 ((sI s4 31 5) + 1));
    am_Runs PP MLL d m_M_addTruths 7 [some (qr (31, 12, 89)), some (qi p1), some (qi p2), some (qi p3), some (qi p4), some (qi v5), some (qi (w32 (v6 + 1))), some (qi v7)] [] s5 (kV K)) ∧
  (¬ (p1 ≤ v7) →
    ((v7 = 0 →
      (0 ≤ (w32 ((w32 (3 * (sI σ 31 5))) + v7)) ∧ (w32 ((w32 (3 * (sI σ 31 5))) + v7)) < ((30000 : Nat) : Int)) ∧
      let s7 := putI σ 34 (Int.toNat (w32 ((w32 (3 * (sI σ 31 5))) + v7))) p2;
      (((sI s7 31 3) = 1 →
        (0 ≤ (w32 ((w32 (3 * (sI s7 31 5))) + v7)) ∧ (w32 ((w32 (3 * (sI s7 31 5))) + v7)) < ((30000 : Nat) : Int)) ∧
        let s9 := putI s7 35 (Int.toNat (w32 ((w32 (3 * (sI s7 31 5))) + v7))) 1;
        am_Runs PP MLL d m_M_addTruths 18 [some (qr (31, 12, 89)), some (qi p1), some (qi p2), some (qi p3), some (qi p4), some (qi v5), some (qi v6), some (qi (w32 (v7 + 1)))] [] s9 (kV K)) ∧
      (¬ ((sI s7 31 3) = 1) →
        (((sI s7 31 3) = 2 →
          (0 ≤ (w32 ((w32 (3 * (sI s7 31 5))) + v7)) ∧ (w32 ((w32 (3 * (sI s7 31 5))) + v7)) < ((30000 : Nat) : Int)) ∧
          let s11 := putI s7 35 (Int.toNat (w32 ((w32 (3 * (sI s7 31 5))) + v7))) (-1);
          am_Runs PP MLL d m_M_addTruths 18 [some (qr (31, 12, 89)), some (qi p1), some (qi p2), some (qi p3), some (qi p4), some (qi v5), some (qi v6), some (qi (w32 (v7 + 1)))] [] s11 (kV K)) ∧
        (¬ ((sI s7 31 3) = 2) →
          (((a_and (a_shr v6 (w32 ((w32 (p1 - 1)) - v7))) 1) = 0 →
            (0 ≤ (w32 ((w32 (3 * (sI s7 31 5))) + v7)) ∧ (w32 ((w32 (3 * (sI s7 31 5))) + v7)) < ((30000 : Nat) : Int)) ∧
            let s13 := putI s7 35 (Int.toNat (w32 ((w32 (3 * (sI s7 31 5))) + v7))) 1;
            am_Runs PP MLL d m_M_addTruths 18 [some (qr (31, 12, 89)), some (qi p1), some (qi p2), some (qi p3), some (qi p4), some (qi v5), some (qi v6), some (qi (w32 (v7 + 1)))] [] s13 (kV K)) ∧
          (¬ ((a_and (a_shr v6 (w32 ((w32 (p1 - 1)) - v7))) 1) = 0) →
            (0 ≤ (w32 ((w32 (3 * (sI s7 31 5))) + v7)) ∧ (w32 ((w32 (3 * (sI s7 31 5))) + v7)) < ((30000 : Nat) : Int)) ∧
            let s14 := putI s7 35 (Int.toNat (w32 ((w32 (3 * (sI s7 31 5))) + v7))) (-1);
            am_Runs PP MLL d m_M_addTruths 18 [some (qr (31, 12, 89)), some (qi p1), some (qi p2), some (qi p3), some (qi p4), some (qi v5), some (qi v6), some (qi (w32 (v7 + 1)))] [] s14 (kV K)))))))) ∧
    (¬ (v7 = 0) →
      ((v7 = 1 →
        (0 ≤ (w32 ((w32 (3 * (sI σ 31 5))) + v7)) ∧ (w32 ((w32 (3 * (sI σ 31 5))) + v7)) < ((30000 : Nat) : Int)) ∧
        let s16 := putI σ 34 (Int.toNat (w32 ((w32 (3 * (sI σ 31 5))) + v7))) p3;
        (((sI s16 31 3) = 1 →
          (0 ≤ (w32 ((w32 (3 * (sI s16 31 5))) + v7)) ∧ (w32 ((w32 (3 * (sI s16 31 5))) + v7)) < ((30000 : Nat) : Int)) ∧
          let s18 := putI s16 35 (Int.toNat (w32 ((w32 (3 * (sI s16 31 5))) + v7))) 1;
          am_Runs PP MLL d m_M_addTruths 18 [some (qr (31, 12, 89)), some (qi p1), some (qi p2), some (qi p3), some (qi p4), some (qi v5), some (qi v6), some (qi (w32 (v7 + 1)))] [] s18 (kV K)) ∧
        (¬ ((sI s16 31 3) = 1) →
          (((sI s16 31 3) = 2 →
            (0 ≤ (w32 ((w32 (3 * (sI s16 31 5))) + v7)) ∧ (w32 ((w32 (3 * (sI s16 31 5))) + v7)) < ((30000 : Nat) : Int)) ∧
            let s20 := putI s16 35 (Int.toNat (w32 ((w32 (3 * (sI s16 31 5))) + v7))) (-1);
            am_Runs PP MLL d m_M_addTruths 18 [some (qr (31, 12, 89)), some (qi p1), some (qi p2), some (qi p3), some (qi p4), some (qi v5), some (qi v6), some (qi (w32 (v7 + 1)))] [] s20 (kV K)) ∧
          (¬ ((sI s16 31 3) = 2) →
            (((a_and (a_shr v6 (w32 ((w32 (p1 - 1)) - v7))) 1) = 0 →
              (0 ≤ (w32 ((w32 (3 * (sI s16 31 5))) + v7)) ∧ (w32 ((w32 (3 * (sI s16 31 5))) + v7)) < ((30000 : Nat) : Int)) ∧
              let s22 := putI s16 35 (Int.toNat (w32 ((w32 (3 * (sI s16 31 5))) + v7))) 1;
              am_Runs PP MLL d m_M_addTruths 18 [some (qr (31, 12, 89)), some (qi p1), some (qi p2), some (qi p3), some (qi p4), some (qi v5), some (qi v6), some (qi (w32 (v7 + 1)))] [] s22 (kV K)) ∧
            (¬ ((a_and (a_shr v6 (w32 ((w32 (p1 - 1)) - v7))) 1) = 0) →
              (0 ≤ (w32 ((w32 (3 * (sI s16 31 5))) + v7)) ∧ (w32 ((w32 (3 * (sI s16 31 5))) + v7)) < ((30000 : Nat) : Int)) ∧
              let s23 := putI s16 35 (Int.toNat (w32 ((w32 (3 * (sI s16 31 5))) + v7))) (-1);
              am_Runs PP MLL d m_M_addTruths 18 [some (qr (31, 12, 89)), some (qi p1), some (qi p2), some (qi p3), some (qi p4), some (qi v5), some (qi v6), some (qi (w32 (v7 + 1)))] [] s23 (kV K)))))))) ∧
      (¬ (v7 = 1) →
        (0 ≤ (w32 ((w32 (3 * (sI σ 31 5))) + v7)) ∧ (w32 ((w32 (3 * (sI σ 31 5))) + v7)) < ((30000 : Nat) : Int)) ∧
        let s24 := putI σ 34 (Int.toNat (w32 ((w32 (3 * (sI σ 31 5))) + v7))) p4;
        (((sI s24 31 3) = 1 →
          (0 ≤ (w32 ((w32 (3 * (sI s24 31 5))) + v7)) ∧ (w32 ((w32 (3 * (sI s24 31 5))) + v7)) < ((30000 : Nat) : Int)) ∧
          let s26 := putI s24 35 (Int.toNat (w32 ((w32 (3 * (sI s24 31 5))) + v7))) 1;
          am_Runs PP MLL d m_M_addTruths 18 [some (qr (31, 12, 89)), some (qi p1), some (qi p2), some (qi p3), some (qi p4), some (qi v5), some (qi v6), some (qi (w32 (v7 + 1)))] [] s26 (kV K)) ∧
        (¬ ((sI s24 31 3) = 1) →
          (((sI s24 31 3) = 2 →
            (0 ≤ (w32 ((w32 (3 * (sI s24 31 5))) + v7)) ∧ (w32 ((w32 (3 * (sI s24 31 5))) + v7)) < ((30000 : Nat) : Int)) ∧
            let s28 := putI s24 35 (Int.toNat (w32 ((w32 (3 * (sI s24 31 5))) + v7))) (-1);
            am_Runs PP MLL d m_M_addTruths 18 [some (qr (31, 12, 89)), some (qi p1), some (qi p2), some (qi p3), some (qi p4), some (qi v5), some (qi v6), some (qi (w32 (v7 + 1)))] [] s28 (kV K)) ∧
          (¬ ((sI s24 31 3) = 2) →
            (((a_and (a_shr v6 (w32 ((w32 (p1 - 1)) - v7))) 1) = 0 →
              (0 ≤ (w32 ((w32 (3 * (sI s24 31 5))) + v7)) ∧ (w32 ((w32 (3 * (sI s24 31 5))) + v7)) < ((30000 : Nat) : Int)) ∧
              let s30 := putI s24 35 (Int.toNat (w32 ((w32 (3 * (sI s24 31 5))) + v7))) 1;
              am_Runs PP MLL d m_M_addTruths 18 [some (qr (31, 12, 89)), some (qi p1), some (qi p2), some (qi p3), some (qi p4), some (qi v5), some (qi v6), some (qi (w32 (v7 + 1)))] [] s30 (kV K)) ∧
            (¬ ((a_and (a_shr v6 (w32 ((w32 (p1 - 1)) - v7))) 1) = 0) →
              (0 ≤ (w32 ((w32 (3 * (sI s24 31 5))) + v7)) ∧ (w32 ((w32 (3 * (sI s24 31 5))) + v7)) < ((30000 : Nat) : Int)) ∧
              let s31 := putI s24 35 (Int.toNat (w32 ((w32 (3 * (sI s24 31 5))) + v7))) (-1);
              am_Runs PP MLL d m_M_addTruths 18 [some (qr (31, 12, 89)), some (qi p1), some (qi p2), some (qi p3), some (qi p4), some (qi v5), some (qi v6), some (qi (w32 (v7 + 1)))] [] s31 (kV K)))))))))))))) : am_Runs PP MLL d m_M_addTruths 18 [some (qr (31, 12, 89)), some (qi p1), some (qi p2), some (qi p3), some (qi p4), some (qi v5), some (qi v6), some (qi v7)] [] σ (kV K) := am_wEM_ok 200 hF (⟨fun c1 => ⟨rfl, ⟨rfl, ⟨⟨rfl, (h.1 c1).1.1, (h.1 c1).1.2⟩, ⟨rfl, ⟨rfl, ⟨⟨rfl, (h.1 c1).2.1.1, (h.1 c1).2.1.2⟩, ⟨rfl, ⟨rfl, ⟨⟨rfl, (h.1 c1).2.2.1.1, (h.1 c1).2.2.1.2⟩, ⟨rfl, ⟨rfl, (h.1 c1).2.2.2⟩⟩⟩⟩⟩⟩⟩⟩⟩⟩⟩, fun c1 => ⟨rfl, ⟨rfl, ⟨fun c6 => ⟨⟨rfl, ((h.2 c1).1 c6).1.1, ((h.2 c1).1 c6).1.2⟩, ⟨rfl, ⟨rfl, ⟨rfl, ⟨fun c8 => ⟨⟨rfl, (((h.2 c1).1 c6).2.1 c8).1.1, (((h.2 c1).1 c6).2.1 c8).1.2⟩, (((h.2 c1).1 c6).2.1 c8).2⟩, fun c8 => ⟨rfl, ⟨fun c10 => ⟨⟨rfl, ((((h.2 c1).1 c6).2.2 c8).1 c10).1.1, ((((h.2 c1).1 c6).2.2 c8).1 c10).1.2⟩, ((((h.2 c1).1 c6).2.2 c8).1 c10).2⟩, fun c10 => ⟨fun c12 => ⟨⟨rfl, (((((h.2 c1).1 c6).2.2 c8).2 c10).1 c12).1.1, (((((h.2 c1).1 c6).2.2 c8).2 c10).1 c12).1.2⟩, (((((h.2 c1).1 c6).2.2 c8).2 c10).1 c12).2⟩, fun c12 => ⟨⟨rfl, (((((h.2 c1).1 c6).2.2 c8).2 c10).2 c12).1.1, (((((h.2 c1).1 c6).2.2 c8).2 c10).2 c12).1.2⟩, (((((h.2 c1).1 c6).2.2 c8).2 c10).2 c12).2⟩⟩⟩⟩⟩⟩⟩⟩⟩, fun c6 => ⟨fun c15 => ⟨⟨rfl, (((h.2 c1).2 c6).1 c15).1.1, (((h.2 c1).2 c6).1 c15).1.2⟩, ⟨rfl, ⟨rfl, ⟨rfl, ⟨fun c17 => ⟨⟨rfl, ((((h.2 c1).2 c6).1 c15).2.1 c17).1.1, ((((h.2 c1).2 c6).1 c15).2.1 c17).1.2⟩, ((((h.2 c1).2 c6).1 c15).2.1 c17).2⟩, fun c17 => ⟨rfl, ⟨fun c19 => ⟨⟨rfl, (((((h.2 c1).2 c6).1 c15).2.2 c17).1 c19).1.1, (((((h.2 c1).2 c6).1 c15).2.2 c17).1 c19).1.2⟩, (((((h.2 c1).2 c6).1 c15).2.2 c17).1 c19).2⟩, fun c19 => ⟨fun c21 => ⟨⟨rfl, ((((((h.2 c1).2 c6).1 c15).2.2 c17).2 c19).1 c21).1.1, ((((((h.2 c1).2 c6).1 c15).2.2 c17).2 c19).1 c21).1.2⟩, ((((((h.2 c1).2 c6).1 c15).2.2 c17).2 c19).1 c21).2⟩, fun c21 => ⟨⟨rfl, ((((((h.2 c1).2 c6).1 c15).2.2 c17).2 c19).2 c21).1.1, ((((((h.2 c1).2 c6).1 c15).2.2 c17).2 c19).2 c21).1.2⟩, ((((((h.2 c1).2 c6).1 c15).2.2 c17).2 c19).2 c21).2⟩⟩⟩⟩⟩⟩⟩⟩⟩, fun c15 => ⟨⟨rfl, (((h.2 c1).2 c6).2 c15).1.1, (((h.2 c1).2 c6).2 c15).1.2⟩, ⟨rfl, ⟨rfl, ⟨rfl, ⟨fun c25 => ⟨⟨rfl, ((((h.2 c1).2 c6).2 c15).2.1 c25).1.1, ((((h.2 c1).2 c6).2 c15).2.1 c25).1.2⟩, ((((h.2 c1).2 c6).2 c15).2.1 c25).2⟩, fun c25 => ⟨rfl, ⟨fun c27 => ⟨⟨rfl, (((((h.2 c1).2 c6).2 c15).2.2 c25).1 c27).1.1, (((((h.2 c1).2 c6).2 c15).2.2 c25).1 c27).1.2⟩, (((((h.2 c1).2 c6).2 c15).2.2 c25).1 c27).2⟩, fun c27 => ⟨fun c29 => ⟨⟨rfl, ((((((h.2 c1).2 c6).2 c15).2.2 c25).2 c27).1 c29).1.1, ((((((h.2 c1).2 c6).2 c15).2.2 c25).2 c27).1 c29).1.2⟩, ((((((h.2 c1).2 c6).2 c15).2.2 c25).2 c27).1 c29).2⟩, fun c29 => ⟨⟨rfl, ((((((h.2 c1).2 c6).2 c15).2.2 c25).2 c27).2 c29).1.1, ((((((h.2 c1).2 c6).2 c15).2.2 c25).2 c27).2 c29).1.2⟩, ((((((h.2 c1).2 c6).2 c15).2.2 c25).2 c27).2 c29).2⟩⟩⟩⟩⟩⟩⟩⟩⟩⟩⟩⟩⟩⟩)

set_option maxRecDepth 20000 in
theorem v_M_makeTruths_0 (d : Nat) (p1 p2 : Int) (σ : am_S) (K : am_S → Prop) (hF : MF σ) (h :
  let s1 := putI σ 31 5 0;
  am_Runs PP MLL d m_M_makeTruths 5 [some (qr (31, 12, 89)), some (qi p1), some (qi p2), some (qi p1), none, none, none] [] s1 (kV K)) : am_Runs PP MLL d m_M_makeTruths 0 [some (qr (31, 12, 89)), some (qi p1), some (qi p2), none, none, none, none] [] σ (kV K) := am_wEM_ok 200 hF (⟨rfl, h⟩)

set_option maxRecDepth 20000 in
theorem v_M_makeTruths_5 (d : Nat) (p2 v3 : Int) (z1 z4 z5 z6 : Option am_V) (σ : am_S) (K : am_S → Prop) (hF : MF σ) (h :
  ((p2 < v3 →
    K σ) ∧
  (¬ (p2 < v3) →
    (0 ≤ v3 ∧ v3 < ((4 : Nat) : Int)) ∧
    let s2 := putI σ 32 (Int.toNat v3) (sI σ 31 5);
    ((v3 = 0 →
      am_Calls PP MLL d m_M_addTruths [qr (31, 12, 89), qi 0, qi 0, qi 0, qi 0] s2 (kV fun s4 =>
        MF s4 ∧
        am_Runs PP MLL d m_M_makeTruths 24 [some (qr (31, 12, 89)), z1, some (qi p2), some (qi v3), some (qi 0), z5, z6] [] s4 (kV K))) ∧
    (¬ (v3 = 0) →
      am_Runs PP MLL d m_M_makeTruths 24 [some (qr (31, 12, 89)), z1, some (qi p2), some (qi v3), some (qi 0), z5, z6] [] s2 (kV K)))))) : am_Runs PP MLL d m_M_makeTruths 5 [some (qr (31, 12, 89)), z1, some (qi p2), some (qi v3), z4, z5, z6] [] σ (kV K) := am_wEM_ok 200 hF (⟨fun c1 => (h.1 c1), fun c1 => ⟨rfl, ⟨rfl, ⟨⟨rfl, (h.2 c1).1.1, (h.2 c1).1.2⟩, ⟨fun c3 => ⟨rfl, (am_cV ((h.2 c1).2.1 c3) fun s4 h4 => ⟨h4.1, h4.2⟩)⟩, fun c3 => ((h.2 c1).2.2 c3)⟩⟩⟩⟩⟩)

set_option maxRecDepth 20000 in
theorem v_M_makeTruths_24 (d : Nat) (p2 v3 v4 : Int) (z1 z5 z6 : Option am_V) (σ : am_S) (K : am_S → Prop) (hF : MF σ) (h :
  ((v3 ≤ 0 →
    am_Runs PP MLL d m_M_makeTruths 5 [some (qr (31, 12, 89)), z1, some (qi p2), some (qi (w32 (v3 + 1))), some (qi v4), z5, z6] [] σ (kV K)) ∧
  (¬ (v3 ≤ 0) →
    (((sI σ 31 2) ≤ v4 →
      am_Runs PP MLL d m_M_makeTruths 5 [some (qr (31, 12, 89)), z1, some (qi p2), some (qi (w32 (v3 + 1))), some (qi v4), z5, z6] [] σ (kV K)) ∧
    (¬ ((sI σ 31 2) ≤ v4) →
      ((v3 = 1 →
        am_Calls PP MLL d m_M_addTruths [qr (31, 12, 89), qi 1, qi v4, qi 0, qi 0] σ (kV fun s4 =>
          MF s4 ∧
          am_Runs PP MLL d m_M_makeTruths 43 [some (qr (31, 12, 89)), z1, some (qi p2), some (qi v3), some (qi v4), some (qi (w32 (v4 + 1))), z6] [] s4 (kV K))) ∧
      (¬ (v3 = 1) →
        am_Runs PP MLL d m_M_makeTruths 43 [some (qr (31, 12, 89)), z1, some (qi p2), some (qi v3), some (qi v4), some (qi (w32 (v4 + 1))), z6] [] σ (kV K)))))))) : am_Runs PP MLL d m_M_makeTruths 24 [some (qr (31, 12, 89)), z1, some (qi p2), some (qi v3), some (qi v4), z5, z6] [] σ (kV K) := am_wEM_ok 200 hF (⟨fun c1 => (h.1 c1), fun c1 => ⟨rfl, ⟨fun c2 => ((h.2 c1).1 c2), fun c2 => ⟨fun c3 => ⟨rfl, (am_cV (((h.2 c1).2 c2).1 c3) fun s4 h4 => ⟨h4.1, h4.2⟩)⟩, fun c3 => (((h.2 c1).2 c2).2 c3)⟩⟩⟩⟩)

set_option maxRecDepth 20000 in
theorem v_M_makeTruths_43 (d : Nat) (p2 v3 v4 v5 : Int) (z1 z6 : Option am_V) (σ : am_S) (K : am_S → Prop) (hF : MF σ) (h :
  ((v3 ≤ 1 →
    am_Runs PP MLL d m_M_makeTruths 24 [some (qr (31, 12, 89)), z1, some (qi p2), some (qi v3), some (qi (w32 (v4 + 1))), some (qi v5), z6] [] σ (kV K)) ∧
  (¬ (v3 ≤ 1) →
    (((sI σ 31 2) ≤ v5 →
      am_Runs PP MLL d m_M_makeTruths 24 [some (qr (31, 12, 89)), z1, some (qi p2), some (qi v3), some (qi (w32 (v4 + 1))), some (qi v5), z6] [] σ (kV K)) ∧
    (¬ ((sI σ 31 2) ≤ v5) →
      ((v3 = 2 →
        am_Calls PP MLL d m_M_addTruths [qr (31, 12, 89), qi 2, qi v4, qi v5, qi 0] σ (kV fun s4 =>
          MF s4 ∧
          am_Runs PP MLL d m_M_makeTruths 63 [some (qr (31, 12, 89)), z1, some (qi p2), some (qi v3), some (qi v4), some (qi v5), some (qi (w32 (v5 + 1)))] [] s4 (kV K))) ∧
      (¬ (v3 = 2) →
        am_Runs PP MLL d m_M_makeTruths 63 [some (qr (31, 12, 89)), z1, some (qi p2), some (qi v3), some (qi v4), some (qi v5), some (qi (w32 (v5 + 1)))] [] σ (kV K)))))))) : am_Runs PP MLL d m_M_makeTruths 43 [some (qr (31, 12, 89)), z1, some (qi p2), some (qi v3), some (qi v4), some (qi v5), z6] [] σ (kV K) := am_wEM_ok 200 hF (⟨fun c1 => (h.1 c1), fun c1 => ⟨rfl, ⟨fun c2 => ((h.2 c1).1 c2), fun c2 => ⟨fun c3 => ⟨rfl, (am_cV (((h.2 c1).2 c2).1 c3) fun s4 h4 => ⟨h4.1, h4.2⟩)⟩, fun c3 => (((h.2 c1).2 c2).2 c3)⟩⟩⟩⟩)

set_option maxRecDepth 20000 in
theorem v_M_makeTruths_63 (d : Nat) (p2 v3 v4 v5 v6 : Int) (z1 : Option am_V) (σ : am_S) (K : am_S → Prop) (hF : MF σ) (h :
  ((v3 ≤ 2 →
    am_Runs PP MLL d m_M_makeTruths 43 [some (qr (31, 12, 89)), z1, some (qi p2), some (qi v3), some (qi v4), some (qi (w32 (v5 + 1))), some (qi v6)] [] σ (kV K)) ∧
  (¬ (v3 ≤ 2) →
    (((sI σ 31 2) ≤ v6 →
      am_Runs PP MLL d m_M_makeTruths 43 [some (qr (31, 12, 89)), z1, some (qi p2), some (qi v3), some (qi v4), some (qi (w32 (v5 + 1))), some (qi v6)] [] σ (kV K)) ∧
    (¬ ((sI σ 31 2) ≤ v6) →
      am_Calls PP MLL d m_M_addTruths [qr (31, 12, 89), qi 3, qi v4, qi v5, qi v6] σ (kV fun s3 =>
        MF s3 ∧
        am_Runs PP MLL d m_M_makeTruths 63 [some (qr (31, 12, 89)), z1, some (qi p2), some (qi v3), some (qi v4), some (qi v5), some (qi (w32 (v6 + 1)))] [] s3 (kV K))))))) : am_Runs PP MLL d m_M_makeTruths 63 [some (qr (31, 12, 89)), z1, some (qi p2), some (qi v3), some (qi v4), some (qi v5), some (qi v6)] [] σ (kV K) := am_wEM_ok 200 hF (⟨fun c1 => (h.1 c1), fun c1 => ⟨rfl, ⟨fun c2 => ((h.2 c1).1 c2), fun c2 => ⟨rfl, (am_cV ((h.2 c1).2 c2) fun s3 h3 => ⟨h3.1, h3.2⟩)⟩⟩⟩⟩)

set_option maxRecDepth 20000 in
theorem v_M_coins_0 (d : Nat) (p1 p2 p3 p4 : Int) (σ : am_S) (K : Int → am_S → Prop) (hF : MF σ) (h :
  am_Calls PP MLL d m_M_in [qi p1, qi 1, qi 40] σ (kI fun x1 s1 =>
    MF s1 ∧
    ((x1 = 0 →
      K (-1001) s1) ∧
    (¬ (x1 = 0) →
      am_Calls PP MLL d m_M_in [qi p2, qi 0, qi 3] s1 (kI fun x3 s3 =>
        MF s3 ∧
        ((x3 = 0 →
          K (-1001) s3) ∧
        (¬ (x3 = 0) →
          am_Calls PP MLL d m_M_in [qi p3, qi 0, qi 3] s3 (kI fun x5 s5 =>
            MF s5 ∧
            ((x5 = 0 →
              K (-1001) s5) ∧
            (¬ (x5 = 0) →
              ((p1 < p3 →
                K (-1001) s5) ∧
              (¬ (p1 < p3) →
                ((p3 < p2 →
                  K (-1001) s5) ∧
                (¬ (p3 < p2) →
                  am_Calls PP MLL d m_M_in [qi p4, qi 1, qi 3] s5 (kI fun x9 s9 =>
                    MF s9 ∧
                    ((x9 = 0 →
                      K (-1001) s9) ∧
                    (¬ (x9 = 0) →
                      am_Runs PP MLL d m_M_coins 32 [some (qr (31, 12, 89)), some (qi p1), some (qi p2), some (qi p3), some (qi p4), some (qi 0), some (qi p2)] [] s9 (kI K)))))))))))))))))) : am_Runs PP MLL d m_M_coins 0 [some (qr (31, 12, 89)), some (qi p1), some (qi p2), some (qi p3), some (qi p4), none, none] [] σ (kI K) := am_wEM_ok 200 hF ((am_cI h fun x1 s1 h1 => ⟨h1.1, ⟨fun c2 => (h1.2.1 c2), fun c2 => (am_cI (h1.2.2 c2) fun x3 s3 h3 => ⟨h3.1, ⟨fun c4 => (h3.2.1 c4), fun c4 => (am_cI (h3.2.2 c4) fun x5 s5 h5 => ⟨h5.1, ⟨fun c6 => (h5.2.1 c6), fun c6 => ⟨fun c7 => ((h5.2.2 c6).1 c7), fun c7 => ⟨fun c8 => (((h5.2.2 c6).2 c7).1 c8), fun c8 => (am_cI (((h5.2.2 c6).2 c7).2 c8) fun x9 s9 h9 => ⟨h9.1, ⟨fun c10 => (h9.2.1 c10), fun c10 => (h9.2.2 c10)⟩⟩)⟩⟩⟩⟩)⟩⟩)⟩⟩))

set_option maxRecDepth 20000 in
theorem v_M_coins_32 (d : Nat) (p1 p2 p3 p4 v5 v6 : Int) (σ : am_S) (K : Int → am_S → Prop) (hF : MF σ) (h :
  ((p3 < v6 →
    ((v5 ≤ 10000 →
      let s3 := putI σ 31 2 p1;
      let s4 := putI s3 31 3 p4;
      let s5 := putI s4 31 13 0;
      am_Calls PP MLL d m_M_makeTruths [qr (31, 12, 89), qi p2, qi p3] s5 (kV fun s6 =>
        MF s6 ∧
        am_Runs PP MLL d m_M_coins 67 [some (qr (31, 12, 89)), some (qi p1), some (qi p2), some (qi p3), some (qi p4), some (qi v5), some (qi 0)] [] s6 (kI K))) ∧
    (¬ (v5 ≤ 10000) →
      K (-1003) σ))) ∧
  (¬ (p3 < v6) →
    am_Calls PP MLL d m_M_choose [qi p1, qi v6] σ (kI fun x7 s7 =>
      MF s7 ∧
      am_Calls PP MLL d m_M_signsOf [qi v6, qi p4] s7 (kI fun x8 s8 =>
        MF s8 ∧
        am_Runs PP MLL d m_M_coins 32 [some (qr (31, 12, 89)), some (qi p1), some (qi p2), some (qi p3), some (qi p4), some (qi (w32 (v5 + (w32 (x7 * x8))))), some (qi (w32 (v6 + 1)))] [] s8 (kI K)))))) : am_Runs PP MLL d m_M_coins 32 [some (qr (31, 12, 89)), some (qi p1), some (qi p2), some (qi p3), some (qi p4), some (qi v5), some (qi v6)] [] σ (kI K) := am_wEM_ok 200 hF (⟨fun c1 => ⟨fun c2 => ⟨rfl, ⟨rfl, ⟨rfl, ⟨rfl, (am_cV ((h.1 c1).1 c2) fun s6 h6 => ⟨h6.1, h6.2⟩)⟩⟩⟩⟩, fun c2 => ((h.1 c1).2 c2)⟩, fun c1 => (am_cI (h.2 c1) fun x7 s7 h7 => ⟨h7.1, (am_cI h7.2 fun x8 s8 h8 => ⟨h8.1, h8.2⟩)⟩)⟩)

set_option maxRecDepth 20000 in
theorem v_M_coins_67 (d : Nat) (v6 : Int) (z1 z2 z3 z4 z5 : Option am_V) (σ : am_S) (K : Int → am_S → Prop) (hF : MF σ) (h :
  ((480 ≤ v6 →
    am_Runs PP MLL d m_M_coins 79 [some (qr (31, 12, 89)), z1, z2, z3, z4, (am_cl z5), some (qi 0)] [] σ (kI K)) ∧
  (¬ (480 ≤ v6) →
    (0 ≤ v6 ∧ v6 < ((480 : Nat) : Int)) ∧
    let s2 := putI σ 45 (Int.toNat v6) (-1);
    am_Runs PP MLL d m_M_coins 67 [some (qr (31, 12, 89)), z1, z2, z3, z4, (am_cl z5), some (qi (w32 (v6 + 1)))] [] s2 (kI K)))) : am_Runs PP MLL d m_M_coins 67 [some (qr (31, 12, 89)), z1, z2, z3, z4, z5, some (qi v6)] [] σ (kI K) := am_wEM_ok 200 hF (⟨fun c1 => (h.1 c1), fun c1 => ⟨rfl, ⟨⟨rfl, (h.2 c1).1.1, (h.2 c1).1.2⟩, (h.2 c1).2⟩⟩⟩)

set_option maxRecDepth 20000 in
theorem v_M_coins_79 (d : Nat) (v6 : Int) (z1 z2 z3 z4 z5 : Option am_V) (σ : am_S) (K : Int → am_S → Prop) (hF : MF σ) (h :
  ((6 ≤ v6 →
    let s2 := putI σ 31 83 0;
    am_Calls PP MLL d m_M_endSearch [qr (31, 12, 89)] s2 (kV fun s3 =>
      MF s3 ∧
      K (sI s3 31 5) s3)) ∧
  (¬ (6 ≤ v6) →
    (0 ≤ v6 ∧ v6 < ((6 : Nat) : Int)) ∧
    let s4 := putI σ 83 (Int.toNat v6) 0;
    let s5 := putI s4 84 (Int.toNat v6) 0;
    am_Runs PP MLL d m_M_coins 79 [some (qr (31, 12, 89)), z1, z2, z3, z4, (am_cl z5), some (qi (w32 (v6 + 1)))] [] s5 (kI K)))) : am_Runs PP MLL d m_M_coins 79 [some (qr (31, 12, 89)), z1, z2, z3, z4, z5, some (qi v6)] [] σ (kI K) := am_wEM_ok 200 hF (⟨fun c1 => ⟨⟨rfl, (Or.inl rfl)⟩, ⟨rfl, (am_cV (h.1 c1) fun s3 h3 => ⟨h3.1, ⟨rfl, h3.2⟩⟩)⟩⟩, fun c1 => ⟨rfl, ⟨⟨rfl, (h.2 c1).1.1, (h.2 c1).1.2⟩, ⟨rfl, ⟨⟨rfl, (h.2 c1).1.1, (h.2 c1).1.2⟩, (h.2 c1).2⟩⟩⟩⟩⟩)

set_option maxRecDepth 20000 in
theorem v_M_lies_0 (d : Nat) (p1 : Int) (σ : am_S) (K : Int → am_S → Prop) (hF : MF σ) (h :
  am_Calls PP MLL d m_M_in [qi p1, qi 0, qi 3] σ (kI fun x1 s1 =>
    MF s1 ∧
    ((x1 = 0 →
      K (-1001) s1) ∧
    (¬ (x1 = 0) →
      (((sI s1 31 13) ≤ 0 →
        let s4 := putI s1 31 4 p1;
        am_Calls PP MLL d m_M_endSearch [qr (31, 12, 89)] s4 (kV fun s5 =>
          MF s5 ∧
          K (sI s1 31 4) s5)) ∧
      (¬ ((sI s1 31 13) ≤ 0) →
        K (-1002) s1)))))) : am_Runs PP MLL d m_M_lies 0 [some (qr (31, 12, 89)), some (qi p1), none] [] σ (kI K) := am_wEM_ok 200 hF ((am_cI h fun x1 s1 h1 => ⟨h1.1, ⟨fun c2 => (h1.2.1 c2), fun c2 => ⟨rfl, ⟨fun c3 => ⟨rfl, ⟨rfl, ⟨rfl, (am_cV ((h1.2.2 c2).1 c3) fun s5 h5 => ⟨h5.1, h5.2⟩)⟩⟩⟩, fun c3 => ((h1.2.2 c2).2 c3)⟩⟩⟩⟩))

set_option maxRecDepth 20000 in
theorem v_M_isTruth_0 (d : Nat) (p1 : Int) (σ : am_S) (K : Int → am_S → Prop) (hF : MF σ) (h :
  am_Calls PP MLL d m_M_in [qi p1, qi 0, qi (w32 ((sI σ 31 5) - 1))] σ (kI fun x1 s1 =>
    MF s1 ∧
    (x1 = 0 ∨ x1 = 1) ∧
    K x1 s1)) : am_Runs PP MLL d m_M_isTruth 0 [some (qr (31, 12, 89)), some (qi p1)] [] σ (kI K) := am_wEM_ok 200 hF (⟨rfl, (am_cI h fun x1 s1 h1 => ⟨h1.1, ⟨h1.2.1, h1.2.2⟩⟩)⟩)

set_option maxRecDepth 20000 in
theorem v_M_isCoin_0 (d : Nat) (p1 : Int) (σ : am_S) (K : Int → am_S → Prop) (hF : MF σ) (h :
  am_Calls PP MLL d m_M_in [qi p1, qi 0, qi (w32 ((sI σ 31 2) - 1))] σ (kI fun x1 s1 =>
    MF s1 ∧
    (x1 = 0 ∨ x1 = 1) ∧
    K x1 s1)) : am_Runs PP MLL d m_M_isCoin 0 [some (qr (31, 12, 89)), some (qi p1)] [] σ (kI K) := am_wEM_ok 200 hF (⟨rfl, (am_cI h fun x1 s1 h1 => ⟨h1.1, ⟨h1.2.1, h1.2.2⟩⟩)⟩)

set_option maxRecDepth 20000 in
theorem v_M_truth_0 (d : Nat) (p1 p2 : Int) (σ : am_S) (K : Int → am_S → Prop) (hF : MF σ) (h :
  am_Calls PP MLL d m_M_isTruth [qr (31, 12, 89), qi p1] σ (kI fun x1 s1 =>
    MF s1 ∧
    ((x1 = 0 →
      K (-1001) s1) ∧
    (¬ (x1 = 0) →
      am_Calls PP MLL d m_M_isCoin [qr (31, 12, 89), qi p2] s1 (kI fun x3 s3 =>
        MF s3 ∧
        ((x3 = 0 →
          K (-1001) s3) ∧
        (¬ (x3 = 0) →
          am_Runs PP MLL d m_M_truth 14 [some (qr (31, 12, 89)), some (qi p1), some (qi p2), some (qi 0), some (qi 0)] [] s3 (kI K)))))))) : am_Runs PP MLL d m_M_truth 0 [some (qr (31, 12, 89)), some (qi p1), some (qi p2), none, none] [] σ (kI K) := am_wEM_ok 200 hF (⟨rfl, (am_cI h fun x1 s1 h1 => ⟨h1.1, ⟨fun c2 => (h1.2.1 c2), fun c2 => ⟨rfl, (am_cI (h1.2.2 c2) fun x3 s3 h3 => ⟨h3.1, ⟨fun c4 => (h3.2.1 c4), fun c4 => (h3.2.2 c4)⟩⟩)⟩⟩⟩)⟩)

set_option maxRecDepth 20000 in
theorem v_M_truth_14 (d : Nat) (p1 p2 v3 v4 : Int) (σ : am_S) (K : Int → am_S → Prop) (hF : MF σ) (h :
  (0 ≤ p1 ∧ p1 < ((10000 : Nat) : Int)) ∧
  (((sI σ 33 (Int.toNat p1)) ≤ v4 →
    K v3 σ) ∧
  (¬ ((sI σ 33 (Int.toNat p1)) ≤ v4) →
    (0 ≤ (w32 ((w32 (3 * p1)) + v4)) ∧ (w32 ((w32 (3 * p1)) + v4)) < ((30000 : Nat) : Int)) ∧
    (((sI σ 34 (Int.toNat (w32 ((w32 (3 * p1)) + v4)))) = p2 →
      am_Runs PP MLL d m_M_truth 14 [some (qr (31, 12, 89)), some (qi p1), some (qi p2), some (qi (sI σ 35 (Int.toNat (w32 ((w32 (3 * p1)) + v4))))), some (qi (w32 (v4 + 1)))] [] σ (kI K)) ∧
    (¬ ((sI σ 34 (Int.toNat (w32 ((w32 (3 * p1)) + v4)))) = p2) →
      am_Runs PP MLL d m_M_truth 14 [some (qr (31, 12, 89)), some (qi p1), some (qi p2), some (qi v3), some (qi (w32 (v4 + 1)))] [] σ (kI K)))))) : am_Runs PP MLL d m_M_truth 14 [some (qr (31, 12, 89)), some (qi p1), some (qi p2), some (qi v3), some (qi v4)] [] σ (kI K) := am_wEM_ok 200 hF (⟨rfl, ⟨⟨rfl, h.1.1, h.1.2⟩, ⟨fun c1 => (h.2.1 c1), fun c1 => ⟨rfl, ⟨⟨rfl, (h.2.2 c1).1.1, (h.2.2 c1).1.2⟩, ⟨fun c2 => ⟨rfl, ⟨⟨rfl, (h.2.2 c1).1.1, (h.2.2 c1).1.2⟩, ((h.2.2 c1).2.1 c2)⟩⟩, fun c2 => ((h.2.2 c1).2.2 c2)⟩⟩⟩⟩⟩⟩)

set_option maxRecDepth 20000 in
theorem v_M_isLeft_0 (d : Nat) (p1 : Int) (σ : am_S) (K : Int → am_S → Prop) (hF : MF σ) (h :
  (0 ≤ p1 ∧ p1 < ((10000 : Nat) : Int)) ∧
  ((0 ≤ (sI σ 37 (Int.toNat p1)) →
    K 0 σ) ∧
  (¬ (0 ≤ (sI σ 37 (Int.toNat p1))) →
    K 1 σ))) : am_Runs PP MLL d m_M_isLeft 0 [some (qr (31, 12, 89)), some (qi p1)] [] σ (kI K) := am_wEM_ok 200 hF (⟨rfl, ⟨⟨rfl, h.1.1, h.1.2⟩, ⟨fun c1 => ⟨(Or.inl rfl), (h.2.1 c1)⟩, fun c1 => ⟨(Or.inr rfl), (h.2.2 c1)⟩⟩⟩⟩)

set_option maxRecDepth 20000 in
theorem v_M_lied_0 (d : Nat) (p1 : Int) (σ : am_S) (K : Int → am_S → Prop) (hF : MF σ) (h :
  am_Calls PP MLL d m_M_isTruth [qr (31, 12, 89), qi p1] σ (kI fun x1 s1 =>
    MF s1 ∧
    ((x1 = 0 →
      K (-1001) s1) ∧
    (¬ (x1 = 0) →
      am_Calls PP MLL d m_M_isLeft [qr (31, 12, 89), qi p1] s1 (kI fun x3 s3 =>
        MF s3 ∧
        ((x3 = 0 →
          K (-1000) s3) ∧
        (¬ (x3 = 0) →
          (0 ≤ p1 ∧ p1 < ((10000 : Nat) : Int)) ∧
          K (sI s3 36 (Int.toNat p1)) s3))))))) : am_Runs PP MLL d m_M_lied 0 [some (qr (31, 12, 89)), some (qi p1)] [] σ (kI K) := am_wEM_ok 200 hF (⟨rfl, (am_cI h fun x1 s1 h1 => ⟨h1.1, ⟨fun c2 => (h1.2.1 c2), fun c2 => ⟨rfl, (am_cI (h1.2.2 c2) fun x3 s3 h3 => ⟨h3.1, ⟨fun c4 => (h3.2.1 c4), fun c4 => ⟨rfl, ⟨⟨rfl, (h3.2.2 c4).1.1, (h3.2.2 c4).1.2⟩, (h3.2.2 c4).2⟩⟩⟩⟩)⟩⟩⟩)⟩)

set_option maxRecDepth 20000 in
theorem v_M_left_0 (d : Nat) (σ : am_S) (K : Int → am_S → Prop) (hF : MF σ) (h :
  am_Runs PP MLL d m_M_left 4 [some (qr (31, 12, 89)), some (qi 0), some (qi 0)] [] σ (kI K)) : am_Runs PP MLL d m_M_left 0 [some (qr (31, 12, 89)), none, none] [] σ (kI K) := am_wEM_ok 200 hF (h)

set_option maxRecDepth 20000 in
theorem v_M_left_4 (d : Nat) (v1 v2 : Int) (σ : am_S) (K : Int → am_S → Prop) (hF : MF σ) (h :
  (((sI σ 31 5) ≤ v2 →
    K v1 σ) ∧
  (¬ ((sI σ 31 5) ≤ v2) →
    am_Calls PP MLL d m_M_isLeft [qr (31, 12, 89), qi v2] σ (kI fun x2 s2 =>
      MF s2 ∧
      ((x2 = 0 →
        am_Runs PP MLL d m_M_left 4 [some (qr (31, 12, 89)), some (qi (w32 (v1 + 0))), some (qi (w32 (v2 + 1)))] [] s2 (kI K)) ∧
      (¬ (x2 = 0) →
        am_Runs PP MLL d m_M_left 4 [some (qr (31, 12, 89)), some (qi (w32 (v1 + 1))), some (qi (w32 (v2 + 1)))] [] s2 (kI K))))))) : am_Runs PP MLL d m_M_left 4 [some (qr (31, 12, 89)), some (qi v1), some (qi v2)] [] σ (kI K) := am_wEM_ok 200 hF (⟨rfl, ⟨fun c1 => (h.1 c1), fun c1 => ⟨rfl, (am_cI (h.2 c1) fun x2 s2 h2 => ⟨h2.1, ⟨fun c3 => (h2.2.1 c3), fun c3 => (h2.2.2 c3)⟩⟩)⟩⟩⟩)

set_option maxRecDepth 20000 in
theorem v_M_swapRanked_0 (d : Nat) (p1 p2 : Int) (σ : am_S) (K : am_S → Prop) (hF : MF σ) (h :
  (0 ≤ p1 ∧ p1 < ((3 : Nat) : Int)) ∧
  (0 ≤ p2 ∧ p2 < ((3 : Nat) : Int)) ∧
  (((sI σ 39 (Int.toNat p1)) ≤ (sI σ 39 (Int.toNat p2)) →
    K σ) ∧
  (¬ ((sI σ 39 (Int.toNat p1)) ≤ (sI σ 39 (Int.toNat p2))) →
    let s2 := putI σ 39 (Int.toNat p1) (sI σ 39 (Int.toNat p2));
    let s3 := putI s2 39 (Int.toNat p2) (sI σ 39 (Int.toNat p1));
    let s4 := putI s3 40 (Int.toNat p1) (sI s3 40 (Int.toNat p2));
    let s5 := putI s4 40 (Int.toNat p2) (sI s3 40 (Int.toNat p1));
    K s5))) : am_Runs PP MLL d m_M_swapRanked 0 [some (qr (31, 12, 89)), some (qi p1), some (qi p2), none, none] [] σ (kV K) := am_wEM_ok 200 hF (⟨rfl, ⟨⟨rfl, h.1.1, h.1.2⟩, ⟨rfl, ⟨⟨rfl, h.2.1.1, h.2.1.2⟩, ⟨fun c1 => (h.2.2.1 c1), fun c1 => ⟨rfl, ⟨⟨rfl, h.1.1, h.1.2⟩, ⟨rfl, ⟨rfl, ⟨⟨rfl, h.2.1.1, h.2.1.2⟩, ⟨⟨rfl, h.1.1, h.1.2⟩, ⟨rfl, ⟨⟨rfl, h.2.1.1, h.2.1.2⟩, ⟨rfl, ⟨⟨rfl, h.1.1, h.1.2⟩, ⟨rfl, ⟨rfl, ⟨⟨rfl, h.2.1.1, h.2.1.2⟩, ⟨⟨rfl, h.1.1, h.1.2⟩, ⟨rfl, ⟨⟨rfl, h.2.1.1, h.2.1.2⟩, (h.2.2.2 c1)⟩⟩⟩⟩⟩⟩⟩⟩⟩⟩⟩⟩⟩⟩⟩⟩⟩⟩⟩⟩⟩)

set_option maxRecDepth 20000 in
theorem v_M_rankOf_0 (d : Nat) (p1 : Int) (σ : am_S) (K : Int → am_S → Prop) (hF : MF σ) (h :
  0 < ((3 : Nat) : Int) ∧
  1 < ((3 : Nat) : Int) ∧
  ((p1 = 1 →
    am_Runs PP MLL d m_M_rankOf 86 [some (qr (31, 12, 89)), some (qi p1), some (qi (sI σ 39 (Int.toNat 0))), some (qi (sI σ 39 (Int.toNat 0))), some (qi (sI σ 39 (Int.toNat 1))), some (qi 0), some (qi 0)] [] σ (kI K)) ∧
  (¬ (p1 = 1) →
    ((p1 ≤ 1 →
      am_Runs PP MLL d m_M_rankOf 86 [some (qr (31, 12, 89)), some (qi p1), some (qi 0), some (qi (sI σ 39 (Int.toNat 0))), some (qi (sI σ 39 (Int.toNat 1))), some (qi 0), some (qi 0)] [] σ (kI K)) ∧
    (¬ (p1 ≤ 1) →
      am_Runs PP MLL d m_M_rankOf 23 [some (qr (31, 12, 89)), some (qi p1), some (qi 0), some (qi (sI σ 39 (Int.toNat 0))), some (qi (sI σ 39 (Int.toNat 1))), some (qi 0), none] [] σ (kI K)))))) : am_Runs PP MLL d m_M_rankOf 0 [some (qr (31, 12, 89)), some (qi p1), none, none, none, none, none] [] σ (kI K) := am_wEM_ok 200 hF (⟨rfl, ⟨⟨rfl, (by decide : (0 : Int) ≤ 0), h.1⟩, ⟨rfl, ⟨⟨rfl, (by decide : (0 : Int) ≤ 1), h.2.1⟩, ⟨fun c1 => (h.2.2.1 c1), fun c1 => ⟨fun c2 => ((h.2.2.2 c1).1 c2), fun c2 => ((h.2.2.2 c1).2 c2)⟩⟩⟩⟩⟩⟩)

set_option maxRecDepth 20000 in
theorem v_M_rankOf_23 (d : Nat) (p1 v2 v3 v4 v5 : Int) (z6 : Option am_V) (σ : am_S) (K : Int → am_S → Prop) (hF : MF σ) (h :
  ((v3 ≤ v5 →
    am_Runs PP MLL d m_M_rankOf 45 [some (qr (31, 12, 89)), some (qi p1), some (qi v2), some (qi v3), some (qi v4), some (qi (w32 (v3 + 1))), z6] [] σ (kI K)) ∧
  (¬ (v3 ≤ v5) →
    am_Calls PP MLL d m_M_choose [qi (w32 ((w32 ((sI σ 31 2) - 1)) - v5)), qi (w32 (p1 - 1))] σ (kI fun x2 s2 =>
      MF s2 ∧
      am_Runs PP MLL d m_M_rankOf 23 [some (qr (31, 12, 89)), some (qi p1), some (qi (w32 (v2 + x2))), some (qi v3), some (qi v4), some (qi (w32 (v5 + 1))), z6] [] s2 (kI K))))) : am_Runs PP MLL d m_M_rankOf 23 [some (qr (31, 12, 89)), some (qi p1), some (qi v2), some (qi v3), some (qi v4), some (qi v5), z6] [] σ (kI K) := am_wEM_ok 200 hF (⟨fun c1 => (h.1 c1), fun c1 => ⟨rfl, (am_cI (h.2 c1) fun x2 s2 h2 => ⟨h2.1, h2.2⟩)⟩⟩)

set_option maxRecDepth 20000 in
theorem v_M_rankOf_45 (d : Nat) (p1 v2 v3 v4 v5 : Int) (z6 : Option am_V) (σ : am_S) (K : Int → am_S → Prop) (hF : MF σ) (h :
  ((v4 ≤ v5 →
    ((p1 = 2 →
      am_Runs PP MLL d m_M_rankOf 86 [some (qr (31, 12, 89)), some (qi p1), some (qi (w32 (v2 + (w32 ((w32 (v4 - v3)) - 1))))), some (qi v3), some (qi v4), some (qi 0), some (qi 0)] [] σ (kI K)) ∧
    (¬ (p1 = 2) →
      2 < ((3 : Nat) : Int) ∧
      am_Runs PP MLL d m_M_rankOf 86 [some (qr (31, 12, 89)), some (qi p1), some (qi (w32 (v2 + (w32 ((w32 ((sI σ 39 (Int.toNat 2)) - v4)) - 1))))), some (qi v3), some (qi v4), some (qi 0), some (qi 0)] [] σ (kI K)))) ∧
  (¬ (v4 ≤ v5) →
    ((p1 = 3 →
      am_Runs PP MLL d m_M_rankOf 45 [some (qr (31, 12, 89)), some (qi p1), some (qi (w32 (v2 + (w32 ((w32 ((sI σ 31 2) - 1)) - v5))))), some (qi v3), some (qi v4), some (qi (w32 (v5 + 1))), z6] [] σ (kI K)) ∧
    (¬ (p1 = 3) →
      ((p1 = 2 →
        am_Runs PP MLL d m_M_rankOf 86 [some (qr (31, 12, 89)), some (qi p1), some (qi (w32 (v2 + (w32 ((w32 (v4 - v3)) - 1))))), some (qi v3), some (qi v4), some (qi 0), some (qi 0)] [] σ (kI K)) ∧
      (¬ (p1 = 2) →
        2 < ((3 : Nat) : Int) ∧
        am_Runs PP MLL d m_M_rankOf 86 [some (qr (31, 12, 89)), some (qi p1), some (qi (w32 (v2 + (w32 ((w32 ((sI σ 39 (Int.toNat 2)) - v4)) - 1))))), some (qi v3), some (qi v4), some (qi 0), some (qi 0)] [] σ (kI K)))))))) : am_Runs PP MLL d m_M_rankOf 45 [some (qr (31, 12, 89)), some (qi p1), some (qi v2), some (qi v3), some (qi v4), some (qi v5), z6] [] σ (kI K) := am_wEM_ok 200 hF (⟨fun c1 => ⟨fun c2 => ((h.1 c1).1 c2), fun c2 => ⟨rfl, ⟨⟨rfl, (by decide : (0 : Int) ≤ 2), ((h.1 c1).2 c2).1⟩, ((h.1 c1).2 c2).2⟩⟩⟩, fun c1 => ⟨fun c3 => ⟨rfl, ((h.2 c1).1 c3)⟩, fun c3 => ⟨fun c4 => (((h.2 c1).2 c3).1 c4), fun c4 => ⟨rfl, ⟨⟨rfl, (by decide : (0 : Int) ≤ 2), (((h.2 c1).2 c3).2 c4).1⟩, (((h.2 c1).2 c3).2 c4).2⟩⟩⟩⟩⟩)

set_option maxRecDepth 20000 in
theorem v_M_rankOf_86 (d : Nat) (p1 v2 v5 v6 : Int) (z3 z4 : Option am_V) (σ : am_S) (K : Int → am_S → Prop) (hF : MF σ) (h :
  ((p1 ≤ v6 →
    (0 ≤ p1 ∧ p1 < ((4 : Nat) : Int)) ∧
    am_Calls PP MLL d m_M_signsOf [qi p1, qi (sI σ 31 3)] σ (kI fun x2 s2 =>
      MF s2 ∧
      K (w32 ((w32 ((sI σ 32 (Int.toNat p1)) + (w32 (v2 * x2)))) + v5)) s2)) ∧
  (¬ (p1 ≤ v6) →
    (((sI σ 31 3) = 3 →
      (0 ≤ v6 ∧ v6 < ((3 : Nat) : Int)) ∧
      ((0 ≤ (sI σ 40 (Int.toNat v6)) →
        am_Runs PP MLL d m_M_rankOf 86 [some (qr (31, 12, 89)), some (qi p1), some (qi v2), z3, (am_cl z4), some (qi (w32 ((w32 (2 * v5)) + 0))), some (qi (w32 (v6 + 1)))] [] σ (kI K)) ∧
      (¬ (0 ≤ (sI σ 40 (Int.toNat v6))) →
        am_Runs PP MLL d m_M_rankOf 86 [some (qr (31, 12, 89)), some (qi p1), some (qi v2), z3, (am_cl z4), some (qi (w32 ((w32 (2 * v5)) + 1))), some (qi (w32 (v6 + 1)))] [] σ (kI K)))) ∧
    (¬ ((sI σ 31 3) = 3) →
      (0 ≤ p1 ∧ p1 < ((4 : Nat) : Int)) ∧
      am_Calls PP MLL d m_M_signsOf [qi p1, qi (sI σ 31 3)] σ (kI fun x5 s5 =>
        MF s5 ∧
        K (w32 ((w32 ((sI σ 32 (Int.toNat p1)) + (w32 (v2 * x5)))) + v5)) s5)))))) : am_Runs PP MLL d m_M_rankOf 86 [some (qr (31, 12, 89)), some (qi p1), some (qi v2), z3, z4, some (qi v5), some (qi v6)] [] σ (kI K) := am_wEM_ok 200 hF (⟨fun c1 => ⟨rfl, ⟨⟨rfl, (h.1 c1).1.1, (h.1 c1).1.2⟩, ⟨rfl, (am_cI (h.1 c1).2 fun x2 s2 h2 => ⟨h2.1, h2.2⟩)⟩⟩⟩, fun c1 => ⟨rfl, ⟨fun c3 => ⟨rfl, ⟨⟨rfl, ((h.2 c1).1 c3).1.1, ((h.2 c1).1 c3).1.2⟩, ⟨fun c4 => (((h.2 c1).1 c3).2.1 c4), fun c4 => (((h.2 c1).1 c3).2.2 c4)⟩⟩⟩, fun c3 => ⟨rfl, ⟨⟨rfl, ((h.2 c1).2 c3).1.1, ((h.2 c1).2 c3).1.2⟩, ⟨rfl, (am_cI ((h.2 c1).2 c3).2 fun x5 s5 h5 => ⟨h5.1, h5.2⟩)⟩⟩⟩⟩⟩⟩)

set_option maxRecDepth 20000 in
theorem v_M_exchanged_0 (d : Nat) (p1 p2 p3 : Int) (σ : am_S) (K : Int → am_S → Prop) (hF : MF σ) (h :
  (0 ≤ p1 ∧ p1 < ((10000 : Nat) : Int)) ∧
  am_Runs PP MLL d m_M_exchanged 7 [some (qr (31, 12, 89)), some (qi p1), some (qi p2), some (qi p3), some (qi (sI σ 33 (Int.toNat p1))), some (qi 0), none] [] σ (kI K)) : am_Runs PP MLL d m_M_exchanged 0 [some (qr (31, 12, 89)), some (qi p1), some (qi p2), some (qi p3), none, none, none] [] σ (kI K) := am_wEM_ok 200 hF (⟨rfl, ⟨⟨rfl, h.1.1, h.1.2⟩, h.2⟩⟩)

set_option maxRecDepth 20000 in
theorem v_M_exchanged_7 (d : Nat) (p1 p2 p3 v4 v5 : Int) (z6 : Option am_V) (σ : am_S) (K : Int → am_S → Prop) (hF : MF σ) (h :
  ((v4 ≤ v5 →
    ((v4 ≤ 1 →
      ((v4 ≤ 2 →
        ((v4 = 0 →
          K p1 σ) ∧
        (¬ (v4 = 0) →
          am_Calls PP MLL d m_M_rankOf [qr (31, 12, 89), qi v4] σ (kI fun x5 s5 =>
            MF s5 ∧
            K x5 s5)))) ∧
      (¬ (v4 ≤ 2) →
        am_Calls PP MLL d m_M_swapRanked [qr (31, 12, 89), qi 1, qi 2] σ (kV fun s6 =>
          MF s6 ∧
          am_Calls PP MLL d m_M_swapRanked [qr (31, 12, 89), qi 0, qi 1] s6 (kV fun s7 =>
            MF s7 ∧
            ((v4 = 0 →
              K p1 s7) ∧
            (¬ (v4 = 0) →
              am_Calls PP MLL d m_M_rankOf [qr (31, 12, 89), qi v4] s7 (kI fun x9 s9 =>
                MF s9 ∧
                K x9 s9)))))))) ∧
    (¬ (v4 ≤ 1) →
      am_Calls PP MLL d m_M_swapRanked [qr (31, 12, 89), qi 0, qi 1] σ (kV fun s10 =>
        MF s10 ∧
        ((v4 ≤ 2 →
          ((v4 = 0 →
            K p1 s10) ∧
          (¬ (v4 = 0) →
            am_Calls PP MLL d m_M_rankOf [qr (31, 12, 89), qi v4] s10 (kI fun x13 s13 =>
              MF s13 ∧
              K x13 s13)))) ∧
        (¬ (v4 ≤ 2) →
          am_Calls PP MLL d m_M_swapRanked [qr (31, 12, 89), qi 1, qi 2] s10 (kV fun s14 =>
            MF s14 ∧
            am_Calls PP MLL d m_M_swapRanked [qr (31, 12, 89), qi 0, qi 1] s14 (kV fun s15 =>
              MF s15 ∧
              ((v4 = 0 →
                K p1 s15) ∧
              (¬ (v4 = 0) →
                am_Calls PP MLL d m_M_rankOf [qr (31, 12, 89), qi v4] s15 (kI fun x17 s17 =>
                  MF s17 ∧
                  K x17 s17))))))))))) ∧
  (¬ (v4 ≤ v5) →
    (0 ≤ (w32 ((w32 (3 * p1)) + v5)) ∧ (w32 ((w32 (3 * p1)) + v5)) < ((30000 : Nat) : Int)) ∧
    (((sI σ 34 (Int.toNat (w32 ((w32 (3 * p1)) + v5)))) = p2 →
      (0 ≤ v5 ∧ v5 < ((3 : Nat) : Int)) ∧
      let s19 := putI σ 39 (Int.toNat v5) p3;
      let s20 := putI s19 40 (Int.toNat v5) (sI s19 35 (Int.toNat (w32 ((w32 (3 * p1)) + v5))));
      am_Runs PP MLL d m_M_exchanged 7 [some (qr (31, 12, 89)), some (qi p1), some (qi p2), some (qi p3), some (qi v4), some (qi (w32 (v5 + 1))), some (qi (sI σ 34 (Int.toNat (w32 ((w32 (3 * p1)) + v5)))))] [] s20 (kI K)) ∧
    (¬ ((sI σ 34 (Int.toNat (w32 ((w32 (3 * p1)) + v5)))) = p2) →
      (((sI σ 34 (Int.toNat (w32 ((w32 (3 * p1)) + v5)))) = p3 →
        (0 ≤ v5 ∧ v5 < ((3 : Nat) : Int)) ∧
        let s22 := putI σ 39 (Int.toNat v5) p2;
        let s23 := putI s22 40 (Int.toNat v5) (sI s22 35 (Int.toNat (w32 ((w32 (3 * p1)) + v5))));
        am_Runs PP MLL d m_M_exchanged 7 [some (qr (31, 12, 89)), some (qi p1), some (qi p2), some (qi p3), some (qi v4), some (qi (w32 (v5 + 1))), some (qi (sI σ 34 (Int.toNat (w32 ((w32 (3 * p1)) + v5)))))] [] s23 (kI K)) ∧
      (¬ ((sI σ 34 (Int.toNat (w32 ((w32 (3 * p1)) + v5)))) = p3) →
        (0 ≤ v5 ∧ v5 < ((3 : Nat) : Int)) ∧
        let s24 := putI σ 39 (Int.toNat v5) (sI σ 34 (Int.toNat (w32 ((w32 (3 * p1)) + v5))));
        let s25 := putI s24 40 (Int.toNat v5) (sI s24 35 (Int.toNat (w32 ((w32 (3 * p1)) + v5))));
        am_Runs PP MLL d m_M_exchanged 7 [some (qr (31, 12, 89)), some (qi p1), some (qi p2), some (qi p3), some (qi v4), some (qi (w32 (v5 + 1))), some (qi (sI σ 34 (Int.toNat (w32 ((w32 (3 * p1)) + v5)))))] [] s25 (kI K)))))))) : am_Runs PP MLL d m_M_exchanged 7 [some (qr (31, 12, 89)), some (qi p1), some (qi p2), some (qi p3), some (qi v4), some (qi v5), z6] [] σ (kI K) := am_wEM_ok 200 hF (⟨fun c1 => ⟨fun c2 => ⟨fun c3 => ⟨fun c4 => ((((h.1 c1).1 c2).1 c3).1 c4), fun c4 => ⟨rfl, (am_cI ((((h.1 c1).1 c2).1 c3).2 c4) fun x5 s5 h5 => ⟨h5.1, h5.2⟩)⟩⟩, fun c3 => ⟨rfl, (am_cV (((h.1 c1).1 c2).2 c3) fun s6 h6 => ⟨h6.1, ⟨rfl, (am_cV h6.2 fun s7 h7 => ⟨h7.1, ⟨fun c8 => (h7.2.1 c8), fun c8 => ⟨rfl, (am_cI (h7.2.2 c8) fun x9 s9 h9 => ⟨h9.1, h9.2⟩)⟩⟩⟩)⟩⟩)⟩⟩, fun c2 => ⟨rfl, (am_cV ((h.1 c1).2 c2) fun s10 h10 => ⟨h10.1, ⟨fun c11 => ⟨fun c12 => ((h10.2.1 c11).1 c12), fun c12 => ⟨rfl, (am_cI ((h10.2.1 c11).2 c12) fun x13 s13 h13 => ⟨h13.1, h13.2⟩)⟩⟩, fun c11 => ⟨rfl, (am_cV (h10.2.2 c11) fun s14 h14 => ⟨h14.1, ⟨rfl, (am_cV h14.2 fun s15 h15 => ⟨h15.1, ⟨fun c16 => (h15.2.1 c16), fun c16 => ⟨rfl, (am_cI (h15.2.2 c16) fun x17 s17 h17 => ⟨h17.1, h17.2⟩)⟩⟩⟩)⟩⟩)⟩⟩⟩)⟩⟩, fun c1 => ⟨rfl, ⟨⟨rfl, (h.2 c1).1.1, (h.2 c1).1.2⟩, ⟨rfl, ⟨fun c18 => ⟨⟨rfl, ((h.2 c1).2.1 c18).1.1, ((h.2 c1).2.1 c18).1.2⟩, ⟨rfl, ⟨rfl, ⟨⟨rfl, (h.2 c1).1.1, (h.2 c1).1.2⟩, ⟨⟨rfl, ((h.2 c1).2.1 c18).1.1, ((h.2 c1).2.1 c18).1.2⟩, ((h.2 c1).2.1 c18).2⟩⟩⟩⟩⟩, fun c18 => ⟨fun c21 => ⟨⟨rfl, (((h.2 c1).2.2 c18).1 c21).1.1, (((h.2 c1).2.2 c18).1 c21).1.2⟩, ⟨rfl, ⟨rfl, ⟨⟨rfl, (h.2 c1).1.1, (h.2 c1).1.2⟩, ⟨⟨rfl, (((h.2 c1).2.2 c18).1 c21).1.1, (((h.2 c1).2.2 c18).1 c21).1.2⟩, (((h.2 c1).2.2 c18).1 c21).2⟩⟩⟩⟩⟩, fun c21 => ⟨⟨rfl, (((h.2 c1).2.2 c18).2 c21).1.1, (((h.2 c1).2.2 c18).2 c21).1.2⟩, ⟨rfl, ⟨rfl, ⟨⟨rfl, (h.2 c1).1.1, (h.2 c1).1.2⟩, ⟨⟨rfl, (((h.2 c1).2.2 c18).2 c21).1.1, (((h.2 c1).2.2 c18).2 c21).1.2⟩, (((h.2 c1).2.2 c18).2 c21).2⟩⟩⟩⟩⟩⟩⟩⟩⟩⟩⟩)

set_option maxRecDepth 20000 in
theorem v_M_alike_0 (d : Nat) (p1 p2 : Int) (σ : am_S) (K : Int → am_S → Prop) (hF : MF σ) (h :
  am_Calls PP MLL d m_M_isCoin [qr (31, 12, 89), qi p1] σ (kI fun x1 s1 =>
    MF s1 ∧
    ((x1 = 0 →
      K (-1001) s1) ∧
    (¬ (x1 = 0) →
      am_Calls PP MLL d m_M_isCoin [qr (31, 12, 89), qi p2] s1 (kI fun x3 s3 =>
        MF s3 ∧
        ((x3 = 0 →
          K (-1001) s3) ∧
        (¬ (x3 = 0) →
          am_Runs PP MLL d m_M_alike 14 [some (qr (31, 12, 89)), some (qi p1), some (qi p2), some (qi 1), some (qi 0), none] [] s3 (kI K)))))))) : am_Runs PP MLL d m_M_alike 0 [some (qr (31, 12, 89)), some (qi p1), some (qi p2), none, none, none] [] σ (kI K) := am_wEM_ok 200 hF (⟨rfl, (am_cI h fun x1 s1 h1 => ⟨h1.1, ⟨fun c2 => (h1.2.1 c2), fun c2 => ⟨rfl, (am_cI (h1.2.2 c2) fun x3 s3 h3 => ⟨h3.1, ⟨fun c4 => (h3.2.1 c4), fun c4 => (h3.2.2 c4)⟩⟩)⟩⟩⟩)⟩)

set_option maxRecDepth 20000 in
theorem v_M_alike_14 (d : Nat) (p1 p2 v3 v4 : Int) (z5 : Option am_V) (σ : am_S) (K : Int → am_S → Prop) (hF : MF σ) (h :
  (((sI σ 31 5) ≤ v4 →
    ((v3 = 0 →
      K 0 σ) ∧
    (¬ (v3 = 0) →
      K 1 σ))) ∧
  (¬ ((sI σ 31 5) ≤ v4) →
    ((v3 = 0 →
      ((v3 = 0 →
        K 0 σ) ∧
      (¬ (v3 = 0) →
        K 1 σ))) ∧
    (¬ (v3 = 0) →
      ((p1 = p2 →
        ((v3 = 0 →
          K 0 σ) ∧
        (¬ (v3 = 0) →
          K 1 σ))) ∧
      (¬ (p1 = p2) →
        am_Calls PP MLL d m_M_exchanged [qr (31, 12, 89), qi v4, qi p1, qi p2] σ (kI fun x7 s7 =>
          MF s7 ∧
          am_Calls PP MLL d m_M_isLeft [qr (31, 12, 89), qi v4] s7 (kI fun x8 s8 =>
            MF s8 ∧
            am_Calls PP MLL d m_M_isLeft [qr (31, 12, 89), qi x7] s8 (kI fun x9 s9 =>
              MF s9 ∧
              ((x8 = x9 →
                am_Calls PP MLL d m_M_isLeft [qr (31, 12, 89), qi v4] s9 (kI fun x11 s11 =>
                  MF s11 ∧
                  ((x11 = 0 →
                    am_Runs PP MLL d m_M_alike 14 [some (qr (31, 12, 89)), some (qi p1), some (qi p2), some (qi 1), some (qi (w32 (v4 + 1))), some (qi x7)] [] s11 (kI K)) ∧
                  (¬ (x11 = 0) →
                    (0 ≤ v4 ∧ v4 < ((10000 : Nat) : Int)) ∧
                    (0 ≤ x7 ∧ x7 < ((10000 : Nat) : Int)) ∧
                    (((sI s11 36 (Int.toNat v4)) = (sI s11 36 (Int.toNat x7)) →
                      am_Runs PP MLL d m_M_alike 14 [some (qr (31, 12, 89)), some (qi p1), some (qi p2), some (qi 1), some (qi (w32 (v4 + 1))), some (qi x7)] [] s11 (kI K)) ∧
                    (¬ ((sI s11 36 (Int.toNat v4)) = (sI s11 36 (Int.toNat x7))) →
                      am_Runs PP MLL d m_M_alike 14 [some (qr (31, 12, 89)), some (qi p1), some (qi p2), some (qi 0), some (qi (w32 (v4 + 1))), some (qi x7)] [] s11 (kI K))))))) ∧
              (¬ (x8 = x9) →
                am_Runs PP MLL d m_M_alike 14 [some (qr (31, 12, 89)), some (qi p1), some (qi p2), some (qi 0), some (qi (w32 (v4 + 1))), some (qi x7)] [] s9 (kI K))))))))))))) : am_Runs PP MLL d m_M_alike 14 [some (qr (31, 12, 89)), some (qi p1), some (qi p2), some (qi v3), some (qi v4), z5] [] σ (kI K) := am_wEM_ok 200 hF (⟨rfl, ⟨fun c1 => ⟨fun c2 => ((h.1 c1).1 c2), fun c2 => ((h.1 c1).2 c2)⟩, fun c1 => ⟨fun c3 => ⟨fun c4 => (((h.2 c1).1 c3).1 c4), fun c4 => (((h.2 c1).1 c3).2 c4)⟩, fun c3 => ⟨fun c5 => ⟨fun c6 => ((((h.2 c1).2 c3).1 c5).1 c6), fun c6 => ((((h.2 c1).2 c3).1 c5).2 c6)⟩, fun c5 => ⟨rfl, (am_cI (((h.2 c1).2 c3).2 c5) fun x7 s7 h7 => ⟨h7.1, ⟨rfl, (am_cI h7.2 fun x8 s8 h8 => ⟨h8.1, ⟨rfl, (am_cI h8.2 fun x9 s9 h9 => ⟨h9.1, ⟨fun c10 => ⟨rfl, (am_cI (h9.2.1 c10) fun x11 s11 h11 => ⟨h11.1, ⟨fun c12 => (h11.2.1 c12), fun c12 => ⟨rfl, ⟨⟨rfl, (h11.2.2 c12).1.1, (h11.2.2 c12).1.2⟩, ⟨rfl, ⟨⟨rfl, (h11.2.2 c12).2.1.1, (h11.2.2 c12).2.1.2⟩, ⟨fun c13 => ((h11.2.2 c12).2.2.1 c13), fun c13 => ((h11.2.2 c12).2.2.2 c13)⟩⟩⟩⟩⟩⟩⟩)⟩, fun c10 => (h9.2.2 c10)⟩⟩)⟩⟩)⟩⟩)⟩⟩⟩⟩⟩)

set_option maxRecDepth 20000 in
theorem v_M_isNumber_0 (d : Nat) (p1 : Int) (σ : am_S) (K : Int → am_S → Prop) (hF : MF σ) (h :
  am_Calls PP MLL d m_M_in [qi p1, qi 0, qi (w32 ((sI σ 31 16) - 1))] σ (kI fun x1 s1 =>
    MF s1 ∧
    (x1 = 0 ∨ x1 = 1) ∧
    K x1 s1)) : am_Runs PP MLL d m_M_isNumber 0 [some (qr (31, 12, 89)), some (qi p1)] [] σ (kI K) := am_wEM_ok 200 hF (⟨rfl, (am_cI h fun x1 s1 h1 => ⟨h1.1, ⟨h1.2.1, h1.2.2⟩⟩)⟩)

set_option maxRecDepth 20000 in
theorem v_M_isThere_0 (d : Nat) (p1 : Int) (σ : am_S) (K : Int → am_S → Prop) (hF : MF σ) (h :
  (0 ≤ p1 ∧ p1 < ((12 : Nat) : Int)) ∧
  (((sI σ 41 (Int.toNat p1)) < 0 →
    K 0 σ) ∧
  (¬ ((sI σ 41 (Int.toNat p1)) < 0) →
    K 1 σ))) : am_Runs PP MLL d m_M_isThere 0 [some (qr (31, 12, 89)), some (qi p1)] [] σ (kI K) := am_wEM_ok 200 hF (⟨rfl, ⟨⟨rfl, h.1.1, h.1.2⟩, ⟨fun c1 => ⟨(Or.inl rfl), (h.2.1 c1)⟩, fun c1 => ⟨(Or.inr rfl), (h.2.2 c1)⟩⟩⟩⟩)

set_option maxRecDepth 20000 in
theorem v_M_isSide_0 (d : Nat) (p0 : Int) (σ : am_S) (K : Int → am_S → Prop) (h :
  am_Calls PP MLL d m_M_in [qi p0, qi 0, qi 1] σ (kI fun x1 s1 =>
    (x1 = 0 ∨ x1 = 1) ∧
    K x1 s1)) : am_Runs PP MLL d m_M_isSide 0 [some (qi p0)] [] σ (kI K) := am_wE_ok 200 ((am_cI h fun x1 s1 h1 => ⟨h1.1, h1.2⟩))

set_option maxRecDepth 20000 in
theorem v_M_finds_0 (d : Nat) (p1 p2 : Int) (σ : am_S) (K : Int → am_S → Prop) (hF : MF σ) (h :
  let s1 := putI σ 31 0 p2;
  let s2 := putI s1 31 1 (w32 ((sI s1 31 1) + 1));
  am_Calls PP MLL d m_M_isThere [qr (31, 12, 89), qi p1] s2 (kI fun x3 s3 =>
    MF s3 ∧
    ((x3 = 0 →
      K (w32 ((-1010) - p2)) s3) ∧
    (¬ (x3 = 0) →
      (0 ≤ p1 ∧ p1 < ((12 : Nat) : Int)) ∧
      let s5 := putI s3 43 (Int.toNat p1) p2;
      K (w32 ((-1010) - p2)) s5)))) : am_Runs PP MLL d m_M_finds 0 [some (qr (31, 12, 89)), some (qi p1), some (qi p2)] [] σ (kI K) := am_wEM_ok 200 hF (⟨rfl, ⟨rfl, ⟨rfl, ⟨rfl, (am_cI h fun x3 s3 h3 => ⟨h3.1, ⟨fun c4 => (h3.2.1 c4), fun c4 => ⟨rfl, ⟨⟨rfl, (h3.2.2 c4).1.1, (h3.2.2 c4).1.2⟩, (h3.2.2 c4).2⟩⟩⟩⟩)⟩⟩⟩⟩)

set_option maxRecDepth 20000 in
theorem v_M_begins_0 (d : Nat) (p1 : Int) (σ : am_S) (K : am_S → Prop) (hF : MF σ) (h :
  (((sI σ 31 26) = 0 →
    K σ) ∧
  (¬ ((sI σ 31 26) = 0) →
    ((6 ≤ (sI σ 31 25) →
      K σ) ∧
    (¬ (6 ≤ (sI σ 31 25)) →
      (0 ≤ (sI σ 31 25) ∧ (sI σ 31 25) < ((40 : Nat) : Int)) ∧
      let s3 := putI σ 48 (Int.toNat (sI σ 31 25)) p1;
      let s4 := putI s3 31 25 (w32 ((sI s3 31 25) + 1));
      K s4))))) : am_Runs PP MLL d m_M_begins 0 [some (qr (31, 12, 89)), some (qi p1)] [] σ (kV K) := am_wEM_ok 200 hF (⟨rfl, ⟨fun c1 => (h.1 c1), fun c1 => ⟨rfl, ⟨fun c2 => ((h.2 c1).1 c2), fun c2 => ⟨rfl, ⟨rfl, ⟨⟨rfl, ((h.2 c1).2 c2).1.1, ((h.2 c1).2 c2).1.2⟩, ⟨rfl, ⟨rfl, ((h.2 c1).2 c2).2⟩⟩⟩⟩⟩⟩⟩⟩⟩)

set_option maxRecDepth 20000 in
theorem v_M_signOf_0 (d : Nat) (p0 : Int) (σ : am_S) (K : Int → am_S → Prop) (h :
  ((p0 ≤ 0 →
    ((0 ≤ p0 →
      K 0 σ) ∧
    (¬ (0 ≤ p0) →
      K (-1) σ))) ∧
  (¬ (p0 ≤ 0) →
    K 1 σ))) : am_Runs PP MLL d m_M_signOf 0 [some (qi p0)] [] σ (kI K) := am_wE_ok 200 (⟨fun c1 => ⟨fun c2 => ((h.1 c1).1 c2), fun c2 => ((h.1 c1).2 c2)⟩, fun c1 => (h.2 c1)⟩)

set_option maxRecDepth 20000 in
theorem v_M_tells_0 (d : Nat) (p1 p2 : Int) (σ : am_S) (K : Int → am_S → Prop) (hF : MF σ) (h :
  ((p1 = 1 →
    am_Calls PP MLL d m_M_begins [qr (31, 12, 89), qi 11] σ (kV fun s2 =>
      MF s2 ∧
      K p2 s2)) ∧
  (¬ (p1 = 1) →
  ((p1 = 2 →
    am_Calls PP MLL d m_M_begins [qr (31, 12, 89), qi 12] σ (kV fun s4 =>
      MF s4 ∧
      am_Calls PP MLL d m_M_begins [qr (31, 12, 89), qi 11] s4 (kV fun s5 =>
        MF s5 ∧
        K (w32 (Int.tdiv p2 2)) s5))) ∧
  (¬ (p1 = 2) →
  ((p1 = 3 →
    am_Calls PP MLL d m_M_begins [qr (31, 12, 89), qi 12] σ (kV fun s7 =>
      MF s7 ∧
      am_Calls PP MLL d m_M_begins [qr (31, 12, 89), qi 11] s7 (kV fun s8 =>
        MF s8 ∧
        K (w32 (Int.tdiv p2 2)) s8))) ∧
  (¬ (p1 = 3) →
  ((p1 = 4 →
    am_Calls PP MLL d m_M_begins [qr (31, 12, 89), qi 14] σ (kV fun s10 =>
      MF s10 ∧
      am_Calls PP MLL d m_M_in [qi p2, qi (-1), qi 1] s10 (kI fun x11 s11 =>
        MF s11 ∧
        ((x11 = 0 →
          am_Calls PP MLL d m_M_begins [qr (31, 12, 89), qi 10] s11 (kV fun s13 =>
            MF s13 ∧
            am_Calls PP MLL d m_M_signOf [qi p2] s13 (kI fun x14 s14 =>
              MF s14 ∧
              K x14 s14))) ∧
        (¬ (x11 = 0) →
          K 0 s11))))) ∧
  (¬ (p1 = 4) →
  am_Calls PP MLL d m_M_begins [qr (31, 12, 89), qi 10] σ (kV fun s15 =>
    MF s15 ∧
    am_Calls PP MLL d m_M_signOf [qi p2] s15 (kI fun x16 s16 =>
      MF s16 ∧
      K x16 s16))))))))))) : am_Runs PP MLL d m_M_tells 0 [some (qr (31, 12, 89)), some (qi p1), some (qi p2)] [] σ (kI K) := am_wEM_ok 200 hF (⟨fun c1 => ⟨rfl, (am_cV (h.1 c1) fun s2 h2 => ⟨h2.1, h2.2⟩)⟩, fun c1 => ⟨fun c3 => ⟨rfl, (am_cV ((h.2 c1).1 c3) fun s4 h4 => ⟨h4.1, ⟨rfl, (am_cV h4.2 fun s5 h5 => ⟨h5.1, ⟨(by decide : (2 : Int) ≠ 0), h5.2⟩⟩)⟩⟩)⟩, fun c3 => ⟨fun c6 => ⟨rfl, (am_cV (((h.2 c1).2 c3).1 c6) fun s7 h7 => ⟨h7.1, ⟨rfl, (am_cV h7.2 fun s8 h8 => ⟨h8.1, ⟨(by decide : (2 : Int) ≠ 0), h8.2⟩⟩)⟩⟩)⟩, fun c6 => ⟨fun c9 => ⟨rfl, (am_cV ((((h.2 c1).2 c3).2 c6).1 c9) fun s10 h10 => ⟨h10.1, (am_cI h10.2 fun x11 s11 h11 => ⟨h11.1, ⟨fun c12 => ⟨rfl, (am_cV (h11.2.1 c12) fun s13 h13 => ⟨h13.1, (am_cI h13.2 fun x14 s14 h14 => ⟨h14.1, h14.2⟩)⟩)⟩, fun c12 => (h11.2.2 c12)⟩⟩)⟩)⟩, fun c9 => ⟨rfl, (am_cV ((((h.2 c1).2 c3).2 c6).2 c9) fun s15 h15 => ⟨h15.1, (am_cI h15.2 fun x16 s16 h16 => ⟨h16.1, h16.2⟩)⟩)⟩⟩⟩⟩⟩)

set_option maxRecDepth 20000 in
theorem v_M_mostOf_0 (d : Nat) (p1 : Int) (σ : am_S) (K : Int → am_S → Prop) (hF : MF σ) (h :
  ((p1 = 1 →
    am_Calls PP MLL d m_M_begins [qr (31, 12, 89), qi 21] σ (kV fun s2 =>
      MF s2 ∧
      am_Calls PP MLL d m_M_begins [qr (31, 12, 89), qi 20] s2 (kV fun s3 =>
        MF s3 ∧
        K 3 s3))) ∧
  (¬ (p1 = 1) →
  ((p1 = 2 →
    am_Calls PP MLL d m_M_begins [qr (31, 12, 89), qi 22] σ (kV fun s5 =>
      MF s5 ∧
      am_Calls PP MLL d m_M_begins [qr (31, 12, 89), qi 21] s5 (kV fun s6 =>
        MF s6 ∧
        am_Calls PP MLL d m_M_begins [qr (31, 12, 89), qi 20] s6 (kV fun s7 =>
          MF s7 ∧
          K 1 s7)))) ∧
  (¬ (p1 = 2) →
  ((p1 = 3 →
    am_Calls PP MLL d m_M_begins [qr (31, 12, 89), qi 22] σ (kV fun s9 =>
      MF s9 ∧
      am_Calls PP MLL d m_M_begins [qr (31, 12, 89), qi 21] s9 (kV fun s10 =>
        MF s10 ∧
        am_Calls PP MLL d m_M_begins [qr (31, 12, 89), qi 20] s10 (kV fun s11 =>
          MF s11 ∧
          K 1 s11)))) ∧
  (¬ (p1 = 3) →
  am_Calls PP MLL d m_M_begins [qr (31, 12, 89), qi 20] σ (kV fun s12 =>
    MF s12 ∧
    K 1 s12)))))))) : am_Runs PP MLL d m_M_mostOf 0 [some (qr (31, 12, 89)), some (qi p1)] [] σ (kI K) := am_wEM_ok 200 hF (⟨fun c1 => ⟨rfl, (am_cV (h.1 c1) fun s2 h2 => ⟨h2.1, ⟨rfl, (am_cV h2.2 fun s3 h3 => ⟨h3.1, h3.2⟩)⟩⟩)⟩, fun c1 => ⟨fun c4 => ⟨rfl, (am_cV ((h.2 c1).1 c4) fun s5 h5 => ⟨h5.1, ⟨rfl, (am_cV h5.2 fun s6 h6 => ⟨h6.1, ⟨rfl, (am_cV h6.2 fun s7 h7 => ⟨h7.1, h7.2⟩)⟩⟩)⟩⟩)⟩, fun c4 => ⟨fun c8 => ⟨rfl, (am_cV (((h.2 c1).2 c4).1 c8) fun s9 h9 => ⟨h9.1, ⟨rfl, (am_cV h9.2 fun s10 h10 => ⟨h10.1, ⟨rfl, (am_cV h10.2 fun s11 h11 => ⟨h11.1, h11.2⟩)⟩⟩)⟩⟩)⟩, fun c8 => ⟨rfl, (am_cV (((h.2 c1).2 c4).2 c8) fun s12 h12 => ⟨h12.1, h12.2⟩)⟩⟩⟩⟩)

set_option maxRecDepth 20000 in
theorem v_M_costOf_0 (d : Nat) (p1 : Int) (σ : am_S) (K : Int → am_S → Prop) (hF : MF σ) (h :
  am_Runs PP MLL d m_M_costOf 4 [some (qr (31, 12, 89)), some (qi p1), some (qi 0), some (qi 0), none] [] σ (kI K)) : am_Runs PP MLL d m_M_costOf 0 [some (qr (31, 12, 89)), some (qi p1), none, none, none] [] σ (kI K) := am_wEM_ok 200 hF (h)

set_option maxRecDepth 20000 in
theorem v_M_costOf_4 (d : Nat) (p1 v2 v3 : Int) (z4 : Option am_V) (σ : am_S) (K : Int → am_S → Prop) (hF : MF σ) (h :
  ((2 ≤ v3 →
    (0 ≤ p1 ∧ p1 < ((12 : Nat) : Int)) ∧
    (((sI σ 41 (Int.toNat p1)) = 3 →
      am_Calls PP MLL d m_M_begins [qr (31, 12, 89), qi 33] σ (kV fun s3 =>
        MF s3 ∧
        am_Calls PP MLL d m_M_begins [qr (31, 12, 89), qi 30] s3 (kV fun s4 =>
          MF s4 ∧
          K (w32 ((w32 (3 * (w32 (1 + (w32 (Int.tdiv v2 2)))))) + (sI s3 42 (Int.toNat p1)))) s4))) ∧
    (¬ ((sI σ 41 (Int.toNat p1)) = 3) →
      (((sI σ 41 (Int.toNat p1)) = 5 →
        am_Calls PP MLL d m_M_begins [qr (31, 12, 89), qi 35] σ (kV fun s6 =>
          MF s6 ∧
          am_Calls PP MLL d m_M_begins [qr (31, 12, 89), qi 30] s6 (kV fun s7 =>
            MF s7 ∧
            K (w32 (Int.tdiv (w32 (1 + (w32 (Int.tdiv v2 2)))) 2)) s7))) ∧
      (¬ ((sI σ 41 (Int.toNat p1)) = 5) →
        am_Calls PP MLL d m_M_begins [qr (31, 12, 89), qi 30] σ (kV fun s8 =>
          MF s8 ∧
          K (w32 (1 + (w32 (Int.tdiv v2 2)))) s8)))))) ∧
  (¬ (2 ≤ v3) →
    am_Runs PP MLL d m_M_costOf 9 [some (qr (31, 12, 89)), some (qi p1), some (qi v2), some (qi v3), some (qi 0)] [] σ (kI K)))) : am_Runs PP MLL d m_M_costOf 4 [some (qr (31, 12, 89)), some (qi p1), some (qi v2), some (qi v3), z4] [] σ (kI K) := am_wEM_ok 200 hF (⟨fun c1 => ⟨(by decide : (2 : Int) ≠ 0), ⟨rfl, ⟨⟨rfl, (h.1 c1).1.1, (h.1 c1).1.2⟩, ⟨fun c2 => ⟨rfl, (am_cV ((h.1 c1).2.1 c2) fun s3 h3 => ⟨h3.1, ⟨rfl, ⟨⟨rfl, (h.1 c1).1.1, (h.1 c1).1.2⟩, ⟨rfl, (am_cV h3.2 fun s4 h4 => ⟨h4.1, h4.2⟩)⟩⟩⟩⟩)⟩, fun c2 => ⟨rfl, ⟨⟨rfl, (h.1 c1).1.1, (h.1 c1).1.2⟩, ⟨fun c5 => ⟨rfl, (am_cV (((h.1 c1).2.2 c2).1 c5) fun s6 h6 => ⟨h6.1, ⟨(by decide : (2 : Int) ≠ 0), ⟨rfl, (am_cV h6.2 fun s7 h7 => ⟨h7.1, h7.2⟩)⟩⟩⟩)⟩, fun c5 => ⟨rfl, (am_cV (((h.1 c1).2.2 c2).2 c5) fun s8 h8 => ⟨h8.1, h8.2⟩)⟩⟩⟩⟩⟩⟩⟩⟩, fun c1 => (h.2 c1)⟩)

set_option maxRecDepth 20000 in
theorem v_M_costOf_9 (d : Nat) (p1 v2 v3 v4 : Int) (σ : am_S) (K : Int → am_S → Prop) (hF : MF σ) (h :
  (0 ≤ (w32 ((w32 (2 * p1)) + v3)) ∧ (w32 ((w32 (2 * p1)) + v3)) < ((24 : Nat) : Int)) ∧
  (((sI σ 44 (Int.toNat (w32 ((w32 (2 * p1)) + v3)))) ≤ v4 →
    am_Runs PP MLL d m_M_costOf 4 [some (qr (31, 12, 89)), some (qi p1), some (qi v2), some (qi (w32 (v3 + 1))), some (qi v4)] [] σ (kI K)) ∧
  (¬ ((sI σ 44 (Int.toNat (w32 ((w32 (2 * p1)) + v3)))) ≤ v4) →
    (0 ≤ (w32 ((w32 (20 * (w32 ((w32 (2 * p1)) + v3)))) + v4)) ∧ (w32 ((w32 (20 * (w32 ((w32 (2 * p1)) + v3)))) + v4)) < ((480 : Nat) : Int)) ∧
    (((sI σ 45 (Int.toNat (w32 ((w32 (20 * (w32 ((w32 (2 * p1)) + v3)))) + v4)))) < 0 →
      am_Runs PP MLL d m_M_costOf 9 [some (qr (31, 12, 89)), some (qi p1), some (qi (w32 (v2 + 0))), some (qi v3), some (qi (w32 (v4 + 1)))] [] σ (kI K)) ∧
    (¬ ((sI σ 45 (Int.toNat (w32 ((w32 (20 * (w32 ((w32 (2 * p1)) + v3)))) + v4)))) < 0) →
      am_Runs PP MLL d m_M_costOf 9 [some (qr (31, 12, 89)), some (qi p1), some (qi (w32 (v2 + 1))), some (qi v3), some (qi (w32 (v4 + 1)))] [] σ (kI K)))))) : am_Runs PP MLL d m_M_costOf 9 [some (qr (31, 12, 89)), some (qi p1), some (qi v2), some (qi v3), some (qi v4)] [] σ (kI K) := am_wEM_ok 200 hF (⟨rfl, ⟨⟨rfl, h.1.1, h.1.2⟩, ⟨fun c1 => (h.2.1 c1), fun c1 => ⟨rfl, ⟨⟨rfl, (h.2.2 c1).1.1, (h.2.2 c1).1.2⟩, ⟨fun c2 => ((h.2.2 c1).2.1 c2), fun c2 => ((h.2.2 c1).2.2 c2)⟩⟩⟩⟩⟩⟩)

set_option maxRecDepth 20000 in
theorem v_M_balance_0 (d : Nat) (p1 : Int) (σ : am_S) (K : Int → am_S → Prop) (hF : MF σ) (h :
  am_Calls PP MLL d m_M_in [qi p1, qi 0, qi 5] σ (kI fun x1 s1 =>
    MF s1 ∧
    ((x1 = 0 →
      K (-1001) s1) ∧
    (¬ (x1 = 0) →
      (((sI s1 31 16) = 12 →
        K (-1003) s1) ∧
      (¬ ((sI s1 31 16) = 12) →
        am_Calls PP MLL d m_M_comes [qr (31, 12, 89), qi p1] s1 (kV fun s4 =>
          MF s4 ∧
          K (w32 ((sI s4 31 16) - 1)) s4))))))) : am_Runs PP MLL d m_M_balance 0 [some (qr (31, 12, 89)), some (qi p1)] [] σ (kI K) := am_wEM_ok 200 hF ((am_cI h fun x1 s1 h1 => ⟨h1.1, ⟨fun c2 => (h1.2.1 c2), fun c2 => ⟨rfl, ⟨fun c3 => ((h1.2.2 c2).1 c3), fun c3 => ⟨rfl, (am_cV ((h1.2.2 c2).2 c3) fun s4 h4 => ⟨h4.1, ⟨rfl, h4.2⟩⟩)⟩⟩⟩⟩⟩))

set_option maxRecDepth 20000 in
theorem v_M_comes_0 (d : Nat) (p1 : Int) (σ : am_S) (K : am_S → Prop) (hF : MF σ) (h :
  (0 ≤ (sI σ 31 16) ∧ (sI σ 31 16) < ((12 : Nat) : Int)) ∧
  let s1 := putI σ 41 (Int.toNat (sI σ 31 16)) p1;
  (0 ≤ (sI s1 31 16) ∧ (sI s1 31 16) < ((12 : Nat) : Int)) ∧
  let s2 := putI s1 42 (Int.toNat (sI s1 31 16)) 0;
  (0 ≤ (sI s2 31 16) ∧ (sI s2 31 16) < ((12 : Nat) : Int)) ∧
  let s3 := putI s2 43 (Int.toNat (sI s2 31 16)) 0;
  (0 ≤ (w32 (2 * (sI s3 31 16))) ∧ (w32 (2 * (sI s3 31 16))) < ((24 : Nat) : Int)) ∧
  let s4 := putI s3 44 (Int.toNat (w32 (2 * (sI s3 31 16)))) (-1);
  (0 ≤ (w32 ((w32 (2 * (sI s4 31 16))) + 1)) ∧ (w32 ((w32 (2 * (sI s4 31 16))) + 1)) < ((24 : Nat) : Int)) ∧
  let s5 := putI s4 44 (Int.toNat (w32 ((w32 (2 * (sI s4 31 16))) + 1))) (-1);
  let s6 := putI s5 31 16 (w32 ((sI s5 31 16) + 1));
  K s6) : am_Runs PP MLL d m_M_comes 0 [some (qr (31, 12, 89)), some (qi p1)] [] σ (kV K) := am_wEM_ok 200 hF (⟨rfl, ⟨rfl, ⟨⟨rfl, h.1.1, h.1.2⟩, ⟨rfl, ⟨rfl, ⟨⟨rfl, h.2.1.1, h.2.1.2⟩, ⟨rfl, ⟨rfl, ⟨⟨rfl, h.2.2.1.1, h.2.2.1.2⟩, ⟨rfl, ⟨rfl, ⟨⟨rfl, h.2.2.2.1.1, h.2.2.2.1.2⟩, ⟨rfl, ⟨rfl, ⟨⟨rfl, h.2.2.2.2.1.1, h.2.2.2.2.1.2⟩, ⟨rfl, ⟨rfl, h.2.2.2.2.2⟩⟩⟩⟩⟩⟩⟩⟩⟩⟩⟩⟩⟩⟩⟩⟩⟩)

set_option maxRecDepth 20000 in
theorem v_M_take_0 (d : Nat) (p1 : Int) (σ : am_S) (K : Int → am_S → Prop) (hF : MF σ) (h :
  am_Calls PP MLL d m_M_isNumber [qr (31, 12, 89), qi p1] σ (kI fun x1 s1 =>
    MF s1 ∧
    ((x1 = 0 →
      K (-1001) s1) ∧
    (¬ (x1 = 0) →
      am_Calls PP MLL d m_M_isThere [qr (31, 12, 89), qi p1] s1 (kI fun x3 s3 =>
        MF s3 ∧
        ((x3 = 0 →
          am_Calls PP MLL d m_M_finds [qr (31, 12, 89), qi p1, qi 1] s3 (kI fun x5 s5 =>
            MF s5 ∧
            K x5 s5)) ∧
        (¬ (x3 = 0) →
          (0 ≤ p1 ∧ p1 < ((12 : Nat) : Int)) ∧
          let s6 := putI s3 41 (Int.toNat p1) (-1);
          am_Calls PP MLL d m_M_endSearch [qr (31, 12, 89)] s6 (kV fun s7 =>
            MF s7 ∧
            K (sI s3 41 (Int.toNat p1)) s7)))))))) : am_Runs PP MLL d m_M_take 0 [some (qr (31, 12, 89)), some (qi p1), none] [] σ (kI K) := am_wEM_ok 200 hF (⟨rfl, (am_cI h fun x1 s1 h1 => ⟨h1.1, ⟨fun c2 => (h1.2.1 c2), fun c2 => ⟨rfl, (am_cI (h1.2.2 c2) fun x3 s3 h3 => ⟨h3.1, ⟨fun c4 => ⟨rfl, (am_cI (h3.2.1 c4) fun x5 s5 h5 => ⟨h5.1, h5.2⟩)⟩, fun c4 => ⟨rfl, ⟨⟨rfl, (h3.2.2 c4).1.1, (h3.2.2 c4).1.2⟩, ⟨rfl, ⟨⟨rfl, (h3.2.2 c4).1.1, (h3.2.2 c4).1.2⟩, ⟨rfl, (am_cV (h3.2.2 c4).2 fun s7 h7 => ⟨h7.1, h7.2⟩)⟩⟩⟩⟩⟩⟩⟩)⟩⟩⟩)⟩)

set_option maxRecDepth 20000 in
theorem v_M_panFault_0 (d : Nat) (p1 : Int) (σ : am_S) (K : Int → am_S → Prop) (hF : MF σ) (h :
  am_Calls PP MLL d m_M_isThere [qr (31, 12, 89), qi p1] σ (kI fun x1 s1 =>
    MF s1 ∧
    ((x1 = 0 →
      K 1 s1) ∧
    (¬ (x1 = 0) →
      (0 ≤ p1 ∧ p1 < ((12 : Nat) : Int)) ∧
      (((sI s1 41 (Int.toNat p1)) = 6 →
        K 4 s1) ∧
      (¬ ((sI s1 41 (Int.toNat p1)) = 6) →
        K 0 s1)))))) : am_Runs PP MLL d m_M_panFault 0 [some (qr (31, 12, 89)), some (qi p1)] [] σ (kI K) := am_wEM_ok 200 hF (⟨rfl, (am_cI h fun x1 s1 h1 => ⟨h1.1, ⟨fun c2 => (h1.2.1 c2), fun c2 => ⟨rfl, ⟨⟨rfl, (h1.2.2 c2).1.1, (h1.2.2 c2).1.2⟩, ⟨fun c3 => ((h1.2.2 c2).2.1 c3), fun c3 => ((h1.2.2 c2).2.2 c3)⟩⟩⟩⟩⟩)⟩)

set_option maxRecDepth 20000 in
theorem v_M_pan_0 (d : Nat) (p1 p2 p3 : Int) (σ : am_S) (K : Int → am_S → Prop) (hF : MF σ) (h :
  am_Calls PP MLL d m_M_isNumber [qr (31, 12, 89), qi p1] σ (kI fun x1 s1 =>
    MF s1 ∧
    ((x1 = 0 →
      K (-1001) s1) ∧
    (¬ (x1 = 0) →
      am_Calls PP MLL d m_M_isSide [qi p2] s1 (kI fun x3 s3 =>
        MF s3 ∧
        ((x3 = 0 →
          K (-1001) s3) ∧
        (¬ (x3 = 0) →
          ((p3 ≤ 20 →
            am_Calls PP MLL d m_M_panFault [qr (31, 12, 89), qi p1] s3 (kI fun x6 s6 =>
              MF s6 ∧
              ((x6 = 0 →
                ((0 ≤ p3 →
                  ((x6 = 0 →
                    (0 ≤ (w32 ((w32 (2 * p1)) + p2)) ∧ (w32 ((w32 (2 * p1)) + p2)) < ((24 : Nat) : Int)) ∧
                    let s10 := putI s6 44 (Int.toNat (w32 ((w32 (2 * p1)) + p2))) p3;
                    am_Runs PP MLL d m_M_pan 42 [some (qr (31, 12, 89)), some (qi p1), some (qi p2), some (qi p3), some (qi x6), some (qi 0)] [] s10 (kI K)) ∧
                  (¬ (x6 = 0) →
                    am_Calls PP MLL d m_M_finds [qr (31, 12, 89), qi p1, qi x6] s6 (kI fun x11 s11 =>
                      MF s11 ∧
                      K x11 s11)))) ∧
                (¬ (0 ≤ p3) →
                  am_Calls PP MLL d m_M_finds [qr (31, 12, 89), qi p1, qi 5] s6 (kI fun x12 s12 =>
                    MF s12 ∧
                    K x12 s12)))) ∧
              (¬ (x6 = 0) →
                ((x6 = 0 →
                  (0 ≤ (w32 ((w32 (2 * p1)) + p2)) ∧ (w32 ((w32 (2 * p1)) + p2)) < ((24 : Nat) : Int)) ∧
                  let s14 := putI s6 44 (Int.toNat (w32 ((w32 (2 * p1)) + p2))) p3;
                  am_Runs PP MLL d m_M_pan 42 [some (qr (31, 12, 89)), some (qi p1), some (qi p2), some (qi p3), some (qi x6), some (qi 0)] [] s14 (kI K)) ∧
                (¬ (x6 = 0) →
                  am_Calls PP MLL d m_M_finds [qr (31, 12, 89), qi p1, qi x6] s6 (kI fun x15 s15 =>
                    MF s15 ∧
                    K x15 s15))))))) ∧
          (¬ (p3 ≤ 20) →
            K (-1001) s3))))))))) : am_Runs PP MLL d m_M_pan 0 [some (qr (31, 12, 89)), some (qi p1), some (qi p2), some (qi p3), none, none] [] σ (kI K) := am_wEM_ok 200 hF (⟨rfl, (am_cI h fun x1 s1 h1 => ⟨h1.1, ⟨fun c2 => (h1.2.1 c2), fun c2 => (am_cI (h1.2.2 c2) fun x3 s3 h3 => ⟨h3.1, ⟨fun c4 => (h3.2.1 c4), fun c4 => ⟨fun c5 => ⟨rfl, (am_cI ((h3.2.2 c4).1 c5) fun x6 s6 h6 => ⟨h6.1, ⟨fun c7 => ⟨fun c8 => ⟨fun c9 => ⟨rfl, ⟨⟨rfl, (((h6.2.1 c7).1 c8).1 c9).1.1, (((h6.2.1 c7).1 c8).1 c9).1.2⟩, (((h6.2.1 c7).1 c8).1 c9).2⟩⟩, fun c9 => ⟨rfl, (am_cI (((h6.2.1 c7).1 c8).2 c9) fun x11 s11 h11 => ⟨h11.1, h11.2⟩)⟩⟩, fun c8 => ⟨fun c => absurd c (by decide : ¬ ((5 : Int) = 0)), fun _ => ⟨rfl, (am_cI ((h6.2.1 c7).2 c8) fun x12 s12 h12 => ⟨h12.1, h12.2⟩)⟩⟩⟩, fun c7 => ⟨fun c13 => ⟨rfl, ⟨⟨rfl, ((h6.2.2 c7).1 c13).1.1, ((h6.2.2 c7).1 c13).1.2⟩, ((h6.2.2 c7).1 c13).2⟩⟩, fun c13 => ⟨rfl, (am_cI ((h6.2.2 c7).2 c13) fun x15 s15 h15 => ⟨h15.1, h15.2⟩)⟩⟩⟩⟩)⟩, fun c5 => ((h3.2.2 c4).2 c5)⟩⟩⟩)⟩⟩)⟩)

set_option maxRecDepth 20000 in
theorem v_M_pan_42 (d : Nat) (p1 p2 p3 v5 : Int) (z4 : Option am_V) (σ : am_S) (K : Int → am_S → Prop) (hF : MF σ) (h :
  ((p3 ≤ v5 →
    K 1 σ) ∧
  (¬ (p3 ≤ v5) →
    (0 ≤ (w32 ((w32 (20 * (w32 ((w32 (2 * p1)) + p2)))) + v5)) ∧ (w32 ((w32 (20 * (w32 ((w32 (2 * p1)) + p2)))) + v5)) < ((480 : Nat) : Int)) ∧
    let s2 := putI σ 45 (Int.toNat (w32 ((w32 (20 * (w32 ((w32 (2 * p1)) + p2)))) + v5))) (-1);
    am_Runs PP MLL d m_M_pan 42 [some (qr (31, 12, 89)), some (qi p1), some (qi p2), some (qi p3), (am_cl z4), some (qi (w32 (v5 + 1)))] [] s2 (kI K)))) : am_Runs PP MLL d m_M_pan 42 [some (qr (31, 12, 89)), some (qi p1), some (qi p2), some (qi p3), z4, some (qi v5)] [] σ (kI K) := am_wEM_ok 200 hF (⟨fun c1 => (h.1 c1), fun c1 => ⟨rfl, ⟨⟨rfl, (h.2 c1).1.1, (h.2 c1).1.2⟩, (h.2 c1).2⟩⟩⟩)

set_option maxRecDepth 20000 in
theorem v_M_unpan_0 (d : Nat) (p1 p2 : Int) (σ : am_S) (K : Int → am_S → Prop) (hF : MF σ) (h :
  am_Calls PP MLL d m_M_isNumber [qr (31, 12, 89), qi p1] σ (kI fun x1 s1 =>
    MF s1 ∧
    ((x1 = 0 →
      K (-1001) s1) ∧
    (¬ (x1 = 0) →
      am_Calls PP MLL d m_M_isSide [qi p2] s1 (kI fun x3 s3 =>
        MF s3 ∧
        ((x3 = 0 →
          K (-1001) s3) ∧
        (¬ (x3 = 0) →
          am_Calls PP MLL d m_M_panFault [qr (31, 12, 89), qi p1] s3 (kI fun x5 s5 =>
            MF s5 ∧
            ((x5 = 0 →
              (0 ≤ (w32 ((w32 (2 * p1)) + p2)) ∧ (w32 ((w32 (2 * p1)) + p2)) < ((24 : Nat) : Int)) ∧
              ((0 ≤ (sI s5 44 (Int.toNat (w32 ((w32 (2 * p1)) + p2)))) →
                ((x5 = 0 →
                  let s9 := putI s5 44 (Int.toNat (w32 ((w32 (2 * p1)) + p2))) (-1);
                  K (sI s5 44 (Int.toNat (w32 ((w32 (2 * p1)) + p2)))) s9) ∧
                (¬ (x5 = 0) →
                  am_Calls PP MLL d m_M_finds [qr (31, 12, 89), qi p1, qi x5] s5 (kI fun x10 s10 =>
                    MF s10 ∧
                    K x10 s10)))) ∧
              (¬ (0 ≤ (sI s5 44 (Int.toNat (w32 ((w32 (2 * p1)) + p2))))) →
                am_Calls PP MLL d m_M_finds [qr (31, 12, 89), qi p1, qi 2] s5 (kI fun x11 s11 =>
                  MF s11 ∧
                  K x11 s11)))) ∧
            (¬ (x5 = 0) →
              ((x5 = 0 →
                (0 ≤ (w32 ((w32 (2 * p1)) + p2)) ∧ (w32 ((w32 (2 * p1)) + p2)) < ((24 : Nat) : Int)) ∧
                let s13 := putI s5 44 (Int.toNat (w32 ((w32 (2 * p1)) + p2))) (-1);
                K (sI s5 44 (Int.toNat (w32 ((w32 (2 * p1)) + p2)))) s13) ∧
              (¬ (x5 = 0) →
                am_Calls PP MLL d m_M_finds [qr (31, 12, 89), qi p1, qi x5] s5 (kI fun x14 s14 =>
                  MF s14 ∧
                  K x14 s14))))))))))))) : am_Runs PP MLL d m_M_unpan 0 [some (qr (31, 12, 89)), some (qi p1), some (qi p2), none, none] [] σ (kI K) := am_wEM_ok 200 hF (⟨rfl, (am_cI h fun x1 s1 h1 => ⟨h1.1, ⟨fun c2 => (h1.2.1 c2), fun c2 => (am_cI (h1.2.2 c2) fun x3 s3 h3 => ⟨h3.1, ⟨fun c4 => (h3.2.1 c4), fun c4 => ⟨rfl, (am_cI (h3.2.2 c4) fun x5 s5 h5 => ⟨h5.1, ⟨fun c6 => ⟨rfl, ⟨⟨rfl, (h5.2.1 c6).1.1, (h5.2.1 c6).1.2⟩, ⟨fun c7 => ⟨fun c8 => ⟨rfl, ⟨⟨rfl, (h5.2.1 c6).1.1, (h5.2.1 c6).1.2⟩, ⟨rfl, ⟨⟨rfl, (h5.2.1 c6).1.1, (h5.2.1 c6).1.2⟩, (((h5.2.1 c6).2.1 c7).1 c8)⟩⟩⟩⟩, fun c8 => ⟨rfl, (am_cI (((h5.2.1 c6).2.1 c7).2 c8) fun x10 s10 h10 => ⟨h10.1, h10.2⟩)⟩⟩, fun c7 => ⟨fun c => absurd c (by decide : ¬ ((2 : Int) = 0)), fun _ => ⟨rfl, (am_cI ((h5.2.1 c6).2.2 c7) fun x11 s11 h11 => ⟨h11.1, h11.2⟩)⟩⟩⟩⟩⟩, fun c6 => ⟨fun c12 => ⟨rfl, ⟨⟨rfl, ((h5.2.2 c6).1 c12).1.1, ((h5.2.2 c6).1 c12).1.2⟩, ⟨rfl, ⟨⟨rfl, ((h5.2.2 c6).1 c12).1.1, ((h5.2.2 c6).1 c12).1.2⟩, ((h5.2.2 c6).1 c12).2⟩⟩⟩⟩, fun c12 => ⟨rfl, (am_cI ((h5.2.2 c6).2 c12) fun x14 s14 h14 => ⟨h14.1, h14.2⟩)⟩⟩⟩⟩)⟩⟩⟩)⟩⟩)⟩)

set_option maxRecDepth 20000 in
theorem v_M_placeFault_0 (d : Nat) (p1 p2 p3 : Int) (σ : am_S) (K : Int → am_S → Prop) (hF : MF σ) (h :
  am_Calls PP MLL d m_M_panFault [qr (31, 12, 89), qi p1] σ (kI fun x1 s1 =>
    MF s1 ∧
    ((x1 = 0 →
      (0 ≤ (w32 ((w32 (2 * p1)) + p2)) ∧ (w32 ((w32 (2 * p1)) + p2)) < ((24 : Nat) : Int)) ∧
      ((0 ≤ (sI s1 44 (Int.toNat (w32 ((w32 (2 * p1)) + p2)))) →
        ((x1 = 0 →
          am_Calls PP MLL d m_M_in [qi p3, qi 0, qi (w32 ((sI s1 44 (Int.toNat (w32 ((w32 (2 * p1)) + p2)))) - 1))] s1 (kI fun x5 s5 =>
            MF s5 ∧
            ((x5 = 0 →
              K 3 s5) ∧
            (¬ (x5 = 0) →
              K x1 s5)))) ∧
        (¬ (x1 = 0) →
          K x1 s1))) ∧
      (¬ (0 ≤ (sI s1 44 (Int.toNat (w32 ((w32 (2 * p1)) + p2))))) →
        K 2 s1))) ∧
    (¬ (x1 = 0) →
      ((x1 = 0 →
        (0 ≤ (w32 ((w32 (2 * p1)) + p2)) ∧ (w32 ((w32 (2 * p1)) + p2)) < ((24 : Nat) : Int)) ∧
        am_Calls PP MLL d m_M_in [qi p3, qi 0, qi (w32 ((sI s1 44 (Int.toNat (w32 ((w32 (2 * p1)) + p2)))) - 1))] s1 (kI fun x8 s8 =>
          MF s8 ∧
          ((x8 = 0 →
            K 3 s8) ∧
          (¬ (x8 = 0) →
            K x1 s8)))) ∧
      (¬ (x1 = 0) →
        K x1 s1)))))) : am_Runs PP MLL d m_M_placeFault 0 [some (qr (31, 12, 89)), some (qi p1), some (qi p2), some (qi p3), none] [] σ (kI K) := am_wEM_ok 200 hF (⟨rfl, (am_cI h fun x1 s1 h1 => ⟨h1.1, ⟨fun c2 => ⟨rfl, ⟨⟨rfl, (h1.2.1 c2).1.1, (h1.2.1 c2).1.2⟩, ⟨fun c3 => ⟨fun c4 => ⟨rfl, ⟨⟨rfl, (h1.2.1 c2).1.1, (h1.2.1 c2).1.2⟩, (am_cI (((h1.2.1 c2).2.1 c3).1 c4) fun x5 s5 h5 => ⟨h5.1, ⟨fun c6 => (h5.2.1 c6), fun c6 => (h5.2.2 c6)⟩⟩)⟩⟩, fun c4 => (((h1.2.1 c2).2.1 c3).2 c4)⟩, fun c3 => ⟨fun c => absurd c (by decide : ¬ ((2 : Int) = 0)), fun _ => ((h1.2.1 c2).2.2 c3)⟩⟩⟩⟩, fun c2 => ⟨fun c7 => ⟨rfl, ⟨⟨rfl, ((h1.2.2 c2).1 c7).1.1, ((h1.2.2 c2).1 c7).1.2⟩, (am_cI ((h1.2.2 c2).1 c7).2 fun x8 s8 h8 => ⟨h8.1, ⟨fun c9 => (h8.2.1 c9), fun c9 => (h8.2.2 c9)⟩⟩)⟩⟩, fun c7 => ((h1.2.2 c2).2 c7)⟩⟩⟩)⟩)

set_option maxRecDepth 20000 in
theorem v_M_put_0 (d : Nat) (p1 p2 p3 p4 : Int) (σ : am_S) (K : Int → am_S → Prop) (hF : MF σ) (h :
  am_Calls PP MLL d m_M_isNumber [qr (31, 12, 89), qi p1] σ (kI fun x1 s1 =>
    MF s1 ∧
    ((x1 = 0 →
      K (-1001) s1) ∧
    (¬ (x1 = 0) →
      am_Calls PP MLL d m_M_isSide [qi p2] s1 (kI fun x3 s3 =>
        MF s3 ∧
        ((x3 = 0 →
          K (-1001) s3) ∧
        (¬ (x3 = 0) →
          ((p4 = (-1) →
            am_Calls PP MLL d m_M_placeFault [qr (31, 12, 89), qi p1, qi p2, qi p3] s3 (kI fun x6 s6 =>
              MF s6 ∧
              ((x6 = 0 →
                (0 ≤ (w32 ((w32 (20 * (w32 ((w32 (2 * p1)) + p2)))) + p3)) ∧ (w32 ((w32 (20 * (w32 ((w32 (2 * p1)) + p2)))) + p3)) < ((480 : Nat) : Int)) ∧
                let s8 := putI s6 45 (Int.toNat (w32 ((w32 (20 * (w32 ((w32 (2 * p1)) + p2)))) + p3))) p4;
                K (sI s6 45 (Int.toNat (w32 ((w32 (20 * (w32 ((w32 (2 * p1)) + p2)))) + p3)))) s8) ∧
              (¬ (x6 = 0) →
                am_Calls PP MLL d m_M_finds [qr (31, 12, 89), qi p1, qi x6] s6 (kI fun x9 s9 =>
                  MF s9 ∧
                  K x9 s9))))) ∧
          (¬ (p4 = (-1)) →
            am_Calls PP MLL d m_M_isCoin [qr (31, 12, 89), qi p4] s3 (kI fun x10 s10 =>
              MF s10 ∧
              ((x10 = 0 →
                K (-1001) s10) ∧
              (¬ (x10 = 0) →
                am_Calls PP MLL d m_M_placeFault [qr (31, 12, 89), qi p1, qi p2, qi p3] s10 (kI fun x12 s12 =>
                  MF s12 ∧
                  ((x12 = 0 →
                    (0 ≤ (w32 ((w32 (20 * (w32 ((w32 (2 * p1)) + p2)))) + p3)) ∧ (w32 ((w32 (20 * (w32 ((w32 (2 * p1)) + p2)))) + p3)) < ((480 : Nat) : Int)) ∧
                    let s14 := putI s12 45 (Int.toNat (w32 ((w32 (20 * (w32 ((w32 (2 * p1)) + p2)))) + p3))) p4;
                    K (sI s12 45 (Int.toNat (w32 ((w32 (20 * (w32 ((w32 (2 * p1)) + p2)))) + p3)))) s14) ∧
                  (¬ (x12 = 0) →
                    am_Calls PP MLL d m_M_finds [qr (31, 12, 89), qi p1, qi x12] s12 (kI fun x15 s15 =>
                      MF s15 ∧
                      K x15 s15)))))))))))))))) : am_Runs PP MLL d m_M_put 0 [some (qr (31, 12, 89)), some (qi p1), some (qi p2), some (qi p3), some (qi p4), none, none, none] [] σ (kI K) := am_wEM_ok 200 hF (⟨rfl, (am_cI h fun x1 s1 h1 => ⟨h1.1, ⟨fun c2 => (h1.2.1 c2), fun c2 => (am_cI (h1.2.2 c2) fun x3 s3 h3 => ⟨h3.1, ⟨fun c4 => (h3.2.1 c4), fun c4 => ⟨fun c5 => ⟨rfl, (am_cI ((h3.2.2 c4).1 c5) fun x6 s6 h6 => ⟨h6.1, ⟨fun c7 => ⟨rfl, ⟨⟨rfl, (h6.2.1 c7).1.1, (h6.2.1 c7).1.2⟩, ⟨rfl, ⟨⟨rfl, (h6.2.1 c7).1.1, (h6.2.1 c7).1.2⟩, (h6.2.1 c7).2⟩⟩⟩⟩, fun c7 => ⟨rfl, (am_cI (h6.2.2 c7) fun x9 s9 h9 => ⟨h9.1, h9.2⟩)⟩⟩⟩)⟩, fun c5 => ⟨rfl, (am_cI ((h3.2.2 c4).2 c5) fun x10 s10 h10 => ⟨h10.1, ⟨fun c11 => (h10.2.1 c11), fun c11 => ⟨rfl, (am_cI (h10.2.2 c11) fun x12 s12 h12 => ⟨h12.1, ⟨fun c13 => ⟨rfl, ⟨⟨rfl, (h12.2.1 c13).1.1, (h12.2.1 c13).1.2⟩, ⟨rfl, ⟨⟨rfl, (h12.2.1 c13).1.1, (h12.2.1 c13).1.2⟩, (h12.2.1 c13).2⟩⟩⟩⟩, fun c13 => ⟨rfl, (am_cI (h12.2.2 c13) fun x15 s15 h15 => ⟨h15.1, h15.2⟩)⟩⟩⟩)⟩⟩⟩)⟩⟩⟩⟩)⟩⟩)⟩)

set_option maxRecDepth 20000 in
theorem v_M_at_0 (d : Nat) (p1 p2 p3 : Int) (σ : am_S) (K : Int → am_S → Prop) (hF : MF σ) (h :
  am_Calls PP MLL d m_M_isNumber [qr (31, 12, 89), qi p1] σ (kI fun x1 s1 =>
    MF s1 ∧
    ((x1 = 0 →
      K (-1001) s1) ∧
    (¬ (x1 = 0) →
      am_Calls PP MLL d m_M_isSide [qi p2] s1 (kI fun x3 s3 =>
        MF s3 ∧
        ((x3 = 0 →
          K (-1001) s3) ∧
        (¬ (x3 = 0) →
          am_Calls PP MLL d m_M_placeFault [qr (31, 12, 89), qi p1, qi p2, qi p3] s3 (kI fun x5 s5 =>
            MF s5 ∧
            ((x5 = 0 →
              (0 ≤ (w32 ((w32 (20 * (w32 ((w32 (2 * p1)) + p2)))) + p3)) ∧ (w32 ((w32 (20 * (w32 ((w32 (2 * p1)) + p2)))) + p3)) < ((480 : Nat) : Int)) ∧
              K (sI s5 45 (Int.toNat (w32 ((w32 (20 * (w32 ((w32 (2 * p1)) + p2)))) + p3)))) s5) ∧
            (¬ (x5 = 0) →
              am_Calls PP MLL d m_M_finds [qr (31, 12, 89), qi p1, qi x5] s5 (kI fun x7 s7 =>
                MF s7 ∧
                K x7 s7))))))))))) : am_Runs PP MLL d m_M_at 0 [some (qr (31, 12, 89)), some (qi p1), some (qi p2), some (qi p3), none] [] σ (kI K) := am_wEM_ok 200 hF (⟨rfl, (am_cI h fun x1 s1 h1 => ⟨h1.1, ⟨fun c2 => (h1.2.1 c2), fun c2 => (am_cI (h1.2.2 c2) fun x3 s3 h3 => ⟨h3.1, ⟨fun c4 => (h3.2.1 c4), fun c4 => ⟨rfl, (am_cI (h3.2.2 c4) fun x5 s5 h5 => ⟨h5.1, ⟨fun c6 => ⟨rfl, ⟨⟨rfl, (h5.2.1 c6).1.1, (h5.2.1 c6).1.2⟩, (h5.2.1 c6).2⟩⟩, fun c6 => ⟨rfl, (am_cI (h5.2.2 c6) fun x7 s7 h7 => ⟨h7.1, h7.2⟩)⟩⟩⟩)⟩⟩⟩)⟩⟩)⟩)

set_option maxRecDepth 20000 in
theorem v_M_copy_0 (d : Nat) (p1 p2 p3 p4 p5 p6 : Int) (σ : am_S) (K : Int → am_S → Prop) (hF : MF σ) (h :
  am_Calls PP MLL d m_M_isNumber [qr (31, 12, 89), qi p1] σ (kI fun x1 s1 =>
    MF s1 ∧
    ((x1 = 0 →
      K (-1001) s1) ∧
    (¬ (x1 = 0) →
      am_Calls PP MLL d m_M_isNumber [qr (31, 12, 89), qi p4] s1 (kI fun x3 s3 =>
        MF s3 ∧
        ((x3 = 0 →
          K (-1001) s3) ∧
        (¬ (x3 = 0) →
          am_Calls PP MLL d m_M_isSide [qi p2] s3 (kI fun x5 s5 =>
            MF s5 ∧
            ((x5 = 0 →
              K (-1001) s5) ∧
            (¬ (x5 = 0) →
              am_Calls PP MLL d m_M_isThere [qr (31, 12, 89), qi p1] s5 (kI fun x7 s7 =>
                MF s7 ∧
                ((x7 = 0 →
                  am_Calls PP MLL d m_M_finds [qr (31, 12, 89), qi p1, qi 1] s7 (kI fun x9 s9 =>
                    MF s9 ∧
                    K x9 s9)) ∧
                (¬ (x7 = 0) →
                  am_Calls PP MLL d m_M_isThere [qr (31, 12, 89), qi p4] s7 (kI fun x10 s10 =>
                    MF s10 ∧
                    ((x10 = 0 →
                      am_Calls PP MLL d m_M_finds [qr (31, 12, 89), qi p1, qi 1] s10 (kI fun x12 s12 =>
                        MF s12 ∧
                        K x12 s12)) ∧
                    (¬ (x10 = 0) →
                      (0 ≤ p1 ∧ p1 < ((12 : Nat) : Int)) ∧
                      (((sI s10 41 (Int.toNat p1)) = 6 →
                        am_Calls PP MLL d m_M_finds [qr (31, 12, 89), qi p1, qi 4] s10 (kI fun x14 s14 =>
                          MF s14 ∧
                          K x14 s14)) ∧
                      (¬ ((sI s10 41 (Int.toNat p1)) = 6) →
                        (0 ≤ p4 ∧ p4 < ((12 : Nat) : Int)) ∧
                        (((sI s10 41 (Int.toNat p4)) = 6 →
                          am_Calls PP MLL d m_M_finds [qr (31, 12, 89), qi p1, qi 4] s10 (kI fun x16 s16 =>
                            MF s16 ∧
                            K x16 s16)) ∧
                        (¬ ((sI s10 41 (Int.toNat p4)) = 6) →
                          (0 ≤ (w32 ((w32 (2 * p1)) + p2)) ∧ (w32 ((w32 (2 * p1)) + p2)) < ((24 : Nat) : Int)) ∧
                          (0 ≤ (w32 ((w32 (2 * p4)) + p2)) ∧ (w32 ((w32 (2 * p4)) + p2)) < ((24 : Nat) : Int)) ∧
                          (((sI s10 44 (Int.toNat (w32 ((w32 (2 * p1)) + p2)))) < 0 →
                            am_Calls PP MLL d m_M_finds [qr (31, 12, 89), qi p1, qi 2] s10 (kI fun x18 s18 =>
                              MF s18 ∧
                              K x18 s18)) ∧
                          (¬ ((sI s10 44 (Int.toNat (w32 ((w32 (2 * p1)) + p2)))) < 0) →
                            ((0 ≤ (sI s10 44 (Int.toNat (w32 ((w32 (2 * p4)) + p2)))) →
                              ((p6 < 0 →
                                am_Calls PP MLL d m_M_finds [qr (31, 12, 89), qi p1, qi 3] s10 (kI fun x21 s21 =>
                                  MF s21 ∧
                                  K x21 s21)) ∧
                              (¬ (p6 < 0) →
                                ((p3 < 0 →
                                  am_Calls PP MLL d m_M_finds [qr (31, 12, 89), qi p1, qi 3] s10 (kI fun x23 s23 =>
                                    MF s23 ∧
                                    K x23 s23)) ∧
                                (¬ (p3 < 0) →
                                  ((p5 < 0 →
                                    am_Calls PP MLL d m_M_finds [qr (31, 12, 89), qi p1, qi 3] s10 (kI fun x25 s25 =>
                                      MF s25 ∧
                                      K x25 s25)) ∧
                                  (¬ (p5 < 0) →
                                    (((sI s10 44 (Int.toNat (w32 ((w32 (2 * p1)) + p2)))) < p6 →
                                      am_Calls PP MLL d m_M_finds [qr (31, 12, 89), qi p1, qi 3] s10 (kI fun x27 s27 =>
                                        MF s27 ∧
                                        K x27 s27)) ∧
                                    (¬ ((sI s10 44 (Int.toNat (w32 ((w32 (2 * p1)) + p2)))) < p6) →
                                      (((w32 ((sI s10 44 (Int.toNat (w32 ((w32 (2 * p1)) + p2)))) - p6)) < p3 →
                                        am_Calls PP MLL d m_M_finds [qr (31, 12, 89), qi p1, qi 3] s10 (kI fun x29 s29 =>
                                          MF s29 ∧
                                          K x29 s29)) ∧
                                      (¬ ((w32 ((sI s10 44 (Int.toNat (w32 ((w32 (2 * p1)) + p2)))) - p6)) < p3) →
                                        (((sI s10 44 (Int.toNat (w32 ((w32 (2 * p4)) + p2)))) < p6 →
                                          am_Calls PP MLL d m_M_finds [qr (31, 12, 89), qi p1, qi 3] s10 (kI fun x31 s31 =>
                                            MF s31 ∧
                                            K x31 s31)) ∧
                                        (¬ ((sI s10 44 (Int.toNat (w32 ((w32 (2 * p4)) + p2)))) < p6) →
                                          ((p5 ≤ (w32 ((sI s10 44 (Int.toNat (w32 ((w32 (2 * p4)) + p2)))) - p6)) →
                                            am_Runs PP MLL d m_M_copy 100 [some (qr (31, 12, 89)), some (qi p1), some (qi p2), some (qi p3), some (qi p4), some (qi p5), some (qi p6), some (qi 0), some (qi 0), some (qi (sI s10 44 (Int.toNat (w32 ((w32 (2 * p4)) + p2)))))] [] s10 (kI K)) ∧
                                          (¬ (p5 ≤ (w32 ((sI s10 44 (Int.toNat (w32 ((w32 (2 * p4)) + p2)))) - p6))) →
                                            am_Calls PP MLL d m_M_finds [qr (31, 12, 89), qi p1, qi 3] s10 (kI fun x33 s33 =>
                                              MF s33 ∧
                                              K x33 s33)))))))))))))))) ∧
                            (¬ (0 ≤ (sI s10 44 (Int.toNat (w32 ((w32 (2 * p4)) + p2))))) →
                              am_Calls PP MLL d m_M_finds [qr (31, 12, 89), qi p1, qi 2] s10 (kI fun x34 s34 =>
                                MF s34 ∧
                                K x34 s34))))))))))))))))))))))))) : am_Runs PP MLL d m_M_copy 0 [some (qr (31, 12, 89)), some (qi p1), some (qi p2), some (qi p3), some (qi p4), some (qi p5), some (qi p6), none, none, none] [] σ (kI K) := am_wEM_ok 200 hF (⟨rfl, (am_cI h fun x1 s1 h1 => ⟨h1.1, ⟨fun c2 => (h1.2.1 c2), fun c2 => ⟨rfl, (am_cI (h1.2.2 c2) fun x3 s3 h3 => ⟨h3.1, ⟨fun c4 => (h3.2.1 c4), fun c4 => (am_cI (h3.2.2 c4) fun x5 s5 h5 => ⟨h5.1, ⟨fun c6 => (h5.2.1 c6), fun c6 => ⟨rfl, (am_cI (h5.2.2 c6) fun x7 s7 h7 => ⟨h7.1, ⟨fun c8 => ⟨fun c => absurd c (by decide : ¬ ((1 : Int) = 0)), fun _ => ⟨fun c => absurd c (by decide : ¬ ((1 : Int) = 0)), fun _ => ⟨rfl, (am_cI (h7.2.1 c8) fun x9 s9 h9 => ⟨h9.1, h9.2⟩)⟩⟩⟩, fun c8 => ⟨rfl, (am_cI (h7.2.2 c8) fun x10 s10 h10 => ⟨h10.1, ⟨fun c11 => ⟨fun c => absurd c (by decide : ¬ ((1 : Int) = 0)), fun _ => ⟨fun c => absurd c (by decide : ¬ ((1 : Int) = 0)), fun _ => ⟨rfl, (am_cI (h10.2.1 c11) fun x12 s12 h12 => ⟨h12.1, h12.2⟩)⟩⟩⟩, fun c11 => ⟨rfl, ⟨⟨rfl, (h10.2.2 c11).1.1, (h10.2.2 c11).1.2⟩, ⟨fun c13 => ⟨fun c => absurd c (by decide : ¬ ((4 : Int) = 0)), fun _ => ⟨fun c => absurd c (by decide : ¬ ((4 : Int) = 0)), fun _ => ⟨rfl, (am_cI ((h10.2.2 c11).2.1 c13) fun x14 s14 h14 => ⟨h14.1, h14.2⟩)⟩⟩⟩, fun c13 => ⟨rfl, ⟨⟨rfl, ((h10.2.2 c11).2.2 c13).1.1, ((h10.2.2 c11).2.2 c13).1.2⟩, ⟨fun c15 => ⟨fun c => absurd c (by decide : ¬ ((4 : Int) = 0)), fun _ => ⟨fun c => absurd c (by decide : ¬ ((4 : Int) = 0)), fun _ => ⟨rfl, (am_cI (((h10.2.2 c11).2.2 c13).2.1 c15) fun x16 s16 h16 => ⟨h16.1, h16.2⟩)⟩⟩⟩, fun c15 => ⟨fun _ => ⟨rfl, ⟨⟨rfl, (((h10.2.2 c11).2.2 c13).2.2 c15).1.1, (((h10.2.2 c11).2.2 c13).2.2 c15).1.2⟩, ⟨rfl, ⟨⟨rfl, (((h10.2.2 c11).2.2 c13).2.2 c15).2.1.1, (((h10.2.2 c11).2.2 c13).2.2 c15).2.1.2⟩, ⟨fun c17 => ⟨fun c => absurd c (by decide : ¬ ((2 : Int) = 0)), fun _ => ⟨rfl, (am_cI ((((h10.2.2 c11).2.2 c13).2.2 c15).2.2.1 c17) fun x18 s18 h18 => ⟨h18.1, h18.2⟩)⟩⟩, fun c17 => ⟨fun c19 => ⟨fun c20 => ⟨fun c => absurd c (by decide : ¬ ((3 : Int) = 0)), fun _ => ⟨rfl, (am_cI ((((((h10.2.2 c11).2.2 c13).2.2 c15).2.2.2 c17).1 c19).1 c20) fun x21 s21 h21 => ⟨h21.1, h21.2⟩)⟩⟩, fun c20 => ⟨fun c22 => ⟨fun c => absurd c (by decide : ¬ ((3 : Int) = 0)), fun _ => ⟨rfl, (am_cI (((((((h10.2.2 c11).2.2 c13).2.2 c15).2.2.2 c17).1 c19).2 c20).1 c22) fun x23 s23 h23 => ⟨h23.1, h23.2⟩)⟩⟩, fun c22 => ⟨fun c24 => ⟨fun c => absurd c (by decide : ¬ ((3 : Int) = 0)), fun _ => ⟨rfl, (am_cI ((((((((h10.2.2 c11).2.2 c13).2.2 c15).2.2.2 c17).1 c19).2 c20).2 c22).1 c24) fun x25 s25 h25 => ⟨h25.1, h25.2⟩)⟩⟩, fun c24 => ⟨fun c26 => ⟨fun c => absurd c (by decide : ¬ ((3 : Int) = 0)), fun _ => ⟨rfl, (am_cI (((((((((h10.2.2 c11).2.2 c13).2.2 c15).2.2.2 c17).1 c19).2 c20).2 c22).2 c24).1 c26) fun x27 s27 h27 => ⟨h27.1, h27.2⟩)⟩⟩, fun c26 => ⟨fun c28 => ⟨fun c => absurd c (by decide : ¬ ((3 : Int) = 0)), fun _ => ⟨rfl, (am_cI ((((((((((h10.2.2 c11).2.2 c13).2.2 c15).2.2.2 c17).1 c19).2 c20).2 c22).2 c24).2 c26).1 c28) fun x29 s29 h29 => ⟨h29.1, h29.2⟩)⟩⟩, fun c28 => ⟨fun c30 => ⟨fun c => absurd c (by decide : ¬ ((3 : Int) = 0)), fun _ => ⟨rfl, (am_cI (((((((((((h10.2.2 c11).2.2 c13).2.2 c15).2.2.2 c17).1 c19).2 c20).2 c22).2 c24).2 c26).2 c28).1 c30) fun x31 s31 h31 => ⟨h31.1, h31.2⟩)⟩⟩, fun c30 => ⟨fun c32 => ⟨fun _ => ((((((((((((h10.2.2 c11).2.2 c13).2.2 c15).2.2.2 c17).1 c19).2 c20).2 c22).2 c24).2 c26).2 c28).2 c30).1 c32), fun c => absurd (by decide : (0 : Int) = 0) c⟩, fun c32 => ⟨fun c => absurd c (by decide : ¬ ((3 : Int) = 0)), fun _ => ⟨rfl, (am_cI ((((((((((((h10.2.2 c11).2.2 c13).2.2 c15).2.2.2 c17).1 c19).2 c20).2 c22).2 c24).2 c26).2 c28).2 c30).2 c32) fun x33 s33 h33 => ⟨h33.1, h33.2⟩)⟩⟩⟩⟩⟩⟩⟩⟩⟩, fun c19 => ⟨fun c => absurd c (by decide : ¬ ((2 : Int) = 0)), fun _ => ⟨rfl, (am_cI (((((h10.2.2 c11).2.2 c13).2.2 c15).2.2.2 c17).2 c19) fun x34 s34 h34 => ⟨h34.1, h34.2⟩)⟩⟩⟩⟩⟩⟩⟩⟩, fun c => absurd (by decide : (0 : Int) = 0) c⟩⟩⟩⟩⟩⟩⟩⟩⟩)⟩⟩⟩)⟩⟩⟩)⟩⟩)⟩⟩⟩)⟩)

set_option maxRecDepth 20000 in
theorem v_M_copy_100 (d : Nat) (p1 p2 p3 p4 p5 p6 v8 : Int) (z7 z9 : Option am_V) (σ : am_S) (K : Int → am_S → Prop) (hF : MF σ) (h :
  ((p6 ≤ v8 →
    am_Runs PP MLL d m_M_copy 125 [some (qr (31, 12, 89)), some (qi p1), some (qi p2), some (qi p3), some (qi p4), some (qi p5), some (qi p6), (am_cl z7), some (qi 0), z9] [] σ (kI K)) ∧
  (¬ (p6 ≤ v8) →
    (0 ≤ (w32 ((w32 ((w32 (20 * (w32 ((w32 (2 * p1)) + p2)))) + p3)) + v8)) ∧ (w32 ((w32 ((w32 (20 * (w32 ((w32 (2 * p1)) + p2)))) + p3)) + v8)) < ((480 : Nat) : Int)) ∧
    (0 ≤ v8 ∧ v8 < ((20 : Nat) : Int)) ∧
    let s2 := putI σ 49 (Int.toNat v8) (sI σ 45 (Int.toNat (w32 ((w32 ((w32 (20 * (w32 ((w32 (2 * p1)) + p2)))) + p3)) + v8))));
    am_Runs PP MLL d m_M_copy 100 [some (qr (31, 12, 89)), some (qi p1), some (qi p2), some (qi p3), some (qi p4), some (qi p5), some (qi p6), (am_cl z7), some (qi (w32 (v8 + 1))), z9] [] s2 (kI K)))) : am_Runs PP MLL d m_M_copy 100 [some (qr (31, 12, 89)), some (qi p1), some (qi p2), some (qi p3), some (qi p4), some (qi p5), some (qi p6), z7, some (qi v8), z9] [] σ (kI K) := am_wEM_ok 200 hF (⟨fun c1 => (h.1 c1), fun c1 => ⟨rfl, ⟨rfl, ⟨⟨rfl, (h.2 c1).1.1, (h.2 c1).1.2⟩, ⟨⟨rfl, (h.2 c1).2.1.1, (h.2 c1).2.1.2⟩, (h.2 c1).2.2⟩⟩⟩⟩⟩)

set_option maxRecDepth 20000 in
theorem v_M_copy_125 (d : Nat) (p2 p4 p5 p6 v8 : Int) (z1 z3 z7 z9 : Option am_V) (σ : am_S) (K : Int → am_S → Prop) (hF : MF σ) (h :
  ((p6 ≤ v8 →
    K p6 σ) ∧
  (¬ (p6 ≤ v8) →
    (0 ≤ v8 ∧ v8 < ((20 : Nat) : Int)) ∧
    (0 ≤ (w32 ((w32 ((w32 (20 * (w32 ((w32 (2 * p4)) + p2)))) + p5)) + v8)) ∧ (w32 ((w32 ((w32 (20 * (w32 ((w32 (2 * p4)) + p2)))) + p5)) + v8)) < ((480 : Nat) : Int)) ∧
    let s2 := putI σ 45 (Int.toNat (w32 ((w32 ((w32 (20 * (w32 ((w32 (2 * p4)) + p2)))) + p5)) + v8))) (sI σ 49 (Int.toNat v8));
    am_Runs PP MLL d m_M_copy 125 [some (qr (31, 12, 89)), z1, some (qi p2), z3, some (qi p4), some (qi p5), some (qi p6), (am_cl z7), some (qi (w32 (v8 + 1))), z9] [] s2 (kI K)))) : am_Runs PP MLL d m_M_copy 125 [some (qr (31, 12, 89)), z1, some (qi p2), z3, some (qi p4), some (qi p5), some (qi p6), z7, some (qi v8), z9] [] σ (kI K) := am_wEM_ok 200 hF (⟨fun c1 => (h.1 c1), fun c1 => ⟨rfl, ⟨rfl, ⟨⟨rfl, (h.2 c1).1.1, (h.2 c1).1.2⟩, ⟨⟨rfl, (h.2 c1).2.1.1, (h.2 c1).2.1.2⟩, (h.2 c1).2.2⟩⟩⟩⟩⟩)

set_option maxRecDepth 20000 in
theorem v_M_complain_0 (d : Nat) (p1 : Int) (σ : am_S) (K : Int → am_S → Prop) (hF : MF σ) (h :
  am_Calls PP MLL d m_M_isNumber [qr (31, 12, 89), qi p1] σ (kI fun x1 s1 =>
    MF s1 ∧
    ((x1 = 0 →
      K (-1001) s1) ∧
    (¬ (x1 = 0) →
      am_Calls PP MLL d m_M_isThere [qr (31, 12, 89), qi p1] s1 (kI fun x3 s3 =>
        MF s3 ∧
        ((x3 = 0 →
          am_Calls PP MLL d m_M_finds [qr (31, 12, 89), qi p1, qi 1] s3 (kI fun x5 s5 =>
            MF s5 ∧
            K x5 s5)) ∧
        (¬ (x3 = 0) →
          (0 ≤ p1 ∧ p1 < ((12 : Nat) : Int)) ∧
          (((sI s3 43 (Int.toNat p1)) = 0 →
            am_Calls PP MLL d m_M_finds [qr (31, 12, 89), qi p1, qi 6] s3 (kI fun x7 s7 =>
              MF s7 ∧
              K x7 s7)) ∧
          (¬ ((sI s3 43 (Int.toNat p1)) = 0) →
            am_Calls PP MLL d m_M_finds [qr (31, 12, 89), qi p1, qi (sI s3 43 (Int.toNat p1))] s3 (kI fun x8 s8 =>
              MF s8 ∧
              K x8 s8)))))))))) : am_Runs PP MLL d m_M_complain 0 [some (qr (31, 12, 89)), some (qi p1), none] [] σ (kI K) := am_wEM_ok 200 hF (⟨rfl, (am_cI h fun x1 s1 h1 => ⟨h1.1, ⟨fun c2 => (h1.2.1 c2), fun c2 => ⟨rfl, (am_cI (h1.2.2 c2) fun x3 s3 h3 => ⟨h3.1, ⟨fun c4 => ⟨rfl, (am_cI (h3.2.1 c4) fun x5 s5 h5 => ⟨h5.1, h5.2⟩)⟩, fun c4 => ⟨rfl, ⟨⟨rfl, (h3.2.2 c4).1.1, (h3.2.2 c4).1.2⟩, ⟨fun c6 => ⟨rfl, (am_cI ((h3.2.2 c4).2.1 c6) fun x7 s7 h7 => ⟨h7.1, h7.2⟩)⟩, fun c6 => ⟨rfl, ⟨⟨rfl, (h3.2.2 c4).1.1, (h3.2.2 c4).1.2⟩, ⟨rfl, (am_cI ((h3.2.2 c4).2.2 c6) fun x8 s8 h8 => ⟨h8.1, h8.2⟩)⟩⟩⟩⟩⟩⟩⟩⟩)⟩⟩⟩)⟩)

set_option maxRecDepth 20000 in
theorem v_M_isBelow_0 (d : Nat) (p0 p1 : Int) (σ : am_S) (K : Int → am_S → Prop) (h :
  ((p0 = p1 →
    K 1 σ) ∧
  (¬ (p0 = p1) →
    ((p1 = 0 →
      ((6 ≤ p0 →
        ((p1 = 1 →
          ((p0 = 2 →
            K 1 σ) ∧
          (¬ (p0 = 2) →
            ((p0 = 3 →
              K 1 σ) ∧
            (¬ (p0 = 3) →
              ((p1 = 2 →
                ((p0 = 3 →
                  K 1 σ) ∧
                (¬ (p0 = 3) →
                  K 0 σ))) ∧
              (¬ (p1 = 2) →
                K 0 σ))))))) ∧
        (¬ (p1 = 1) →
          ((p1 = 2 →
            ((p0 = 3 →
              K 1 σ) ∧
            (¬ (p0 = 3) →
              K 0 σ))) ∧
          (¬ (p1 = 2) →
            K 0 σ))))) ∧
      (¬ (6 ≤ p0) →
        K 1 σ))) ∧
    (¬ (p1 = 0) →
      ((p1 = 1 →
        ((p0 = 2 →
          K 1 σ) ∧
        (¬ (p0 = 2) →
          ((p0 = 3 →
            K 1 σ) ∧
          (¬ (p0 = 3) →
            ((p1 = 2 →
              ((p0 = 3 →
                K 1 σ) ∧
              (¬ (p0 = 3) →
                K 0 σ))) ∧
            (¬ (p1 = 2) →
              K 0 σ))))))) ∧
      (¬ (p1 = 1) →
        ((p1 = 2 →
          ((p0 = 3 →
            K 1 σ) ∧
          (¬ (p0 = 3) →
            K 0 σ))) ∧
        (¬ (p1 = 2) →
          K 0 σ))))))))) : am_Runs PP MLL d m_M_isBelow 0 [some (qi p0), some (qi p1), none] [] σ (kI K) := am_wE_ok 200 (⟨fun c1 => ⟨fun c => absurd c (by decide : ¬ ((1 : Int) = 0)), fun _ => ⟨fun c => absurd c (by decide : ¬ ((1 : Int) = 0)), fun _ => ⟨fun c => absurd c (by decide : ¬ ((1 : Int) = 0)), fun _ => ⟨(Or.inr rfl), (h.1 c1)⟩⟩⟩⟩, fun c1 => ⟨fun _ => ⟨fun c2 => ⟨fun c3 => ⟨fun _ => ⟨fun c4 => ⟨fun c5 => ⟨fun c => absurd c (by decide : ¬ ((1 : Int) = 0)), fun _ => ⟨(Or.inr rfl), (((((h.2 c1).1 c2).1 c3).1 c4).1 c5)⟩⟩, fun c5 => ⟨fun c6 => ⟨fun c => absurd c (by decide : ¬ ((1 : Int) = 0)), fun _ => ⟨(Or.inr rfl), ((((((h.2 c1).1 c2).1 c3).1 c4).2 c5).1 c6)⟩⟩, fun c6 => ⟨fun _ => ⟨fun c7 => ⟨fun c8 => ⟨(Or.inr rfl), ((((((((h.2 c1).1 c2).1 c3).1 c4).2 c5).2 c6).1 c7).1 c8)⟩, fun c8 => ⟨(Or.inl rfl), ((((((((h.2 c1).1 c2).1 c3).1 c4).2 c5).2 c6).1 c7).2 c8)⟩⟩, fun c7 => ⟨(Or.inl rfl), (((((((h.2 c1).1 c2).1 c3).1 c4).2 c5).2 c6).2 c7)⟩⟩, fun c => absurd (by decide : (0 : Int) = 0) c⟩⟩⟩, fun c4 => ⟨fun _ => ⟨fun c9 => ⟨fun c10 => ⟨(Or.inr rfl), ((((((h.2 c1).1 c2).1 c3).2 c4).1 c9).1 c10)⟩, fun c10 => ⟨(Or.inl rfl), ((((((h.2 c1).1 c2).1 c3).2 c4).1 c9).2 c10)⟩⟩, fun c9 => ⟨(Or.inl rfl), (((((h.2 c1).1 c2).1 c3).2 c4).2 c9)⟩⟩, fun c => absurd (by decide : (0 : Int) = 0) c⟩⟩, fun c => absurd (by decide : (0 : Int) = 0) c⟩, fun c3 => ⟨fun c => absurd c (by decide : ¬ ((1 : Int) = 0)), fun _ => ⟨fun c => absurd c (by decide : ¬ ((1 : Int) = 0)), fun _ => ⟨(Or.inr rfl), (((h.2 c1).1 c2).2 c3)⟩⟩⟩⟩, fun c2 => ⟨fun _ => ⟨fun c11 => ⟨fun c12 => ⟨fun c => absurd c (by decide : ¬ ((1 : Int) = 0)), fun _ => ⟨(Or.inr rfl), ((((h.2 c1).2 c2).1 c11).1 c12)⟩⟩, fun c12 => ⟨fun c13 => ⟨fun c => absurd c (by decide : ¬ ((1 : Int) = 0)), fun _ => ⟨(Or.inr rfl), (((((h.2 c1).2 c2).1 c11).2 c12).1 c13)⟩⟩, fun c13 => ⟨fun _ => ⟨fun c14 => ⟨fun c15 => ⟨(Or.inr rfl), (((((((h.2 c1).2 c2).1 c11).2 c12).2 c13).1 c14).1 c15)⟩, fun c15 => ⟨(Or.inl rfl), (((((((h.2 c1).2 c2).1 c11).2 c12).2 c13).1 c14).2 c15)⟩⟩, fun c14 => ⟨(Or.inl rfl), ((((((h.2 c1).2 c2).1 c11).2 c12).2 c13).2 c14)⟩⟩, fun c => absurd (by decide : (0 : Int) = 0) c⟩⟩⟩, fun c11 => ⟨fun _ => ⟨fun c16 => ⟨fun c17 => ⟨(Or.inr rfl), (((((h.2 c1).2 c2).2 c11).1 c16).1 c17)⟩, fun c17 => ⟨(Or.inl rfl), (((((h.2 c1).2 c2).2 c11).1 c16).2 c17)⟩⟩, fun c16 => ⟨(Or.inl rfl), ((((h.2 c1).2 c2).2 c11).2 c16)⟩⟩, fun c => absurd (by decide : (0 : Int) = 0) c⟩⟩, fun c => absurd (by decide : (0 : Int) = 0) c⟩⟩, fun c => absurd (by decide : (0 : Int) = 0) c⟩⟩)

set_option maxRecDepth 20000 in
theorem v_M_is_0 (d : Nat) (p1 p2 : Int) (σ : am_S) (K : Int → am_S → Prop) (hF : MF σ) (h :
  am_Calls PP MLL d m_M_isNumber [qr (31, 12, 89), qi p1] σ (kI fun x1 s1 =>
    MF s1 ∧
    ((x1 = 0 →
      K (-1001) s1) ∧
    (¬ (x1 = 0) →
      am_Calls PP MLL d m_M_in [qi p2, qi 0, qi 6] s1 (kI fun x3 s3 =>
        MF s3 ∧
        ((x3 = 0 →
          K (-1001) s3) ∧
        (¬ (x3 = 0) →
          am_Calls PP MLL d m_M_isThere [qr (31, 12, 89), qi p1] s3 (kI fun x5 s5 =>
            MF s5 ∧
            ((x5 = 0 →
              am_Calls PP MLL d m_M_finds [qr (31, 12, 89), qi p1, qi 1] s5 (kI fun x7 s7 =>
                MF s7 ∧
                K x7 s7)) ∧
            (¬ (x5 = 0) →
              (0 ≤ p1 ∧ p1 < ((12 : Nat) : Int)) ∧
              am_Calls PP MLL d m_M_isBelow [qi (sI s5 41 (Int.toNat p1)), qi p2] s5 (kI fun x8 s8 =>
                MF s8 ∧
                ((x8 = 0 →
                  K 0 s8) ∧
                (¬ (x8 = 0) →
                  K 1 s8))))))))))))) : am_Runs PP MLL d m_M_is 0 [some (qr (31, 12, 89)), some (qi p1), some (qi p2)] [] σ (kI K) := am_wEM_ok 200 hF (⟨rfl, (am_cI h fun x1 s1 h1 => ⟨h1.1, ⟨fun c2 => (h1.2.1 c2), fun c2 => (am_cI (h1.2.2 c2) fun x3 s3 h3 => ⟨h3.1, ⟨fun c4 => (h3.2.1 c4), fun c4 => ⟨rfl, (am_cI (h3.2.2 c4) fun x5 s5 h5 => ⟨h5.1, ⟨fun c6 => ⟨rfl, (am_cI (h5.2.1 c6) fun x7 s7 h7 => ⟨h7.1, h7.2⟩)⟩, fun c6 => ⟨rfl, ⟨⟨rfl, (h5.2.2 c6).1.1, (h5.2.2 c6).1.2⟩, (am_cI (h5.2.2 c6).2 fun x8 s8 h8 => ⟨h8.1, ⟨fun c9 => (h8.2.1 c9), fun c9 => (h8.2.2 c9)⟩⟩)⟩⟩⟩⟩)⟩⟩⟩)⟩⟩)⟩)

set_option maxRecDepth 20000 in
theorem v_M_as_0 (d : Nat) (p1 p2 : Int) (σ : am_S) (K : Int → am_S → Prop) (hF : MF σ) (h :
  am_Calls PP MLL d m_M_isNumber [qr (31, 12, 89), qi p1] σ (kI fun x1 s1 =>
    MF s1 ∧
    ((x1 = 0 →
      K (-1001) s1) ∧
    (¬ (x1 = 0) →
      am_Calls PP MLL d m_M_in [qi p2, qi 0, qi 6] s1 (kI fun x3 s3 =>
        MF s3 ∧
        ((x3 = 0 →
          K (-1001) s3) ∧
        (¬ (x3 = 0) →
          am_Calls PP MLL d m_M_isThere [qr (31, 12, 89), qi p1] s3 (kI fun x5 s5 =>
            MF s5 ∧
            ((x5 = 0 →
              am_Calls PP MLL d m_M_finds [qr (31, 12, 89), qi p1, qi 1] s5 (kI fun x7 s7 =>
                MF s7 ∧
                K x7 s7)) ∧
            (¬ (x5 = 0) →
              (0 ≤ p1 ∧ p1 < ((12 : Nat) : Int)) ∧
              am_Calls PP MLL d m_M_isBelow [qi (sI s5 41 (Int.toNat p1)), qi p2] s5 (kI fun x8 s8 =>
                MF s8 ∧
                ((x8 = 0 →
                  am_Calls PP MLL d m_M_finds [qr (31, 12, 89), qi p1, qi 4] s8 (kI fun x10 s10 =>
                    MF s10 ∧
                    K x10 s10)) ∧
                (¬ (x8 = 0) →
                  K 1 s8))))))))))))) : am_Runs PP MLL d m_M_as 0 [some (qr (31, 12, 89)), some (qi p1), some (qi p2)] [] σ (kI K) := am_wEM_ok 200 hF (⟨rfl, (am_cI h fun x1 s1 h1 => ⟨h1.1, ⟨fun c2 => (h1.2.1 c2), fun c2 => (am_cI (h1.2.2 c2) fun x3 s3 h3 => ⟨h3.1, ⟨fun c4 => (h3.2.1 c4), fun c4 => ⟨rfl, (am_cI (h3.2.2 c4) fun x5 s5 h5 => ⟨h5.1, ⟨fun c6 => ⟨rfl, (am_cI (h5.2.1 c6) fun x7 s7 h7 => ⟨h7.1, h7.2⟩)⟩, fun c6 => ⟨rfl, ⟨⟨rfl, (h5.2.2 c6).1.1, (h5.2.2 c6).1.2⟩, (am_cI (h5.2.2 c6).2 fun x8 s8 h8 => ⟨h8.1, ⟨fun c9 => ⟨rfl, (am_cI (h8.2.1 c9) fun x10 s10 h10 => ⟨h10.1, h10.2⟩)⟩, fun c9 => (h8.2.2 c9)⟩⟩)⟩⟩⟩⟩)⟩⟩⟩)⟩⟩)⟩)

set_option maxRecDepth 20000 in
theorem v_M_ofQueue_0 (d : Nat) (p1 p2 : Int) (σ : am_S) (K : Int → am_S → Prop) (hF : MF σ) (h :
  ((p2 = 0 →
    am_Calls PP MLL d m_M_begins [qr (31, 12, 89), qi 26] σ (kV fun s2 =>
      MF s2 ∧
      am_Runs PP MLL d m_M_ofQueue 11 [some (qr (31, 12, 89)), some (qi p1), some (qi p2), some (qi 0), some (qi 0), none, none] [] s2 (kI K))) ∧
  (¬ (p2 = 0) →
    am_Calls PP MLL d m_M_begins [qr (31, 12, 89), qi 36] σ (kV fun s3 =>
      MF s3 ∧
      am_Runs PP MLL d m_M_ofQueue 11 [some (qr (31, 12, 89)), some (qi p1), some (qi p2), some (qi 0), some (qi 0), none, none] [] s3 (kI K))))) : am_Runs PP MLL d m_M_ofQueue 0 [some (qr (31, 12, 89)), some (qi p1), some (qi p2), none, none, none, none] [] σ (kI K) := am_wEM_ok 200 hF (⟨fun c1 => ⟨rfl, (am_cV (h.1 c1) fun s2 h2 => ⟨h2.1, h2.2⟩)⟩, fun c1 => ⟨rfl, (am_cV (h.2 c1) fun s3 h3 => ⟨h3.1, h3.2⟩)⟩⟩)

set_option maxRecDepth 20000 in
theorem v_M_ofQueue_11 (d : Nat) (p1 p2 v3 v4 : Int) (z5 z6 : Option am_V) (σ : am_S) (K : Int → am_S → Prop) (hF : MF σ) (h :
  (0 ≤ p1 ∧ p1 < ((12 : Nat) : Int)) ∧
  (((sI σ 47 (Int.toNat p1)) ≤ v4 →
    K v3 σ) ∧
  (¬ ((sI σ 47 (Int.toNat p1)) ≤ v4) →
    (0 ≤ (w32 ((w32 (3 * p1)) + v4)) ∧ (w32 ((w32 (3 * p1)) + v4)) < ((36 : Nat) : Int)) ∧
    am_Calls PP MLL d m_M_isThere [qr (31, 12, 89), qi (sI σ 46 (Int.toNat (w32 ((w32 (3 * p1)) + v4))))] σ (kI fun x2 s2 =>
      MF s2 ∧
      ((x2 = 0 →
        K (-1000) s2) ∧
      (¬ (x2 = 0) →
        ((p2 = 0 →
          (0 ≤ (sI σ 46 (Int.toNat (w32 ((w32 (3 * p1)) + v4)))) ∧ (sI σ 46 (Int.toNat (w32 ((w32 (3 * p1)) + v4)))) < ((12 : Nat) : Int)) ∧
          am_Calls PP MLL d m_M_mostOf [qr (31, 12, 89), qi (sI s2 41 (Int.toNat (sI σ 46 (Int.toNat (w32 ((w32 (3 * p1)) + v4))))))] s2 (kI fun x5 s5 =>
            MF s5 ∧
            ((p2 = 0 →
              ((x5 ≤ v3 →
                am_Runs PP MLL d m_M_ofQueue 11 [some (qr (31, 12, 89)), some (qi p1), some (qi p2), some (qi v3), some (qi (w32 (v4 + 1))), some (qi (sI σ 46 (Int.toNat (w32 ((w32 (3 * p1)) + v4))))), some (qi x5)] [] s5 (kI K)) ∧
              (¬ (x5 ≤ v3) →
                am_Runs PP MLL d m_M_ofQueue 11 [some (qr (31, 12, 89)), some (qi p1), some (qi p2), some (qi x5), some (qi (w32 (v4 + 1))), some (qi (sI σ 46 (Int.toNat (w32 ((w32 (3 * p1)) + v4))))), some (qi x5)] [] s5 (kI K)))) ∧
            (¬ (p2 = 0) →
              am_Runs PP MLL d m_M_ofQueue 11 [some (qr (31, 12, 89)), some (qi p1), some (qi p2), some (qi (w32 (v3 + x5))), some (qi (w32 (v4 + 1))), some (qi (sI σ 46 (Int.toNat (w32 ((w32 (3 * p1)) + v4))))), some (qi x5)] [] s5 (kI K))))) ∧
        (¬ (p2 = 0) →
          am_Calls PP MLL d m_M_costOf [qr (31, 12, 89), qi (sI σ 46 (Int.toNat (w32 ((w32 (3 * p1)) + v4))))] s2 (kI fun x8 s8 =>
            MF s8 ∧
            ((p2 = 0 →
              ((x8 ≤ v3 →
                am_Runs PP MLL d m_M_ofQueue 11 [some (qr (31, 12, 89)), some (qi p1), some (qi p2), some (qi v3), some (qi (w32 (v4 + 1))), some (qi (sI σ 46 (Int.toNat (w32 ((w32 (3 * p1)) + v4))))), some (qi x8)] [] s8 (kI K)) ∧
              (¬ (x8 ≤ v3) →
                am_Runs PP MLL d m_M_ofQueue 11 [some (qr (31, 12, 89)), some (qi p1), some (qi p2), some (qi x8), some (qi (w32 (v4 + 1))), some (qi (sI σ 46 (Int.toNat (w32 ((w32 (3 * p1)) + v4))))), some (qi x8)] [] s8 (kI K)))) ∧
            (¬ (p2 = 0) →
              am_Runs PP MLL d m_M_ofQueue 11 [some (qr (31, 12, 89)), some (qi p1), some (qi p2), some (qi (w32 (v3 + x8))), some (qi (w32 (v4 + 1))), some (qi (sI σ 46 (Int.toNat (w32 ((w32 (3 * p1)) + v4))))), some (qi x8)] [] s8 (kI K)))))))))))) : am_Runs PP MLL d m_M_ofQueue 11 [some (qr (31, 12, 89)), some (qi p1), some (qi p2), some (qi v3), some (qi v4), z5, z6] [] σ (kI K) := am_wEM_ok 200 hF (⟨rfl, ⟨⟨rfl, h.1.1, h.1.2⟩, ⟨fun c1 => (h.2.1 c1), fun c1 => ⟨rfl, ⟨⟨rfl, (h.2.2 c1).1.1, (h.2.2 c1).1.2⟩, ⟨rfl, (am_cI (h.2.2 c1).2 fun x2 s2 h2 => ⟨h2.1, ⟨fun c3 => (h2.2.1 c3), fun c3 => ⟨fun c4 => ⟨rfl, ⟨⟨rfl, ((h2.2.2 c3).1 c4).1.1, ((h2.2.2 c3).1 c4).1.2⟩, ⟨rfl, (am_cI ((h2.2.2 c3).1 c4).2 fun x5 s5 h5 => ⟨h5.1, ⟨fun c6 => ⟨fun c7 => ((h5.2.1 c6).1 c7), fun c7 => ((h5.2.1 c6).2 c7)⟩, fun c6 => (h5.2.2 c6)⟩⟩)⟩⟩⟩, fun c4 => ⟨rfl, (am_cI ((h2.2.2 c3).2 c4) fun x8 s8 h8 => ⟨h8.1, ⟨fun c9 => ⟨fun c10 => ((h8.2.1 c9).1 c10), fun c10 => ((h8.2.1 c9).2 c10)⟩, fun c9 => (h8.2.2 c9)⟩⟩)⟩⟩⟩⟩)⟩⟩⟩⟩⟩⟩)

set_option maxRecDepth 20000 in
theorem v_M_trace_0 (d : Nat) (p1 : Int) (σ : am_S) (K : Int → am_S → Prop) (hF : MF σ) (h :
  am_Calls PP MLL d m_M_in [qi p1, qi 0, qi (w32 ((sI σ 31 25) - 1))] σ (kI fun x1 s1 =>
    MF s1 ∧
    ((x1 = 0 →
      K (-1000) s1) ∧
    (¬ (x1 = 0) →
      (0 ≤ p1 ∧ p1 < ((40 : Nat) : Int)) ∧
      K (sI s1 48 (Int.toNat p1)) s1)))) : am_Runs PP MLL d m_M_trace 0 [some (qr (31, 12, 89)), some (qi p1)] [] σ (kI K) := am_wEM_ok 200 hF (⟨rfl, (am_cI h fun x1 s1 h1 => ⟨h1.1, ⟨fun c2 => (h1.2.1 c2), fun c2 => ⟨rfl, ⟨⟨rfl, (h1.2.2 c2).1.1, (h1.2.2 c2).1.2⟩, (h1.2.2 c2).2⟩⟩⟩⟩)⟩)

set_option maxRecDepth 20000 in
theorem v_M_weighFault_0 (d : Nat) (p1 : Int) (σ : am_S) (K : Int → am_S → Prop) (hF : MF σ) (h :
  am_Calls PP MLL d m_M_isThere [qr (31, 12, 89), qi p1] σ (kI fun x1 s1 =>
    MF s1 ∧
    ((x1 = 0 →
      K 1 s1) ∧
    (¬ (x1 = 0) →
      (0 ≤ p1 ∧ p1 < ((12 : Nat) : Int)) ∧
      (((sI s1 41 (Int.toNat p1)) = 6 →
        (sI s1 47 (Int.toNat p1)) ≠ 0 ∧
        (0 ≤ (w32 ((w32 (3 * p1)) + (Int.tmod (sI s1 31 13) (sI s1 47 (Int.toNat p1))))) ∧ (w32 ((w32 (3 * p1)) + (Int.tmod (sI s1 31 13) (sI s1 47 (Int.toNat p1))))) < ((36 : Nat) : Int)) ∧
        let s4 := putI s1 31 28 (sI s1 46 (Int.toNat (w32 ((w32 (3 * p1)) + (Int.tmod (sI s1 31 13) (sI s1 47 (Int.toNat p1)))))));
        am_Calls PP MLL d m_M_isThere [qr (31, 12, 89), qi (sI s4 31 28)] s4 (kI fun x5 s5 =>
          MF s5 ∧
          ((x5 = 0 →
            K 1 s5) ∧
          (¬ (x5 = 0) →
            (0 ≤ (w32 (2 * (sI s5 31 28))) ∧ (w32 (2 * (sI s5 31 28))) < ((24 : Nat) : Int)) ∧
            (0 ≤ (w32 ((w32 (2 * (sI s5 31 28))) + 1)) ∧ (w32 ((w32 (2 * (sI s5 31 28))) + 1)) < ((24 : Nat) : Int)) ∧
            (((sI s5 44 (Int.toNat (w32 (2 * (sI s5 31 28))))) < 0 →
              K 2 s5) ∧
            (¬ ((sI s5 44 (Int.toNat (w32 (2 * (sI s5 31 28))))) < 0) →
              ((0 ≤ (sI s5 44 (Int.toNat (w32 ((w32 (2 * (sI s5 31 28))) + 1)))) →
                am_Calls PP MLL d m_M_lay [qr (31, 12, 89), qi (sI s5 31 28)] s5 (kV fun s9 =>
                  MF s9 ∧
                  (((sI s9 31 30) = 0 →
                    (((sI s9 31 31) = (sI s9 31 32) →
                      (((sI s9 31 31) = 0 →
                        K (-1002) s9) ∧
                      (¬ ((sI s9 31 31) = 0) →
                        K 0 s9))) ∧
                    (¬ ((sI s9 31 31) = (sI s9 31 32)) →
                      K (-1002) s9))) ∧
                  (¬ ((sI s9 31 30) = 0) →
                    K (-1002) s9)))) ∧
              (¬ (0 ≤ (sI s5 44 (Int.toNat (w32 ((w32 (2 * (sI s5 31 28))) + 1))))) →
                K 2 s5)))))))) ∧
      (¬ ((sI s1 41 (Int.toNat p1)) = 6) →
        let s13 := putI s1 31 28 p1;
        am_Calls PP MLL d m_M_isThere [qr (31, 12, 89), qi (sI s13 31 28)] s13 (kI fun x14 s14 =>
          MF s14 ∧
          ((x14 = 0 →
            K 1 s14) ∧
          (¬ (x14 = 0) →
            (0 ≤ (w32 (2 * (sI s14 31 28))) ∧ (w32 (2 * (sI s14 31 28))) < ((24 : Nat) : Int)) ∧
            (0 ≤ (w32 ((w32 (2 * (sI s14 31 28))) + 1)) ∧ (w32 ((w32 (2 * (sI s14 31 28))) + 1)) < ((24 : Nat) : Int)) ∧
            (((sI s14 44 (Int.toNat (w32 (2 * (sI s14 31 28))))) < 0 →
              K 2 s14) ∧
            (¬ ((sI s14 44 (Int.toNat (w32 (2 * (sI s14 31 28))))) < 0) →
              ((0 ≤ (sI s14 44 (Int.toNat (w32 ((w32 (2 * (sI s14 31 28))) + 1)))) →
                am_Calls PP MLL d m_M_lay [qr (31, 12, 89), qi (sI s14 31 28)] s14 (kV fun s18 =>
                  MF s18 ∧
                  (((sI s18 31 30) = 0 →
                    (((sI s18 31 31) = (sI s18 31 32) →
                      (((sI s18 31 31) = 0 →
                        K (-1002) s18) ∧
                      (¬ ((sI s18 31 31) = 0) →
                        K 0 s18))) ∧
                    (¬ ((sI s18 31 31) = (sI s18 31 32)) →
                      K (-1002) s18))) ∧
                  (¬ ((sI s18 31 30) = 0) →
                    K (-1002) s18)))) ∧
              (¬ (0 ≤ (sI s14 44 (Int.toNat (w32 ((w32 (2 * (sI s14 31 28))) + 1))))) →
                K 2 s14))))))))))))) : am_Runs PP MLL d m_M_weighFault 0 [some (qr (31, 12, 89)), some (qi p1), none, none] [] σ (kI K) := am_wEM_ok 200 hF (⟨rfl, (am_cI h fun x1 s1 h1 => ⟨h1.1, ⟨fun c2 => (h1.2.1 c2), fun c2 => ⟨rfl, ⟨⟨rfl, (h1.2.2 c2).1.1, (h1.2.2 c2).1.2⟩, ⟨fun c3 => ⟨rfl, ⟨rfl, ⟨rfl, ⟨⟨rfl, (h1.2.2 c2).1.1, (h1.2.2 c2).1.2⟩, ⟨((h1.2.2 c2).2.1 c3).1, ⟨⟨rfl, ((h1.2.2 c2).2.1 c3).2.1.1, ((h1.2.2 c2).2.1 c3).2.1.2⟩, ⟨rfl, ⟨rfl, ⟨rfl, (am_cI ((h1.2.2 c2).2.1 c3).2.2 fun x5 s5 h5 => ⟨h5.1, ⟨fun c6 => (h5.2.1 c6), fun c6 => ⟨rfl, ⟨rfl, ⟨⟨rfl, (h5.2.2 c6).1.1, (h5.2.2 c6).1.2⟩, ⟨rfl, ⟨rfl, ⟨⟨rfl, (h5.2.2 c6).2.1.1, (h5.2.2 c6).2.1.2⟩, ⟨fun c7 => ((h5.2.2 c6).2.2.1 c7), fun c7 => ⟨fun c8 => ⟨rfl, ⟨rfl, (am_cV (((h5.2.2 c6).2.2.2 c7).1 c8) fun s9 h9 => ⟨h9.1, ⟨rfl, ⟨fun c10 => ⟨rfl, ⟨rfl, ⟨fun c11 => ⟨rfl, ⟨fun c12 => (((h9.2.1 c10).1 c11).1 c12), fun c12 => (((h9.2.1 c10).1 c11).2 c12)⟩⟩, fun c11 => ((h9.2.1 c10).2 c11)⟩⟩⟩, fun c10 => (h9.2.2 c10)⟩⟩⟩)⟩⟩, fun c8 => (((h5.2.2 c6).2.2.2 c7).2 c8)⟩⟩⟩⟩⟩⟩⟩⟩⟩⟩)⟩⟩⟩⟩⟩⟩⟩⟩⟩, fun c3 => ⟨rfl, ⟨rfl, ⟨rfl, (am_cI ((h1.2.2 c2).2.2 c3) fun x14 s14 h14 => ⟨h14.1, ⟨fun c15 => (h14.2.1 c15), fun c15 => ⟨rfl, ⟨rfl, ⟨⟨rfl, (h14.2.2 c15).1.1, (h14.2.2 c15).1.2⟩, ⟨rfl, ⟨rfl, ⟨⟨rfl, (h14.2.2 c15).2.1.1, (h14.2.2 c15).2.1.2⟩, ⟨fun c16 => ((h14.2.2 c15).2.2.1 c16), fun c16 => ⟨fun c17 => ⟨rfl, ⟨rfl, (am_cV (((h14.2.2 c15).2.2.2 c16).1 c17) fun s18 h18 => ⟨h18.1, ⟨rfl, ⟨fun c19 => ⟨rfl, ⟨rfl, ⟨fun c20 => ⟨rfl, ⟨fun c21 => (((h18.2.1 c19).1 c20).1 c21), fun c21 => (((h18.2.1 c19).1 c20).2 c21)⟩⟩, fun c20 => ((h18.2.1 c19).2 c20)⟩⟩⟩, fun c19 => (h18.2.2 c19)⟩⟩⟩)⟩⟩, fun c17 => (((h14.2.2 c15).2.2.2 c16).2 c17)⟩⟩⟩⟩⟩⟩⟩⟩⟩⟩)⟩⟩⟩⟩⟩⟩⟩⟩)⟩)

set_option maxRecDepth 20000 in
theorem v_M_lay_0 (d : Nat) (p1 : Int) (σ : am_S) (K : am_S → Prop) (hF : MF σ) (h :
  am_Runs PP MLL d m_M_lay 2 [some (qr (31, 12, 89)), some (qi p1), some (qi 0), none, none] [] σ (kV K)) : am_Runs PP MLL d m_M_lay 0 [some (qr (31, 12, 89)), some (qi p1), none, none, none] [] σ (kV K) := am_wEM_ok 200 hF (h)

set_option maxRecDepth 20000 in
theorem v_M_lay_2 (d : Nat) (p1 v2 : Int) (z3 z4 : Option am_V) (σ : am_S) (K : am_S → Prop) (hF : MF σ) (h :
  ((40 ≤ v2 →
    let s2 := putI σ 31 30 0;
    let s3 := putI s2 31 31 0;
    let s4 := putI s3 31 32 0;
    am_Runs PP MLL d m_M_lay 23 [some (qr (31, 12, 89)), some (qi p1), some (qi 0), z3, z4] [] s4 (kV K)) ∧
  (¬ (40 ≤ v2) →
    (0 ≤ v2 ∧ v2 < ((40 : Nat) : Int)) ∧
    let s5 := putI σ 50 (Int.toNat v2) 0;
    am_Runs PP MLL d m_M_lay 2 [some (qr (31, 12, 89)), some (qi p1), some (qi (w32 (v2 + 1))), z3, z4] [] s5 (kV K)))) : am_Runs PP MLL d m_M_lay 2 [some (qr (31, 12, 89)), some (qi p1), some (qi v2), z3, z4] [] σ (kV K) := am_wEM_ok 200 hF (⟨fun c1 => ⟨⟨rfl, (Or.inl rfl)⟩, ⟨rfl, ⟨rfl, (h.1 c1)⟩⟩⟩, fun c1 => ⟨rfl, ⟨⟨rfl, (h.2 c1).1.1, (h.2 c1).1.2⟩, (h.2 c1).2⟩⟩⟩)

set_option maxRecDepth 20000 in
theorem v_M_lay_23 (d : Nat) (p1 v2 : Int) (z3 z4 : Option am_V) (σ : am_S) (K : am_S → Prop) (hF : MF σ) (h :
  ((2 ≤ v2 →
    K σ) ∧
  (¬ (2 ≤ v2) →
    am_Runs PP MLL d m_M_lay 28 [some (qr (31, 12, 89)), some (qi p1), some (qi v2), some (qi 0), z4] [] σ (kV K)))) : am_Runs PP MLL d m_M_lay 23 [some (qr (31, 12, 89)), some (qi p1), some (qi v2), z3, z4] [] σ (kV K) := am_wEM_ok 200 hF (⟨fun c1 => (h.1 c1), fun c1 => (h.2 c1)⟩)

set_option maxRecDepth 20000 in
theorem v_M_lay_28 (d : Nat) (p1 v2 v3 : Int) (z4 : Option am_V) (σ : am_S) (K : am_S → Prop) (hF : MF σ) (h :
  (0 ≤ (w32 ((w32 (2 * p1)) + v2)) ∧ (w32 ((w32 (2 * p1)) + v2)) < ((24 : Nat) : Int)) ∧
  (((sI σ 44 (Int.toNat (w32 ((w32 (2 * p1)) + v2)))) ≤ v3 →
    am_Runs PP MLL d m_M_lay 23 [some (qr (31, 12, 89)), some (qi p1), some (qi (w32 (v2 + 1))), some (qi v3), z4] [] σ (kV K)) ∧
  (¬ ((sI σ 44 (Int.toNat (w32 ((w32 (2 * p1)) + v2)))) ≤ v3) →
    (0 ≤ (w32 ((w32 (20 * (w32 ((w32 (2 * p1)) + v2)))) + v3)) ∧ (w32 ((w32 (20 * (w32 ((w32 (2 * p1)) + v2)))) + v3)) < ((480 : Nat) : Int)) ∧
    (((sI σ 45 (Int.toNat (w32 ((w32 (20 * (w32 ((w32 (2 * p1)) + v2)))) + v3)))) < 0 →
      am_Runs PP MLL d m_M_lay 28 [some (qr (31, 12, 89)), some (qi p1), some (qi v2), some (qi (w32 (v3 + 1))), some (qi (sI σ 45 (Int.toNat (w32 ((w32 (20 * (w32 ((w32 (2 * p1)) + v2)))) + v3)))))] [] σ (kV K)) ∧
    (¬ ((sI σ 45 (Int.toNat (w32 ((w32 (20 * (w32 ((w32 (2 * p1)) + v2)))) + v3)))) < 0) →
      (((sI σ 31 30) = 0 →
        (0 ≤ (sI σ 45 (Int.toNat (w32 ((w32 (20 * (w32 ((w32 (2 * p1)) + v2)))) + v3)))) ∧ (sI σ 45 (Int.toNat (w32 ((w32 (20 * (w32 ((w32 (2 * p1)) + v2)))) + v3)))) < ((40 : Nat) : Int)) ∧
        (((sI σ 50 (Int.toNat (sI σ 45 (Int.toNat (w32 ((w32 (20 * (w32 ((w32 (2 * p1)) + v2)))) + v3)))))) = 0 →
          let s5 := putI σ 31 30 0;
          ((v2 = 0 →
            let s7 := putI s5 50 (Int.toNat (sI σ 45 (Int.toNat (w32 ((w32 (20 * (w32 ((w32 (2 * p1)) + v2)))) + v3))))) 1;
            ((v2 = 0 →
              let s9 := putI s7 31 31 (w32 ((sI s7 31 31) + 1));
              ((v2 = 1 →
                let s11 := putI s9 31 32 (w32 ((sI s9 31 32) + 1));
                am_Runs PP MLL d m_M_lay 28 [some (qr (31, 12, 89)), some (qi p1), some (qi v2), some (qi (w32 (v3 + 1))), some (qi (sI σ 45 (Int.toNat (w32 ((w32 (20 * (w32 ((w32 (2 * p1)) + v2)))) + v3)))))] [] s11 (kV K)) ∧
              (¬ (v2 = 1) →
                let s12 := putI s9 31 32 (w32 ((sI s9 31 32) + 0));
                am_Runs PP MLL d m_M_lay 28 [some (qr (31, 12, 89)), some (qi p1), some (qi v2), some (qi (w32 (v3 + 1))), some (qi (sI σ 45 (Int.toNat (w32 ((w32 (20 * (w32 ((w32 (2 * p1)) + v2)))) + v3)))))] [] s12 (kV K)))) ∧
            (¬ (v2 = 0) →
              let s13 := putI s7 31 31 (w32 ((sI s7 31 31) + 0));
              ((v2 = 1 →
                let s15 := putI s13 31 32 (w32 ((sI s13 31 32) + 1));
                am_Runs PP MLL d m_M_lay 28 [some (qr (31, 12, 89)), some (qi p1), some (qi v2), some (qi (w32 (v3 + 1))), some (qi (sI σ 45 (Int.toNat (w32 ((w32 (20 * (w32 ((w32 (2 * p1)) + v2)))) + v3)))))] [] s15 (kV K)) ∧
              (¬ (v2 = 1) →
                let s16 := putI s13 31 32 (w32 ((sI s13 31 32) + 0));
                am_Runs PP MLL d m_M_lay 28 [some (qr (31, 12, 89)), some (qi p1), some (qi v2), some (qi (w32 (v3 + 1))), some (qi (sI σ 45 (Int.toNat (w32 ((w32 (20 * (w32 ((w32 (2 * p1)) + v2)))) + v3)))))] [] s16 (kV K)))))) ∧
          (¬ (v2 = 0) →
            let s17 := putI s5 50 (Int.toNat (sI σ 45 (Int.toNat (w32 ((w32 (20 * (w32 ((w32 (2 * p1)) + v2)))) + v3))))) (-1);
            ((v2 = 0 →
              let s19 := putI s17 31 31 (w32 ((sI s17 31 31) + 1));
              ((v2 = 1 →
                let s21 := putI s19 31 32 (w32 ((sI s19 31 32) + 1));
                am_Runs PP MLL d m_M_lay 28 [some (qr (31, 12, 89)), some (qi p1), some (qi v2), some (qi (w32 (v3 + 1))), some (qi (sI σ 45 (Int.toNat (w32 ((w32 (20 * (w32 ((w32 (2 * p1)) + v2)))) + v3)))))] [] s21 (kV K)) ∧
              (¬ (v2 = 1) →
                let s22 := putI s19 31 32 (w32 ((sI s19 31 32) + 0));
                am_Runs PP MLL d m_M_lay 28 [some (qr (31, 12, 89)), some (qi p1), some (qi v2), some (qi (w32 (v3 + 1))), some (qi (sI σ 45 (Int.toNat (w32 ((w32 (20 * (w32 ((w32 (2 * p1)) + v2)))) + v3)))))] [] s22 (kV K)))) ∧
            (¬ (v2 = 0) →
              let s23 := putI s17 31 31 (w32 ((sI s17 31 31) + 0));
              ((v2 = 1 →
                let s25 := putI s23 31 32 (w32 ((sI s23 31 32) + 1));
                am_Runs PP MLL d m_M_lay 28 [some (qr (31, 12, 89)), some (qi p1), some (qi v2), some (qi (w32 (v3 + 1))), some (qi (sI σ 45 (Int.toNat (w32 ((w32 (20 * (w32 ((w32 (2 * p1)) + v2)))) + v3)))))] [] s25 (kV K)) ∧
              (¬ (v2 = 1) →
                let s26 := putI s23 31 32 (w32 ((sI s23 31 32) + 0));
                am_Runs PP MLL d m_M_lay 28 [some (qr (31, 12, 89)), some (qi p1), some (qi v2), some (qi (w32 (v3 + 1))), some (qi (sI σ 45 (Int.toNat (w32 ((w32 (20 * (w32 ((w32 (2 * p1)) + v2)))) + v3)))))] [] s26 (kV K)))))))) ∧
        (¬ ((sI σ 50 (Int.toNat (sI σ 45 (Int.toNat (w32 ((w32 (20 * (w32 ((w32 (2 * p1)) + v2)))) + v3)))))) = 0) →
          let s27 := putI σ 31 30 1;
          ((v2 = 0 →
            let s29 := putI s27 50 (Int.toNat (sI σ 45 (Int.toNat (w32 ((w32 (20 * (w32 ((w32 (2 * p1)) + v2)))) + v3))))) 1;
            ((v2 = 0 →
              let s31 := putI s29 31 31 (w32 ((sI s29 31 31) + 1));
              ((v2 = 1 →
                let s33 := putI s31 31 32 (w32 ((sI s31 31 32) + 1));
                am_Runs PP MLL d m_M_lay 28 [some (qr (31, 12, 89)), some (qi p1), some (qi v2), some (qi (w32 (v3 + 1))), some (qi (sI σ 45 (Int.toNat (w32 ((w32 (20 * (w32 ((w32 (2 * p1)) + v2)))) + v3)))))] [] s33 (kV K)) ∧
              (¬ (v2 = 1) →
                let s34 := putI s31 31 32 (w32 ((sI s31 31 32) + 0));
                am_Runs PP MLL d m_M_lay 28 [some (qr (31, 12, 89)), some (qi p1), some (qi v2), some (qi (w32 (v3 + 1))), some (qi (sI σ 45 (Int.toNat (w32 ((w32 (20 * (w32 ((w32 (2 * p1)) + v2)))) + v3)))))] [] s34 (kV K)))) ∧
            (¬ (v2 = 0) →
              let s35 := putI s29 31 31 (w32 ((sI s29 31 31) + 0));
              ((v2 = 1 →
                let s37 := putI s35 31 32 (w32 ((sI s35 31 32) + 1));
                am_Runs PP MLL d m_M_lay 28 [some (qr (31, 12, 89)), some (qi p1), some (qi v2), some (qi (w32 (v3 + 1))), some (qi (sI σ 45 (Int.toNat (w32 ((w32 (20 * (w32 ((w32 (2 * p1)) + v2)))) + v3)))))] [] s37 (kV K)) ∧
              (¬ (v2 = 1) →
                let s38 := putI s35 31 32 (w32 ((sI s35 31 32) + 0));
                am_Runs PP MLL d m_M_lay 28 [some (qr (31, 12, 89)), some (qi p1), some (qi v2), some (qi (w32 (v3 + 1))), some (qi (sI σ 45 (Int.toNat (w32 ((w32 (20 * (w32 ((w32 (2 * p1)) + v2)))) + v3)))))] [] s38 (kV K)))))) ∧
          (¬ (v2 = 0) →
            let s39 := putI s27 50 (Int.toNat (sI σ 45 (Int.toNat (w32 ((w32 (20 * (w32 ((w32 (2 * p1)) + v2)))) + v3))))) (-1);
            ((v2 = 0 →
              let s41 := putI s39 31 31 (w32 ((sI s39 31 31) + 1));
              ((v2 = 1 →
                let s43 := putI s41 31 32 (w32 ((sI s41 31 32) + 1));
                am_Runs PP MLL d m_M_lay 28 [some (qr (31, 12, 89)), some (qi p1), some (qi v2), some (qi (w32 (v3 + 1))), some (qi (sI σ 45 (Int.toNat (w32 ((w32 (20 * (w32 ((w32 (2 * p1)) + v2)))) + v3)))))] [] s43 (kV K)) ∧
              (¬ (v2 = 1) →
                let s44 := putI s41 31 32 (w32 ((sI s41 31 32) + 0));
                am_Runs PP MLL d m_M_lay 28 [some (qr (31, 12, 89)), some (qi p1), some (qi v2), some (qi (w32 (v3 + 1))), some (qi (sI σ 45 (Int.toNat (w32 ((w32 (20 * (w32 ((w32 (2 * p1)) + v2)))) + v3)))))] [] s44 (kV K)))) ∧
            (¬ (v2 = 0) →
              let s45 := putI s39 31 31 (w32 ((sI s39 31 31) + 0));
              ((v2 = 1 →
                let s47 := putI s45 31 32 (w32 ((sI s45 31 32) + 1));
                am_Runs PP MLL d m_M_lay 28 [some (qr (31, 12, 89)), some (qi p1), some (qi v2), some (qi (w32 (v3 + 1))), some (qi (sI σ 45 (Int.toNat (w32 ((w32 (20 * (w32 ((w32 (2 * p1)) + v2)))) + v3)))))] [] s47 (kV K)) ∧
              (¬ (v2 = 1) →
                let s48 := putI s45 31 32 (w32 ((sI s45 31 32) + 0));
                am_Runs PP MLL d m_M_lay 28 [some (qr (31, 12, 89)), some (qi p1), some (qi v2), some (qi (w32 (v3 + 1))), some (qi (sI σ 45 (Int.toNat (w32 ((w32 (20 * (w32 ((w32 (2 * p1)) + v2)))) + v3)))))] [] s48 (kV K)))))))))) ∧
      (¬ ((sI σ 31 30) = 0) →
        let s49 := putI σ 31 30 1;
        ((v2 = 0 →
          (0 ≤ (sI σ 45 (Int.toNat (w32 ((w32 (20 * (w32 ((w32 (2 * p1)) + v2)))) + v3)))) ∧ (sI σ 45 (Int.toNat (w32 ((w32 (20 * (w32 ((w32 (2 * p1)) + v2)))) + v3)))) < ((40 : Nat) : Int)) ∧
          let s51 := putI s49 50 (Int.toNat (sI σ 45 (Int.toNat (w32 ((w32 (20 * (w32 ((w32 (2 * p1)) + v2)))) + v3))))) 1;
          ((v2 = 0 →
            let s53 := putI s51 31 31 (w32 ((sI s51 31 31) + 1));
            ((v2 = 1 →
              let s55 := putI s53 31 32 (w32 ((sI s53 31 32) + 1));
              am_Runs PP MLL d m_M_lay 28 [some (qr (31, 12, 89)), some (qi p1), some (qi v2), some (qi (w32 (v3 + 1))), some (qi (sI σ 45 (Int.toNat (w32 ((w32 (20 * (w32 ((w32 (2 * p1)) + v2)))) + v3)))))] [] s55 (kV K)) ∧
            (¬ (v2 = 1) →
              let s56 := putI s53 31 32 (w32 ((sI s53 31 32) + 0));
              am_Runs PP MLL d m_M_lay 28 [some (qr (31, 12, 89)), some (qi p1), some (qi v2), some (qi (w32 (v3 + 1))), some (qi (sI σ 45 (Int.toNat (w32 ((w32 (20 * (w32 ((w32 (2 * p1)) + v2)))) + v3)))))] [] s56 (kV K)))) ∧
          (¬ (v2 = 0) →
            let s57 := putI s51 31 31 (w32 ((sI s51 31 31) + 0));
            ((v2 = 1 →
              let s59 := putI s57 31 32 (w32 ((sI s57 31 32) + 1));
              am_Runs PP MLL d m_M_lay 28 [some (qr (31, 12, 89)), some (qi p1), some (qi v2), some (qi (w32 (v3 + 1))), some (qi (sI σ 45 (Int.toNat (w32 ((w32 (20 * (w32 ((w32 (2 * p1)) + v2)))) + v3)))))] [] s59 (kV K)) ∧
            (¬ (v2 = 1) →
              let s60 := putI s57 31 32 (w32 ((sI s57 31 32) + 0));
              am_Runs PP MLL d m_M_lay 28 [some (qr (31, 12, 89)), some (qi p1), some (qi v2), some (qi (w32 (v3 + 1))), some (qi (sI σ 45 (Int.toNat (w32 ((w32 (20 * (w32 ((w32 (2 * p1)) + v2)))) + v3)))))] [] s60 (kV K)))))) ∧
        (¬ (v2 = 0) →
          (0 ≤ (sI σ 45 (Int.toNat (w32 ((w32 (20 * (w32 ((w32 (2 * p1)) + v2)))) + v3)))) ∧ (sI σ 45 (Int.toNat (w32 ((w32 (20 * (w32 ((w32 (2 * p1)) + v2)))) + v3)))) < ((40 : Nat) : Int)) ∧
          let s61 := putI s49 50 (Int.toNat (sI σ 45 (Int.toNat (w32 ((w32 (20 * (w32 ((w32 (2 * p1)) + v2)))) + v3))))) (-1);
          ((v2 = 0 →
            let s63 := putI s61 31 31 (w32 ((sI s61 31 31) + 1));
            ((v2 = 1 →
              let s65 := putI s63 31 32 (w32 ((sI s63 31 32) + 1));
              am_Runs PP MLL d m_M_lay 28 [some (qr (31, 12, 89)), some (qi p1), some (qi v2), some (qi (w32 (v3 + 1))), some (qi (sI σ 45 (Int.toNat (w32 ((w32 (20 * (w32 ((w32 (2 * p1)) + v2)))) + v3)))))] [] s65 (kV K)) ∧
            (¬ (v2 = 1) →
              let s66 := putI s63 31 32 (w32 ((sI s63 31 32) + 0));
              am_Runs PP MLL d m_M_lay 28 [some (qr (31, 12, 89)), some (qi p1), some (qi v2), some (qi (w32 (v3 + 1))), some (qi (sI σ 45 (Int.toNat (w32 ((w32 (20 * (w32 ((w32 (2 * p1)) + v2)))) + v3)))))] [] s66 (kV K)))) ∧
          (¬ (v2 = 0) →
            let s67 := putI s61 31 31 (w32 ((sI s61 31 31) + 0));
            ((v2 = 1 →
              let s69 := putI s67 31 32 (w32 ((sI s67 31 32) + 1));
              am_Runs PP MLL d m_M_lay 28 [some (qr (31, 12, 89)), some (qi p1), some (qi v2), some (qi (w32 (v3 + 1))), some (qi (sI σ 45 (Int.toNat (w32 ((w32 (20 * (w32 ((w32 (2 * p1)) + v2)))) + v3)))))] [] s69 (kV K)) ∧
            (¬ (v2 = 1) →
              let s70 := putI s67 31 32 (w32 ((sI s67 31 32) + 0));
              am_Runs PP MLL d m_M_lay 28 [some (qr (31, 12, 89)), some (qi p1), some (qi v2), some (qi (w32 (v3 + 1))), some (qi (sI σ 45 (Int.toNat (w32 ((w32 (20 * (w32 ((w32 (2 * p1)) + v2)))) + v3)))))] [] s70 (kV K)))))))))))))) : am_Runs PP MLL d m_M_lay 28 [some (qr (31, 12, 89)), some (qi p1), some (qi v2), some (qi v3), z4] [] σ (kV K) := am_wEM_ok 200 hF (⟨rfl, ⟨⟨rfl, h.1.1, h.1.2⟩, ⟨fun c1 => (h.2.1 c1), fun c1 => ⟨rfl, ⟨⟨rfl, (h.2.2 c1).1.1, (h.2.2 c1).1.2⟩, ⟨fun c2 => ((h.2.2 c1).2.1 c2), fun c2 => ⟨rfl, ⟨fun c3 => ⟨rfl, ⟨⟨rfl, (((h.2.2 c1).2.2 c2).1 c3).1.1, (((h.2.2 c1).2.2 c2).1 c3).1.2⟩, ⟨fun c4 => ⟨⟨rfl, (Or.inl rfl)⟩, ⟨rfl, ⟨fun c6 => ⟨⟨rfl, (((h.2.2 c1).2.2 c2).1 c3).1.1, (((h.2.2 c1).2.2 c2).1 c3).1.2⟩, ⟨rfl, ⟨fun c8 => ⟨rfl, ⟨rfl, ⟨fun c10 => ⟨rfl, (((((((h.2.2 c1).2.2 c2).1 c3).2.1 c4).1 c6).1 c8).1 c10)⟩, fun c10 => ⟨rfl, (((((((h.2.2 c1).2.2 c2).1 c3).2.1 c4).1 c6).1 c8).2 c10)⟩⟩⟩⟩, fun c8 => ⟨rfl, ⟨rfl, ⟨fun c14 => ⟨rfl, (((((((h.2.2 c1).2.2 c2).1 c3).2.1 c4).1 c6).2 c8).1 c14)⟩, fun c14 => ⟨rfl, (((((((h.2.2 c1).2.2 c2).1 c3).2.1 c4).1 c6).2 c8).2 c14)⟩⟩⟩⟩⟩⟩⟩, fun c6 => ⟨⟨rfl, (((h.2.2 c1).2.2 c2).1 c3).1.1, (((h.2.2 c1).2.2 c2).1 c3).1.2⟩, ⟨rfl, ⟨fun c18 => ⟨rfl, ⟨rfl, ⟨fun c20 => ⟨rfl, (((((((h.2.2 c1).2.2 c2).1 c3).2.1 c4).2 c6).1 c18).1 c20)⟩, fun c20 => ⟨rfl, (((((((h.2.2 c1).2.2 c2).1 c3).2.1 c4).2 c6).1 c18).2 c20)⟩⟩⟩⟩, fun c18 => ⟨rfl, ⟨rfl, ⟨fun c24 => ⟨rfl, (((((((h.2.2 c1).2.2 c2).1 c3).2.1 c4).2 c6).2 c18).1 c24)⟩, fun c24 => ⟨rfl, (((((((h.2.2 c1).2.2 c2).1 c3).2.1 c4).2 c6).2 c18).2 c24)⟩⟩⟩⟩⟩⟩⟩⟩⟩⟩, fun c4 => ⟨⟨rfl, (Or.inr rfl)⟩, ⟨rfl, ⟨fun c28 => ⟨⟨rfl, (((h.2.2 c1).2.2 c2).1 c3).1.1, (((h.2.2 c1).2.2 c2).1 c3).1.2⟩, ⟨rfl, ⟨fun c30 => ⟨rfl, ⟨rfl, ⟨fun c32 => ⟨rfl, (((((((h.2.2 c1).2.2 c2).1 c3).2.2 c4).1 c28).1 c30).1 c32)⟩, fun c32 => ⟨rfl, (((((((h.2.2 c1).2.2 c2).1 c3).2.2 c4).1 c28).1 c30).2 c32)⟩⟩⟩⟩, fun c30 => ⟨rfl, ⟨rfl, ⟨fun c36 => ⟨rfl, (((((((h.2.2 c1).2.2 c2).1 c3).2.2 c4).1 c28).2 c30).1 c36)⟩, fun c36 => ⟨rfl, (((((((h.2.2 c1).2.2 c2).1 c3).2.2 c4).1 c28).2 c30).2 c36)⟩⟩⟩⟩⟩⟩⟩, fun c28 => ⟨⟨rfl, (((h.2.2 c1).2.2 c2).1 c3).1.1, (((h.2.2 c1).2.2 c2).1 c3).1.2⟩, ⟨rfl, ⟨fun c40 => ⟨rfl, ⟨rfl, ⟨fun c42 => ⟨rfl, (((((((h.2.2 c1).2.2 c2).1 c3).2.2 c4).2 c28).1 c40).1 c42)⟩, fun c42 => ⟨rfl, (((((((h.2.2 c1).2.2 c2).1 c3).2.2 c4).2 c28).1 c40).2 c42)⟩⟩⟩⟩, fun c40 => ⟨rfl, ⟨rfl, ⟨fun c46 => ⟨rfl, (((((((h.2.2 c1).2.2 c2).1 c3).2.2 c4).2 c28).2 c40).1 c46)⟩, fun c46 => ⟨rfl, (((((((h.2.2 c1).2.2 c2).1 c3).2.2 c4).2 c28).2 c40).2 c46)⟩⟩⟩⟩⟩⟩⟩⟩⟩⟩⟩⟩⟩, fun c3 => ⟨⟨rfl, (Or.inr rfl)⟩, ⟨rfl, ⟨fun c50 => ⟨⟨rfl, ((((h.2.2 c1).2.2 c2).2 c3).1 c50).1.1, ((((h.2.2 c1).2.2 c2).2 c3).1 c50).1.2⟩, ⟨rfl, ⟨fun c52 => ⟨rfl, ⟨rfl, ⟨fun c54 => ⟨rfl, ((((((h.2.2 c1).2.2 c2).2 c3).1 c50).2.1 c52).1 c54)⟩, fun c54 => ⟨rfl, ((((((h.2.2 c1).2.2 c2).2 c3).1 c50).2.1 c52).2 c54)⟩⟩⟩⟩, fun c52 => ⟨rfl, ⟨rfl, ⟨fun c58 => ⟨rfl, ((((((h.2.2 c1).2.2 c2).2 c3).1 c50).2.2 c52).1 c58)⟩, fun c58 => ⟨rfl, ((((((h.2.2 c1).2.2 c2).2 c3).1 c50).2.2 c52).2 c58)⟩⟩⟩⟩⟩⟩⟩, fun c50 => ⟨⟨rfl, ((((h.2.2 c1).2.2 c2).2 c3).2 c50).1.1, ((((h.2.2 c1).2.2 c2).2 c3).2 c50).1.2⟩, ⟨rfl, ⟨fun c62 => ⟨rfl, ⟨rfl, ⟨fun c64 => ⟨rfl, ((((((h.2.2 c1).2.2 c2).2 c3).2 c50).2.1 c62).1 c64)⟩, fun c64 => ⟨rfl, ((((((h.2.2 c1).2.2 c2).2 c3).2 c50).2.1 c62).2 c64)⟩⟩⟩⟩, fun c62 => ⟨rfl, ⟨rfl, ⟨fun c68 => ⟨rfl, ((((((h.2.2 c1).2.2 c2).2 c3).2 c50).2.2 c62).1 c68)⟩, fun c68 => ⟨rfl, ((((((h.2.2 c1).2.2 c2).2 c3).2 c50).2.2 c62).2 c68)⟩⟩⟩⟩⟩⟩⟩⟩⟩⟩⟩⟩⟩⟩⟩⟩⟩⟩)

set_option maxRecDepth 20000 in
theorem v_M_difference_0 (d : Nat) (p1 : Int) (σ : am_S) (K : Int → am_S → Prop) (hF : MF σ) (h :
  am_Runs PP MLL d m_M_difference 4 [some (qr (31, 12, 89)), some (qi p1), some (qi 0), some (qi 0)] [] σ (kI K)) : am_Runs PP MLL d m_M_difference 0 [some (qr (31, 12, 89)), some (qi p1), none, none] [] σ (kI K) := am_wEM_ok 200 hF (h)

set_option maxRecDepth 20000 in
theorem v_M_difference_4 (d : Nat) (p1 v2 v3 : Int) (σ : am_S) (K : Int → am_S → Prop) (hF : MF σ) (h :
  (0 ≤ p1 ∧ p1 < ((10000 : Nat) : Int)) ∧
  (((sI σ 33 (Int.toNat p1)) ≤ v3 →
    K v2 σ) ∧
  (¬ ((sI σ 33 (Int.toNat p1)) ≤ v3) →
    (0 ≤ (w32 ((w32 (3 * p1)) + v3)) ∧ (w32 ((w32 (3 * p1)) + v3)) < ((30000 : Nat) : Int)) ∧
    (0 ≤ (sI σ 34 (Int.toNat (w32 ((w32 (3 * p1)) + v3)))) ∧ (sI σ 34 (Int.toNat (w32 ((w32 (3 * p1)) + v3)))) < ((40 : Nat) : Int)) ∧
    am_Runs PP MLL d m_M_difference 4 [some (qr (31, 12, 89)), some (qi p1), some (qi (w32 (v2 + (w32 ((sI σ 50 (Int.toNat (sI σ 34 (Int.toNat (w32 ((w32 (3 * p1)) + v3)))))) * (sI σ 35 (Int.toNat (w32 ((w32 (3 * p1)) + v3))))))))), some (qi (w32 (v3 + 1)))] [] σ (kI K)))) : am_Runs PP MLL d m_M_difference 4 [some (qr (31, 12, 89)), some (qi p1), some (qi v2), some (qi v3)] [] σ (kI K) := am_wEM_ok 200 hF (⟨rfl, ⟨⟨rfl, h.1.1, h.1.2⟩, ⟨fun c1 => (h.2.1 c1), fun c1 => ⟨rfl, ⟨rfl, ⟨⟨rfl, (h.2.2 c1).1.1, (h.2.2 c1).1.2⟩, ⟨⟨rfl, (h.2.2 c1).2.1.1, (h.2.2 c1).2.1.2⟩, ⟨rfl, ⟨⟨rfl, (h.2.2 c1).1.1, (h.2.2 c1).1.2⟩, (h.2.2 c1).2.2⟩⟩⟩⟩⟩⟩⟩⟩⟩)

set_option maxRecDepth 20000 in
theorem v_M_fits_0 (d : Nat) (p1 p2 p3 p4 : Int) (σ : am_S) (K : Int → am_S → Prop) (hF : MF σ) (h :
  am_Calls PP MLL d m_M_tells [qr (31, 12, 89), qi p1, qi p2] σ (kI fun x1 s1 =>
    MF s1 ∧
    ((x1 = p3 →
      K 1 s1) ∧
    (¬ (x1 = p3) →
      ((p1 = 5 →
        am_Calls PP MLL d m_M_in [qi p3, qi (-1), qi 1] s1 (kI fun x4 s4 =>
          MF s4 ∧
          ((x4 = 0 →
            K 0 s4) ∧
          (¬ (x4 = 0) →
            (((sI s4 31 4) ≤ p4 →
              K 0 s4) ∧
            (¬ ((sI s4 31 4) ≤ p4) →
              K 2 s4)))))) ∧
      (¬ (p1 = 5) →
        K 0 s1)))))) : am_Runs PP MLL d m_M_fits 0 [some (qr (31, 12, 89)), some (qi p1), some (qi p2), some (qi p3), some (qi p4)] [] σ (kI K) := am_wEM_ok 200 hF (⟨rfl, (am_cI h fun x1 s1 h1 => ⟨h1.1, ⟨fun c2 => (h1.2.1 c2), fun c2 => ⟨fun c3 => (am_cI ((h1.2.2 c2).1 c3) fun x4 s4 h4 => ⟨h4.1, ⟨fun c5 => (h4.2.1 c5), fun c5 => ⟨rfl, ⟨fun c6 => ((h4.2.2 c5).1 c6), fun c6 => ((h4.2.2 c5).2 c6)⟩⟩⟩⟩), fun c3 => ((h1.2.2 c2).2 c3)⟩⟩⟩)⟩)

set_option maxRecDepth 20000 in
theorem v_M_weigh_0 (d : Nat) (p1 p2 : Int) (σ : am_S) (K : Int → am_S → Prop) (hF : MF σ) (h :
  am_Calls PP MLL d m_M_isNumber [qr (31, 12, 89), qi p1] σ (kI fun x1 s1 =>
    MF s1 ∧
    ((x1 = 0 →
      K (-1001) s1) ∧
    (¬ (x1 = 0) →
      am_Calls PP MLL d m_M_in [qi p2, qi (-3), qi 3] s1 (kI fun x3 s3 =>
        MF s3 ∧
        ((x3 = 0 →
          K (-1001) s3) ∧
        (¬ (x3 = 0) →
          (((sI s3 31 2) = 0 →
            K (-1002) s3) ∧
          (¬ ((sI s3 31 2) = 0) →
            am_Calls PP MLL d m_M_weighFault [qr (31, 12, 89), qi p1] s3 (kI fun x6 s6 =>
              MF s6 ∧
              ((x6 ≤ 0 →
                ((0 ≤ x6 →
                  (((sI s6 31 13) = 30 →
                    K (-1003) s6) ∧
                  (¬ ((sI s6 31 13) = 30) →
                    (0 ≤ (sI s6 31 28) ∧ (sI s6 31 28) < ((12 : Nat) : Int)) ∧
                    am_Runs PP MLL d m_M_weigh 45 [some (qr (31, 12, 89)), some (qi p1), some (qi p2), some (qi x6), some (qi (sI s6 41 (Int.toNat (sI s6 31 28)))), some (qi 0), none] [] s6 (kI K)))) ∧
                (¬ (0 ≤ x6) →
                  K (-1002) s6))) ∧
              (¬ (x6 ≤ 0) →
                am_Calls PP MLL d m_M_finds [qr (31, 12, 89), qi p1, qi x6] s6 (kI fun x10 s10 =>
                  MF s10 ∧
                  K x10 s10))))))))))))) : am_Runs PP MLL d m_M_weigh 0 [some (qr (31, 12, 89)), some (qi p1), some (qi p2), none, none, none, none] [] σ (kI K) := am_wEM_ok 200 hF (⟨rfl, (am_cI h fun x1 s1 h1 => ⟨h1.1, ⟨fun c2 => (h1.2.1 c2), fun c2 => (am_cI (h1.2.2 c2) fun x3 s3 h3 => ⟨h3.1, ⟨fun c4 => (h3.2.1 c4), fun c4 => ⟨rfl, ⟨fun c5 => ((h3.2.2 c4).1 c5), fun c5 => ⟨rfl, (am_cI ((h3.2.2 c4).2 c5) fun x6 s6 h6 => ⟨h6.1, ⟨fun c7 => ⟨fun c8 => ⟨rfl, ⟨fun c9 => (((h6.2.1 c7).1 c8).1 c9), fun c9 => ⟨rfl, ⟨rfl, ⟨⟨rfl, (((h6.2.1 c7).1 c8).2 c9).1.1, (((h6.2.1 c7).1 c8).2 c9).1.2⟩, (((h6.2.1 c7).1 c8).2 c9).2⟩⟩⟩⟩⟩, fun c8 => ((h6.2.1 c7).2 c8)⟩, fun c7 => ⟨rfl, (am_cI (h6.2.2 c7) fun x10 s10 h10 => ⟨h10.1, h10.2⟩)⟩⟩⟩)⟩⟩⟩⟩⟩)⟩⟩)⟩)

set_option maxRecDepth 20000 in
theorem v_M_weigh_45 (d : Nat) (p1 p2 v4 v5 : Int) (z3 z6 : Option am_V) (σ : am_S) (K : Int → am_S → Prop) (hF : MF σ) (h :
  (((sI σ 31 5) ≤ v5 →
    let s2 := putI σ 31 13 (w32 ((sI σ 31 13) + 1));
    (0 ≤ (sI s2 31 28) ∧ (sI s2 31 28) < ((12 : Nat) : Int)) ∧
    let s3 := putI s2 42 (Int.toNat (sI s2 31 28)) (w32 ((sI s2 42 (Int.toNat (sI s2 31 28))) + 1));
    (0 ≤ p1 ∧ p1 < ((12 : Nat) : Int)) ∧
    (((sI s3 31 28) = p1 →
      let s5 := putI s3 42 (Int.toNat p1) (w32 ((sI s3 42 (Int.toNat p1)) + 0));
      am_Calls PP MLL d m_M_endSearch [qr (31, 12, 89)] s5 (kV fun s6 =>
        MF s6 ∧
        am_Calls PP MLL d m_M_left [qr (31, 12, 89)] s6 (kI fun x7 s7 =>
          MF s7 ∧
          K x7 s7))) ∧
    (¬ ((sI s3 31 28) = p1) →
      let s8 := putI s3 42 (Int.toNat p1) (w32 ((sI s3 42 (Int.toNat p1)) + 1));
      am_Calls PP MLL d m_M_endSearch [qr (31, 12, 89)] s8 (kV fun s9 =>
        MF s9 ∧
        am_Calls PP MLL d m_M_left [qr (31, 12, 89)] s9 (kI fun x10 s10 =>
          MF s10 ∧
          K x10 s10))))) ∧
  (¬ ((sI σ 31 5) ≤ v5) →
    am_Calls PP MLL d m_M_isLeft [qr (31, 12, 89), qi v5] σ (kI fun x11 s11 =>
      MF s11 ∧
      ((x11 = 0 →
        (0 ≤ v5 ∧ v5 < ((10000 : Nat) : Int)) ∧
        let s13 := putI s11 37 (Int.toNat v5) (sI s11 37 (Int.toNat v5));
        let s14 := putI s13 36 (Int.toNat v5) (w32 ((sI s13 36 (Int.toNat v5)) + 0));
        let s15 := putI s14 38 (Int.toNat v5) (a_or (sI s14 38 (Int.toNat v5)) 0);
        am_Runs PP MLL d m_M_weigh 45 [some (qr (31, 12, 89)), some (qi p1), some (qi p2), z3, some (qi v4), some (qi (w32 (v5 + 1))), some (qi 1)] [] s15 (kI K)) ∧
      (¬ (x11 = 0) →
        am_Calls PP MLL d m_M_difference [qr (31, 12, 89), qi v5] s11 (kI fun x16 s16 =>
          MF s16 ∧
          (0 ≤ v5 ∧ v5 < ((10000 : Nat) : Int)) ∧
          am_Calls PP MLL d m_M_fits [qr (31, 12, 89), qi v4, qi x16, qi p2, qi (sI s16 36 (Int.toNat v5))] s16 (kI fun x17 s17 =>
            MF s17 ∧
            ((x17 = 0 →
              let s19 := putI s17 37 (Int.toNat v5) (sI s17 31 13);
              ((x17 = 2 →
                let s21 := putI s19 36 (Int.toNat v5) (w32 ((sI s19 36 (Int.toNat v5)) + 1));
                ((x17 = 2 →
                  let s23 := putI s21 38 (Int.toNat v5) (a_or (sI s21 38 (Int.toNat v5)) (a_shl 1 (sI s21 31 13)));
                  am_Runs PP MLL d m_M_weigh 45 [some (qr (31, 12, 89)), some (qi p1), some (qi p2), z3, some (qi v4), some (qi (w32 (v5 + 1))), some (qi x17)] [] s23 (kI K)) ∧
                (¬ (x17 = 2) →
                  let s24 := putI s21 38 (Int.toNat v5) (a_or (sI s21 38 (Int.toNat v5)) 0);
                  am_Runs PP MLL d m_M_weigh 45 [some (qr (31, 12, 89)), some (qi p1), some (qi p2), z3, some (qi v4), some (qi (w32 (v5 + 1))), some (qi x17)] [] s24 (kI K)))) ∧
              (¬ (x17 = 2) →
                let s25 := putI s19 36 (Int.toNat v5) (w32 ((sI s19 36 (Int.toNat v5)) + 0));
                ((x17 = 2 →
                  let s27 := putI s25 38 (Int.toNat v5) (a_or (sI s25 38 (Int.toNat v5)) (a_shl 1 (sI s25 31 13)));
                  am_Runs PP MLL d m_M_weigh 45 [some (qr (31, 12, 89)), some (qi p1), some (qi p2), z3, some (qi v4), some (qi (w32 (v5 + 1))), some (qi x17)] [] s27 (kI K)) ∧
                (¬ (x17 = 2) →
                  let s28 := putI s25 38 (Int.toNat v5) (a_or (sI s25 38 (Int.toNat v5)) 0);
                  am_Runs PP MLL d m_M_weigh 45 [some (qr (31, 12, 89)), some (qi p1), some (qi p2), z3, some (qi v4), some (qi (w32 (v5 + 1))), some (qi x17)] [] s28 (kI K)))))) ∧
            (¬ (x17 = 0) →
              let s29 := putI s17 37 (Int.toNat v5) (sI s17 37 (Int.toNat v5));
              ((x17 = 2 →
                let s31 := putI s29 36 (Int.toNat v5) (w32 ((sI s29 36 (Int.toNat v5)) + 1));
                ((x17 = 2 →
                  let s33 := putI s31 38 (Int.toNat v5) (a_or (sI s31 38 (Int.toNat v5)) (a_shl 1 (sI s31 31 13)));
                  am_Runs PP MLL d m_M_weigh 45 [some (qr (31, 12, 89)), some (qi p1), some (qi p2), z3, some (qi v4), some (qi (w32 (v5 + 1))), some (qi x17)] [] s33 (kI K)) ∧
                (¬ (x17 = 2) →
                  let s34 := putI s31 38 (Int.toNat v5) (a_or (sI s31 38 (Int.toNat v5)) 0);
                  am_Runs PP MLL d m_M_weigh 45 [some (qr (31, 12, 89)), some (qi p1), some (qi p2), z3, some (qi v4), some (qi (w32 (v5 + 1))), some (qi x17)] [] s34 (kI K)))) ∧
              (¬ (x17 = 2) →
                let s35 := putI s29 36 (Int.toNat v5) (w32 ((sI s29 36 (Int.toNat v5)) + 0));
                ((x17 = 2 →
                  let s37 := putI s35 38 (Int.toNat v5) (a_or (sI s35 38 (Int.toNat v5)) (a_shl 1 (sI s35 31 13)));
                  am_Runs PP MLL d m_M_weigh 45 [some (qr (31, 12, 89)), some (qi p1), some (qi p2), z3, some (qi v4), some (qi (w32 (v5 + 1))), some (qi x17)] [] s37 (kI K)) ∧
                (¬ (x17 = 2) →
                  let s38 := putI s35 38 (Int.toNat v5) (a_or (sI s35 38 (Int.toNat v5)) 0);
                  am_Runs PP MLL d m_M_weigh 45 [some (qr (31, 12, 89)), some (qi p1), some (qi p2), z3, some (qi v4), some (qi (w32 (v5 + 1))), some (qi x17)] [] s38 (kI K))))))))))))))) : am_Runs PP MLL d m_M_weigh 45 [some (qr (31, 12, 89)), some (qi p1), some (qi p2), z3, some (qi v4), some (qi v5), z6] [] σ (kI K) := am_wEM_ok 200 hF (⟨rfl, ⟨fun c1 => ⟨rfl, ⟨rfl, ⟨rfl, ⟨rfl, ⟨⟨rfl, (h.1 c1).1.1, (h.1 c1).1.2⟩, ⟨⟨rfl, (h.1 c1).1.1, (h.1 c1).1.2⟩, ⟨rfl, ⟨⟨rfl, (h.1 c1).2.1.1, (h.1 c1).2.1.2⟩, ⟨rfl, ⟨fun c4 => ⟨⟨rfl, (h.1 c1).2.1.1, (h.1 c1).2.1.2⟩, ⟨rfl, (am_cV ((h.1 c1).2.2.1 c4) fun s6 h6 => ⟨h6.1, ⟨rfl, (am_cI h6.2 fun x7 s7 h7 => ⟨h7.1, h7.2⟩)⟩⟩)⟩⟩, fun c4 => ⟨⟨rfl, (h.1 c1).2.1.1, (h.1 c1).2.1.2⟩, ⟨rfl, (am_cV ((h.1 c1).2.2.2 c4) fun s9 h9 => ⟨h9.1, ⟨rfl, (am_cI h9.2 fun x10 s10 h10 => ⟨h10.1, h10.2⟩)⟩⟩)⟩⟩⟩⟩⟩⟩⟩⟩⟩⟩⟩⟩, fun c1 => ⟨rfl, (am_cI (h.2 c1) fun x11 s11 h11 => ⟨h11.1, ⟨fun c12 => ⟨rfl, ⟨fun c => absurd c (by decide : ¬ ((1 : Int) = 0)), fun _ => ⟨rfl, ⟨⟨rfl, (h11.2.1 c12).1.1, (h11.2.1 c12).1.2⟩, ⟨⟨rfl, (h11.2.1 c12).1.1, (h11.2.1 c12).1.2⟩, ⟨rfl, ⟨⟨rfl, (h11.2.1 c12).1.1, (h11.2.1 c12).1.2⟩, ⟨fun c => absurd c (by decide : ¬ ((1 : Int) = 2)), fun _ => ⟨⟨rfl, (h11.2.1 c12).1.1, (h11.2.1 c12).1.2⟩, ⟨rfl, ⟨⟨rfl, (h11.2.1 c12).1.1, (h11.2.1 c12).1.2⟩, ⟨fun c => absurd c (by decide : ¬ ((1 : Int) = 2)), fun _ => ⟨⟨rfl, (h11.2.1 c12).1.1, (h11.2.1 c12).1.2⟩, (h11.2.1 c12).2⟩⟩⟩⟩⟩⟩⟩⟩⟩⟩⟩⟩⟩, fun c12 => ⟨rfl, (am_cI (h11.2.2 c12) fun x16 s16 h16 => ⟨h16.1, ⟨rfl, ⟨⟨rfl, h16.2.1.1, h16.2.1.2⟩, ⟨rfl, (am_cI h16.2.2 fun x17 s17 h17 => ⟨h17.1, ⟨rfl, ⟨fun c18 => ⟨rfl, ⟨⟨rfl, h16.2.1.1, h16.2.1.2⟩, ⟨rfl, ⟨⟨rfl, h16.2.1.1, h16.2.1.2⟩, ⟨fun c20 => ⟨⟨rfl, h16.2.1.1, h16.2.1.2⟩, ⟨rfl, ⟨⟨rfl, h16.2.1.1, h16.2.1.2⟩, ⟨fun c22 => ⟨rfl, ⟨⟨rfl, h16.2.1.1, h16.2.1.2⟩, (((h17.2.1 c18).1 c20).1 c22)⟩⟩, fun c22 => ⟨⟨rfl, h16.2.1.1, h16.2.1.2⟩, (((h17.2.1 c18).1 c20).2 c22)⟩⟩⟩⟩⟩, fun c20 => ⟨⟨rfl, h16.2.1.1, h16.2.1.2⟩, ⟨rfl, ⟨⟨rfl, h16.2.1.1, h16.2.1.2⟩, ⟨fun c26 => ⟨rfl, ⟨⟨rfl, h16.2.1.1, h16.2.1.2⟩, (((h17.2.1 c18).2 c20).1 c26)⟩⟩, fun c26 => ⟨⟨rfl, h16.2.1.1, h16.2.1.2⟩, (((h17.2.1 c18).2 c20).2 c26)⟩⟩⟩⟩⟩⟩⟩⟩⟩⟩, fun c18 => ⟨rfl, ⟨⟨rfl, h16.2.1.1, h16.2.1.2⟩, ⟨⟨rfl, h16.2.1.1, h16.2.1.2⟩, ⟨rfl, ⟨⟨rfl, h16.2.1.1, h16.2.1.2⟩, ⟨fun c30 => ⟨⟨rfl, h16.2.1.1, h16.2.1.2⟩, ⟨rfl, ⟨⟨rfl, h16.2.1.1, h16.2.1.2⟩, ⟨fun c32 => ⟨rfl, ⟨⟨rfl, h16.2.1.1, h16.2.1.2⟩, (((h17.2.2 c18).1 c30).1 c32)⟩⟩, fun c32 => ⟨⟨rfl, h16.2.1.1, h16.2.1.2⟩, (((h17.2.2 c18).1 c30).2 c32)⟩⟩⟩⟩⟩, fun c30 => ⟨⟨rfl, h16.2.1.1, h16.2.1.2⟩, ⟨rfl, ⟨⟨rfl, h16.2.1.1, h16.2.1.2⟩, ⟨fun c36 => ⟨rfl, ⟨⟨rfl, h16.2.1.1, h16.2.1.2⟩, (((h17.2.2 c18).2 c30).1 c36)⟩⟩, fun c36 => ⟨⟨rfl, h16.2.1.1, h16.2.1.2⟩, (((h17.2.2 c18).2 c30).2 c36)⟩⟩⟩⟩⟩⟩⟩⟩⟩⟩⟩⟩⟩⟩)⟩⟩⟩⟩)⟩⟩⟩)⟩⟩⟩)

set_option maxRecDepth 20000 in
theorem v_M_parts_0 (d : Nat) (p1 p2 : Int) (σ : am_S) (K : Int → am_S → Prop) (hF : MF σ) (h :
  am_Calls PP MLL d m_M_isNumber [qr (31, 12, 89), qi p1] σ (kI fun x1 s1 =>
    MF s1 ∧
    ((x1 = 0 →
      K (-1001) s1) ∧
    (¬ (x1 = 0) →
      am_Calls PP MLL d m_M_in [qi p2, qi (-3), qi 3] s1 (kI fun x3 s3 =>
        MF s3 ∧
        ((x3 = 0 →
          K (-1001) s3) ∧
        (¬ (x3 = 0) →
          (((sI s3 31 2) = 0 →
            K (-1002) s3) ∧
          (¬ ((sI s3 31 2) = 0) →
            am_Calls PP MLL d m_M_weighFault [qr (31, 12, 89), qi p1] s3 (kI fun x6 s6 =>
              MF s6 ∧
              ((x6 ≤ 0 →
                ((0 ≤ x6 →
                  am_Runs PP MLL d m_M_parts 35 [some (qr (31, 12, 89)), some (qi p1), some (qi p2), some (qi x6), some (qi 0), some (qi 0)] [] s6 (kI K)) ∧
                (¬ (0 ≤ x6) →
                  K (-1002) s6))) ∧
              (¬ (x6 ≤ 0) →
                am_Calls PP MLL d m_M_finds [qr (31, 12, 89), qi p1, qi x6] s6 (kI fun x9 s9 =>
                  MF s9 ∧
                  K x9 s9))))))))))))) : am_Runs PP MLL d m_M_parts 0 [some (qr (31, 12, 89)), some (qi p1), some (qi p2), none, none, none] [] σ (kI K) := am_wEM_ok 200 hF (⟨rfl, (am_cI h fun x1 s1 h1 => ⟨h1.1, ⟨fun c2 => (h1.2.1 c2), fun c2 => (am_cI (h1.2.2 c2) fun x3 s3 h3 => ⟨h3.1, ⟨fun c4 => (h3.2.1 c4), fun c4 => ⟨rfl, ⟨fun c5 => ((h3.2.2 c4).1 c5), fun c5 => ⟨rfl, (am_cI ((h3.2.2 c4).2 c5) fun x6 s6 h6 => ⟨h6.1, ⟨fun c7 => ⟨fun c8 => ((h6.2.1 c7).1 c8), fun c8 => ((h6.2.1 c7).2 c8)⟩, fun c7 => ⟨rfl, (am_cI (h6.2.2 c7) fun x9 s9 h9 => ⟨h9.1, h9.2⟩)⟩⟩⟩)⟩⟩⟩⟩⟩)⟩⟩)⟩)

set_option maxRecDepth 20000 in
theorem v_M_parts_35 (d : Nat) (p2 v4 v5 : Int) (z1 z3 : Option am_V) (σ : am_S) (K : Int → am_S → Prop) (hF : MF σ) (h :
  (((sI σ 31 5) ≤ v5 →
    K v4 σ) ∧
  (¬ ((sI σ 31 5) ≤ v5) →
    am_Calls PP MLL d m_M_isLeft [qr (31, 12, 89), qi v5] σ (kI fun x2 s2 =>
      MF s2 ∧
      ((x2 = 0 →
        am_Runs PP MLL d m_M_parts 35 [some (qr (31, 12, 89)), z1, some (qi p2), (am_cl z3), some (qi (w32 (v4 + 0))), some (qi (w32 (v5 + 1)))] [] s2 (kI K)) ∧
      (¬ (x2 = 0) →
        (0 ≤ (sI s2 31 28) ∧ (sI s2 31 28) < ((12 : Nat) : Int)) ∧
        am_Calls PP MLL d m_M_difference [qr (31, 12, 89), qi v5] s2 (kI fun x4 s4 =>
          MF s4 ∧
          (0 ≤ v5 ∧ v5 < ((10000 : Nat) : Int)) ∧
          am_Calls PP MLL d m_M_fits [qr (31, 12, 89), qi (sI s2 41 (Int.toNat (sI s2 31 28))), qi x4, qi p2, qi (sI s4 36 (Int.toNat v5))] s4 (kI fun x5 s5 =>
            MF s5 ∧
            ((x5 ≤ 0 →
              am_Runs PP MLL d m_M_parts 35 [some (qr (31, 12, 89)), z1, some (qi p2), (am_cl z3), some (qi (w32 (v4 + 0))), some (qi (w32 (v5 + 1)))] [] s5 (kI K)) ∧
            (¬ (x5 ≤ 0) →
              am_Runs PP MLL d m_M_parts 35 [some (qr (31, 12, 89)), z1, some (qi p2), (am_cl z3), some (qi (w32 (v4 + 1))), some (qi (w32 (v5 + 1)))] [] s5 (kI K))))))))))) : am_Runs PP MLL d m_M_parts 35 [some (qr (31, 12, 89)), z1, some (qi p2), z3, some (qi v4), some (qi v5)] [] σ (kI K) := am_wEM_ok 200 hF (⟨rfl, ⟨fun c1 => (h.1 c1), fun c1 => ⟨rfl, (am_cI (h.2 c1) fun x2 s2 h2 => ⟨h2.1, ⟨fun c3 => (h2.2.1 c3), fun c3 => ⟨rfl, ⟨rfl, ⟨⟨rfl, (h2.2.2 c3).1.1, (h2.2.2 c3).1.2⟩, ⟨rfl, (am_cI (h2.2.2 c3).2 fun x4 s4 h4 => ⟨h4.1, ⟨rfl, ⟨⟨rfl, h4.2.1.1, h4.2.1.2⟩, ⟨rfl, (am_cI h4.2.2 fun x5 s5 h5 => ⟨h5.1, ⟨fun c6 => (h5.2.1 c6), fun c6 => (h5.2.2 c6)⟩⟩)⟩⟩⟩⟩)⟩⟩⟩⟩⟩⟩)⟩⟩⟩)

set_option maxRecDepth 20000 in
theorem v_M_undo_0 (d : Nat) (σ : am_S) (K : Int → am_S → Prop) (hF : MF σ) (h :
  (((sI σ 31 13) = 0 →
    K (-1002) σ) ∧
  (¬ ((sI σ 31 13) = 0) →
    let s2 := putI σ 31 13 (w32 ((sI σ 31 13) - 1));
    am_Runs PP MLL d m_M_undo 13 [some (qr (31, 12, 89)), some (qi 0)] [] s2 (kI K)))) : am_Runs PP MLL d m_M_undo 0 [some (qr (31, 12, 89)), none] [] σ (kI K) := am_wEM_ok 200 hF (⟨rfl, ⟨fun c1 => (h.1 c1), fun c1 => ⟨rfl, ⟨rfl, (h.2 c1)⟩⟩⟩⟩)

set_option maxRecDepth 20000 in
theorem v_M_undo_13 (d : Nat) (v1 : Int) (σ : am_S) (K : Int → am_S → Prop) (hF : MF σ) (h :
  (((sI σ 31 5) ≤ v1 →
    am_Calls PP MLL d m_M_endSearch [qr (31, 12, 89)] σ (kV fun s2 =>
      MF s2 ∧
      am_Calls PP MLL d m_M_left [qr (31, 12, 89)] s2 (kI fun x3 s3 =>
        MF s3 ∧
        K x3 s3))) ∧
  (¬ ((sI σ 31 5) ≤ v1) →
    (0 ≤ v1 ∧ v1 < ((10000 : Nat) : Int)) ∧
    (((sI σ 37 (Int.toNat v1)) = (sI σ 31 13) →
      let s5 := putI σ 37 (Int.toNat v1) (-1);
      (((a_and (a_shr (sI s5 38 (Int.toNat v1)) (sI s5 31 13)) 1) = 1 →
        let s7 := putI s5 38 (Int.toNat v1) (a_xor (sI s5 38 (Int.toNat v1)) (a_shl 1 (sI s5 31 13)));
        let s8 := putI s7 36 (Int.toNat v1) (w32 ((sI s7 36 (Int.toNat v1)) - 1));
        am_Runs PP MLL d m_M_undo 13 [some (qr (31, 12, 89)), some (qi (w32 (v1 + 1)))] [] s8 (kI K)) ∧
      (¬ ((a_and (a_shr (sI s5 38 (Int.toNat v1)) (sI s5 31 13)) 1) = 1) →
        am_Runs PP MLL d m_M_undo 13 [some (qr (31, 12, 89)), some (qi (w32 (v1 + 1)))] [] s5 (kI K)))) ∧
    (¬ ((sI σ 37 (Int.toNat v1)) = (sI σ 31 13)) →
      let s9 := putI σ 37 (Int.toNat v1) (sI σ 37 (Int.toNat v1));
      (((a_and (a_shr (sI s9 38 (Int.toNat v1)) (sI s9 31 13)) 1) = 1 →
        let s11 := putI s9 38 (Int.toNat v1) (a_xor (sI s9 38 (Int.toNat v1)) (a_shl 1 (sI s9 31 13)));
        let s12 := putI s11 36 (Int.toNat v1) (w32 ((sI s11 36 (Int.toNat v1)) - 1));
        am_Runs PP MLL d m_M_undo 13 [some (qr (31, 12, 89)), some (qi (w32 (v1 + 1)))] [] s12 (kI K)) ∧
      (¬ ((a_and (a_shr (sI s9 38 (Int.toNat v1)) (sI s9 31 13)) 1) = 1) →
        am_Runs PP MLL d m_M_undo 13 [some (qr (31, 12, 89)), some (qi (w32 (v1 + 1)))] [] s9 (kI K)))))))) : am_Runs PP MLL d m_M_undo 13 [some (qr (31, 12, 89)), some (qi v1)] [] σ (kI K) := am_wEM_ok 200 hF (⟨rfl, ⟨fun c1 => ⟨rfl, (am_cV (h.1 c1) fun s2 h2 => ⟨h2.1, ⟨rfl, (am_cI h2.2 fun x3 s3 h3 => ⟨h3.1, h3.2⟩)⟩⟩)⟩, fun c1 => ⟨rfl, ⟨rfl, ⟨⟨rfl, (h.2 c1).1.1, (h.2 c1).1.2⟩, ⟨rfl, ⟨fun c4 => ⟨⟨rfl, (h.2 c1).1.1, (h.2 c1).1.2⟩, ⟨rfl, ⟨⟨rfl, (h.2 c1).1.1, (h.2 c1).1.2⟩, ⟨rfl, ⟨fun c6 => ⟨rfl, ⟨⟨rfl, (h.2 c1).1.1, (h.2 c1).1.2⟩, ⟨rfl, ⟨⟨rfl, (h.2 c1).1.1, (h.2 c1).1.2⟩, ⟨rfl, ⟨⟨rfl, (h.2 c1).1.1, (h.2 c1).1.2⟩, ⟨⟨rfl, (h.2 c1).1.1, (h.2 c1).1.2⟩, (((h.2 c1).2.1 c4).1 c6)⟩⟩⟩⟩⟩⟩⟩, fun c6 => (((h.2 c1).2.1 c4).2 c6)⟩⟩⟩⟩⟩, fun c4 => ⟨rfl, ⟨⟨rfl, (h.2 c1).1.1, (h.2 c1).1.2⟩, ⟨⟨rfl, (h.2 c1).1.1, (h.2 c1).1.2⟩, ⟨rfl, ⟨⟨rfl, (h.2 c1).1.1, (h.2 c1).1.2⟩, ⟨rfl, ⟨fun c10 => ⟨rfl, ⟨⟨rfl, (h.2 c1).1.1, (h.2 c1).1.2⟩, ⟨rfl, ⟨⟨rfl, (h.2 c1).1.1, (h.2 c1).1.2⟩, ⟨rfl, ⟨⟨rfl, (h.2 c1).1.1, (h.2 c1).1.2⟩, ⟨⟨rfl, (h.2 c1).1.1, (h.2 c1).1.2⟩, (((h.2 c1).2.2 c4).1 c10)⟩⟩⟩⟩⟩⟩⟩, fun c10 => (((h.2 c1).2.2 c4).2 c10)⟩⟩⟩⟩⟩⟩⟩⟩⟩⟩⟩⟩⟩⟩)

set_option maxRecDepth 20000 in
theorem v_M_endSearch_0 (d : Nat) (σ : am_S) (K : am_S → Prop) (hF : MF σ) (h :
  let s1 := putI σ 31 33 0;
  let s2 := putI s1 31 34 0;
  let s3 := putI s2 31 35 (-1000);
  let s4 := putI s3 31 37 0;
  let s5 := putI s4 31 73 0;
  let s6 := putI s5 31 76 0;
  let s7 := putI s6 31 77 0;
  let s8 := putI s7 31 78 0;
  K s8) : am_Runs PP MLL d m_M_endSearch 0 [some (qr (31, 12, 89))] [] σ (kV K) := am_wEM_ok 200 hF (⟨⟨rfl, (Or.inl rfl)⟩, ⟨⟨rfl, (Or.inl rfl)⟩, ⟨rfl, ⟨rfl, ⟨rfl, ⟨rfl, ⟨⟨rfl, (Or.inl rfl)⟩, ⟨⟨rfl, (Or.inl rfl)⟩, h⟩⟩⟩⟩⟩⟩⟩⟩)

set_option maxRecDepth 20000 in
theorem v_M_weighsAt_0 (d : Nat) (p1 : Int) (σ : am_S) (K : Int → am_S → Prop) (hF : MF σ) (h :
  (0 ≤ (sI σ 31 36) ∧ (sI σ 31 36) < ((12 : Nat) : Int)) ∧
  (((sI σ 41 (Int.toNat (sI σ 31 36))) = 6 →
    (sI σ 47 (Int.toNat (sI σ 31 36))) ≠ 0 ∧
    (0 ≤ (w32 ((w32 (3 * (sI σ 31 36))) + (Int.tmod p1 (sI σ 47 (Int.toNat (sI σ 31 36)))))) ∧ (w32 ((w32 (3 * (sI σ 31 36))) + (Int.tmod p1 (sI σ 47 (Int.toNat (sI σ 31 36)))))) < ((36 : Nat) : Int)) ∧
    K (sI σ 46 (Int.toNat (w32 ((w32 (3 * (sI σ 31 36))) + (Int.tmod p1 (sI σ 47 (Int.toNat (sI σ 31 36)))))))) σ) ∧
  (¬ ((sI σ 41 (Int.toNat (sI σ 31 36))) = 6) →
    K (sI σ 31 36) σ))) : am_Runs PP MLL d m_M_weighsAt 0 [some (qr (31, 12, 89)), some (qi p1)] [] σ (kI K) := am_wEM_ok 200 hF (⟨rfl, ⟨rfl, ⟨⟨rfl, h.1.1, h.1.2⟩, ⟨fun c1 => ⟨rfl, ⟨rfl, ⟨rfl, ⟨rfl, ⟨⟨rfl, h.1.1, h.1.2⟩, ⟨(h.2.1 c1).1, ⟨⟨rfl, (h.2.1 c1).2.1.1, (h.2.1 c1).2.1.2⟩, (h.2.1 c1).2.2⟩⟩⟩⟩⟩⟩⟩, fun c1 => ⟨rfl, (h.2.2 c1)⟩⟩⟩⟩⟩)

set_option maxRecDepth 20000 in
theorem v_M_ownMost_0 (d : Nat) (σ : am_S) (K : Int → am_S → Prop) (hF : MF σ) (h :
  (0 ≤ (sI σ 31 36) ∧ (sI σ 31 36) < ((12 : Nat) : Int)) ∧
  (((sI σ 41 (Int.toNat (sI σ 31 36))) = 6 →
    am_Runs PP MLL d m_M_ownMost 19 [some (qr (31, 12, 89)), some (qi 0), some (qi (sI σ 47 (Int.toNat (sI σ 31 36)))), some (qi 0), none] [] σ (kI K)) ∧
  (¬ ((sI σ 41 (Int.toNat (sI σ 31 36))) = 6) →
    am_Runs PP MLL d m_M_ownMost 19 [some (qr (31, 12, 89)), some (qi 0), some (qi 1), some (qi 0), none] [] σ (kI K)))) : am_Runs PP MLL d m_M_ownMost 0 [some (qr (31, 12, 89)), none, none, none, none] [] σ (kI K) := am_wEM_ok 200 hF (⟨rfl, ⟨rfl, ⟨⟨rfl, h.1.1, h.1.2⟩, ⟨fun c1 => ⟨rfl, ⟨rfl, ⟨⟨rfl, h.1.1, h.1.2⟩, (h.2.1 c1)⟩⟩⟩, fun c1 => (h.2.2 c1)⟩⟩⟩⟩)

set_option maxRecDepth 20000 in
theorem v_M_ownMost_19 (d : Nat) (v1 v2 v3 : Int) (z4 : Option am_V) (σ : am_S) (K : Int → am_S → Prop) (hF : MF σ) (h :
  ((v2 ≤ v3 →
    K v1 σ) ∧
  (¬ (v2 ≤ v3) →
    (0 ≤ (sI σ 31 36) ∧ (sI σ 31 36) < ((12 : Nat) : Int)) ∧
    (((sI σ 41 (Int.toNat (sI σ 31 36))) = 6 →
      (0 ≤ (w32 ((w32 (3 * (sI σ 31 36))) + v3)) ∧ (w32 ((w32 (3 * (sI σ 31 36))) + v3)) < ((36 : Nat) : Int)) ∧
      (0 ≤ (sI σ 46 (Int.toNat (w32 ((w32 (3 * (sI σ 31 36))) + v3)))) ∧ (sI σ 46 (Int.toNat (w32 ((w32 (3 * (sI σ 31 36))) + v3)))) < ((12 : Nat) : Int)) ∧
      am_Calls PP MLL d m_M_mostOf [qr (31, 12, 89), qi (sI σ 41 (Int.toNat (sI σ 46 (Int.toNat (w32 ((w32 (3 * (sI σ 31 36))) + v3))))))] σ (kI fun x3 s3 =>
        MF s3 ∧
        ((x3 ≤ v1 →
          am_Runs PP MLL d m_M_ownMost 19 [some (qr (31, 12, 89)), some (qi v1), some (qi v2), some (qi (w32 (v3 + 1))), some (qi x3)] [] s3 (kI K)) ∧
        (¬ (x3 ≤ v1) →
          am_Runs PP MLL d m_M_ownMost 19 [some (qr (31, 12, 89)), some (qi x3), some (qi v2), some (qi (w32 (v3 + 1))), some (qi x3)] [] s3 (kI K))))) ∧
    (¬ ((sI σ 41 (Int.toNat (sI σ 31 36))) = 6) →
      am_Calls PP MLL d m_M_mostOf [qr (31, 12, 89), qi (sI σ 41 (Int.toNat (sI σ 31 36)))] σ (kI fun x5 s5 =>
        MF s5 ∧
        ((x5 ≤ v1 →
          am_Runs PP MLL d m_M_ownMost 19 [some (qr (31, 12, 89)), some (qi v1), some (qi v2), some (qi (w32 (v3 + 1))), some (qi x5)] [] s5 (kI K)) ∧
        (¬ (x5 ≤ v1) →
          am_Runs PP MLL d m_M_ownMost 19 [some (qr (31, 12, 89)), some (qi x5), some (qi v2), some (qi (w32 (v3 + 1))), some (qi x5)] [] s5 (kI K))))))))) : am_Runs PP MLL d m_M_ownMost 19 [some (qr (31, 12, 89)), some (qi v1), some (qi v2), some (qi v3), z4] [] σ (kI K) := am_wEM_ok 200 hF (⟨fun c1 => (h.1 c1), fun c1 => ⟨rfl, ⟨rfl, ⟨rfl, ⟨⟨rfl, (h.2 c1).1.1, (h.2 c1).1.2⟩, ⟨fun c2 => ⟨rfl, ⟨rfl, ⟨⟨rfl, ((h.2 c1).2.1 c2).1.1, ((h.2 c1).2.1 c2).1.2⟩, ⟨⟨rfl, ((h.2 c1).2.1 c2).2.1.1, ((h.2 c1).2.1 c2).2.1.2⟩, ⟨rfl, (am_cI ((h.2 c1).2.1 c2).2.2 fun x3 s3 h3 => ⟨h3.1, ⟨fun c4 => (h3.2.1 c4), fun c4 => (h3.2.2 c4)⟩⟩)⟩⟩⟩⟩⟩, fun c2 => ⟨rfl, ⟨⟨rfl, (h.2 c1).1.1, (h.2 c1).1.2⟩, ⟨rfl, (am_cI ((h.2 c1).2.2 c2) fun x5 s5 h5 => ⟨h5.1, ⟨fun c6 => (h5.2.1 c6), fun c6 => (h5.2.2 c6)⟩⟩)⟩⟩⟩⟩⟩⟩⟩⟩⟩)

set_option maxRecDepth 20000 in
theorem v_M_manyAt_0 (d : Nat) (p1 : Int) (σ : am_S) (K : Int → am_S → Prop) (hF : MF σ) (h :
  am_Runs PP MLL d m_M_manyAt 4 [some (qr (31, 12, 89)), some (qi p1), some (qi 0), some (qi 0)] [] σ (kI K)) : am_Runs PP MLL d m_M_manyAt 0 [some (qr (31, 12, 89)), some (qi p1), none, none] [] σ (kI K) := am_wEM_ok 200 hF (h)

set_option maxRecDepth 20000 in
theorem v_M_manyAt_4 (d : Nat) (p1 v2 v3 : Int) (σ : am_S) (K : Int → am_S → Prop) (hF : MF σ) (h :
  (((sI σ 31 40) ≤ v3 →
    K v2 σ) ∧
  (¬ ((sI σ 31 40) ≤ v3) →
    (0 ≤ (w32 ((w32 (60 * p1)) + v3)) ∧ (w32 ((w32 (60 * p1)) + v3)) < ((840 : Nat) : Int)) ∧
    (((sI σ 53 (Int.toNat (w32 ((w32 (60 * p1)) + v3)))) < 0 →
      am_Runs PP MLL d m_M_manyAt 4 [some (qr (31, 12, 89)), some (qi p1), some (qi (w32 (v2 + 0))), some (qi (w32 (v3 + 1)))] [] σ (kI K)) ∧
    (¬ ((sI σ 53 (Int.toNat (w32 ((w32 (60 * p1)) + v3)))) < 0) →
      am_Runs PP MLL d m_M_manyAt 4 [some (qr (31, 12, 89)), some (qi p1), some (qi (w32 (v2 + 1))), some (qi (w32 (v3 + 1)))] [] σ (kI K)))))) : am_Runs PP MLL d m_M_manyAt 4 [some (qr (31, 12, 89)), some (qi p1), some (qi v2), some (qi v3)] [] σ (kI K) := am_wEM_ok 200 hF (⟨rfl, ⟨fun c1 => (h.1 c1), fun c1 => ⟨rfl, ⟨⟨rfl, (h.2 c1).1.1, (h.2 c1).1.2⟩, ⟨fun c2 => ((h.2 c1).2.1 c2), fun c2 => ((h.2 c1).2.2 c2)⟩⟩⟩⟩⟩)

set_option maxRecDepth 20000 in
theorem v_M_isTooMuch_0 (d : Nat) (p1 p2 : Int) (σ : am_S) (K : Int → am_S → Prop) (hF : MF σ) (h :
  am_Calls PP MLL d m_M_ownMost [qr (31, 12, 89)] σ (kI fun x1 s1 =>
    MF s1 ∧
    am_Runs PP MLL d m_M_isTooMuch 11 [some (qr (31, 12, 89)), some (qi p1), some (qi p2), some (ql 1), none, some (qi (w32 ((w32 (2 * x1)) + 1))), some (qi 0)] [] s1 (kI K))) : am_Runs PP MLL d m_M_isTooMuch 0 [some (qr (31, 12, 89)), some (qi p1), some (qi p2), none, none, none, none] [] σ (kI K) := am_wEM_ok 200 hF (⟨rfl, (am_cI h fun x1 s1 h1 => ⟨h1.1, h1.2⟩)⟩)

set_option maxRecDepth 20000 in
theorem v_M_isTooMuch_11 (d : Nat) (p1 p2 v3 v5 v6 : Int) (z4 : Option am_V) (σ : am_S) (K : Int → am_S → Prop) (hF : MF σ) (h :
  (0 ≤ p1 ∧ p1 < ((14 : Nat) : Int)) ∧
  (((sI σ 54 (Int.toNat p1)) ≤ v6 →
    (((sI σ 54 (Int.toNat p1)) = 0 →
      K 1 σ) ∧
    (¬ ((sI σ 54 (Int.toNat p1)) = 0) →
      (((a_cmp p2 v3) ≤ 0 →
        K 0 σ) ∧
      (¬ ((a_cmp p2 v3) ≤ 0) →
        K 1 σ))))) ∧
  (¬ ((sI σ 54 (Int.toNat p1)) ≤ v6) →
    am_Runs PP MLL d m_M_isTooMuch 11 [some (qr (31, 12, 89)), some (qi p1), some (qi p2), some (ql (w64 (v3 * v5))), none, some (qi v5), some (qi (w32 (v6 + 1)))] [] σ (kI K)))) : am_Runs PP MLL d m_M_isTooMuch 11 [some (qr (31, 12, 89)), some (qi p1), some (qi p2), some (ql v3), z4, some (qi v5), some (qi v6)] [] σ (kI K) := am_wEM_ok 200 hF (⟨rfl, ⟨⟨rfl, h.1.1, h.1.2⟩, ⟨fun c1 => ⟨rfl, ⟨⟨rfl, h.1.1, h.1.2⟩, ⟨fun c2 => ⟨(Or.inr rfl), ((h.2.1 c1).1 c2)⟩, fun c2 => ⟨fun c3 => ⟨(Or.inl rfl), (((h.2.1 c1).2 c2).1 c3)⟩, fun c3 => ⟨(Or.inr rfl), (((h.2.1 c1).2 c2).2 c3)⟩⟩⟩⟩⟩, fun c1 => (h.2.2 c1)⟩⟩⟩)

set_option maxRecDepth 20000 in
theorem v_M_areAlike_0 (d : Nat) (p1 p2 p3 : Int) (σ : am_S) (K : Int → am_S → Prop) (hF : MF σ) (h :
  am_Runs PP MLL d m_M_areAlike 2 [some (qr (31, 12, 89)), some (qi p1), some (qi p2), some (qi p3), some (qi 0), none] [] σ (kI K)) : am_Runs PP MLL d m_M_areAlike 0 [some (qr (31, 12, 89)), some (qi p1), some (qi p2), some (qi p3), none, none] [] σ (kI K) := am_wEM_ok 200 hF (h)

set_option maxRecDepth 20000 in
theorem v_M_areAlike_2 (d : Nat) (p1 p2 p3 v4 : Int) (z5 : Option am_V) (σ : am_S) (K : Int → am_S → Prop) (hF : MF σ) (h :
  (((sI σ 31 40) ≤ v4 →
    K 1 σ) ∧
  (¬ ((sI σ 31 40) ≤ v4) →
    (0 ≤ (w32 ((w32 (60 * p1)) + v4)) ∧ (w32 ((w32 (60 * p1)) + v4)) < ((840 : Nat) : Int)) ∧
    (((sI σ 53 (Int.toNat (w32 ((w32 (60 * p1)) + v4)))) < 0 →
      am_Runs PP MLL d m_M_areAlike 2 [some (qr (31, 12, 89)), some (qi p1), some (qi p2), some (qi p3), some (qi (w32 (v4 + 1))), z5] [] σ (kI K)) ∧
    (¬ ((sI σ 53 (Int.toNat (w32 ((w32 (60 * p1)) + v4)))) < 0) →
      (0 ≤ (w32 ((w32 ((w32 (144 * v4)) + (w32 (12 * p2)))) + p3)) ∧ (w32 ((w32 ((w32 (144 * v4)) + (w32 (12 * p2)))) + p3)) < ((8640 : Nat) : Int)) ∧
      (((sI σ 52 (Int.toNat (w32 ((w32 ((w32 (144 * v4)) + (w32 (12 * p2)))) + p3)))) < 0 →
        K 0 σ) ∧
      (¬ ((sI σ 52 (Int.toNat (w32 ((w32 ((w32 (144 * v4)) + (w32 (12 * p2)))) + p3)))) < 0) →
        (0 ≤ (w32 ((w32 (60 * p1)) + (sI σ 52 (Int.toNat (w32 ((w32 ((w32 (144 * v4)) + (w32 (12 * p2)))) + p3)))))) ∧ (w32 ((w32 (60 * p1)) + (sI σ 52 (Int.toNat (w32 ((w32 ((w32 (144 * v4)) + (w32 (12 * p2)))) + p3)))))) < ((840 : Nat) : Int)) ∧
        (((sI σ 53 (Int.toNat (w32 ((w32 (60 * p1)) + (sI σ 52 (Int.toNat (w32 ((w32 ((w32 (144 * v4)) + (w32 (12 * p2)))) + p3)))))))) = (sI σ 53 (Int.toNat (w32 ((w32 (60 * p1)) + v4)))) →
          am_Runs PP MLL d m_M_areAlike 2 [some (qr (31, 12, 89)), some (qi p1), some (qi p2), some (qi p3), some (qi (w32 (v4 + 1))), some (qi (sI σ 52 (Int.toNat (w32 ((w32 ((w32 (144 * v4)) + (w32 (12 * p2)))) + p3)))))] [] σ (kI K)) ∧
        (¬ ((sI σ 53 (Int.toNat (w32 ((w32 (60 * p1)) + (sI σ 52 (Int.toNat (w32 ((w32 ((w32 (144 * v4)) + (w32 (12 * p2)))) + p3)))))))) = (sI σ 53 (Int.toNat (w32 ((w32 (60 * p1)) + v4))))) →
          K 0 σ))))))))) : am_Runs PP MLL d m_M_areAlike 2 [some (qr (31, 12, 89)), some (qi p1), some (qi p2), some (qi p3), some (qi v4), z5] [] σ (kI K) := am_wEM_ok 200 hF (⟨rfl, ⟨fun c1 => ⟨(Or.inr rfl), (h.1 c1)⟩, fun c1 => ⟨rfl, ⟨⟨rfl, (h.2 c1).1.1, (h.2 c1).1.2⟩, ⟨fun c2 => ((h.2 c1).2.1 c2), fun c2 => ⟨rfl, ⟨⟨rfl, ((h.2 c1).2.2 c2).1.1, ((h.2 c1).2.2 c2).1.2⟩, ⟨fun c3 => ⟨(Or.inl rfl), (((h.2 c1).2.2 c2).2.1 c3)⟩, fun c3 => ⟨rfl, ⟨⟨rfl, (((h.2 c1).2.2 c2).2.2 c3).1.1, (((h.2 c1).2.2 c2).2.2 c3).1.2⟩, ⟨rfl, ⟨⟨rfl, (h.2 c1).1.1, (h.2 c1).1.2⟩, ⟨fun c4 => ((((h.2 c1).2.2 c2).2.2 c3).2.1 c4), fun c4 => ⟨(Or.inl rfl), ((((h.2 c1).2.2 c2).2.2 c3).2.2 c4)⟩⟩⟩⟩⟩⟩⟩⟩⟩⟩⟩⟩⟩⟩)

set_option maxRecDepth 20000 in
theorem v_M_groups_0 (d : Nat) (p1 : Int) (σ : am_S) (K : am_S → Prop) (hF : MF σ) (h :
  am_Runs PP MLL d m_M_groups 4 [some (qr (31, 12, 89)), some (qi p1), some (qi 0), some (qi 0), none, none, none, none] [] σ (kV K)) : am_Runs PP MLL d m_M_groups 0 [some (qr (31, 12, 89)), some (qi p1), none, none, none, none, none, none] [] σ (kV K) := am_wEM_ok 200 hF (h)

set_option maxRecDepth 20000 in
theorem v_M_groups_4 (d : Nat) (p1 v2 v3 : Int) (z4 z5 z6 z7 : Option am_V) (σ : am_S) (K : am_S → Prop) (hF : MF σ) (h :
  (((sI σ 31 2) ≤ v3 →
    (0 ≤ p1 ∧ p1 < ((14 : Nat) : Int)) ∧
    let s2 := putI σ 61 (Int.toNat p1) v2;
    let s3 := putI s2 59 (Int.toNat p1) 0;
    let s4 := putI s3 60 (Int.toNat p1) (-1);
    K s4) ∧
  (¬ ((sI σ 31 2) ≤ v3) →
    am_Runs PP MLL d m_M_groups 14 [some (qr (31, 12, 89)), some (qi p1), some (qi v2), some (qi v3), some (qi v2), some (qi (w32 (v3 - 1))), z6, z7] [] σ (kV K)))) : am_Runs PP MLL d m_M_groups 4 [some (qr (31, 12, 89)), some (qi p1), some (qi v2), some (qi v3), z4, z5, z6, z7] [] σ (kV K) := am_wEM_ok 200 hF (⟨rfl, ⟨fun c1 => ⟨rfl, ⟨⟨rfl, (h.1 c1).1.1, (h.1 c1).1.2⟩, ⟨rfl, ⟨⟨rfl, (h.1 c1).1.1, (h.1 c1).1.2⟩, ⟨rfl, ⟨⟨rfl, (h.1 c1).1.1, (h.1 c1).1.2⟩, (h.1 c1).2⟩⟩⟩⟩⟩⟩, fun c1 => (h.2 c1)⟩⟩)

set_option maxRecDepth 20000 in
theorem v_M_groups_14 (d : Nat) (p1 v2 v3 v4 v5 : Int) (z6 z7 : Option am_V) (σ : am_S) (K : am_S → Prop) (hF : MF σ) (h :
  ((v5 < 0 →
    (0 ≤ (w32 ((w32 (12 * p1)) + v3)) ∧ (w32 ((w32 (12 * p1)) + v3)) < ((168 : Nat) : Int)) ∧
    let s2 := putI σ 62 (Int.toNat (w32 ((w32 (12 * p1)) + v3))) v4;
    ((v4 = v2 →
      (0 ≤ (w32 ((w32 (12 * p1)) + v2)) ∧ (w32 ((w32 (12 * p1)) + v2)) < ((168 : Nat) : Int)) ∧
      let s4 := putI s2 63 (Int.toNat (w32 ((w32 (12 * p1)) + v2))) 0;
      (0 ≤ (w32 ((w32 (12 * p1)) + v4)) ∧ (w32 ((w32 (12 * p1)) + v4)) < ((168 : Nat) : Int)) ∧
      let s5 := putI s4 63 (Int.toNat (w32 ((w32 (12 * p1)) + v4))) (w32 ((sI s4 63 (Int.toNat (w32 ((w32 (12 * p1)) + v4)))) + 1));
      am_Runs PP MLL d m_M_groups 4 [some (qr (31, 12, 89)), some (qi p1), some (qi (w32 (v2 + 1))), some (qi (w32 (v3 + 1))), some (qi v4), some (qi v5), z6, z7] [] s5 (kV K)) ∧
    (¬ (v4 = v2) →
      (0 ≤ (w32 ((w32 (12 * p1)) + v4)) ∧ (w32 ((w32 (12 * p1)) + v4)) < ((168 : Nat) : Int)) ∧
      let s6 := putI s2 63 (Int.toNat (w32 ((w32 (12 * p1)) + v4))) (w32 ((sI s2 63 (Int.toNat (w32 ((w32 (12 * p1)) + v4)))) + 1));
      am_Runs PP MLL d m_M_groups 4 [some (qr (31, 12, 89)), some (qi p1), some (qi v2), some (qi (w32 (v3 + 1))), some (qi v4), some (qi v5), z6, z7] [] s6 (kV K)))) ∧
  (¬ (v5 < 0) →
    (0 ≤ (w32 ((w32 (12 * p1)) + v5)) ∧ (w32 ((w32 (12 * p1)) + v5)) < ((168 : Nat) : Int)) ∧
    ((v4 ≤ (sI σ 62 (Int.toNat (w32 ((w32 (12 * p1)) + v5)))) →
      am_Runs PP MLL d m_M_groups 32 [some (qr (31, 12, 89)), some (qi p1), some (qi v2), some (qi v3), some (qi v4), some (qi v5), some (qi 0), some (qi 0)] [] σ (kV K)) ∧
    (¬ (v4 ≤ (sI σ 62 (Int.toNat (w32 ((w32 (12 * p1)) + v5))))) →
      am_Runs PP MLL d m_M_groups 32 [some (qr (31, 12, 89)), some (qi p1), some (qi v2), some (qi v3), some (qi v4), some (qi v5), some (qi 1), some (qi 0)] [] σ (kV K)))))) : am_Runs PP MLL d m_M_groups 14 [some (qr (31, 12, 89)), some (qi p1), some (qi v2), some (qi v3), some (qi v4), some (qi v5), z6, z7] [] σ (kV K) := am_wEM_ok 200 hF (⟨fun c1 => ⟨rfl, ⟨⟨rfl, (h.1 c1).1.1, (h.1 c1).1.2⟩, ⟨fun c3 => ⟨rfl, ⟨⟨rfl, ((h.1 c1).2.1 c3).1.1, ((h.1 c1).2.1 c3).1.2⟩, ⟨rfl, ⟨⟨rfl, ((h.1 c1).2.1 c3).2.1.1, ((h.1 c1).2.1 c3).2.1.2⟩, ⟨⟨rfl, ((h.1 c1).2.1 c3).2.1.1, ((h.1 c1).2.1 c3).2.1.2⟩, ((h.1 c1).2.1 c3).2.2⟩⟩⟩⟩⟩, fun c3 => ⟨rfl, ⟨⟨rfl, ((h.1 c1).2.2 c3).1.1, ((h.1 c1).2.2 c3).1.2⟩, ⟨⟨rfl, ((h.1 c1).2.2 c3).1.1, ((h.1 c1).2.2 c3).1.2⟩, ((h.1 c1).2.2 c3).2⟩⟩⟩⟩⟩⟩, fun c1 => ⟨rfl, ⟨⟨rfl, (h.2 c1).1.1, (h.2 c1).1.2⟩, ⟨fun c7 => ((h.2 c1).2.1 c7), fun c7 => ((h.2 c1).2.2 c7)⟩⟩⟩⟩)

set_option maxRecDepth 20000 in
theorem v_M_groups_32 (d : Nat) (p1 v2 v3 v4 v5 v6 v7 : Int) (σ : am_S) (K : am_S → Prop) (hF : MF σ) (h :
  ((v5 ≤ v7 →
    ((v6 = 0 →
      am_Runs PP MLL d m_M_groups 14 [some (qr (31, 12, 89)), some (qi p1), some (qi v2), some (qi v3), some (qi v4), some (qi (w32 (v5 + (-1)))), some (qi v6), some (qi v7)] [] σ (kV K)) ∧
    (¬ (v6 = 0) →
      am_Calls PP MLL d m_M_areAlike [qr (31, 12, 89), qi p1, qi v5, qi v3] σ (kI fun x3 s3 =>
        MF s3 ∧
        ((x3 = 0 →
          am_Runs PP MLL d m_M_groups 14 [some (qr (31, 12, 89)), some (qi p1), some (qi v2), some (qi v3), some (qi v4), some (qi (w32 (v5 + (-1)))), some (qi v6), some (qi v7)] [] s3 (kV K)) ∧
        (¬ (x3 = 0) →
          (0 ≤ (w32 ((w32 (12 * p1)) + v5)) ∧ (w32 ((w32 (12 * p1)) + v5)) < ((168 : Nat) : Int)) ∧
          am_Runs PP MLL d m_M_groups 14 [some (qr (31, 12, 89)), some (qi p1), some (qi v2), some (qi v3), some (qi (sI s3 62 (Int.toNat (w32 ((w32 (12 * p1)) + v5))))), some (qi (w32 (v5 + (-1)))), some (qi v6), some (qi v7)] [] s3 (kV K))))))) ∧
  (¬ (v5 ≤ v7) →
    ((v6 = 0 →
      ((v6 = 0 →
        am_Runs PP MLL d m_M_groups 14 [some (qr (31, 12, 89)), some (qi p1), some (qi v2), some (qi v3), some (qi v4), some (qi (w32 (v5 + (-1)))), some (qi v6), some (qi v7)] [] σ (kV K)) ∧
      (¬ (v6 = 0) →
        am_Calls PP MLL d m_M_areAlike [qr (31, 12, 89), qi p1, qi v5, qi v3] σ (kI fun x7 s7 =>
          MF s7 ∧
          ((x7 = 0 →
            am_Runs PP MLL d m_M_groups 14 [some (qr (31, 12, 89)), some (qi p1), some (qi v2), some (qi v3), some (qi v4), some (qi (w32 (v5 + (-1)))), some (qi v6), some (qi v7)] [] s7 (kV K)) ∧
          (¬ (x7 = 0) →
            (0 ≤ (w32 ((w32 (12 * p1)) + v5)) ∧ (w32 ((w32 (12 * p1)) + v5)) < ((168 : Nat) : Int)) ∧
            am_Runs PP MLL d m_M_groups 14 [some (qr (31, 12, 89)), some (qi p1), some (qi v2), some (qi v3), some (qi (sI s7 62 (Int.toNat (w32 ((w32 (12 * p1)) + v5))))), some (qi (w32 (v5 + (-1)))), some (qi v6), some (qi v7)] [] s7 (kV K))))))) ∧
    (¬ (v6 = 0) →
      (0 ≤ (w32 ((w32 (12 * p1)) + v7)) ∧ (w32 ((w32 (12 * p1)) + v7)) < ((168 : Nat) : Int)) ∧
      (0 ≤ (w32 ((w32 (12 * p1)) + v5)) ∧ (w32 ((w32 (12 * p1)) + v5)) < ((168 : Nat) : Int)) ∧
      (((sI σ 62 (Int.toNat (w32 ((w32 (12 * p1)) + v7)))) = (sI σ 62 (Int.toNat (w32 ((w32 (12 * p1)) + v5)))) →
        am_Runs PP MLL d m_M_groups 32 [some (qr (31, 12, 89)), some (qi p1), some (qi v2), some (qi v3), some (qi v4), some (qi v5), some (qi 0), some (qi (w32 (v7 + 1)))] [] σ (kV K)) ∧
      (¬ ((sI σ 62 (Int.toNat (w32 ((w32 (12 * p1)) + v7)))) = (sI σ 62 (Int.toNat (w32 ((w32 (12 * p1)) + v5))))) →
        am_Runs PP MLL d m_M_groups 32 [some (qr (31, 12, 89)), some (qi p1), some (qi v2), some (qi v3), some (qi v4), some (qi v5), some (qi 1), some (qi (w32 (v7 + 1)))] [] σ (kV K)))))))) : am_Runs PP MLL d m_M_groups 32 [some (qr (31, 12, 89)), some (qi p1), some (qi v2), some (qi v3), some (qi v4), some (qi v5), some (qi v6), some (qi v7)] [] σ (kV K) := am_wEM_ok 200 hF (⟨fun c1 => ⟨fun c2 => ((h.1 c1).1 c2), fun c2 => ⟨rfl, (am_cI ((h.1 c1).2 c2) fun x3 s3 h3 => ⟨h3.1, ⟨fun c4 => (h3.2.1 c4), fun c4 => ⟨rfl, ⟨⟨rfl, (h3.2.2 c4).1.1, (h3.2.2 c4).1.2⟩, (h3.2.2 c4).2⟩⟩⟩⟩)⟩⟩, fun c1 => ⟨fun c5 => ⟨fun c6 => (((h.2 c1).1 c5).1 c6), fun c6 => ⟨rfl, (am_cI (((h.2 c1).1 c5).2 c6) fun x7 s7 h7 => ⟨h7.1, ⟨fun c8 => (h7.2.1 c8), fun c8 => ⟨rfl, ⟨⟨rfl, (h7.2.2 c8).1.1, (h7.2.2 c8).1.2⟩, (h7.2.2 c8).2⟩⟩⟩⟩)⟩⟩, fun c5 => ⟨rfl, ⟨⟨rfl, ((h.2 c1).2 c5).1.1, ((h.2 c1).2 c5).1.2⟩, ⟨rfl, ⟨⟨rfl, ((h.2 c1).2 c5).2.1.1, ((h.2 c1).2 c5).2.1.2⟩, ⟨fun c9 => (((h.2 c1).2 c5).2.2.1 c9), fun c9 => (((h.2 c1).2 c5).2.2.2 c9)⟩⟩⟩⟩⟩⟩⟩)

set_option maxRecDepth 20000 in
theorem v_M_fill_0 (d : Nat) (p1 p2 p3 : Int) (σ : am_S) (K : am_S → Prop) (hF : MF σ) (h :
  (0 ≤ p1 ∧ p1 < ((14 : Nat) : Int)) ∧
  am_Runs PP MLL d m_M_fill 12 [some (qr (31, 12, 89)), some (qi p1), some (qi p2), some (qi p3), some (qi (sI σ 59 (Int.toNat p1))), some (qi (sI σ 59 (Int.toNat p1))), some (qi 0), none, none] [] σ (kV K)) : am_Runs PP MLL d m_M_fill 0 [some (qr (31, 12, 89)), some (qi p1), some (qi p2), some (qi p3), none, none, none, none, none] [] σ (kV K) := am_wEM_ok 200 hF (⟨rfl, ⟨⟨rfl, h.1.1, h.1.2⟩, ⟨rfl, ⟨⟨rfl, h.1.1, h.1.2⟩, h.2⟩⟩⟩⟩)

set_option maxRecDepth 20000 in
theorem v_M_fill_12 (d : Nat) (p1 p2 p3 v4 v5 v6 : Int) (z7 z8 : Option am_V) (σ : am_S) (K : am_S → Prop) (hF : MF σ) (h :
  ((p2 ≤ v6 →
    am_Runs PP MLL d m_M_fill 41 [some (qr (31, 12, 89)), some (qi p1), some (qi p2), some (qi p3), some (qi v4), some (qi v5), some (qi p2), z7, z8] [] σ (kV K)) ∧
  (¬ (p2 ≤ v6) →
    (0 ≤ (w32 ((w32 (12 * p1)) + v6)) ∧ (w32 ((w32 (12 * p1)) + v6)) < ((168 : Nat) : Int)) ∧
    am_Runs PP MLL d m_M_fill 12 [some (qr (31, 12, 89)), some (qi p1), some (qi p2), some (qi p3), some (qi (w32 (v4 - (sI σ 64 (Int.toNat (w32 ((w32 (12 * p1)) + v6))))))), some (qi (w32 (v5 - (sI σ 65 (Int.toNat (w32 ((w32 (12 * p1)) + v6))))))), some (qi (w32 (v6 + 1))), z7, z8] [] σ (kV K)))) : am_Runs PP MLL d m_M_fill 12 [some (qr (31, 12, 89)), some (qi p1), some (qi p2), some (qi p3), some (qi v4), some (qi v5), some (qi v6), z7, z8] [] σ (kV K) := am_wEM_ok 200 hF (⟨fun c1 => (h.1 c1), fun c1 => ⟨rfl, ⟨⟨rfl, (h.2 c1).1.1, (h.2 c1).1.2⟩, ⟨rfl, ⟨⟨rfl, (h.2 c1).1.1, (h.2 c1).1.2⟩, (h.2 c1).2⟩⟩⟩⟩⟩)

set_option maxRecDepth 20000 in
theorem v_M_fill_41 (d : Nat) (p1 p2 p3 v4 v5 v6 : Int) (z7 z8 : Option am_V) (σ : am_S) (K : am_S → Prop) (hF : MF σ) (h :
  (0 ≤ p1 ∧ p1 < ((14 : Nat) : Int)) ∧
  (((sI σ 61 (Int.toNat p1)) ≤ v6 →
    K σ) ∧
  (¬ ((sI σ 61 (Int.toNat p1)) ≤ v6) →
    ((p3 = 0 →
      (0 ≤ (w32 ((w32 (12 * p1)) + v6)) ∧ (w32 ((w32 (12 * p1)) + v6)) < ((168 : Nat) : Int)) ∧
      (((sI σ 63 (Int.toNat (w32 ((w32 (12 * p1)) + v6)))) ≤ v4 →
        let s4 := putI σ 64 (Int.toNat (w32 ((w32 (12 * p1)) + v6))) (sI σ 63 (Int.toNat (w32 ((w32 (12 * p1)) + v6))));
        (((w32 ((sI s4 63 (Int.toNat (w32 ((w32 (12 * p1)) + v6)))) - (sI s4 64 (Int.toNat (w32 ((w32 (12 * p1)) + v6)))))) ≤ v5 →
          let s6 := putI s4 65 (Int.toNat (w32 ((w32 (12 * p1)) + v6))) (w32 ((sI s4 63 (Int.toNat (w32 ((w32 (12 * p1)) + v6)))) - (sI s4 64 (Int.toNat (w32 ((w32 (12 * p1)) + v6))))));
          am_Runs PP MLL d m_M_fill 41 [some (qr (31, 12, 89)), some (qi p1), some (qi p2), some (qi p3), some (qi (w32 (v4 - (sI s6 64 (Int.toNat (w32 ((w32 (12 * p1)) + v6))))))), some (qi (w32 (v5 - (sI s6 65 (Int.toNat (w32 ((w32 (12 * p1)) + v6))))))), some (qi (w32 (v6 + 1))), some (qi (w32 ((w32 (12 * p1)) + v6))), some (qi (w32 ((sI s4 63 (Int.toNat (w32 ((w32 (12 * p1)) + v6)))) - (sI s4 64 (Int.toNat (w32 ((w32 (12 * p1)) + v6)))))))] [] s6 (kV K)) ∧
        (¬ ((w32 ((sI s4 63 (Int.toNat (w32 ((w32 (12 * p1)) + v6)))) - (sI s4 64 (Int.toNat (w32 ((w32 (12 * p1)) + v6)))))) ≤ v5) →
          let s7 := putI s4 65 (Int.toNat (w32 ((w32 (12 * p1)) + v6))) v5;
          am_Runs PP MLL d m_M_fill 41 [some (qr (31, 12, 89)), some (qi p1), some (qi p2), some (qi p3), some (qi (w32 (v4 - (sI s7 64 (Int.toNat (w32 ((w32 (12 * p1)) + v6))))))), some (qi (w32 (v5 - (sI s7 65 (Int.toNat (w32 ((w32 (12 * p1)) + v6))))))), some (qi (w32 (v6 + 1))), some (qi (w32 ((w32 (12 * p1)) + v6))), some (qi (w32 ((sI s4 63 (Int.toNat (w32 ((w32 (12 * p1)) + v6)))) - (sI s4 64 (Int.toNat (w32 ((w32 (12 * p1)) + v6)))))))] [] s7 (kV K)))) ∧
      (¬ ((sI σ 63 (Int.toNat (w32 ((w32 (12 * p1)) + v6)))) ≤ v4) →
        let s8 := putI σ 64 (Int.toNat (w32 ((w32 (12 * p1)) + v6))) v4;
        (((w32 ((sI s8 63 (Int.toNat (w32 ((w32 (12 * p1)) + v6)))) - (sI s8 64 (Int.toNat (w32 ((w32 (12 * p1)) + v6)))))) ≤ v5 →
          let s10 := putI s8 65 (Int.toNat (w32 ((w32 (12 * p1)) + v6))) (w32 ((sI s8 63 (Int.toNat (w32 ((w32 (12 * p1)) + v6)))) - (sI s8 64 (Int.toNat (w32 ((w32 (12 * p1)) + v6))))));
          am_Runs PP MLL d m_M_fill 41 [some (qr (31, 12, 89)), some (qi p1), some (qi p2), some (qi p3), some (qi (w32 (v4 - (sI s10 64 (Int.toNat (w32 ((w32 (12 * p1)) + v6))))))), some (qi (w32 (v5 - (sI s10 65 (Int.toNat (w32 ((w32 (12 * p1)) + v6))))))), some (qi (w32 (v6 + 1))), some (qi (w32 ((w32 (12 * p1)) + v6))), some (qi (w32 ((sI s8 63 (Int.toNat (w32 ((w32 (12 * p1)) + v6)))) - (sI s8 64 (Int.toNat (w32 ((w32 (12 * p1)) + v6)))))))] [] s10 (kV K)) ∧
        (¬ ((w32 ((sI s8 63 (Int.toNat (w32 ((w32 (12 * p1)) + v6)))) - (sI s8 64 (Int.toNat (w32 ((w32 (12 * p1)) + v6)))))) ≤ v5) →
          let s11 := putI s8 65 (Int.toNat (w32 ((w32 (12 * p1)) + v6))) v5;
          am_Runs PP MLL d m_M_fill 41 [some (qr (31, 12, 89)), some (qi p1), some (qi p2), some (qi p3), some (qi (w32 (v4 - (sI s11 64 (Int.toNat (w32 ((w32 (12 * p1)) + v6))))))), some (qi (w32 (v5 - (sI s11 65 (Int.toNat (w32 ((w32 (12 * p1)) + v6))))))), some (qi (w32 (v6 + 1))), some (qi (w32 ((w32 (12 * p1)) + v6))), some (qi (w32 ((sI s8 63 (Int.toNat (w32 ((w32 (12 * p1)) + v6)))) - (sI s8 64 (Int.toNat (w32 ((w32 (12 * p1)) + v6)))))))] [] s11 (kV K)))))) ∧
    (¬ (p3 = 0) →
      ((v6 ≤ p2 →
        (0 ≤ (w32 ((w32 (12 * p1)) + v6)) ∧ (w32 ((w32 (12 * p1)) + v6)) < ((168 : Nat) : Int)) ∧
        (((w32 ((sI σ 63 (Int.toNat (w32 ((w32 (12 * p1)) + v6)))) - (sI σ 64 (Int.toNat (w32 ((w32 (12 * p1)) + v6)))))) ≤ v5 →
          let s14 := putI σ 65 (Int.toNat (w32 ((w32 (12 * p1)) + v6))) (w32 ((sI σ 63 (Int.toNat (w32 ((w32 (12 * p1)) + v6)))) - (sI σ 64 (Int.toNat (w32 ((w32 (12 * p1)) + v6))))));
          am_Runs PP MLL d m_M_fill 41 [some (qr (31, 12, 89)), some (qi p1), some (qi p2), some (qi p3), some (qi (w32 (v4 - (sI s14 64 (Int.toNat (w32 ((w32 (12 * p1)) + v6))))))), some (qi (w32 (v5 - (sI s14 65 (Int.toNat (w32 ((w32 (12 * p1)) + v6))))))), some (qi (w32 (v6 + 1))), some (qi (w32 ((w32 (12 * p1)) + v6))), some (qi (w32 ((sI σ 63 (Int.toNat (w32 ((w32 (12 * p1)) + v6)))) - (sI σ 64 (Int.toNat (w32 ((w32 (12 * p1)) + v6)))))))] [] s14 (kV K)) ∧
        (¬ ((w32 ((sI σ 63 (Int.toNat (w32 ((w32 (12 * p1)) + v6)))) - (sI σ 64 (Int.toNat (w32 ((w32 (12 * p1)) + v6)))))) ≤ v5) →
          let s15 := putI σ 65 (Int.toNat (w32 ((w32 (12 * p1)) + v6))) v5;
          am_Runs PP MLL d m_M_fill 41 [some (qr (31, 12, 89)), some (qi p1), some (qi p2), some (qi p3), some (qi (w32 (v4 - (sI s15 64 (Int.toNat (w32 ((w32 (12 * p1)) + v6))))))), some (qi (w32 (v5 - (sI s15 65 (Int.toNat (w32 ((w32 (12 * p1)) + v6))))))), some (qi (w32 (v6 + 1))), some (qi (w32 ((w32 (12 * p1)) + v6))), some (qi (w32 ((sI σ 63 (Int.toNat (w32 ((w32 (12 * p1)) + v6)))) - (sI σ 64 (Int.toNat (w32 ((w32 (12 * p1)) + v6)))))))] [] s15 (kV K)))) ∧
      (¬ (v6 ≤ p2) →
        (0 ≤ (w32 ((w32 (12 * p1)) + v6)) ∧ (w32 ((w32 (12 * p1)) + v6)) < ((168 : Nat) : Int)) ∧
        (((sI σ 63 (Int.toNat (w32 ((w32 (12 * p1)) + v6)))) ≤ v4 →
          let s17 := putI σ 64 (Int.toNat (w32 ((w32 (12 * p1)) + v6))) (sI σ 63 (Int.toNat (w32 ((w32 (12 * p1)) + v6))));
          (((w32 ((sI s17 63 (Int.toNat (w32 ((w32 (12 * p1)) + v6)))) - (sI s17 64 (Int.toNat (w32 ((w32 (12 * p1)) + v6)))))) ≤ v5 →
            let s19 := putI s17 65 (Int.toNat (w32 ((w32 (12 * p1)) + v6))) (w32 ((sI s17 63 (Int.toNat (w32 ((w32 (12 * p1)) + v6)))) - (sI s17 64 (Int.toNat (w32 ((w32 (12 * p1)) + v6))))));
            am_Runs PP MLL d m_M_fill 41 [some (qr (31, 12, 89)), some (qi p1), some (qi p2), some (qi p3), some (qi (w32 (v4 - (sI s19 64 (Int.toNat (w32 ((w32 (12 * p1)) + v6))))))), some (qi (w32 (v5 - (sI s19 65 (Int.toNat (w32 ((w32 (12 * p1)) + v6))))))), some (qi (w32 (v6 + 1))), some (qi (w32 ((w32 (12 * p1)) + v6))), some (qi (w32 ((sI s17 63 (Int.toNat (w32 ((w32 (12 * p1)) + v6)))) - (sI s17 64 (Int.toNat (w32 ((w32 (12 * p1)) + v6)))))))] [] s19 (kV K)) ∧
          (¬ ((w32 ((sI s17 63 (Int.toNat (w32 ((w32 (12 * p1)) + v6)))) - (sI s17 64 (Int.toNat (w32 ((w32 (12 * p1)) + v6)))))) ≤ v5) →
            let s20 := putI s17 65 (Int.toNat (w32 ((w32 (12 * p1)) + v6))) v5;
            am_Runs PP MLL d m_M_fill 41 [some (qr (31, 12, 89)), some (qi p1), some (qi p2), some (qi p3), some (qi (w32 (v4 - (sI s20 64 (Int.toNat (w32 ((w32 (12 * p1)) + v6))))))), some (qi (w32 (v5 - (sI s20 65 (Int.toNat (w32 ((w32 (12 * p1)) + v6))))))), some (qi (w32 (v6 + 1))), some (qi (w32 ((w32 (12 * p1)) + v6))), some (qi (w32 ((sI s17 63 (Int.toNat (w32 ((w32 (12 * p1)) + v6)))) - (sI s17 64 (Int.toNat (w32 ((w32 (12 * p1)) + v6)))))))] [] s20 (kV K)))) ∧
        (¬ ((sI σ 63 (Int.toNat (w32 ((w32 (12 * p1)) + v6)))) ≤ v4) →
          let s21 := putI σ 64 (Int.toNat (w32 ((w32 (12 * p1)) + v6))) v4;
          (((w32 ((sI s21 63 (Int.toNat (w32 ((w32 (12 * p1)) + v6)))) - (sI s21 64 (Int.toNat (w32 ((w32 (12 * p1)) + v6)))))) ≤ v5 →
            let s23 := putI s21 65 (Int.toNat (w32 ((w32 (12 * p1)) + v6))) (w32 ((sI s21 63 (Int.toNat (w32 ((w32 (12 * p1)) + v6)))) - (sI s21 64 (Int.toNat (w32 ((w32 (12 * p1)) + v6))))));
            am_Runs PP MLL d m_M_fill 41 [some (qr (31, 12, 89)), some (qi p1), some (qi p2), some (qi p3), some (qi (w32 (v4 - (sI s23 64 (Int.toNat (w32 ((w32 (12 * p1)) + v6))))))), some (qi (w32 (v5 - (sI s23 65 (Int.toNat (w32 ((w32 (12 * p1)) + v6))))))), some (qi (w32 (v6 + 1))), some (qi (w32 ((w32 (12 * p1)) + v6))), some (qi (w32 ((sI s21 63 (Int.toNat (w32 ((w32 (12 * p1)) + v6)))) - (sI s21 64 (Int.toNat (w32 ((w32 (12 * p1)) + v6)))))))] [] s23 (kV K)) ∧
          (¬ ((w32 ((sI s21 63 (Int.toNat (w32 ((w32 (12 * p1)) + v6)))) - (sI s21 64 (Int.toNat (w32 ((w32 (12 * p1)) + v6)))))) ≤ v5) →
            let s24 := putI s21 65 (Int.toNat (w32 ((w32 (12 * p1)) + v6))) v5;
            am_Runs PP MLL d m_M_fill 41 [some (qr (31, 12, 89)), some (qi p1), some (qi p2), some (qi p3), some (qi (w32 (v4 - (sI s24 64 (Int.toNat (w32 ((w32 (12 * p1)) + v6))))))), some (qi (w32 (v5 - (sI s24 65 (Int.toNat (w32 ((w32 (12 * p1)) + v6))))))), some (qi (w32 (v6 + 1))), some (qi (w32 ((w32 (12 * p1)) + v6))), some (qi (w32 ((sI s21 63 (Int.toNat (w32 ((w32 (12 * p1)) + v6)))) - (sI s21 64 (Int.toNat (w32 ((w32 (12 * p1)) + v6)))))))] [] s24 (kV K)))))))))))) : am_Runs PP MLL d m_M_fill 41 [some (qr (31, 12, 89)), some (qi p1), some (qi p2), some (qi p3), some (qi v4), some (qi v5), some (qi v6), z7, z8] [] σ (kV K) := am_wEM_ok 200 hF (⟨rfl, ⟨⟨rfl, h.1.1, h.1.2⟩, ⟨fun c1 => (h.2.1 c1), fun c1 => ⟨fun c2 => ⟨rfl, ⟨rfl, ⟨⟨rfl, ((h.2.2 c1).1 c2).1.1, ((h.2.2 c1).1 c2).1.2⟩, ⟨fun c3 => ⟨rfl, ⟨⟨rfl, ((h.2.2 c1).1 c2).1.1, ((h.2.2 c1).1 c2).1.2⟩, ⟨⟨rfl, ((h.2.2 c1).1 c2).1.1, ((h.2.2 c1).1 c2).1.2⟩, ⟨rfl, ⟨⟨rfl, ((h.2.2 c1).1 c2).1.1, ((h.2.2 c1).1 c2).1.2⟩, ⟨rfl, ⟨⟨rfl, ((h.2.2 c1).1 c2).1.1, ((h.2.2 c1).1 c2).1.2⟩, ⟨rfl, ⟨fun c5 => ⟨⟨rfl, ((h.2.2 c1).1 c2).1.1, ((h.2.2 c1).1 c2).1.2⟩, ⟨rfl, ⟨⟨rfl, ((h.2.2 c1).1 c2).1.1, ((h.2.2 c1).1 c2).1.2⟩, ⟨rfl, ⟨⟨rfl, ((h.2.2 c1).1 c2).1.1, ((h.2.2 c1).1 c2).1.2⟩, ((((h.2.2 c1).1 c2).2.1 c3).1 c5)⟩⟩⟩⟩⟩, fun c5 => ⟨⟨rfl, ((h.2.2 c1).1 c2).1.1, ((h.2.2 c1).1 c2).1.2⟩, ⟨rfl, ⟨⟨rfl, ((h.2.2 c1).1 c2).1.1, ((h.2.2 c1).1 c2).1.2⟩, ⟨rfl, ⟨⟨rfl, ((h.2.2 c1).1 c2).1.1, ((h.2.2 c1).1 c2).1.2⟩, ((((h.2.2 c1).1 c2).2.1 c3).2 c5)⟩⟩⟩⟩⟩⟩⟩⟩⟩⟩⟩⟩⟩⟩, fun c3 => ⟨⟨rfl, ((h.2.2 c1).1 c2).1.1, ((h.2.2 c1).1 c2).1.2⟩, ⟨rfl, ⟨⟨rfl, ((h.2.2 c1).1 c2).1.1, ((h.2.2 c1).1 c2).1.2⟩, ⟨rfl, ⟨⟨rfl, ((h.2.2 c1).1 c2).1.1, ((h.2.2 c1).1 c2).1.2⟩, ⟨rfl, ⟨fun c9 => ⟨⟨rfl, ((h.2.2 c1).1 c2).1.1, ((h.2.2 c1).1 c2).1.2⟩, ⟨rfl, ⟨⟨rfl, ((h.2.2 c1).1 c2).1.1, ((h.2.2 c1).1 c2).1.2⟩, ⟨rfl, ⟨⟨rfl, ((h.2.2 c1).1 c2).1.1, ((h.2.2 c1).1 c2).1.2⟩, ((((h.2.2 c1).1 c2).2.2 c3).1 c9)⟩⟩⟩⟩⟩, fun c9 => ⟨⟨rfl, ((h.2.2 c1).1 c2).1.1, ((h.2.2 c1).1 c2).1.2⟩, ⟨rfl, ⟨⟨rfl, ((h.2.2 c1).1 c2).1.1, ((h.2.2 c1).1 c2).1.2⟩, ⟨rfl, ⟨⟨rfl, ((h.2.2 c1).1 c2).1.1, ((h.2.2 c1).1 c2).1.2⟩, ((((h.2.2 c1).1 c2).2.2 c3).2 c9)⟩⟩⟩⟩⟩⟩⟩⟩⟩⟩⟩⟩⟩⟩⟩⟩, fun c2 => ⟨fun c12 => ⟨rfl, ⟨⟨rfl, (((h.2.2 c1).2 c2).1 c12).1.1, (((h.2.2 c1).2 c2).1 c12).1.2⟩, ⟨rfl, ⟨⟨rfl, (((h.2.2 c1).2 c2).1 c12).1.1, (((h.2.2 c1).2 c2).1 c12).1.2⟩, ⟨rfl, ⟨fun c13 => ⟨⟨rfl, (((h.2.2 c1).2 c2).1 c12).1.1, (((h.2.2 c1).2 c2).1 c12).1.2⟩, ⟨rfl, ⟨⟨rfl, (((h.2.2 c1).2 c2).1 c12).1.1, (((h.2.2 c1).2 c2).1 c12).1.2⟩, ⟨rfl, ⟨⟨rfl, (((h.2.2 c1).2 c2).1 c12).1.1, (((h.2.2 c1).2 c2).1 c12).1.2⟩, ((((h.2.2 c1).2 c2).1 c12).2.1 c13)⟩⟩⟩⟩⟩, fun c13 => ⟨⟨rfl, (((h.2.2 c1).2 c2).1 c12).1.1, (((h.2.2 c1).2 c2).1 c12).1.2⟩, ⟨rfl, ⟨⟨rfl, (((h.2.2 c1).2 c2).1 c12).1.1, (((h.2.2 c1).2 c2).1 c12).1.2⟩, ⟨rfl, ⟨⟨rfl, (((h.2.2 c1).2 c2).1 c12).1.1, (((h.2.2 c1).2 c2).1 c12).1.2⟩, ((((h.2.2 c1).2 c2).1 c12).2.2 c13)⟩⟩⟩⟩⟩⟩⟩⟩⟩⟩⟩, fun c12 => ⟨rfl, ⟨rfl, ⟨⟨rfl, (((h.2.2 c1).2 c2).2 c12).1.1, (((h.2.2 c1).2 c2).2 c12).1.2⟩, ⟨fun c16 => ⟨rfl, ⟨⟨rfl, (((h.2.2 c1).2 c2).2 c12).1.1, (((h.2.2 c1).2 c2).2 c12).1.2⟩, ⟨⟨rfl, (((h.2.2 c1).2 c2).2 c12).1.1, (((h.2.2 c1).2 c2).2 c12).1.2⟩, ⟨rfl, ⟨⟨rfl, (((h.2.2 c1).2 c2).2 c12).1.1, (((h.2.2 c1).2 c2).2 c12).1.2⟩, ⟨rfl, ⟨⟨rfl, (((h.2.2 c1).2 c2).2 c12).1.1, (((h.2.2 c1).2 c2).2 c12).1.2⟩, ⟨rfl, ⟨fun c18 => ⟨⟨rfl, (((h.2.2 c1).2 c2).2 c12).1.1, (((h.2.2 c1).2 c2).2 c12).1.2⟩, ⟨rfl, ⟨⟨rfl, (((h.2.2 c1).2 c2).2 c12).1.1, (((h.2.2 c1).2 c2).2 c12).1.2⟩, ⟨rfl, ⟨⟨rfl, (((h.2.2 c1).2 c2).2 c12).1.1, (((h.2.2 c1).2 c2).2 c12).1.2⟩, (((((h.2.2 c1).2 c2).2 c12).2.1 c16).1 c18)⟩⟩⟩⟩⟩, fun c18 => ⟨⟨rfl, (((h.2.2 c1).2 c2).2 c12).1.1, (((h.2.2 c1).2 c2).2 c12).1.2⟩, ⟨rfl, ⟨⟨rfl, (((h.2.2 c1).2 c2).2 c12).1.1, (((h.2.2 c1).2 c2).2 c12).1.2⟩, ⟨rfl, ⟨⟨rfl, (((h.2.2 c1).2 c2).2 c12).1.1, (((h.2.2 c1).2 c2).2 c12).1.2⟩, (((((h.2.2 c1).2 c2).2 c12).2.1 c16).2 c18)⟩⟩⟩⟩⟩⟩⟩⟩⟩⟩⟩⟩⟩⟩, fun c16 => ⟨⟨rfl, (((h.2.2 c1).2 c2).2 c12).1.1, (((h.2.2 c1).2 c2).2 c12).1.2⟩, ⟨rfl, ⟨⟨rfl, (((h.2.2 c1).2 c2).2 c12).1.1, (((h.2.2 c1).2 c2).2 c12).1.2⟩, ⟨rfl, ⟨⟨rfl, (((h.2.2 c1).2 c2).2 c12).1.1, (((h.2.2 c1).2 c2).2 c12).1.2⟩, ⟨rfl, ⟨fun c22 => ⟨⟨rfl, (((h.2.2 c1).2 c2).2 c12).1.1, (((h.2.2 c1).2 c2).2 c12).1.2⟩, ⟨rfl, ⟨⟨rfl, (((h.2.2 c1).2 c2).2 c12).1.1, (((h.2.2 c1).2 c2).2 c12).1.2⟩, ⟨rfl, ⟨⟨rfl, (((h.2.2 c1).2 c2).2 c12).1.1, (((h.2.2 c1).2 c2).2 c12).1.2⟩, (((((h.2.2 c1).2 c2).2 c12).2.2 c16).1 c22)⟩⟩⟩⟩⟩, fun c22 => ⟨⟨rfl, (((h.2.2 c1).2 c2).2 c12).1.1, (((h.2.2 c1).2 c2).2 c12).1.2⟩, ⟨rfl, ⟨⟨rfl, (((h.2.2 c1).2 c2).2 c12).1.1, (((h.2.2 c1).2 c2).2 c12).1.2⟩, ⟨rfl, ⟨⟨rfl, (((h.2.2 c1).2 c2).2 c12).1.1, (((h.2.2 c1).2 c2).2 c12).1.2⟩, (((((h.2.2 c1).2 c2).2 c12).2.2 c16).2 c22)⟩⟩⟩⟩⟩⟩⟩⟩⟩⟩⟩⟩⟩⟩⟩⟩⟩⟩⟩⟩⟩)

set_option maxRecDepth 20000 in
theorem v_M_lessens_0 (d : Nat) (p1 p2 p3 : Int) (σ : am_S) (K : Int → am_S → Prop) (hF : MF σ) (h :
  ((p3 = 0 →
    (0 ≤ (w32 ((w32 (12 * p1)) + p2)) ∧ (w32 ((w32 (12 * p1)) + p2)) < ((168 : Nat) : Int)) ∧
    (0 ≤ p1 ∧ p1 < ((14 : Nat) : Int)) ∧
    am_Runs PP MLL d m_M_lessens 32 [some (qr (31, 12, 89)), some (qi p1), some (qi p2), some (qi p3), some (qi (w32 ((w32 (12 * p1)) + p2))), some (qi (w32 ((sI σ 64 (Int.toNat (w32 ((w32 (12 * p1)) + p2)))) - 1))), some (qi (sI σ 59 (Int.toNat p1))), some (qi (sI σ 59 (Int.toNat p1))), some (qi 0), none] [] σ (kI K)) ∧
  (¬ (p3 = 0) →
    (0 ≤ (w32 ((w32 (12 * p1)) + p2)) ∧ (w32 ((w32 (12 * p1)) + p2)) < ((168 : Nat) : Int)) ∧
    (0 ≤ p1 ∧ p1 < ((14 : Nat) : Int)) ∧
    am_Runs PP MLL d m_M_lessens 32 [some (qr (31, 12, 89)), some (qi p1), some (qi p2), some (qi p3), some (qi (w32 ((w32 (12 * p1)) + p2))), some (qi (w32 ((sI σ 65 (Int.toNat (w32 ((w32 (12 * p1)) + p2)))) - 1))), some (qi (sI σ 59 (Int.toNat p1))), some (qi (sI σ 59 (Int.toNat p1))), some (qi 0), none] [] σ (kI K)))) : am_Runs PP MLL d m_M_lessens 0 [some (qr (31, 12, 89)), some (qi p1), some (qi p2), some (qi p3), none, none, none, none, none, none] [] σ (kI K) := am_wEM_ok 200 hF (⟨fun c1 => ⟨rfl, ⟨⟨rfl, (h.1 c1).1.1, (h.1 c1).1.2⟩, ⟨rfl, ⟨⟨rfl, (h.1 c1).2.1.1, (h.1 c1).2.1.2⟩, ⟨rfl, ⟨⟨rfl, (h.1 c1).2.1.1, (h.1 c1).2.1.2⟩, (h.1 c1).2.2⟩⟩⟩⟩⟩⟩, fun c1 => ⟨rfl, ⟨⟨rfl, (h.2 c1).1.1, (h.2 c1).1.2⟩, ⟨rfl, ⟨⟨rfl, (h.2 c1).2.1.1, (h.2 c1).2.1.2⟩, ⟨rfl, ⟨⟨rfl, (h.2 c1).2.1.1, (h.2 c1).2.1.2⟩, (h.2 c1).2.2⟩⟩⟩⟩⟩⟩⟩)

set_option maxRecDepth 20000 in
theorem v_M_lessens_32 (d : Nat) (p1 p2 p3 v4 v5 v6 v7 v8 : Int) (z9 : Option am_V) (σ : am_S) (K : Int → am_S → Prop) (hF : MF σ) (h :
  ((p2 ≤ v8 →
    am_Runs PP MLL d m_M_lessens 65 [some (qr (31, 12, 89)), some (qi p1), some (qi p2), some (qi p3), some (qi v4), some (qi v5), some (qi v6), some (qi v7), some (qi 0), some (qi (w32 (p2 + 1)))] [] σ (kI K)) ∧
  (¬ (p2 ≤ v8) →
    (0 ≤ (w32 ((w32 (12 * p1)) + v8)) ∧ (w32 ((w32 (12 * p1)) + v8)) < ((168 : Nat) : Int)) ∧
    am_Runs PP MLL d m_M_lessens 32 [some (qr (31, 12, 89)), some (qi p1), some (qi p2), some (qi p3), some (qi v4), some (qi v5), some (qi (w32 (v6 - (sI σ 64 (Int.toNat (w32 ((w32 (12 * p1)) + v8))))))), some (qi (w32 (v7 - (sI σ 65 (Int.toNat (w32 ((w32 (12 * p1)) + v8))))))), some (qi (w32 (v8 + 1))), z9] [] σ (kI K)))) : am_Runs PP MLL d m_M_lessens 32 [some (qr (31, 12, 89)), some (qi p1), some (qi p2), some (qi p3), some (qi v4), some (qi v5), some (qi v6), some (qi v7), some (qi v8), z9] [] σ (kI K) := am_wEM_ok 200 hF (⟨fun c1 => (h.1 c1), fun c1 => ⟨rfl, ⟨⟨rfl, (h.2 c1).1.1, (h.2 c1).1.2⟩, ⟨rfl, ⟨⟨rfl, (h.2 c1).1.1, (h.2 c1).1.2⟩, (h.2 c1).2⟩⟩⟩⟩⟩)

set_option maxRecDepth 20000 in
theorem v_M_lessens_65 (d : Nat) (p1 p2 p3 v4 v5 v6 v7 v8 v9 : Int) (σ : am_S) (K : Int → am_S → Prop) (hF : MF σ) (h :
  (0 ≤ p1 ∧ p1 < ((14 : Nat) : Int)) ∧
  (((sI σ 61 (Int.toNat p1)) ≤ v9 →
    ((0 ≤ v5 →
      ((p3 = 0 →
        ((v8 < (w32 (v6 - v5)) →
          K 0 σ) ∧
        (¬ (v8 < (w32 (v6 - v5))) →
          (0 ≤ v4 ∧ v4 < ((168 : Nat) : Int)) ∧
          (((w32 ((w32 (v6 - v5)) + v7)) ≤ (w32 ((w32 (v8 + (sI σ 63 (Int.toNat v4)))) - v5)) →
            let s6 := putI σ 64 (Int.toNat v4) v5;
            am_Calls PP MLL d m_M_fill [qr (31, 12, 89), qi p1, qi p2, qi 1] s6 (kV fun s7 =>
              MF s7 ∧
              K 1 s7)) ∧
          (¬ ((w32 ((w32 (v6 - v5)) + v7)) ≤ (w32 ((w32 (v8 + (sI σ 63 (Int.toNat v4)))) - v5))) →
            K 0 σ))))) ∧
      (¬ (p3 = 0) →
        (0 ≤ v4 ∧ v4 < ((168 : Nat) : Int)) ∧
        (((w32 ((w32 ((w32 (v6 - (sI σ 64 (Int.toNat v4)))) + v7)) - v5)) ≤ v8 →
          let s9 := putI σ 65 (Int.toNat v4) v5;
          am_Calls PP MLL d m_M_fill [qr (31, 12, 89), qi p1, qi (w32 (p2 + 1)), qi 0] s9 (kV fun s10 =>
            MF s10 ∧
            K 1 s10)) ∧
        (¬ ((w32 ((w32 ((w32 (v6 - (sI σ 64 (Int.toNat v4)))) + v7)) - v5)) ≤ v8) →
          K 0 σ))))) ∧
    (¬ (0 ≤ v5) →
      K 0 σ))) ∧
  (¬ ((sI σ 61 (Int.toNat p1)) ≤ v9) →
    (0 ≤ (w32 ((w32 (12 * p1)) + v9)) ∧ (w32 ((w32 (12 * p1)) + v9)) < ((168 : Nat) : Int)) ∧
    am_Runs PP MLL d m_M_lessens 65 [some (qr (31, 12, 89)), some (qi p1), some (qi p2), some (qi p3), some (qi v4), some (qi v5), some (qi v6), some (qi v7), some (qi (w32 (v8 + (sI σ 63 (Int.toNat (w32 ((w32 (12 * p1)) + v9))))))), some (qi (w32 (v9 + 1)))] [] σ (kI K)))) : am_Runs PP MLL d m_M_lessens 65 [some (qr (31, 12, 89)), some (qi p1), some (qi p2), some (qi p3), some (qi v4), some (qi v5), some (qi v6), some (qi v7), some (qi v8), some (qi v9)] [] σ (kI K) := am_wEM_ok 200 hF (⟨rfl, ⟨⟨rfl, h.1.1, h.1.2⟩, ⟨fun c1 => ⟨fun c2 => ⟨fun c3 => ⟨fun c4 => ⟨(Or.inl rfl), ((((h.2.1 c1).1 c2).1 c3).1 c4)⟩, fun c4 => ⟨rfl, ⟨⟨rfl, ((((h.2.1 c1).1 c2).1 c3).2 c4).1.1, ((((h.2.1 c1).1 c2).1 c3).2 c4).1.2⟩, ⟨fun c5 => ⟨rfl, ⟨⟨rfl, ((((h.2.1 c1).1 c2).1 c3).2 c4).1.1, ((((h.2.1 c1).1 c2).1 c3).2 c4).1.2⟩, ⟨rfl, (am_cV (((((h.2.1 c1).1 c2).1 c3).2 c4).2.1 c5) fun s7 h7 => ⟨h7.1, ⟨(Or.inr rfl), h7.2⟩⟩)⟩⟩⟩, fun c5 => ⟨(Or.inl rfl), (((((h.2.1 c1).1 c2).1 c3).2 c4).2.2 c5)⟩⟩⟩⟩⟩, fun c3 => ⟨rfl, ⟨⟨rfl, (((h.2.1 c1).1 c2).2 c3).1.1, (((h.2.1 c1).1 c2).2 c3).1.2⟩, ⟨fun c8 => ⟨rfl, ⟨⟨rfl, (((h.2.1 c1).1 c2).2 c3).1.1, (((h.2.1 c1).1 c2).2 c3).1.2⟩, ⟨rfl, (am_cV ((((h.2.1 c1).1 c2).2 c3).2.1 c8) fun s10 h10 => ⟨h10.1, ⟨(Or.inr rfl), h10.2⟩⟩)⟩⟩⟩, fun c8 => ⟨(Or.inl rfl), ((((h.2.1 c1).1 c2).2 c3).2.2 c8)⟩⟩⟩⟩⟩, fun c2 => ⟨(Or.inl rfl), ((h.2.1 c1).2 c2)⟩⟩, fun c1 => ⟨rfl, ⟨⟨rfl, (h.2.2 c1).1.1, (h.2.2 c1).1.2⟩, (h.2.2 c1).2⟩⟩⟩⟩⟩)

set_option maxRecDepth 20000 in
theorem v_M_nextWeighing_0 (d : Nat) (p1 : Int) (σ : am_S) (K : Int → am_S → Prop) (hF : MF σ) (h :
  (0 ≤ p1 ∧ p1 < ((14 : Nat) : Int)) ∧
  am_Runs PP MLL d m_M_nextWeighing 9 [some (qr (31, 12, 89)), some (qi p1), some (qi 0), some (qi (w32 ((sI σ 61 (Int.toNat p1)) - 1))), none, none, none] [] σ (kI K)) : am_Runs PP MLL d m_M_nextWeighing 0 [some (qr (31, 12, 89)), some (qi p1), none, none, none, none, none] [] σ (kI K) := am_wEM_ok 200 hF (⟨rfl, ⟨⟨rfl, h.1.1, h.1.2⟩, h.2⟩⟩)

set_option maxRecDepth 20000 in
theorem v_M_nextWeighing_9 (d : Nat) (p1 v2 v3 : Int) (z4 z5 z6 : Option am_V) (σ : am_S) (K : Int → am_S → Prop) (hF : MF σ) (h :
  ((v3 < 0 →
    ((v2 = 0 →
      (0 ≤ p1 ∧ p1 < ((14 : Nat) : Int)) ∧
      let s3 := putI σ 59 (Int.toNat p1) (w32 ((sI σ 59 (Int.toNat p1)) + 1));
      (((w32 (2 * (sI s3 59 (Int.toNat p1)))) ≤ (sI s3 31 2) →
        am_Calls PP MLL d m_M_fill [qr (31, 12, 89), qi p1, qi 0, qi 0] s3 (kV fun s5 =>
          MF s5 ∧
          let s6 := putI s5 60 (Int.toNat p1) (w32 ((sI s5 60 (Int.toNat p1)) + 1));
          am_Runs PP MLL d m_M_nextWeighing 72 [some (qr (31, 12, 89)), some (qi p1), some (qi v2), some (qi 0), z4, z5, z6] [] s6 (kI K))) ∧
      (¬ ((w32 (2 * (sI s3 59 (Int.toNat p1)))) ≤ (sI s3 31 2)) →
        K 0 s3))) ∧
    (¬ (v2 = 0) →
      (0 ≤ p1 ∧ p1 < ((14 : Nat) : Int)) ∧
      let s7 := putI σ 60 (Int.toNat p1) (w32 ((sI σ 60 (Int.toNat p1)) + 1));
      am_Runs PP MLL d m_M_nextWeighing 72 [some (qr (31, 12, 89)), some (qi p1), some (qi v2), some (qi 0), z4, z5, z6] [] s7 (kI K)))) ∧
  (¬ (v3 < 0) →
    ((v2 = 0 →
      (0 ≤ p1 ∧ p1 < ((14 : Nat) : Int)) ∧
      (((sI σ 59 (Int.toNat p1)) ≤ 0 →
        ((v2 = 0 →
          let s11 := putI σ 59 (Int.toNat p1) (w32 ((sI σ 59 (Int.toNat p1)) + 1));
          (((w32 (2 * (sI s11 59 (Int.toNat p1)))) ≤ (sI s11 31 2) →
            am_Calls PP MLL d m_M_fill [qr (31, 12, 89), qi p1, qi 0, qi 0] s11 (kV fun s13 =>
              MF s13 ∧
              let s14 := putI s13 60 (Int.toNat p1) (w32 ((sI s13 60 (Int.toNat p1)) + 1));
              am_Runs PP MLL d m_M_nextWeighing 72 [some (qr (31, 12, 89)), some (qi p1), some (qi v2), some (qi 0), z4, z5, z6] [] s14 (kI K))) ∧
          (¬ ((w32 (2 * (sI s11 59 (Int.toNat p1)))) ≤ (sI s11 31 2)) →
            K 0 s11))) ∧
        (¬ (v2 = 0) →
          let s15 := putI σ 60 (Int.toNat p1) (w32 ((sI σ 60 (Int.toNat p1)) + 1));
          am_Runs PP MLL d m_M_nextWeighing 72 [some (qr (31, 12, 89)), some (qi p1), some (qi v2), some (qi 0), z4, z5, z6] [] s15 (kI K)))) ∧
      (¬ ((sI σ 59 (Int.toNat p1)) ≤ 0) →
        am_Calls PP MLL d m_M_lessens [qr (31, 12, 89), qi p1, qi v3, qi 1] σ (kI fun x16 s16 =>
          MF s16 ∧
          ((x16 = 0 →
            am_Calls PP MLL d m_M_lessens [qr (31, 12, 89), qi p1, qi v3, qi 0] s16 (kI fun x18 s18 =>
              MF s18 ∧
              ((x18 = 0 →
                am_Runs PP MLL d m_M_nextWeighing 9 [some (qr (31, 12, 89)), some (qi p1), some (qi 0), some (qi (w32 (v3 + (-1)))), z4, z5, z6] [] s18 (kI K)) ∧
              (¬ (x18 = 0) →
                am_Runs PP MLL d m_M_nextWeighing 9 [some (qr (31, 12, 89)), some (qi p1), some (qi 1), some (qi (w32 (v3 + (-1)))), z4, z5, z6] [] s18 (kI K))))) ∧
          (¬ (x16 = 0) →
            am_Runs PP MLL d m_M_nextWeighing 9 [some (qr (31, 12, 89)), some (qi p1), some (qi 1), some (qi (w32 (v3 + (-1)))), z4, z5, z6] [] s16 (kI K))))))) ∧
    (¬ (v2 = 0) →
      ((v2 = 0 →
        (0 ≤ p1 ∧ p1 < ((14 : Nat) : Int)) ∧
        let s21 := putI σ 59 (Int.toNat p1) (w32 ((sI σ 59 (Int.toNat p1)) + 1));
        (((w32 (2 * (sI s21 59 (Int.toNat p1)))) ≤ (sI s21 31 2) →
          am_Calls PP MLL d m_M_fill [qr (31, 12, 89), qi p1, qi 0, qi 0] s21 (kV fun s23 =>
            MF s23 ∧
            let s24 := putI s23 60 (Int.toNat p1) (w32 ((sI s23 60 (Int.toNat p1)) + 1));
            am_Runs PP MLL d m_M_nextWeighing 72 [some (qr (31, 12, 89)), some (qi p1), some (qi v2), some (qi 0), z4, z5, z6] [] s24 (kI K))) ∧
        (¬ ((w32 (2 * (sI s21 59 (Int.toNat p1)))) ≤ (sI s21 31 2)) →
          K 0 s21))) ∧
      (¬ (v2 = 0) →
        (0 ≤ p1 ∧ p1 < ((14 : Nat) : Int)) ∧
        let s25 := putI σ 60 (Int.toNat p1) (w32 ((sI σ 60 (Int.toNat p1)) + 1));
        am_Runs PP MLL d m_M_nextWeighing 72 [some (qr (31, 12, 89)), some (qi p1), some (qi v2), some (qi 0), z4, z5, z6] [] s25 (kI K)))))))) : am_Runs PP MLL d m_M_nextWeighing 9 [some (qr (31, 12, 89)), some (qi p1), some (qi v2), some (qi v3), z4, z5, z6] [] σ (kI K) := am_wEM_ok 200 hF (⟨fun c1 => ⟨fun c2 => ⟨rfl, ⟨⟨rfl, ((h.1 c1).1 c2).1.1, ((h.1 c1).1 c2).1.2⟩, ⟨⟨rfl, ((h.1 c1).1 c2).1.1, ((h.1 c1).1 c2).1.2⟩, ⟨rfl, ⟨⟨rfl, ((h.1 c1).1 c2).1.1, ((h.1 c1).1 c2).1.2⟩, ⟨rfl, ⟨fun c4 => ⟨rfl, (am_cV (((h.1 c1).1 c2).2.1 c4) fun s5 h5 => ⟨h5.1, ⟨rfl, ⟨⟨rfl, ((h.1 c1).1 c2).1.1, ((h.1 c1).1 c2).1.2⟩, ⟨⟨rfl, ((h.1 c1).1 c2).1.1, ((h.1 c1).1 c2).1.2⟩, h5.2⟩⟩⟩⟩)⟩, fun c4 => ⟨(Or.inl rfl), (((h.1 c1).1 c2).2.2 c4)⟩⟩⟩⟩⟩⟩⟩⟩, fun c2 => ⟨rfl, ⟨⟨rfl, ((h.1 c1).2 c2).1.1, ((h.1 c1).2 c2).1.2⟩, ⟨⟨rfl, ((h.1 c1).2 c2).1.1, ((h.1 c1).2 c2).1.2⟩, ((h.1 c1).2 c2).2⟩⟩⟩⟩, fun c1 => ⟨fun c8 => ⟨rfl, ⟨⟨rfl, ((h.2 c1).1 c8).1.1, ((h.2 c1).1 c8).1.2⟩, ⟨fun c9 => ⟨fun c10 => ⟨rfl, ⟨⟨rfl, ((h.2 c1).1 c8).1.1, ((h.2 c1).1 c8).1.2⟩, ⟨⟨rfl, ((h.2 c1).1 c8).1.1, ((h.2 c1).1 c8).1.2⟩, ⟨rfl, ⟨⟨rfl, ((h.2 c1).1 c8).1.1, ((h.2 c1).1 c8).1.2⟩, ⟨rfl, ⟨fun c12 => ⟨rfl, (am_cV (((((h.2 c1).1 c8).2.1 c9).1 c10).1 c12) fun s13 h13 => ⟨h13.1, ⟨rfl, ⟨⟨rfl, ((h.2 c1).1 c8).1.1, ((h.2 c1).1 c8).1.2⟩, ⟨⟨rfl, ((h.2 c1).1 c8).1.1, ((h.2 c1).1 c8).1.2⟩, h13.2⟩⟩⟩⟩)⟩, fun c12 => ⟨(Or.inl rfl), (((((h.2 c1).1 c8).2.1 c9).1 c10).2 c12)⟩⟩⟩⟩⟩⟩⟩⟩, fun c10 => ⟨rfl, ⟨⟨rfl, ((h.2 c1).1 c8).1.1, ((h.2 c1).1 c8).1.2⟩, ⟨⟨rfl, ((h.2 c1).1 c8).1.1, ((h.2 c1).1 c8).1.2⟩, ((((h.2 c1).1 c8).2.1 c9).2 c10)⟩⟩⟩⟩, fun c9 => ⟨rfl, (am_cI (((h.2 c1).1 c8).2.2 c9) fun x16 s16 h16 => ⟨h16.1, ⟨fun c17 => ⟨rfl, (am_cI (h16.2.1 c17) fun x18 s18 h18 => ⟨h18.1, ⟨fun c19 => (h18.2.1 c19), fun c19 => (h18.2.2 c19)⟩⟩)⟩, fun c17 => (h16.2.2 c17)⟩⟩)⟩⟩⟩⟩, fun c8 => ⟨fun c20 => ⟨rfl, ⟨⟨rfl, (((h.2 c1).2 c8).1 c20).1.1, (((h.2 c1).2 c8).1 c20).1.2⟩, ⟨⟨rfl, (((h.2 c1).2 c8).1 c20).1.1, (((h.2 c1).2 c8).1 c20).1.2⟩, ⟨rfl, ⟨⟨rfl, (((h.2 c1).2 c8).1 c20).1.1, (((h.2 c1).2 c8).1 c20).1.2⟩, ⟨rfl, ⟨fun c22 => ⟨rfl, (am_cV ((((h.2 c1).2 c8).1 c20).2.1 c22) fun s23 h23 => ⟨h23.1, ⟨rfl, ⟨⟨rfl, (((h.2 c1).2 c8).1 c20).1.1, (((h.2 c1).2 c8).1 c20).1.2⟩, ⟨⟨rfl, (((h.2 c1).2 c8).1 c20).1.1, (((h.2 c1).2 c8).1 c20).1.2⟩, h23.2⟩⟩⟩⟩)⟩, fun c22 => ⟨(Or.inl rfl), ((((h.2 c1).2 c8).1 c20).2.2 c22)⟩⟩⟩⟩⟩⟩⟩⟩, fun c20 => ⟨rfl, ⟨⟨rfl, (((h.2 c1).2 c8).2 c20).1.1, (((h.2 c1).2 c8).2 c20).1.2⟩, ⟨⟨rfl, (((h.2 c1).2 c8).2 c20).1.1, (((h.2 c1).2 c8).2 c20).1.2⟩, (((h.2 c1).2 c8).2 c20).2⟩⟩⟩⟩⟩⟩)

set_option maxRecDepth 20000 in
theorem v_M_nextWeighing_72 (d : Nat) (p1 v3 : Int) (z2 z4 z5 z6 : Option am_V) (σ : am_S) (K : Int → am_S → Prop) (hF : MF σ) (h :
  (0 ≤ p1 ∧ p1 < ((14 : Nat) : Int)) ∧
  (((sI σ 61 (Int.toNat p1)) ≤ v3 →
    K 1 σ) ∧
  (¬ ((sI σ 61 (Int.toNat p1)) ≤ v3) →
    am_Runs PP MLL d m_M_nextWeighing 82 [some (qr (31, 12, 89)), some (qi p1), z2, some (qi v3), some (qi 0), some (qi 0), z6] [] σ (kI K)))) : am_Runs PP MLL d m_M_nextWeighing 72 [some (qr (31, 12, 89)), some (qi p1), z2, some (qi v3), z4, z5, z6] [] σ (kI K) := am_wEM_ok 200 hF (⟨rfl, ⟨⟨rfl, h.1.1, h.1.2⟩, ⟨fun c1 => ⟨(Or.inr rfl), (h.2.1 c1)⟩, fun c1 => (h.2.2 c1)⟩⟩⟩)

set_option maxRecDepth 20000 in
theorem v_M_nextWeighing_82 (d : Nat) (p1 v3 v4 v5 : Int) (z2 z6 : Option am_V) (σ : am_S) (K : Int → am_S → Prop) (hF : MF σ) (h :
  (((sI σ 31 2) ≤ v5 →
    am_Runs PP MLL d m_M_nextWeighing 72 [some (qr (31, 12, 89)), some (qi p1), (am_cl z2), some (qi (w32 (v3 + 1))), some (qi v4), some (qi v5), z6] [] σ (kI K)) ∧
  (¬ ((sI σ 31 2) ≤ v5) →
    (0 ≤ (w32 ((w32 (12 * p1)) + v5)) ∧ (w32 ((w32 (12 * p1)) + v5)) < ((168 : Nat) : Int)) ∧
    (((sI σ 62 (Int.toNat (w32 ((w32 (12 * p1)) + v5)))) = v3 →
      (0 ≤ (w32 ((w32 (12 * p1)) + v3)) ∧ (w32 ((w32 (12 * p1)) + v3)) < ((168 : Nat) : Int)) ∧
      (((sI σ 64 (Int.toNat (w32 ((w32 (12 * p1)) + v3)))) ≤ v4 →
        (((w32 ((sI σ 64 (Int.toNat (w32 ((w32 (12 * p1)) + v3)))) + (sI σ 65 (Int.toNat (w32 ((w32 (12 * p1)) + v3)))))) ≤ v4 →
          let s5 := putI σ 66 (Int.toNat (w32 ((w32 (12 * p1)) + v5))) 0;
          am_Runs PP MLL d m_M_nextWeighing 82 [some (qr (31, 12, 89)), some (qi p1), z2, some (qi v3), some (qi (w32 (v4 + 1))), some (qi (w32 (v5 + 1))), some (qi (sI σ 64 (Int.toNat (w32 ((w32 (12 * p1)) + v3)))))] [] s5 (kI K)) ∧
        (¬ ((w32 ((sI σ 64 (Int.toNat (w32 ((w32 (12 * p1)) + v3)))) + (sI σ 65 (Int.toNat (w32 ((w32 (12 * p1)) + v3)))))) ≤ v4) →
          let s6 := putI σ 66 (Int.toNat (w32 ((w32 (12 * p1)) + v5))) (-1);
          am_Runs PP MLL d m_M_nextWeighing 82 [some (qr (31, 12, 89)), some (qi p1), z2, some (qi v3), some (qi (w32 (v4 + 1))), some (qi (w32 (v5 + 1))), some (qi (sI σ 64 (Int.toNat (w32 ((w32 (12 * p1)) + v3)))))] [] s6 (kI K)))) ∧
      (¬ ((sI σ 64 (Int.toNat (w32 ((w32 (12 * p1)) + v3)))) ≤ v4) →
        let s7 := putI σ 66 (Int.toNat (w32 ((w32 (12 * p1)) + v5))) 1;
        am_Runs PP MLL d m_M_nextWeighing 82 [some (qr (31, 12, 89)), some (qi p1), z2, some (qi v3), some (qi (w32 (v4 + 1))), some (qi (w32 (v5 + 1))), some (qi (sI σ 64 (Int.toNat (w32 ((w32 (12 * p1)) + v3)))))] [] s7 (kI K)))) ∧
    (¬ ((sI σ 62 (Int.toNat (w32 ((w32 (12 * p1)) + v5)))) = v3) →
      am_Runs PP MLL d m_M_nextWeighing 82 [some (qr (31, 12, 89)), some (qi p1), z2, some (qi v3), some (qi v4), some (qi (w32 (v5 + 1))), z6] [] σ (kI K)))))) : am_Runs PP MLL d m_M_nextWeighing 82 [some (qr (31, 12, 89)), some (qi p1), z2, some (qi v3), some (qi v4), some (qi v5), z6] [] σ (kI K) := am_wEM_ok 200 hF (⟨rfl, ⟨fun c1 => (h.1 c1), fun c1 => ⟨rfl, ⟨⟨rfl, (h.2 c1).1.1, (h.2 c1).1.2⟩, ⟨fun c2 => ⟨rfl, ⟨⟨rfl, ((h.2 c1).2.1 c2).1.1, ((h.2 c1).2.1 c2).1.2⟩, ⟨rfl, ⟨fun c3 => ⟨rfl, ⟨⟨rfl, ((h.2 c1).2.1 c2).1.1, ((h.2 c1).2.1 c2).1.2⟩, ⟨fun c4 => ⟨⟨rfl, (h.2 c1).1.1, (h.2 c1).1.2⟩, ((((h.2 c1).2.1 c2).2.1 c3).1 c4)⟩, fun c4 => ⟨⟨rfl, (h.2 c1).1.1, (h.2 c1).1.2⟩, ((((h.2 c1).2.1 c2).2.1 c3).2 c4)⟩⟩⟩⟩, fun c3 => ⟨⟨rfl, (h.2 c1).1.1, (h.2 c1).1.2⟩, (((h.2 c1).2.1 c2).2.2 c3)⟩⟩⟩⟩⟩, fun c2 => ((h.2 c1).2.2 c2)⟩⟩⟩⟩⟩)

set_option maxRecDepth 20000 in
theorem v_M_differenceAt_0 (d : Nat) (p1 p2 : Int) (σ : am_S) (K : Int → am_S → Prop) (hF : MF σ) (h :
  am_Runs PP MLL d m_M_differenceAt 4 [some (qr (31, 12, 89)), some (qi p1), some (qi p2), some (qi 0), some (qi 0)] [] σ (kI K)) : am_Runs PP MLL d m_M_differenceAt 0 [some (qr (31, 12, 89)), some (qi p1), some (qi p2), none, none] [] σ (kI K) := am_wEM_ok 200 hF (h)

set_option maxRecDepth 20000 in
theorem v_M_differenceAt_4 (d : Nat) (p1 p2 v3 v4 : Int) (σ : am_S) (K : Int → am_S → Prop) (hF : MF σ) (h :
  (0 ≤ p2 ∧ p2 < ((10000 : Nat) : Int)) ∧
  (((sI σ 33 (Int.toNat p2)) ≤ v4 →
    K v3 σ) ∧
  (¬ ((sI σ 33 (Int.toNat p2)) ≤ v4) →
    (0 ≤ (w32 ((w32 (3 * p2)) + v4)) ∧ (w32 ((w32 (3 * p2)) + v4)) < ((30000 : Nat) : Int)) ∧
    (0 ≤ (w32 ((w32 (12 * p1)) + (sI σ 34 (Int.toNat (w32 ((w32 (3 * p2)) + v4)))))) ∧ (w32 ((w32 (12 * p1)) + (sI σ 34 (Int.toNat (w32 ((w32 (3 * p2)) + v4)))))) < ((168 : Nat) : Int)) ∧
    am_Runs PP MLL d m_M_differenceAt 4 [some (qr (31, 12, 89)), some (qi p1), some (qi p2), some (qi (w32 (v3 + (w32 ((sI σ 66 (Int.toNat (w32 ((w32 (12 * p1)) + (sI σ 34 (Int.toNat (w32 ((w32 (3 * p2)) + v4)))))))) * (sI σ 35 (Int.toNat (w32 ((w32 (3 * p2)) + v4))))))))), some (qi (w32 (v4 + 1)))] [] σ (kI K)))) : am_Runs PP MLL d m_M_differenceAt 4 [some (qr (31, 12, 89)), some (qi p1), some (qi p2), some (qi v3), some (qi v4)] [] σ (kI K) := am_wEM_ok 200 hF (⟨rfl, ⟨⟨rfl, h.1.1, h.1.2⟩, ⟨fun c1 => (h.2.1 c1), fun c1 => ⟨rfl, ⟨rfl, ⟨⟨rfl, (h.2.2 c1).1.1, (h.2.2 c1).1.2⟩, ⟨⟨rfl, (h.2.2 c1).2.1.1, (h.2.2 c1).2.1.2⟩, ⟨rfl, ⟨⟨rfl, (h.2.2 c1).1.1, (h.2.2 c1).1.2⟩, (h.2.2 c1).2.2⟩⟩⟩⟩⟩⟩⟩⟩⟩)

set_option maxRecDepth 20000 in
theorem v_M_makeCase_0 (d : Nat) (p1 p2 p3 : Int) (σ : am_S) (K : am_S → Prop) (hF : MF σ) (h :
  (0 ≤ p1 ∧ p1 < ((14 : Nat) : Int)) ∧
  am_Calls PP MLL d m_M_weighsAt [qr (31, 12, 89), qi (sI σ 55 (Int.toNat p1))] σ (kI fun x1 s1 =>
    MF s1 ∧
    (0 ≤ x1 ∧ x1 < ((12 : Nat) : Int)) ∧
    am_Runs PP MLL d m_M_makeCase 12 [some (qr (31, 12, 89)), some (qi p1), some (qi p2), some (qi p3), some (qi (sI s1 41 (Int.toNat x1))), some (qi 0), none, none] [] s1 (kV K))) : am_Runs PP MLL d m_M_makeCase 0 [some (qr (31, 12, 89)), some (qi p1), some (qi p2), some (qi p3), none, none, none, none] [] σ (kV K) := am_wEM_ok 200 hF (⟨rfl, ⟨rfl, ⟨⟨rfl, h.1.1, h.1.2⟩, ⟨rfl, (am_cI h.2 fun x1 s1 h1 => ⟨h1.1, ⟨⟨rfl, h1.2.1.1, h1.2.1.2⟩, h1.2.2⟩⟩)⟩⟩⟩⟩)

set_option maxRecDepth 20000 in
theorem v_M_makeCase_12 (d : Nat) (p1 p2 p3 v4 v5 : Int) (z6 z7 : Option am_V) (σ : am_S) (K : am_S → Prop) (hF : MF σ) (h :
  (((sI σ 31 40) ≤ v5 →
    (0 ≤ p1 ∧ p1 < ((14 : Nat) : Int)) ∧
    (0 ≤ p2 ∧ p2 < ((14 : Nat) : Int)) ∧
    let s2 := putI σ 54 (Int.toNat p2) (w32 ((sI σ 54 (Int.toNat p1)) - 1));
    let s3 := putI s2 55 (Int.toNat p2) (w32 ((sI s2 55 (Int.toNat p1)) + 1));
    K s3) ∧
  (¬ ((sI σ 31 40) ≤ v5) →
    (0 ≤ (w32 ((w32 (60 * p1)) + v5)) ∧ (w32 ((w32 (60 * p1)) + v5)) < ((840 : Nat) : Int)) ∧
    ((0 ≤ (sI σ 53 (Int.toNat (w32 ((w32 (60 * p1)) + v5)))) →
      (0 ≤ v5 ∧ v5 < ((60 : Nat) : Int)) ∧
      am_Calls PP MLL d m_M_differenceAt [qr (31, 12, 89), qi p1, qi (sI σ 51 (Int.toNat v5))] σ (kI fun x5 s5 =>
        MF s5 ∧
        am_Calls PP MLL d m_M_fits [qr (31, 12, 89), qi v4, qi x5, qi p3, qi (sI σ 53 (Int.toNat (w32 ((w32 (60 * p1)) + v5))))] s5 (kI fun x6 s6 =>
          MF s6 ∧
          ((x6 = 0 →
            (0 ≤ (w32 ((w32 (60 * p2)) + v5)) ∧ (w32 ((w32 (60 * p2)) + v5)) < ((840 : Nat) : Int)) ∧
            let s8 := putI s6 53 (Int.toNat (w32 ((w32 (60 * p2)) + v5))) (-1);
            am_Runs PP MLL d m_M_makeCase 12 [some (qr (31, 12, 89)), some (qi p1), some (qi p2), some (qi p3), some (qi v4), some (qi (w32 (v5 + 1))), some (qi (sI σ 53 (Int.toNat (w32 ((w32 (60 * p1)) + v5))))), some (qi x6)] [] s8 (kV K)) ∧
          (¬ (x6 = 0) →
            ((x6 = 2 →
              (0 ≤ (w32 ((w32 (60 * p2)) + v5)) ∧ (w32 ((w32 (60 * p2)) + v5)) < ((840 : Nat) : Int)) ∧
              let s10 := putI s6 53 (Int.toNat (w32 ((w32 (60 * p2)) + v5))) (w32 ((sI σ 53 (Int.toNat (w32 ((w32 (60 * p1)) + v5)))) + 1));
              am_Runs PP MLL d m_M_makeCase 12 [some (qr (31, 12, 89)), some (qi p1), some (qi p2), some (qi p3), some (qi v4), some (qi (w32 (v5 + 1))), some (qi (sI σ 53 (Int.toNat (w32 ((w32 (60 * p1)) + v5))))), some (qi x6)] [] s10 (kV K)) ∧
            (¬ (x6 = 2) →
              (0 ≤ (w32 ((w32 (60 * p2)) + v5)) ∧ (w32 ((w32 (60 * p2)) + v5)) < ((840 : Nat) : Int)) ∧
              let s11 := putI s6 53 (Int.toNat (w32 ((w32 (60 * p2)) + v5))) (sI σ 53 (Int.toNat (w32 ((w32 (60 * p1)) + v5))));
              am_Runs PP MLL d m_M_makeCase 12 [some (qr (31, 12, 89)), some (qi p1), some (qi p2), some (qi p3), some (qi v4), some (qi (w32 (v5 + 1))), some (qi (sI σ 53 (Int.toNat (w32 ((w32 (60 * p1)) + v5))))), some (qi x6)] [] s11 (kV K)))))))) ∧
    (¬ (0 ≤ (sI σ 53 (Int.toNat (w32 ((w32 (60 * p1)) + v5))))) →
      (0 ≤ (w32 ((w32 (60 * p2)) + v5)) ∧ (w32 ((w32 (60 * p2)) + v5)) < ((840 : Nat) : Int)) ∧
      let s12 := putI σ 53 (Int.toNat (w32 ((w32 (60 * p2)) + v5))) (-1);
      am_Runs PP MLL d m_M_makeCase 12 [some (qr (31, 12, 89)), some (qi p1), some (qi p2), some (qi p3), some (qi v4), some (qi (w32 (v5 + 1))), some (qi (sI σ 53 (Int.toNat (w32 ((w32 (60 * p1)) + v5))))), some (qi 0)] [] s12 (kV K)))))) : am_Runs PP MLL d m_M_makeCase 12 [some (qr (31, 12, 89)), some (qi p1), some (qi p2), some (qi p3), some (qi v4), some (qi v5), z6, z7] [] σ (kV K) := am_wEM_ok 200 hF (⟨rfl, ⟨fun c1 => ⟨rfl, ⟨rfl, ⟨⟨rfl, (h.1 c1).1.1, (h.1 c1).1.2⟩, ⟨⟨rfl, (h.1 c1).2.1.1, (h.1 c1).2.1.2⟩, ⟨rfl, ⟨rfl, ⟨⟨rfl, (h.1 c1).1.1, (h.1 c1).1.2⟩, ⟨⟨rfl, (h.1 c1).2.1.1, (h.1 c1).2.1.2⟩, (h.1 c1).2.2⟩⟩⟩⟩⟩⟩⟩⟩, fun c1 => ⟨rfl, ⟨⟨rfl, (h.2 c1).1.1, (h.2 c1).1.2⟩, ⟨fun c4 => ⟨rfl, ⟨⟨rfl, ((h.2 c1).2.1 c4).1.1, ((h.2 c1).2.1 c4).1.2⟩, ⟨rfl, (am_cI ((h.2 c1).2.1 c4).2 fun x5 s5 h5 => ⟨h5.1, ⟨rfl, (am_cI h5.2 fun x6 s6 h6 => ⟨h6.1, ⟨rfl, ⟨fun c7 => ⟨⟨rfl, (h6.2.1 c7).1.1, (h6.2.1 c7).1.2⟩, (h6.2.1 c7).2⟩, fun c7 => ⟨fun c9 => ⟨⟨rfl, ((h6.2.2 c7).1 c9).1.1, ((h6.2.2 c7).1 c9).1.2⟩, ((h6.2.2 c7).1 c9).2⟩, fun c9 => ⟨⟨rfl, ((h6.2.2 c7).2 c9).1.1, ((h6.2.2 c7).2 c9).1.2⟩, ((h6.2.2 c7).2 c9).2⟩⟩⟩⟩⟩)⟩⟩)⟩⟩⟩, fun c4 => ⟨rfl, ⟨fun _ => ⟨⟨rfl, ((h.2 c1).2.2 c4).1.1, ((h.2 c1).2.2 c4).1.2⟩, ((h.2 c1).2.2 c4).2⟩, fun c => absurd (by decide : (0 : Int) = 0) c⟩⟩⟩⟩⟩⟩⟩)

set_option maxRecDepth 20000 in
theorem v_M_keep_0 (d : Nat) (p1 p2 : Int) (σ : am_S) (K : am_S → Prop) (hF : MF σ) (h :
  (((sI σ 31 59) = 0 →
    K σ) ∧
  (¬ ((sI σ 31 59) = 0) →
    ((p2 = 0 →
      K σ) ∧
    (¬ (p2 = 0) →
      (((sI σ 31 60) = 6000 →
        K σ) ∧
      (¬ ((sI σ 31 60) = 6000) →
        ((p2 = 1 →
          (0 ≤ (sI σ 31 60) ∧ (sI σ 31 60) < ((6000 : Nat) : Int)) ∧
          let s5 := putI σ 67 (Int.toNat (sI σ 31 60)) 0;
          let s6 := putI s5 68 (Int.toNat (sI σ 31 60)) 0;
          let s7 := putI s6 69 (Int.toNat (sI σ 31 60)) 0;
          am_Runs PP MLL d m_M_keep 38 [some (qr (31, 12, 89)), some (qi p1), some (qi p2), some (qi (sI σ 31 60)), some (qi 0)] [] s7 (kV K)) ∧
        (¬ (p2 = 1) →
          (0 ≤ p1 ∧ p1 < ((14 : Nat) : Int)) ∧
          (0 ≤ (sI σ 31 60) ∧ (sI σ 31 60) < ((6000 : Nat) : Int)) ∧
          let s8 := putI σ 67 (Int.toNat (sI σ 31 60)) (sI σ 59 (Int.toNat p1));
          let s9 := putI s8 68 (Int.toNat (sI σ 31 60)) 0;
          let s10 := putI s9 69 (Int.toNat (sI σ 31 60)) 0;
          am_Runs PP MLL d m_M_keep 38 [some (qr (31, 12, 89)), some (qi p1), some (qi p2), some (qi (sI σ 31 60)), some (qi 0)] [] s10 (kV K)))))))))) : am_Runs PP MLL d m_M_keep 0 [some (qr (31, 12, 89)), some (qi p1), some (qi p2), none, none] [] σ (kV K) := am_wEM_ok 200 hF (⟨rfl, ⟨fun c1 => (h.1 c1), fun c1 => ⟨fun c2 => ((h.2 c1).1 c2), fun c2 => ⟨rfl, ⟨fun c3 => (((h.2 c1).2 c2).1 c3), fun c3 => ⟨rfl, ⟨rfl, ⟨fun c4 => ⟨⟨rfl, ((((h.2 c1).2 c2).2 c3).1 c4).1.1, ((((h.2 c1).2 c2).2 c3).1 c4).1.2⟩, ⟨rfl, ⟨⟨rfl, ((((h.2 c1).2 c2).2 c3).1 c4).1.1, ((((h.2 c1).2 c2).2 c3).1 c4).1.2⟩, ⟨rfl, ⟨⟨rfl, ((((h.2 c1).2 c2).2 c3).1 c4).1.1, ((((h.2 c1).2 c2).2 c3).1 c4).1.2⟩, ((((h.2 c1).2 c2).2 c3).1 c4).2⟩⟩⟩⟩⟩, fun c4 => ⟨rfl, ⟨⟨rfl, ((((h.2 c1).2 c2).2 c3).2 c4).1.1, ((((h.2 c1).2 c2).2 c3).2 c4).1.2⟩, ⟨⟨rfl, ((((h.2 c1).2 c2).2 c3).2 c4).2.1.1, ((((h.2 c1).2 c2).2 c3).2 c4).2.1.2⟩, ⟨rfl, ⟨⟨rfl, ((((h.2 c1).2 c2).2 c3).2 c4).2.1.1, ((((h.2 c1).2 c2).2 c3).2 c4).2.1.2⟩, ⟨rfl, ⟨⟨rfl, ((((h.2 c1).2 c2).2 c3).2 c4).2.1.1, ((((h.2 c1).2 c2).2 c3).2 c4).2.1.2⟩, ((((h.2 c1).2 c2).2 c3).2 c4).2.2⟩⟩⟩⟩⟩⟩⟩⟩⟩⟩⟩⟩⟩⟩⟩)

set_option maxRecDepth 20000 in
theorem v_M_keep_38 (d : Nat) (p1 p2 v3 v4 : Int) (σ : am_S) (K : am_S → Prop) (hF : MF σ) (h :
  (((sI σ 31 2) ≤ v4 →
    (0 ≤ v3 ∧ v3 < ((6000 : Nat) : Int)) ∧
    let s2 := putI σ 70 (Int.toNat v3) (-1000);
    am_Runs PP MLL d m_M_keep 96 [some (qr (31, 12, 89)), some (qi p1), some (qi p2), some (qi v3), some (qi 0)] [] s2 (kV K)) ∧
  (¬ ((sI σ 31 2) ≤ v4) →
    ((p2 ≤ 1 →
      (0 ≤ v3 ∧ v3 < ((6000 : Nat) : Int)) ∧
      let s4 := putI σ 70 (Int.toNat v3) (-1000);
      am_Runs PP MLL d m_M_keep 96 [some (qr (31, 12, 89)), some (qi p1), some (qi p2), some (qi v3), some (qi 0)] [] s4 (kV K)) ∧
    (¬ (p2 ≤ 1) →
      (0 ≤ v3 ∧ v3 < ((6000 : Nat) : Int)) ∧
      (0 ≤ (w32 ((w32 (12 * p1)) + v4)) ∧ (w32 ((w32 (12 * p1)) + v4)) < ((168 : Nat) : Int)) ∧
      (((sI σ 66 (Int.toNat (w32 ((w32 (12 * p1)) + v4)))) ≤ 0 →
        let s6 := putI σ 68 (Int.toNat v3) (a_or (sI σ 68 (Int.toNat v3)) 0);
        ((0 ≤ (sI s6 66 (Int.toNat (w32 ((w32 (12 * p1)) + v4)))) →
          let s8 := putI s6 69 (Int.toNat v3) (a_or (sI s6 69 (Int.toNat v3)) 0);
          am_Runs PP MLL d m_M_keep 38 [some (qr (31, 12, 89)), some (qi p1), some (qi p2), some (qi v3), some (qi (w32 (v4 + 1)))] [] s8 (kV K)) ∧
        (¬ (0 ≤ (sI s6 66 (Int.toNat (w32 ((w32 (12 * p1)) + v4))))) →
          let s9 := putI s6 69 (Int.toNat v3) (a_or (sI s6 69 (Int.toNat v3)) (a_shl 1 v4));
          am_Runs PP MLL d m_M_keep 38 [some (qr (31, 12, 89)), some (qi p1), some (qi p2), some (qi v3), some (qi (w32 (v4 + 1)))] [] s9 (kV K)))) ∧
      (¬ ((sI σ 66 (Int.toNat (w32 ((w32 (12 * p1)) + v4)))) ≤ 0) →
        let s10 := putI σ 68 (Int.toNat v3) (a_or (sI σ 68 (Int.toNat v3)) (a_shl 1 v4));
        ((0 ≤ (sI s10 66 (Int.toNat (w32 ((w32 (12 * p1)) + v4)))) →
          let s12 := putI s10 69 (Int.toNat v3) (a_or (sI s10 69 (Int.toNat v3)) 0);
          am_Runs PP MLL d m_M_keep 38 [some (qr (31, 12, 89)), some (qi p1), some (qi p2), some (qi v3), some (qi (w32 (v4 + 1)))] [] s12 (kV K)) ∧
        (¬ (0 ≤ (sI s10 66 (Int.toNat (w32 ((w32 (12 * p1)) + v4))))) →
          let s13 := putI s10 69 (Int.toNat v3) (a_or (sI s10 69 (Int.toNat v3)) (a_shl 1 v4));
          am_Runs PP MLL d m_M_keep 38 [some (qr (31, 12, 89)), some (qi p1), some (qi p2), some (qi v3), some (qi (w32 (v4 + 1)))] [] s13 (kV K)))))))))) : am_Runs PP MLL d m_M_keep 38 [some (qr (31, 12, 89)), some (qi p1), some (qi p2), some (qi v3), some (qi v4)] [] σ (kV K) := am_wEM_ok 200 hF (⟨rfl, ⟨fun c1 => ⟨rfl, ⟨⟨rfl, (h.1 c1).1.1, (h.1 c1).1.2⟩, (h.1 c1).2⟩⟩, fun c1 => ⟨fun c3 => ⟨rfl, ⟨⟨rfl, ((h.2 c1).1 c3).1.1, ((h.2 c1).1 c3).1.2⟩, ((h.2 c1).1 c3).2⟩⟩, fun c3 => ⟨rfl, ⟨⟨rfl, ((h.2 c1).2 c3).1.1, ((h.2 c1).2 c3).1.2⟩, ⟨rfl, ⟨⟨rfl, ((h.2 c1).2 c3).2.1.1, ((h.2 c1).2 c3).2.1.2⟩, ⟨fun c5 => ⟨⟨rfl, ((h.2 c1).2 c3).1.1, ((h.2 c1).2 c3).1.2⟩, ⟨rfl, ⟨⟨rfl, ((h.2 c1).2 c3).1.1, ((h.2 c1).2 c3).1.2⟩, ⟨rfl, ⟨⟨rfl, ((h.2 c1).2 c3).2.1.1, ((h.2 c1).2 c3).2.1.2⟩, ⟨fun c7 => ⟨⟨rfl, ((h.2 c1).2 c3).1.1, ((h.2 c1).2 c3).1.2⟩, ((((h.2 c1).2 c3).2.2.1 c5).1 c7)⟩, fun c7 => ⟨⟨rfl, ((h.2 c1).2 c3).1.1, ((h.2 c1).2 c3).1.2⟩, ((((h.2 c1).2 c3).2.2.1 c5).2 c7)⟩⟩⟩⟩⟩⟩⟩, fun c5 => ⟨⟨rfl, ((h.2 c1).2 c3).1.1, ((h.2 c1).2 c3).1.2⟩, ⟨rfl, ⟨⟨rfl, ((h.2 c1).2 c3).1.1, ((h.2 c1).2 c3).1.2⟩, ⟨rfl, ⟨⟨rfl, ((h.2 c1).2 c3).2.1.1, ((h.2 c1).2 c3).2.1.2⟩, ⟨fun c11 => ⟨⟨rfl, ((h.2 c1).2 c3).1.1, ((h.2 c1).2 c3).1.2⟩, ((((h.2 c1).2 c3).2.2.2 c5).1 c11)⟩, fun c11 => ⟨⟨rfl, ((h.2 c1).2 c3).1.1, ((h.2 c1).2 c3).1.2⟩, ((((h.2 c1).2 c3).2.2.2 c5).2 c11)⟩⟩⟩⟩⟩⟩⟩⟩⟩⟩⟩⟩⟩⟩⟩)

set_option maxRecDepth 20000 in
theorem v_M_keep_96 (d : Nat) (p1 p2 v3 v4 : Int) (σ : am_S) (K : am_S → Prop) (hF : MF σ) (h :
  (((sI σ 31 40) ≤ v4 →
    (0 ≤ v3 ∧ v3 < ((6000 : Nat) : Int)) ∧
    let s2 := putI σ 71 (Int.toNat v3) p2;
    let s3 := putI s2 72 (Int.toNat v3) p1;
    ((p1 = 0 →
      let s5 := putI s3 73 (Int.toNat v3) 0;
      let s6 := putI s5 31 60 (w32 ((sI s5 31 60) + 1));
      K s6) ∧
    (¬ (p1 = 0) →
      (0 ≤ (w32 (p1 - 1)) ∧ (w32 (p1 - 1)) < ((14 : Nat) : Int)) ∧
      let s7 := putI s3 73 (Int.toNat v3) (sI s3 57 (Int.toNat (w32 (p1 - 1))));
      let s8 := putI s7 31 60 (w32 ((sI s7 31 60) + 1));
      K s8))) ∧
  (¬ ((sI σ 31 40) ≤ v4) →
    ((p2 = 1 →
      (0 ≤ (w32 ((w32 (60 * p1)) + v4)) ∧ (w32 ((w32 (60 * p1)) + v4)) < ((840 : Nat) : Int)) ∧
      (((sI σ 53 (Int.toNat (w32 ((w32 (60 * p1)) + v4)))) < 0 →
        (0 ≤ v3 ∧ v3 < ((6000 : Nat) : Int)) ∧
        let s11 := putI σ 70 (Int.toNat v3) (sI σ 70 (Int.toNat v3));
        am_Runs PP MLL d m_M_keep 96 [some (qr (31, 12, 89)), some (qi p1), some (qi p2), some (qi v3), some (qi (w32 (v4 + 1)))] [] s11 (kV K)) ∧
      (¬ ((sI σ 53 (Int.toNat (w32 ((w32 (60 * p1)) + v4)))) < 0) →
        (0 ≤ v4 ∧ v4 < ((60 : Nat) : Int)) ∧
        (0 ≤ v3 ∧ v3 < ((6000 : Nat) : Int)) ∧
        let s12 := putI σ 70 (Int.toNat v3) (sI σ 51 (Int.toNat v4));
        am_Runs PP MLL d m_M_keep 96 [some (qr (31, 12, 89)), some (qi p1), some (qi p2), some (qi v3), some (qi (w32 (v4 + 1)))] [] s12 (kV K)))) ∧
    (¬ (p2 = 1) →
      (0 ≤ v3 ∧ v3 < ((6000 : Nat) : Int)) ∧
      let s13 := putI σ 71 (Int.toNat v3) p2;
      let s14 := putI s13 72 (Int.toNat v3) p1;
      ((p1 = 0 →
        let s16 := putI s14 73 (Int.toNat v3) 0;
        let s17 := putI s16 31 60 (w32 ((sI s16 31 60) + 1));
        K s17) ∧
      (¬ (p1 = 0) →
        (0 ≤ (w32 (p1 - 1)) ∧ (w32 (p1 - 1)) < ((14 : Nat) : Int)) ∧
        let s18 := putI s14 73 (Int.toNat v3) (sI s14 57 (Int.toNat (w32 (p1 - 1))));
        let s19 := putI s18 31 60 (w32 ((sI s18 31 60) + 1));
        K s19))))))) : am_Runs PP MLL d m_M_keep 96 [some (qr (31, 12, 89)), some (qi p1), some (qi p2), some (qi v3), some (qi v4)] [] σ (kV K) := am_wEM_ok 200 hF (⟨rfl, ⟨fun c1 => ⟨rfl, ⟨⟨rfl, (h.1 c1).1.1, (h.1 c1).1.2⟩, ⟨rfl, ⟨⟨rfl, (h.1 c1).1.1, (h.1 c1).1.2⟩, ⟨rfl, ⟨fun c4 => ⟨⟨rfl, (h.1 c1).1.1, (h.1 c1).1.2⟩, ⟨rfl, ⟨rfl, ((h.1 c1).2.1 c4)⟩⟩⟩, fun c4 => ⟨rfl, ⟨⟨rfl, ((h.1 c1).2.2 c4).1.1, ((h.1 c1).2.2 c4).1.2⟩, ⟨⟨rfl, (h.1 c1).1.1, (h.1 c1).1.2⟩, ⟨rfl, ⟨rfl, ((h.1 c1).2.2 c4).2⟩⟩⟩⟩⟩⟩⟩⟩⟩⟩⟩, fun c1 => ⟨fun c9 => ⟨rfl, ⟨rfl, ⟨⟨rfl, ((h.2 c1).1 c9).1.1, ((h.2 c1).1 c9).1.2⟩, ⟨fun c10 => ⟨rfl, ⟨⟨rfl, (((h.2 c1).1 c9).2.1 c10).1.1, (((h.2 c1).1 c9).2.1 c10).1.2⟩, ⟨⟨rfl, (((h.2 c1).1 c9).2.1 c10).1.1, (((h.2 c1).1 c9).2.1 c10).1.2⟩, (((h.2 c1).1 c9).2.1 c10).2⟩⟩⟩, fun c10 => ⟨rfl, ⟨⟨rfl, (((h.2 c1).1 c9).2.2 c10).1.1, (((h.2 c1).1 c9).2.2 c10).1.2⟩, ⟨⟨rfl, (((h.2 c1).1 c9).2.2 c10).2.1.1, (((h.2 c1).1 c9).2.2 c10).2.1.2⟩, (((h.2 c1).1 c9).2.2 c10).2.2⟩⟩⟩⟩⟩⟩⟩, fun c9 => ⟨rfl, ⟨⟨rfl, ((h.2 c1).2 c9).1.1, ((h.2 c1).2 c9).1.2⟩, ⟨rfl, ⟨⟨rfl, ((h.2 c1).2 c9).1.1, ((h.2 c1).2 c9).1.2⟩, ⟨rfl, ⟨fun c15 => ⟨⟨rfl, ((h.2 c1).2 c9).1.1, ((h.2 c1).2 c9).1.2⟩, ⟨rfl, ⟨rfl, (((h.2 c1).2 c9).2.1 c15)⟩⟩⟩, fun c15 => ⟨rfl, ⟨⟨rfl, (((h.2 c1).2 c9).2.2 c15).1.1, (((h.2 c1).2 c9).2.2 c15).1.2⟩, ⟨⟨rfl, ((h.2 c1).2 c9).1.1, ((h.2 c1).2 c9).1.2⟩, ⟨rfl, ⟨rfl, (((h.2 c1).2 c9).2.2 c15).2⟩⟩⟩⟩⟩⟩⟩⟩⟩⟩⟩⟩⟩⟩)

set_option maxRecDepth 20000 in
theorem v_M_goesUp_0 (d : Nat) (p1 p2 : Int) (σ : am_S) (K : Int → am_S → Prop) (hF : MF σ) (h :
  am_Runs PP MLL d m_M_goesUp 2 [some (qr (31, 12, 89)), some (qi p1), some (qi p2), some (qi p2)] [] σ (kI K)) : am_Runs PP MLL d m_M_goesUp 0 [some (qr (31, 12, 89)), some (qi p1), some (qi p2), none] [] σ (kI K) := am_wEM_ok 200 hF (h)

set_option maxRecDepth 20000 in
theorem v_M_goesUp_2 (d : Nat) (p1 v3 : Int) (z2 : Option am_V) (σ : am_S) (K : Int → am_S → Prop) (hF : MF σ) (h :
  ((v3 = 0 →
    (0 ≤ (sI σ 31 57) ∧ (sI σ 31 57) < ((14 : Nat) : Int)) ∧
    let s2 := putI σ 31 60 (sI σ 58 (Int.toNat (sI σ 31 57)));
    (((sI s2 31 57) = p1 →
      ((v3 = 0 →
        K 2 s2) ∧
      (¬ (v3 = 0) →
        K 1 s2))) ∧
    (¬ ((sI s2 31 57) = p1) →
      let s5 := putI s2 31 57 (w32 ((sI s2 31 57) - 1));
      ((v3 = 0 →
        (0 ≤ (sI s5 31 57) ∧ (sI s5 31 57) < ((14 : Nat) : Int)) ∧
        let s7 := putI s5 31 60 (sI s5 58 (Int.toNat (sI s5 31 57)));
        let s8 := putI s7 31 58 1;
        K 0 s8) ∧
      (¬ (v3 = 0) →
        (0 ≤ (sI s5 31 57) ∧ (sI s5 31 57) < ((14 : Nat) : Int)) ∧
        let s9 := putI s5 57 (Int.toNat (sI s5 31 57)) (w32 ((sI s5 57 (Int.toNat (sI s5 31 57))) + 1));
        (0 ≤ (sI s9 31 57) ∧ (sI s9 31 57) < ((14 : Nat) : Int)) ∧
        (((sI s9 56 (Int.toNat (sI s9 31 57))) < (sI s9 57 (Int.toNat (sI s9 31 57))) →
          am_Runs PP MLL d m_M_goesUp 2 [some (qr (31, 12, 89)), some (qi p1), z2, some (qi v3)] [] s9 (kI K)) ∧
        (¬ ((sI s9 56 (Int.toNat (sI s9 31 57))) < (sI s9 57 (Int.toNat (sI s9 31 57)))) →
          let s11 := putI s9 31 58 3;
          K 0 s11))))))) ∧
  (¬ (v3 = 0) →
    am_Calls PP MLL d m_M_manyAt [qr (31, 12, 89), qi (sI σ 31 57)] σ (kI fun x12 s12 =>
      MF s12 ∧
      am_Calls PP MLL d m_M_keep [qr (31, 12, 89), qi (sI σ 31 57), qi x12] s12 (kV fun s13 =>
        MF s13 ∧
        (((sI s13 31 57) = p1 →
          ((v3 = 0 →
            K 2 s13) ∧
          (¬ (v3 = 0) →
            K 1 s13))) ∧
        (¬ ((sI s13 31 57) = p1) →
          let s16 := putI s13 31 57 (w32 ((sI s13 31 57) - 1));
          ((v3 = 0 →
            (0 ≤ (sI s16 31 57) ∧ (sI s16 31 57) < ((14 : Nat) : Int)) ∧
            let s18 := putI s16 31 60 (sI s16 58 (Int.toNat (sI s16 31 57)));
            let s19 := putI s18 31 58 1;
            K 0 s19) ∧
          (¬ (v3 = 0) →
            (0 ≤ (sI s16 31 57) ∧ (sI s16 31 57) < ((14 : Nat) : Int)) ∧
            let s20 := putI s16 57 (Int.toNat (sI s16 31 57)) (w32 ((sI s16 57 (Int.toNat (sI s16 31 57))) + 1));
            (0 ≤ (sI s20 31 57) ∧ (sI s20 31 57) < ((14 : Nat) : Int)) ∧
            (((sI s20 56 (Int.toNat (sI s20 31 57))) < (sI s20 57 (Int.toNat (sI s20 31 57))) →
              am_Runs PP MLL d m_M_goesUp 2 [some (qr (31, 12, 89)), some (qi p1), z2, some (qi v3)] [] s20 (kI K)) ∧
            (¬ ((sI s20 56 (Int.toNat (sI s20 31 57))) < (sI s20 57 (Int.toNat (sI s20 31 57)))) →
              let s22 := putI s20 31 58 3;
              K 0 s22))))))))))) : am_Runs PP MLL d m_M_goesUp 2 [some (qr (31, 12, 89)), some (qi p1), z2, some (qi v3)] [] σ (kI K) := am_wEM_ok 200 hF (⟨fun c1 => ⟨rfl, ⟨rfl, ⟨⟨rfl, (h.1 c1).1.1, (h.1 c1).1.2⟩, ⟨rfl, ⟨rfl, ⟨fun c3 => ⟨fun c4 => (((h.1 c1).2.1 c3).1 c4), fun c4 => (((h.1 c1).2.1 c3).2 c4)⟩, fun c3 => ⟨rfl, ⟨rfl, ⟨fun c6 => ⟨rfl, ⟨rfl, ⟨⟨rfl, (((h.1 c1).2.2 c3).1 c6).1.1, (((h.1 c1).2.2 c3).1 c6).1.2⟩, ⟨rfl, ⟨rfl, (((h.1 c1).2.2 c3).1 c6).2⟩⟩⟩⟩⟩, fun c6 => ⟨rfl, ⟨rfl, ⟨⟨rfl, (((h.1 c1).2.2 c3).2 c6).1.1, (((h.1 c1).2.2 c3).2 c6).1.2⟩, ⟨⟨rfl, (((h.1 c1).2.2 c3).2 c6).1.1, (((h.1 c1).2.2 c3).2 c6).1.2⟩, ⟨rfl, ⟨rfl, ⟨⟨rfl, (((h.1 c1).2.2 c3).2 c6).2.1.1, (((h.1 c1).2.2 c3).2 c6).2.1.2⟩, ⟨rfl, ⟨rfl, ⟨⟨rfl, (((h.1 c1).2.2 c3).2 c6).2.1.1, (((h.1 c1).2.2 c3).2 c6).2.1.2⟩, ⟨fun c10 => ((((h.1 c1).2.2 c3).2 c6).2.2.1 c10), fun c10 => ⟨rfl, ((((h.1 c1).2.2 c3).2 c6).2.2.2 c10)⟩⟩⟩⟩⟩⟩⟩⟩⟩⟩⟩⟩⟩⟩⟩⟩⟩⟩⟩⟩⟩, fun c1 => ⟨rfl, ⟨rfl, ⟨rfl, (am_cI (h.2 c1) fun x12 s12 h12 => ⟨h12.1, ⟨rfl, (am_cV h12.2 fun s13 h13 => ⟨h13.1, ⟨rfl, ⟨fun c14 => ⟨fun c15 => ((h13.2.1 c14).1 c15), fun c15 => ((h13.2.1 c14).2 c15)⟩, fun c14 => ⟨rfl, ⟨rfl, ⟨fun c17 => ⟨rfl, ⟨rfl, ⟨⟨rfl, ((h13.2.2 c14).1 c17).1.1, ((h13.2.2 c14).1 c17).1.2⟩, ⟨rfl, ⟨rfl, ((h13.2.2 c14).1 c17).2⟩⟩⟩⟩⟩, fun c17 => ⟨rfl, ⟨rfl, ⟨⟨rfl, ((h13.2.2 c14).2 c17).1.1, ((h13.2.2 c14).2 c17).1.2⟩, ⟨⟨rfl, ((h13.2.2 c14).2 c17).1.1, ((h13.2.2 c14).2 c17).1.2⟩, ⟨rfl, ⟨rfl, ⟨⟨rfl, ((h13.2.2 c14).2 c17).2.1.1, ((h13.2.2 c14).2 c17).2.1.2⟩, ⟨rfl, ⟨rfl, ⟨⟨rfl, ((h13.2.2 c14).2 c17).2.1.1, ((h13.2.2 c14).2 c17).2.1.2⟩, ⟨fun c21 => (((h13.2.2 c14).2 c17).2.2.1 c21), fun c21 => ⟨rfl, (((h13.2.2 c14).2 c17).2.2.2 c21)⟩⟩⟩⟩⟩⟩⟩⟩⟩⟩⟩⟩⟩⟩⟩⟩⟩⟩)⟩⟩)⟩⟩⟩⟩)

set_option maxRecDepth 20000 in
theorem v_M_startCase_0 (d : Nat) (σ : am_S) (K : am_S → Prop) (hF : MF σ) (h :
  am_Runs PP MLL d m_M_startCase 2 [some (qr (31, 12, 89)), some (qi 0)] [] σ (kV K)) : am_Runs PP MLL d m_M_startCase 0 [some (qr (31, 12, 89)), none] [] σ (kV K) := am_wEM_ok 200 hF (h)

set_option maxRecDepth 20000 in
theorem v_M_startCase_2 (d : Nat) (v1 : Int) (σ : am_S) (K : am_S → Prop) (hF : MF σ) (h :
  (((sI σ 31 40) ≤ v1 →
    0 < ((14 : Nat) : Int) ∧
    let s2 := putI σ 55 (Int.toNat 0) (sI σ 31 13);
    K s2) ∧
  (¬ ((sI σ 31 40) ≤ v1) →
    (0 ≤ v1 ∧ v1 < ((60 : Nat) : Int)) ∧
    (0 ≤ (sI σ 51 (Int.toNat v1)) ∧ (sI σ 51 (Int.toNat v1)) < ((10000 : Nat) : Int)) ∧
    v1 < ((840 : Nat) : Int) ∧
    let s3 := putI σ 53 (Int.toNat v1) (sI σ 36 (Int.toNat (sI σ 51 (Int.toNat v1))));
    am_Runs PP MLL d m_M_startCase 2 [some (qr (31, 12, 89)), some (qi (w32 (v1 + 1)))] [] s3 (kV K)))) : am_Runs PP MLL d m_M_startCase 2 [some (qr (31, 12, 89)), some (qi v1)] [] σ (kV K) := am_wEM_ok 200 hF (⟨rfl, ⟨fun c1 => ⟨rfl, ⟨rfl, ⟨⟨rfl, (by decide : (0 : Int) ≤ 0), (h.1 c1).1⟩, (h.1 c1).2⟩⟩⟩, fun c1 => ⟨rfl, ⟨rfl, ⟨rfl, ⟨⟨rfl, (h.2 c1).1.1, (h.2 c1).1.2⟩, ⟨⟨rfl, (h.2 c1).2.1.1, (h.2 c1).2.1.2⟩, ⟨⟨rfl, (h.2 c1).1.1, (h.2 c1).2.2.1⟩, (h.2 c1).2.2.2⟩⟩⟩⟩⟩⟩⟩⟩)

set_option maxRecDepth 20000 in
theorem v_M_beginSearch_0 (d : Nat) (p1 : Int) (σ : am_S) (K : am_S → Prop) (hF : MF σ) (h :
  am_Calls PP MLL d m_M_endSearch [qr (31, 12, 89)] σ (kV fun s1 =>
    MF s1 ∧
    let s2 := putI s1 31 36 p1;
    let s3 := putI s2 31 40 0;
    am_Runs PP MLL d m_M_beginSearch 10 [some (qr (31, 12, 89)), some (qi p1), some (qi 0), none, none] [] s3 (kV K))) : am_Runs PP MLL d m_M_beginSearch 0 [some (qr (31, 12, 89)), some (qi p1), none, none, none] [] σ (kV K) := am_wEM_ok 200 hF (⟨rfl, (am_cV h fun s1 h1 => ⟨h1.1, ⟨rfl, ⟨rfl, h1.2⟩⟩⟩)⟩)

set_option maxRecDepth 20000 in
theorem v_M_beginSearch_10 (d : Nat) (v2 : Int) (z1 z3 z4 : Option am_V) (σ : am_S) (K : am_S → Prop) (hF : MF σ) (h :
  (((sI σ 31 5) ≤ v2 →
    am_Runs PP MLL d m_M_beginSearch 45 [some (qr (31, 12, 89)), (am_cl z1), some (qi 0), z3, z4] [] σ (kV K)) ∧
  (¬ ((sI σ 31 5) ≤ v2) →
    (0 ≤ v2 ∧ v2 < ((10000 : Nat) : Int)) ∧
    let s2 := putI σ 79 (Int.toNat v2) (-1);
    am_Calls PP MLL d m_M_isLeft [qr (31, 12, 89), qi v2] s2 (kI fun x3 s3 =>
      MF s3 ∧
      ((x3 = 0 →
        am_Runs PP MLL d m_M_beginSearch 10 [some (qr (31, 12, 89)), (am_cl z1), some (qi (w32 (v2 + 1))), z3, z4] [] s3 (kV K)) ∧
      (¬ (x3 = 0) →
        let s5 := putI s3 79 (Int.toNat v2) (sI s3 31 40);
        (0 ≤ (sI s5 31 40) ∧ (sI s5 31 40) < ((60 : Nat) : Int)) ∧
        let s6 := putI s5 51 (Int.toNat (sI s5 31 40)) v2;
        let s7 := putI s6 31 40 (w32 ((sI s6 31 40) + 1));
        am_Runs PP MLL d m_M_beginSearch 10 [some (qr (31, 12, 89)), (am_cl z1), some (qi (w32 (v2 + 1))), z3, z4] [] s7 (kV K))))))) : am_Runs PP MLL d m_M_beginSearch 10 [some (qr (31, 12, 89)), z1, some (qi v2), z3, z4] [] σ (kV K) := am_wEM_ok 200 hF (⟨rfl, ⟨fun c1 => (h.1 c1), fun c1 => ⟨rfl, ⟨⟨rfl, (h.2 c1).1.1, (h.2 c1).1.2⟩, ⟨rfl, (am_cI (h.2 c1).2 fun x3 s3 h3 => ⟨h3.1, ⟨fun c4 => (h3.2.1 c4), fun c4 => ⟨rfl, ⟨rfl, ⟨⟨rfl, (h.2 c1).1.1, (h.2 c1).1.2⟩, ⟨rfl, ⟨rfl, ⟨⟨rfl, (h3.2.2 c4).1.1, (h3.2.2 c4).1.2⟩, ⟨rfl, ⟨rfl, (h3.2.2 c4).2⟩⟩⟩⟩⟩⟩⟩⟩⟩⟩)⟩⟩⟩⟩⟩)

set_option maxRecDepth 20000 in
theorem v_M_beginSearch_45 (d : Nat) (v2 : Int) (z1 z3 z4 : Option am_V) (σ : am_S) (K : am_S → Prop) (hF : MF σ) (h :
  (((sI σ 31 40) ≤ v2 →
    am_Calls PP MLL d m_M_startCase [qr (31, 12, 89)] σ (kV fun s2 =>
      MF s2 ∧
      0 < ((14 : Nat) : Int) ∧
      let s3 := putI s2 54 (Int.toNat 0) 0;
      let s4 := putI s3 31 57 0;
      let s5 := putI s4 31 58 0;
      let s6 := putI s5 31 60 0;
      let s7 := putI s6 31 59 1;
      let s8 := putI s7 31 33 1;
      K s8)) ∧
  (¬ ((sI σ 31 40) ≤ v2) →
    am_Runs PP MLL d m_M_beginSearch 51 [some (qr (31, 12, 89)), z1, some (qi v2), some (qi 0), z4] [] σ (kV K)))) : am_Runs PP MLL d m_M_beginSearch 45 [some (qr (31, 12, 89)), z1, some (qi v2), z3, z4] [] σ (kV K) := am_wEM_ok 200 hF (⟨rfl, ⟨fun c1 => ⟨rfl, (am_cV (h.1 c1) fun s2 h2 => ⟨h2.1, ⟨rfl, ⟨⟨rfl, (by decide : (0 : Int) ≤ 0), h2.2.1⟩, ⟨rfl, ⟨rfl, ⟨rfl, ⟨⟨rfl, (Or.inr rfl)⟩, ⟨⟨rfl, (Or.inr rfl)⟩, h2.2.2⟩⟩⟩⟩⟩⟩⟩⟩)⟩, fun c1 => (h.2 c1)⟩⟩)

set_option maxRecDepth 20000 in
theorem v_M_beginSearch_51 (d : Nat) (v2 v3 : Int) (z1 z4 : Option am_V) (σ : am_S) (K : am_S → Prop) (hF : MF σ) (h :
  (((sI σ 31 2) ≤ v3 →
    am_Runs PP MLL d m_M_beginSearch 45 [some (qr (31, 12, 89)), (am_cl z1), some (qi (w32 (v2 + 1))), some (qi v3), z4] [] σ (kV K)) ∧
  (¬ ((sI σ 31 2) ≤ v3) →
    am_Runs PP MLL d m_M_beginSearch 57 [some (qr (31, 12, 89)), z1, some (qi v2), some (qi v3), some (qi 0)] [] σ (kV K)))) : am_Runs PP MLL d m_M_beginSearch 51 [some (qr (31, 12, 89)), z1, some (qi v2), some (qi v3), z4] [] σ (kV K) := am_wEM_ok 200 hF (⟨rfl, ⟨fun c1 => (h.1 c1), fun c1 => (h.2 c1)⟩⟩)

set_option maxRecDepth 20000 in
theorem v_M_beginSearch_57 (d : Nat) (v2 v3 v4 : Int) (z1 : Option am_V) (σ : am_S) (K : am_S → Prop) (hF : MF σ) (h :
  (((sI σ 31 2) ≤ v4 →
    am_Runs PP MLL d m_M_beginSearch 51 [some (qr (31, 12, 89)), z1, some (qi v2), some (qi (w32 (v3 + 1))), some (qi v4)] [] σ (kV K)) ∧
  (¬ ((sI σ 31 2) ≤ v4) →
    ((v3 = v4 →
      (0 ≤ (w32 ((w32 ((w32 (144 * v2)) + (w32 (12 * v3)))) + v4)) ∧ (w32 ((w32 ((w32 (144 * v2)) + (w32 (12 * v3)))) + v4)) < ((8640 : Nat) : Int)) ∧
      let s3 := putI σ 52 (Int.toNat (w32 ((w32 ((w32 (144 * v2)) + (w32 (12 * v3)))) + v4))) v2;
      am_Runs PP MLL d m_M_beginSearch 57 [some (qr (31, 12, 89)), z1, some (qi v2), some (qi v3), some (qi (w32 (v4 + 1)))] [] s3 (kV K)) ∧
    (¬ (v3 = v4) →
      (0 ≤ v2 ∧ v2 < ((60 : Nat) : Int)) ∧
      am_Calls PP MLL d m_M_exchanged [qr (31, 12, 89), qi (sI σ 51 (Int.toNat v2)), qi v3, qi v4] σ (kI fun x4 s4 =>
        MF s4 ∧
        (0 ≤ x4 ∧ x4 < ((10000 : Nat) : Int)) ∧
        (0 ≤ (w32 ((w32 ((w32 (144 * v2)) + (w32 (12 * v3)))) + v4)) ∧ (w32 ((w32 ((w32 (144 * v2)) + (w32 (12 * v3)))) + v4)) < ((8640 : Nat) : Int)) ∧
        let s5 := putI s4 52 (Int.toNat (w32 ((w32 ((w32 (144 * v2)) + (w32 (12 * v3)))) + v4))) (sI s4 79 (Int.toNat x4));
        am_Runs PP MLL d m_M_beginSearch 57 [some (qr (31, 12, 89)), z1, some (qi v2), some (qi v3), some (qi (w32 (v4 + 1)))] [] s5 (kV K))))))) : am_Runs PP MLL d m_M_beginSearch 57 [some (qr (31, 12, 89)), z1, some (qi v2), some (qi v3), some (qi v4)] [] σ (kV K) := am_wEM_ok 200 hF (⟨rfl, ⟨fun c1 => (h.1 c1), fun c1 => ⟨rfl, ⟨fun c2 => ⟨⟨rfl, ((h.2 c1).1 c2).1.1, ((h.2 c1).1 c2).1.2⟩, ((h.2 c1).1 c2).2⟩, fun c2 => ⟨rfl, ⟨rfl, ⟨⟨rfl, ((h.2 c1).2 c2).1.1, ((h.2 c1).2 c2).1.2⟩, ⟨rfl, (am_cI ((h.2 c1).2 c2).2 fun x4 s4 h4 => ⟨h4.1, ⟨⟨rfl, h4.2.1.1, h4.2.1.2⟩, ⟨⟨rfl, h4.2.2.1.1, h4.2.2.1.2⟩, h4.2.2.2⟩⟩⟩)⟩⟩⟩⟩⟩⟩⟩⟩)

set_option maxRecDepth 20000 in
theorem v_M_goesOn_0 (d : Nat) (p1 : Int) (σ : am_S) (K : Int → am_S → Prop) (hF : MF σ) (h :
  let s1 := putI σ 31 39 p1;
  let s2 := putI s1 31 38 (w32 ((sI s1 31 38) + p1));
  am_Runs PP MLL d m_M_goesOn 11 [some (qr (31, 12, 89)), some (qi p1), some (qi 1), none] [] s2 (kI K)) : am_Runs PP MLL d m_M_goesOn 0 [some (qr (31, 12, 89)), some (qi p1), none, none] [] σ (kI K) := am_wEM_ok 200 hF (⟨rfl, ⟨rfl, ⟨rfl, h⟩⟩⟩)

set_option maxRecDepth 20000 in
theorem v_M_goesOn_11 (d : Nat) (v2 : Int) (z1 z3 : Option am_V) (σ : am_S) (K : Int → am_S → Prop) (hF : MF σ) (h :
  ((v2 = 0 →
    (((sI σ 31 34) = 0 →
      K 0 σ) ∧
    (¬ ((sI σ 31 34) = 0) →
      K 1 σ))) ∧
  (¬ (v2 = 0) →
    (((sI σ 31 34) = 0 →
      am_Calls PP MLL d m_M_goes [qr (31, 12, 89), qi 0, qi 1] σ (kI fun x4 s4 =>
        MF s4 ∧
        ((x4 = 0 →
          am_Runs PP MLL d m_M_goesOn 11 [some (qr (31, 12, 89)), (am_cl z1), some (qi 0), some (qi x4)] [] s4 (kI K)) ∧
        (¬ (x4 = 0) →
          ((x4 = 1 →
            0 < ((14 : Nat) : Int) ∧
            let s7 := putI s4 31 35 (sI s4 54 (Int.toNat 0));
            let s8 := putI s7 31 34 1;
            am_Calls PP MLL d m_M_build [qr (31, 12, 89)] s8 (kV fun s9 =>
              MF s9 ∧
              am_Runs PP MLL d m_M_goesOn 11 [some (qr (31, 12, 89)), z1, some (qi v2), some (qi x4)] [] s9 (kI K))) ∧
          (¬ (x4 = 1) →
            0 < ((14 : Nat) : Int) ∧
            (((sI s4 54 (Int.toNat 0)) = 6 →
              let s11 := putI s4 31 34 1;
              am_Runs PP MLL d m_M_goesOn 11 [some (qr (31, 12, 89)), z1, some (qi v2), some (qi x4)] [] s11 (kI K)) ∧
            (¬ ((sI s4 54 (Int.toNat 0)) = 6) →
              let s12 := putI s4 54 (Int.toNat 0) (w32 ((sI s4 54 (Int.toNat 0)) + 1));
              let s13 := putI s12 31 57 0;
              let s14 := putI s13 31 58 0;
              am_Runs PP MLL d m_M_goesOn 11 [some (qr (31, 12, 89)), z1, some (qi v2), some (qi x4)] [] s14 (kI K))))))))) ∧
    (¬ ((sI σ 31 34) = 0) →
      (((sI σ 31 34) = 0 →
        K 0 σ) ∧
      (¬ ((sI σ 31 34) = 0) →
        K 1 σ))))))) : am_Runs PP MLL d m_M_goesOn 11 [some (qr (31, 12, 89)), z1, some (qi v2), z3] [] σ (kI K) := am_wEM_ok 200 hF (⟨fun c1 => ⟨rfl, ⟨fun c2 => ((h.1 c1).1 c2), fun c2 => ((h.1 c1).2 c2)⟩⟩, fun c1 => ⟨rfl, ⟨fun c3 => ⟨rfl, (am_cI ((h.2 c1).1 c3) fun x4 s4 h4 => ⟨h4.1, ⟨fun c5 => (h4.2.1 c5), fun c5 => ⟨fun c6 => ⟨rfl, ⟨⟨rfl, (by decide : (0 : Int) ≤ 0), ((h4.2.2 c5).1 c6).1⟩, ⟨rfl, ⟨⟨rfl, (Or.inr rfl)⟩, ⟨rfl, (am_cV ((h4.2.2 c5).1 c6).2 fun s9 h9 => ⟨h9.1, h9.2⟩)⟩⟩⟩⟩⟩, fun c6 => ⟨rfl, ⟨⟨rfl, (by decide : (0 : Int) ≤ 0), ((h4.2.2 c5).2 c6).1⟩, ⟨fun c10 => ⟨⟨rfl, (Or.inr rfl)⟩, (((h4.2.2 c5).2 c6).2.1 c10)⟩, fun c10 => ⟨rfl, ⟨⟨rfl, (by decide : (0 : Int) ≤ 0), ((h4.2.2 c5).2 c6).1⟩, ⟨⟨rfl, (by decide : (0 : Int) ≤ 0), ((h4.2.2 c5).2 c6).1⟩, ⟨rfl, ⟨rfl, (((h4.2.2 c5).2 c6).2.2 c10)⟩⟩⟩⟩⟩⟩⟩⟩⟩⟩⟩)⟩, fun c3 => ⟨rfl, ⟨fun c15 => (((h.2 c1).2 c3).1 c15), fun c15 => (((h.2 c1).2 c3).2 c15)⟩⟩⟩⟩⟩)

set_option maxRecDepth 20000 in
theorem v_M_build_0 (d : Nat) (σ : am_S) (K : am_S → Prop) (hF : MF σ) (h :
  am_Runs PP MLL d m_M_build 2 [some (qr (31, 12, 89)), some (qi 0), none, none, none] [] σ (kV K)) : am_Runs PP MLL d m_M_build 0 [some (qr (31, 12, 89)), none, none, none, none] [] σ (kV K) := am_wEM_ok 200 hF (h)

set_option maxRecDepth 20000 in
theorem v_M_build_2 (d : Nat) (v1 : Int) (z2 z3 z4 : Option am_V) (σ : am_S) (K : am_S → Prop) (hF : MF σ) (h :
  ((8 ≤ v1 →
    am_Runs PP MLL d m_M_build 14 [some (qr (31, 12, 89)), some (qi 0), z2, z3, z4] [] σ (kV K)) ∧
  (¬ (8 ≤ v1) →
    (0 ≤ v1 ∧ v1 < ((8 : Nat) : Int)) ∧
    let s2 := putI σ 80 (Int.toNat v1) (-1);
    am_Runs PP MLL d m_M_build 2 [some (qr (31, 12, 89)), some (qi (w32 (v1 + 1))), z2, z3, z4] [] s2 (kV K)))) : am_Runs PP MLL d m_M_build 2 [some (qr (31, 12, 89)), some (qi v1), z2, z3, z4] [] σ (kV K) := am_wEM_ok 200 hF (⟨fun c1 => (h.1 c1), fun c1 => ⟨rfl, ⟨⟨rfl, (h.2 c1).1.1, (h.2 c1).1.2⟩, (h.2 c1).2⟩⟩⟩)

set_option maxRecDepth 20000 in
theorem v_M_build_14 (d : Nat) (v1 : Int) (z2 z3 z4 : Option am_V) (σ : am_S) (K : am_S → Prop) (hF : MF σ) (h :
  (((sI σ 31 60) ≤ v1 →
    let s2 := putI σ 31 73 (sI σ 31 60);
    (0 ≤ (w32 ((sI s2 31 60) - 1)) ∧ (w32 ((sI s2 31 60) - 1)) < ((6000 : Nat) : Int)) ∧
    let s3 := putI s2 75 (Int.toNat (w32 ((sI s2 31 60) - 1))) 0;
    am_Runs PP MLL d m_M_build 123 [some (qr (31, 12, 89)), some (qi (w32 ((sI s3 31 60) - 1))), z2, z3, z4] [] s3 (kV K)) ∧
  (¬ ((sI σ 31 60) ≤ v1) →
    (0 ≤ v1 ∧ v1 < ((6000 : Nat) : Int)) ∧
    let s4 := putI σ 74 (Int.toNat v1) 1;
    am_Runs PP MLL d m_M_build 30 [some (qr (31, 12, 89)), some (qi v1), some (qi (sI σ 72 (Int.toNat v1))), some (qi 0), z4] [] s4 (kV K)))) : am_Runs PP MLL d m_M_build 14 [some (qr (31, 12, 89)), some (qi v1), z2, z3, z4] [] σ (kV K) := am_wEM_ok 200 hF (⟨rfl, ⟨fun c1 => ⟨rfl, ⟨rfl, ⟨rfl, ⟨rfl, ⟨⟨rfl, (h.1 c1).1.1, (h.1 c1).1.2⟩, ⟨rfl, (h.1 c1).2⟩⟩⟩⟩⟩⟩, fun c1 => ⟨rfl, ⟨⟨rfl, (h.2 c1).1.1, (h.2 c1).1.2⟩, ⟨rfl, ⟨⟨rfl, (h.2 c1).1.1, (h.2 c1).1.2⟩, (h.2 c1).2⟩⟩⟩⟩⟩⟩)

set_option maxRecDepth 20000 in
theorem v_M_build_30 (d : Nat) (v1 v2 v3 : Int) (z4 : Option am_V) (σ : am_S) (K : am_S → Prop) (hF : MF σ) (h :
  ((7 ≤ v3 →
    (0 ≤ (w32 (v2 + 1)) ∧ (w32 (v2 + 1)) < ((8 : Nat) : Int)) ∧
    am_Runs PP MLL d m_M_build 51 [some (qr (31, 12, 89)), some (qi v1), some (qi v2), some (qi (sI σ 80 (Int.toNat (w32 (v2 + 1))))), z4] [] σ (kV K)) ∧
  (¬ (7 ≤ v3) →
    (0 ≤ (w32 ((w32 (7 * v1)) + v3)) ∧ (w32 ((w32 (7 * v1)) + v3)) < ((42000 : Nat) : Int)) ∧
    let s2 := putI σ 77 (Int.toNat (w32 ((w32 (7 * v1)) + v3))) (-1);
    am_Runs PP MLL d m_M_build 30 [some (qr (31, 12, 89)), some (qi v1), some (qi v2), some (qi (w32 (v3 + 1))), z4] [] s2 (kV K)))) : am_Runs PP MLL d m_M_build 30 [some (qr (31, 12, 89)), some (qi v1), some (qi v2), some (qi v3), z4] [] σ (kV K) := am_wEM_ok 200 hF (⟨fun c1 => ⟨rfl, ⟨⟨rfl, (h.1 c1).1.1, (h.1 c1).1.2⟩, (h.1 c1).2⟩⟩, fun c1 => ⟨rfl, ⟨⟨rfl, (h.2 c1).1.1, (h.2 c1).1.2⟩, (h.2 c1).2⟩⟩⟩)

set_option maxRecDepth 20000 in
theorem v_M_build_51 (d : Nat) (v1 v2 v3 : Int) (z4 : Option am_V) (σ : am_S) (K : am_S → Prop) (hF : MF σ) (h :
  ((v3 < 0 →
    (0 ≤ (w32 (v2 + 1)) ∧ (w32 (v2 + 1)) < ((8 : Nat) : Int)) ∧
    let s2 := putI σ 80 (Int.toNat (w32 (v2 + 1))) (-1);
    (0 ≤ v2 ∧ v2 < ((8 : Nat) : Int)) ∧
    (0 ≤ v1 ∧ v1 < ((6000 : Nat) : Int)) ∧
    let s3 := putI s2 76 (Int.toNat v1) (sI s2 80 (Int.toNat v2));
    let s4 := putI s3 80 (Int.toNat v2) v1;
    am_Runs PP MLL d m_M_build 14 [some (qr (31, 12, 89)), some (qi (w32 (v1 + 1))), some (qi v2), some (qi v3), z4] [] s4 (kV K)) ∧
  (¬ (v3 < 0) →
    (0 ≤ v3 ∧ v3 < ((6000 : Nat) : Int)) ∧
    (0 ≤ (w32 ((w32 ((w32 (7 * v1)) + (sI σ 73 (Int.toNat v3)))) + 3)) ∧ (w32 ((w32 ((w32 (7 * v1)) + (sI σ 73 (Int.toNat v3)))) + 3)) < ((42000 : Nat) : Int)) ∧
    let s5 := putI σ 77 (Int.toNat (w32 ((w32 ((w32 (7 * v1)) + (sI σ 73 (Int.toNat v3)))) + 3))) v3;
    (0 ≤ v1 ∧ v1 < ((6000 : Nat) : Int)) ∧
    let s6 := putI s5 74 (Int.toNat v1) (w32 ((sI s5 74 (Int.toNat v1)) + (sI s5 74 (Int.toNat v3))));
    am_Runs PP MLL d m_M_build 51 [some (qr (31, 12, 89)), some (qi v1), some (qi v2), some (qi (sI s6 76 (Int.toNat v3))), z4] [] s6 (kV K)))) : am_Runs PP MLL d m_M_build 51 [some (qr (31, 12, 89)), some (qi v1), some (qi v2), some (qi v3), z4] [] σ (kV K) := am_wEM_ok 200 hF (⟨fun c1 => ⟨rfl, ⟨⟨rfl, (h.1 c1).1.1, (h.1 c1).1.2⟩, ⟨rfl, ⟨rfl, ⟨⟨rfl, (h.1 c1).2.1.1, (h.1 c1).2.1.2⟩, ⟨⟨rfl, (h.1 c1).2.2.1.1, (h.1 c1).2.2.1.2⟩, ⟨rfl, ⟨⟨rfl, (h.1 c1).2.1.1, (h.1 c1).2.1.2⟩, (h.1 c1).2.2.2⟩⟩⟩⟩⟩⟩⟩⟩, fun c1 => ⟨rfl, ⟨rfl, ⟨⟨rfl, (h.2 c1).1.1, (h.2 c1).1.2⟩, ⟨⟨rfl, (h.2 c1).2.1.1, (h.2 c1).2.1.2⟩, ⟨rfl, ⟨⟨rfl, (h.2 c1).2.2.1.1, (h.2 c1).2.2.1.2⟩, ⟨rfl, ⟨⟨rfl, (h.2 c1).1.1, (h.2 c1).1.2⟩, ⟨⟨rfl, (h.2 c1).2.2.1.1, (h.2 c1).2.2.1.2⟩, ⟨rfl, ⟨⟨rfl, (h.2 c1).1.1, (h.2 c1).1.2⟩, (h.2 c1).2.2.2⟩⟩⟩⟩⟩⟩⟩⟩⟩⟩⟩⟩)

set_option maxRecDepth 20000 in
theorem v_M_build_123 (d : Nat) (v1 : Int) (z2 z3 z4 : Option am_V) (σ : am_S) (K : am_S → Prop) (hF : MF σ) (h :
  ((v1 < 0 →
    K σ) ∧
  (¬ (v1 < 0) →
    (0 ≤ v1 ∧ v1 < ((6000 : Nat) : Int)) ∧
    (0 ≤ (sI σ 75 (Int.toNat v1)) ∧ (sI σ 75 (Int.toNat v1)) < ((6000 : Nat) : Int)) ∧
    let s2 := putI σ 78 (Int.toNat (sI σ 75 (Int.toNat v1))) v1;
    am_Runs PP MLL d m_M_build 142 [some (qr (31, 12, 89)), some (qi v1), some (qi (w32 ((sI s2 75 (Int.toNat v1)) + 1))), some (qi 0), z4] [] s2 (kV K)))) : am_Runs PP MLL d m_M_build 123 [some (qr (31, 12, 89)), some (qi v1), z2, z3, z4] [] σ (kV K) := am_wEM_ok 200 hF (⟨fun c1 => (h.1 c1), fun c1 => ⟨rfl, ⟨rfl, ⟨⟨rfl, (h.2 c1).1.1, (h.2 c1).1.2⟩, ⟨⟨rfl, (h.2 c1).2.1.1, (h.2 c1).2.1.2⟩, ⟨rfl, ⟨⟨rfl, (h.2 c1).1.1, (h.2 c1).1.2⟩, (h.2 c1).2.2⟩⟩⟩⟩⟩⟩⟩)

set_option maxRecDepth 20000 in
theorem v_M_build_142 (d : Nat) (v1 v2 v3 : Int) (z4 : Option am_V) (σ : am_S) (K : am_S → Prop) (hF : MF σ) (h :
  ((7 ≤ v3 →
    am_Runs PP MLL d m_M_build 123 [some (qr (31, 12, 89)), some (qi (w32 (v1 + (-1)))), some (qi v2), some (qi v3), z4] [] σ (kV K)) ∧
  (¬ (7 ≤ v3) →
    (0 ≤ (w32 ((w32 (7 * v1)) + v3)) ∧ (w32 ((w32 (7 * v1)) + v3)) < ((42000 : Nat) : Int)) ∧
    (((sI σ 77 (Int.toNat (w32 ((w32 (7 * v1)) + v3)))) < 0 →
      am_Runs PP MLL d m_M_build 142 [some (qr (31, 12, 89)), some (qi v1), some (qi v2), some (qi (w32 (v3 + 1))), some (qi (sI σ 77 (Int.toNat (w32 ((w32 (7 * v1)) + v3)))))] [] σ (kV K)) ∧
    (¬ ((sI σ 77 (Int.toNat (w32 ((w32 (7 * v1)) + v3)))) < 0) →
      (0 ≤ (sI σ 77 (Int.toNat (w32 ((w32 (7 * v1)) + v3)))) ∧ (sI σ 77 (Int.toNat (w32 ((w32 (7 * v1)) + v3)))) < ((6000 : Nat) : Int)) ∧
      let s3 := putI σ 75 (Int.toNat (sI σ 77 (Int.toNat (w32 ((w32 (7 * v1)) + v3))))) v2;
      am_Runs PP MLL d m_M_build 142 [some (qr (31, 12, 89)), some (qi v1), some (qi (w32 (v2 + (sI s3 74 (Int.toNat (sI σ 77 (Int.toNat (w32 ((w32 (7 * v1)) + v3))))))))), some (qi (w32 (v3 + 1))), some (qi (sI σ 77 (Int.toNat (w32 ((w32 (7 * v1)) + v3)))))] [] s3 (kV K)))))) : am_Runs PP MLL d m_M_build 142 [some (qr (31, 12, 89)), some (qi v1), some (qi v2), some (qi v3), z4] [] σ (kV K) := am_wEM_ok 200 hF (⟨fun c1 => (h.1 c1), fun c1 => ⟨rfl, ⟨⟨rfl, (h.2 c1).1.1, (h.2 c1).1.2⟩, ⟨fun c2 => ((h.2 c1).2.1 c2), fun c2 => ⟨rfl, ⟨⟨rfl, ((h.2 c1).2.2 c2).1.1, ((h.2 c1).2.2 c2).1.2⟩, ⟨rfl, ⟨⟨rfl, ((h.2 c1).2.2 c2).1.1, ((h.2 c1).2.2 c2).1.2⟩, ((h.2 c1).2.2 c2).2⟩⟩⟩⟩⟩⟩⟩⟩)

set_option maxRecDepth 20000 in
theorem v_M_search_0 (d : Nat) (p1 p2 : Int) (σ : am_S) (K : Int → am_S → Prop) (hF : MF σ) (h :
  am_Calls PP MLL d m_M_isNumber [qr (31, 12, 89), qi p1] σ (kI fun x1 s1 =>
    MF s1 ∧
    ((x1 = 0 →
      K (-1001) s1) ∧
    (¬ (x1 = 0) →
      am_Calls PP MLL d m_M_in [qi p2, qi 1, qi 10000] s1 (kI fun x3 s3 =>
        MF s3 ∧
        ((x3 = 0 →
          K (-1001) s3) ∧
        (¬ (x3 = 0) →
          am_Calls PP MLL d m_M_left [qr (31, 12, 89)] s3 (kI fun x5 s5 =>
            MF s5 ∧
            (((sI s5 31 2) = 0 →
              K (-1002) s5) ∧
            (¬ ((sI s5 31 2) = 0) →
              ((12 < (sI s5 31 2) →
                K (-1002) s5) ∧
              (¬ (12 < (sI s5 31 2)) →
                ((x5 = 0 →
                  K (-1002) s5) ∧
                (¬ (x5 = 0) →
                  ((x5 ≤ 60 →
                    (((w32 ((sI s5 31 38) + p2)) ≤ 30000 →
                      am_Calls PP MLL d m_M_isThere [qr (31, 12, 89), qi p1] s5 (kI fun x11 s11 =>
                        MF s11 ∧
                        am_Runs PP MLL d m_M_search 42 [some (qr (31, 12, 89)), some (qi p1), some (qi p2), some (qi x5), some (qi x11), some (qi 0)] [] s11 (kI K))) ∧
                    (¬ ((w32 ((sI s5 31 38) + p2)) ≤ 30000) →
                      K (-1003) s5))) ∧
                  (¬ (x5 ≤ 60) →
                    K (-1002) s5)))))))))))))))) : am_Runs PP MLL d m_M_search 0 [some (qr (31, 12, 89)), some (qi p1), some (qi p2), none, none, none] [] σ (kI K) := am_wEM_ok 200 hF (⟨rfl, (am_cI h fun x1 s1 h1 => ⟨h1.1, ⟨fun c2 => (h1.2.1 c2), fun c2 => (am_cI (h1.2.2 c2) fun x3 s3 h3 => ⟨h3.1, ⟨fun c4 => (h3.2.1 c4), fun c4 => ⟨rfl, (am_cI (h3.2.2 c4) fun x5 s5 h5 => ⟨h5.1, ⟨rfl, ⟨fun c6 => (h5.2.1 c6), fun c6 => ⟨rfl, ⟨fun c7 => ((h5.2.2 c6).1 c7), fun c7 => ⟨fun c8 => (((h5.2.2 c6).2 c7).1 c8), fun c8 => ⟨fun c9 => ⟨rfl, ⟨fun c10 => ⟨rfl, (am_cI (((((h5.2.2 c6).2 c7).2 c8).1 c9).1 c10) fun x11 s11 h11 => ⟨h11.1, h11.2⟩)⟩, fun c10 => (((((h5.2.2 c6).2 c7).2 c8).1 c9).2 c10)⟩⟩, fun c9 => ((((h5.2.2 c6).2 c7).2 c8).2 c9)⟩⟩⟩⟩⟩⟩⟩)⟩⟩⟩)⟩⟩)⟩)

set_option maxRecDepth 20000 in
theorem v_M_search_42 (d : Nat) (p1 p2 v4 v5 : Int) (z3 : Option am_V) (σ : am_S) (K : Int → am_S → Prop) (hF : MF σ) (h :
  ((v4 = 0 →
    ((v4 = 0 →
      am_Calls PP MLL d m_M_finds [qr (31, 12, 89), qi p1, qi 1] σ (kI fun x3 s3 =>
        MF s3 ∧
        K x3 s3)) ∧
    (¬ (v4 = 0) →
      am_Calls PP MLL d m_M_beginSearch [qr (31, 12, 89), qi p1] σ (kV fun s4 =>
        MF s4 ∧
        am_Calls PP MLL d m_M_goesOn [qr (31, 12, 89), qi p2] s4 (kI fun x5 s5 =>
          MF s5 ∧
          K x5 s5))))) ∧
  (¬ (v4 = 0) →
    (0 ≤ p1 ∧ p1 < ((12 : Nat) : Int)) ∧
    (((sI σ 41 (Int.toNat p1)) = 6 →
      (((sI σ 47 (Int.toNat p1)) ≤ v5 →
        ((v4 = 0 →
          am_Calls PP MLL d m_M_finds [qr (31, 12, 89), qi p1, qi 1] σ (kI fun x9 s9 =>
            MF s9 ∧
            K x9 s9)) ∧
        (¬ (v4 = 0) →
          am_Calls PP MLL d m_M_beginSearch [qr (31, 12, 89), qi p1] σ (kV fun s10 =>
            MF s10 ∧
            am_Calls PP MLL d m_M_goesOn [qr (31, 12, 89), qi p2] s10 (kI fun x11 s11 =>
              MF s11 ∧
              K x11 s11))))) ∧
      (¬ ((sI σ 47 (Int.toNat p1)) ≤ v5) →
        (0 ≤ (w32 ((w32 (3 * p1)) + v5)) ∧ (w32 ((w32 (3 * p1)) + v5)) < ((36 : Nat) : Int)) ∧
        am_Calls PP MLL d m_M_isThere [qr (31, 12, 89), qi (sI σ 46 (Int.toNat (w32 ((w32 (3 * p1)) + v5))))] σ (kI fun x12 s12 =>
          MF s12 ∧
          am_Runs PP MLL d m_M_search 42 [some (qr (31, 12, 89)), some (qi p1), some (qi p2), (am_cl z3), some (qi x12), some (qi (w32 (v5 + 1)))] [] s12 (kI K))))) ∧
    (¬ ((sI σ 41 (Int.toNat p1)) = 6) →
      ((v4 = 0 →
        am_Calls PP MLL d m_M_finds [qr (31, 12, 89), qi p1, qi 1] σ (kI fun x14 s14 =>
          MF s14 ∧
          K x14 s14)) ∧
      (¬ (v4 = 0) →
        am_Calls PP MLL d m_M_beginSearch [qr (31, 12, 89), qi p1] σ (kV fun s15 =>
          MF s15 ∧
          am_Calls PP MLL d m_M_goesOn [qr (31, 12, 89), qi p2] s15 (kI fun x16 s16 =>
            MF s16 ∧
            K x16 s16))))))))) : am_Runs PP MLL d m_M_search 42 [some (qr (31, 12, 89)), some (qi p1), some (qi p2), z3, some (qi v4), some (qi v5)] [] σ (kI K) := am_wEM_ok 200 hF (⟨fun c1 => ⟨fun c2 => ⟨rfl, (am_cI ((h.1 c1).1 c2) fun x3 s3 h3 => ⟨h3.1, h3.2⟩)⟩, fun c2 => ⟨rfl, (am_cV ((h.1 c1).2 c2) fun s4 h4 => ⟨h4.1, ⟨rfl, (am_cI h4.2 fun x5 s5 h5 => ⟨h5.1, h5.2⟩)⟩⟩)⟩⟩, fun c1 => ⟨rfl, ⟨⟨rfl, (h.2 c1).1.1, (h.2 c1).1.2⟩, ⟨fun c6 => ⟨rfl, ⟨⟨rfl, (h.2 c1).1.1, (h.2 c1).1.2⟩, ⟨fun c7 => ⟨fun c8 => ⟨rfl, (am_cI ((((h.2 c1).2.1 c6).1 c7).1 c8) fun x9 s9 h9 => ⟨h9.1, h9.2⟩)⟩, fun c8 => ⟨rfl, (am_cV ((((h.2 c1).2.1 c6).1 c7).2 c8) fun s10 h10 => ⟨h10.1, ⟨rfl, (am_cI h10.2 fun x11 s11 h11 => ⟨h11.1, h11.2⟩)⟩⟩)⟩⟩, fun c7 => ⟨rfl, ⟨⟨rfl, (((h.2 c1).2.1 c6).2 c7).1.1, (((h.2 c1).2.1 c6).2 c7).1.2⟩, ⟨rfl, (am_cI (((h.2 c1).2.1 c6).2 c7).2 fun x12 s12 h12 => ⟨h12.1, h12.2⟩)⟩⟩⟩⟩⟩⟩, fun c6 => ⟨fun c13 => ⟨rfl, (am_cI (((h.2 c1).2.2 c6).1 c13) fun x14 s14 h14 => ⟨h14.1, h14.2⟩)⟩, fun c13 => ⟨rfl, (am_cV (((h.2 c1).2.2 c6).2 c13) fun s15 h15 => ⟨h15.1, ⟨rfl, (am_cI h15.2 fun x16 s16 h16 => ⟨h16.1, h16.2⟩)⟩⟩)⟩⟩⟩⟩⟩⟩)

set_option maxRecDepth 20000 in
theorem v_M_goOn_0 (d : Nat) (p1 : Int) (σ : am_S) (K : Int → am_S → Prop) (hF : MF σ) (h :
  am_Calls PP MLL d m_M_in [qi p1, qi 1, qi 10000] σ (kI fun x1 s1 =>
    MF s1 ∧
    ((x1 = 0 →
      K (-1001) s1) ∧
    (¬ (x1 = 0) →
      (((sI s1 31 33) = 0 →
        K (-1002) s1) ∧
      (¬ ((sI s1 31 33) = 0) →
        (((sI s1 31 34) = 0 →
          (((w32 ((sI s1 31 38) + p1)) ≤ 30000 →
            am_Calls PP MLL d m_M_goesOn [qr (31, 12, 89), qi p1] s1 (kI fun x6 s6 =>
              MF s6 ∧
              K x6 s6)) ∧
          (¬ ((w32 ((sI s1 31 38) + p1)) ≤ 30000) →
            K (-1003) s1))) ∧
        (¬ ((sI s1 31 34) = 0) →
          K (-1002) s1)))))))) : am_Runs PP MLL d m_M_goOn 0 [some (qr (31, 12, 89)), some (qi p1)] [] σ (kI K) := am_wEM_ok 200 hF ((am_cI h fun x1 s1 h1 => ⟨h1.1, ⟨fun c2 => (h1.2.1 c2), fun c2 => ⟨rfl, ⟨fun c3 => ((h1.2.2 c2).1 c3), fun c3 => ⟨rfl, ⟨fun c4 => ⟨rfl, ⟨fun c5 => ⟨rfl, (am_cI ((((h1.2.2 c2).2 c3).1 c4).1 c5) fun x6 s6 h6 => ⟨h6.1, h6.2⟩)⟩, fun c5 => ((((h1.2.2 c2).2 c3).1 c4).2 c5)⟩⟩, fun c4 => (((h1.2.2 c2).2 c3).2 c4)⟩⟩⟩⟩⟩⟩))

set_option maxRecDepth 20000 in
theorem v_M_least_0 (d : Nat) (σ : am_S) (K : Int → am_S → Prop) (hF : MF σ) (h :
  (((sI σ 31 34) = 0 →
    K (-1002) σ) ∧
  (¬ ((sI σ 31 34) = 0) →
    K (sI σ 31 35) σ))) : am_Runs PP MLL d m_M_least 0 [some (qr (31, 12, 89))] [] σ (kI K) := am_wEM_ok 200 hF (⟨rfl, ⟨fun c1 => (h.1 c1), fun c1 => ⟨rfl, (h.2 c1)⟩⟩⟩)

set_option maxRecDepth 20000 in
theorem v_M_tree_0 (d : Nat) (σ : am_S) (K : Int → am_S → Prop) (hF : MF σ) (h :
  (((sI σ 31 73) ≤ 0 →
    K (-1002) σ) ∧
  (¬ ((sI σ 31 73) ≤ 0) →
    K (sI σ 31 73) σ))) : am_Runs PP MLL d m_M_tree 0 [some (qr (31, 12, 89))] [] σ (kI K) := am_wEM_ok 200 hF (⟨rfl, ⟨fun c1 => (h.1 c1), fun c1 => ⟨rfl, (h.2 c1)⟩⟩⟩)

set_option maxRecDepth 20000 in
theorem v_M_node_0 (d : Nat) (p1 p2 : Int) (σ : am_S) (K : Int → am_S → Prop) (hF : MF σ) (h :
  am_Calls PP MLL d m_M_in [qi p1, qi 0, qi (w32 ((sI σ 31 73) - 1))] σ (kI fun x1 s1 =>
    MF s1 ∧
    ((x1 = 0 →
      K (-1001) s1) ∧
    (¬ (x1 = 0) →
      am_Calls PP MLL d m_M_in [qi p2, qi 0, qi 10] s1 (kI fun x3 s3 =>
        MF s3 ∧
        ((x3 = 0 →
          K (-1001) s3) ∧
        (¬ (x3 = 0) →
          (0 ≤ p1 ∧ p1 < ((6000 : Nat) : Int)) ∧
          ((p2 ≤ 3 →
            ((p2 = 0 →
              (0 ≤ (sI s3 78 (Int.toNat p1)) ∧ (sI s3 78 (Int.toNat p1)) < ((6000 : Nat) : Int)) ∧
              K (sI s3 67 (Int.toNat (sI s3 78 (Int.toNat p1)))) s3) ∧
            (¬ (p2 = 0) →
              ((p2 = 1 →
                (0 ≤ (sI s3 78 (Int.toNat p1)) ∧ (sI s3 78 (Int.toNat p1)) < ((6000 : Nat) : Int)) ∧
                K (sI s3 70 (Int.toNat (sI s3 78 (Int.toNat p1)))) s3) ∧
              (¬ (p2 = 1) →
                ((p2 = 2 →
                  (0 ≤ (sI s3 78 (Int.toNat p1)) ∧ (sI s3 78 (Int.toNat p1)) < ((6000 : Nat) : Int)) ∧
                  K (sI s3 71 (Int.toNat (sI s3 78 (Int.toNat p1)))) s3) ∧
                (¬ (p2 = 2) →
                  (0 ≤ (sI s3 78 (Int.toNat p1)) ∧ (sI s3 78 (Int.toNat p1)) < ((6000 : Nat) : Int)) ∧
                  K (sI s3 72 (Int.toNat (sI s3 78 (Int.toNat p1)))) s3))))))) ∧
          (¬ (p2 ≤ 3) →
            (0 ≤ (w32 ((w32 ((w32 (7 * (sI s3 78 (Int.toNat p1)))) + p2)) - 4)) ∧ (w32 ((w32 ((w32 (7 * (sI s3 78 (Int.toNat p1)))) + p2)) - 4)) < ((42000 : Nat) : Int)) ∧
            ((0 ≤ (sI s3 77 (Int.toNat (w32 ((w32 ((w32 (7 * (sI s3 78 (Int.toNat p1)))) + p2)) - 4)))) →
              (sI s3 77 (Int.toNat (w32 ((w32 ((w32 (7 * (sI s3 78 (Int.toNat p1)))) + p2)) - 4)))) < ((6000 : Nat) : Int) ∧
              K (sI s3 75 (Int.toNat (sI s3 77 (Int.toNat (w32 ((w32 ((w32 (7 * (sI s3 78 (Int.toNat p1)))) + p2)) - 4)))))) s3) ∧
            (¬ (0 ≤ (sI s3 77 (Int.toNat (w32 ((w32 ((w32 (7 * (sI s3 78 (Int.toNat p1)))) + p2)) - 4))))) →
              K (-1000) s3))))))))))) : am_Runs PP MLL d m_M_node 0 [some (qr (31, 12, 89)), some (qi p1), some (qi p2), none, none] [] σ (kI K) := am_wEM_ok 200 hF (⟨rfl, (am_cI h fun x1 s1 h1 => ⟨h1.1, ⟨fun c2 => (h1.2.1 c2), fun c2 => (am_cI (h1.2.2 c2) fun x3 s3 h3 => ⟨h3.1, ⟨fun c4 => (h3.2.1 c4), fun c4 => ⟨rfl, ⟨⟨rfl, (h3.2.2 c4).1.1, (h3.2.2 c4).1.2⟩, ⟨fun c5 => ⟨fun c6 => ⟨rfl, ⟨⟨rfl, (((h3.2.2 c4).2.1 c5).1 c6).1.1, (((h3.2.2 c4).2.1 c5).1 c6).1.2⟩, (((h3.2.2 c4).2.1 c5).1 c6).2⟩⟩, fun c6 => ⟨fun c7 => ⟨rfl, ⟨⟨rfl, ((((h3.2.2 c4).2.1 c5).2 c6).1 c7).1.1, ((((h3.2.2 c4).2.1 c5).2 c6).1 c7).1.2⟩, ((((h3.2.2 c4).2.1 c5).2 c6).1 c7).2⟩⟩, fun c7 => ⟨fun c8 => ⟨rfl, ⟨⟨rfl, (((((h3.2.2 c4).2.1 c5).2 c6).2 c7).1 c8).1.1, (((((h3.2.2 c4).2.1 c5).2 c6).2 c7).1 c8).1.2⟩, (((((h3.2.2 c4).2.1 c5).2 c6).2 c7).1 c8).2⟩⟩, fun c8 => ⟨rfl, ⟨⟨rfl, (((((h3.2.2 c4).2.1 c5).2 c6).2 c7).2 c8).1.1, (((((h3.2.2 c4).2.1 c5).2 c6).2 c7).2 c8).1.2⟩, (((((h3.2.2 c4).2.1 c5).2 c6).2 c7).2 c8).2⟩⟩⟩⟩⟩, fun c5 => ⟨rfl, ⟨⟨rfl, ((h3.2.2 c4).2.2 c5).1.1, ((h3.2.2 c4).2.2 c5).1.2⟩, ⟨fun c9 => ⟨rfl, ⟨⟨rfl, c9, (((h3.2.2 c4).2.2 c5).2.1 c9).1⟩, (((h3.2.2 c4).2.2 c5).2.1 c9).2⟩⟩, fun c9 => (((h3.2.2 c4).2.2 c5).2.2 c9)⟩⟩⟩⟩⟩⟩⟩⟩)⟩⟩)⟩)

set_option maxRecDepth 20000 in
theorem v_M_nodeCoin_0 (d : Nat) (p1 p2 p3 : Int) (σ : am_S) (K : Int → am_S → Prop) (hF : MF σ) (h :
  am_Calls PP MLL d m_M_in [qi p1, qi 0, qi (w32 ((sI σ 31 73) - 1))] σ (kI fun x1 s1 =>
    MF s1 ∧
    ((x1 = 0 →
      K (-1001) s1) ∧
    (¬ (x1 = 0) →
      am_Calls PP MLL d m_M_isSide [qi p2] s1 (kI fun x3 s3 =>
        MF s3 ∧
        ((x3 = 0 →
          K (-1001) s3) ∧
        (¬ (x3 = 0) →
          (0 ≤ p1 ∧ p1 < ((6000 : Nat) : Int)) ∧
          (0 ≤ (sI s3 78 (Int.toNat p1)) ∧ (sI s3 78 (Int.toNat p1)) < ((6000 : Nat) : Int)) ∧
          am_Calls PP MLL d m_M_in [qi p3, qi 0, qi (w32 ((sI s3 67 (Int.toNat (sI s3 78 (Int.toNat p1)))) - 1))] s3 (kI fun x5 s5 =>
            MF s5 ∧
            ((x5 = 0 →
              K (-1001) s5) ∧
            (¬ (x5 = 0) →
              ((p2 = 0 →
                (0 ≤ (sI s5 78 (Int.toNat p1)) ∧ (sI s5 78 (Int.toNat p1)) < ((6000 : Nat) : Int)) ∧
                am_Runs PP MLL d m_M_nodeCoin 48 [some (qr (31, 12, 89)), some (qi p1), some (qi p2), some (qi p3), some (qi (sI s5 68 (Int.toNat (sI s5 78 (Int.toNat p1))))), some (qi p3), some (qi 0)] [] s5 (kI K)) ∧
              (¬ (p2 = 0) →
                (0 ≤ (sI s5 78 (Int.toNat p1)) ∧ (sI s5 78 (Int.toNat p1)) < ((6000 : Nat) : Int)) ∧
                am_Runs PP MLL d m_M_nodeCoin 48 [some (qr (31, 12, 89)), some (qi p1), some (qi p2), some (qi p3), some (qi (sI s5 69 (Int.toNat (sI s5 78 (Int.toNat p1))))), some (qi p3), some (qi 0)] [] s5 (kI K))))))))))))) : am_Runs PP MLL d m_M_nodeCoin 0 [some (qr (31, 12, 89)), some (qi p1), some (qi p2), some (qi p3), none, none, none] [] σ (kI K) := am_wEM_ok 200 hF (⟨rfl, (am_cI h fun x1 s1 h1 => ⟨h1.1, ⟨fun c2 => (h1.2.1 c2), fun c2 => (am_cI (h1.2.2 c2) fun x3 s3 h3 => ⟨h3.1, ⟨fun c4 => (h3.2.1 c4), fun c4 => ⟨rfl, ⟨rfl, ⟨⟨rfl, (h3.2.2 c4).1.1, (h3.2.2 c4).1.2⟩, ⟨⟨rfl, (h3.2.2 c4).2.1.1, (h3.2.2 c4).2.1.2⟩, (am_cI (h3.2.2 c4).2.2 fun x5 s5 h5 => ⟨h5.1, ⟨fun c6 => (h5.2.1 c6), fun c6 => ⟨fun c7 => ⟨rfl, ⟨rfl, ⟨⟨rfl, (h3.2.2 c4).1.1, (h3.2.2 c4).1.2⟩, ⟨⟨rfl, ((h5.2.2 c6).1 c7).1.1, ((h5.2.2 c6).1 c7).1.2⟩, ((h5.2.2 c6).1 c7).2⟩⟩⟩⟩, fun c7 => ⟨rfl, ⟨rfl, ⟨⟨rfl, (h3.2.2 c4).1.1, (h3.2.2 c4).1.2⟩, ⟨⟨rfl, ((h5.2.2 c6).2 c7).1.1, ((h5.2.2 c6).2 c7).1.2⟩, ((h5.2.2 c6).2 c7).2⟩⟩⟩⟩⟩⟩⟩)⟩⟩⟩⟩⟩⟩)⟩⟩)⟩)

set_option maxRecDepth 20000 in
theorem v_M_nodeCoin_48 (d : Nat) (v4 v5 v6 : Int) (z0 z1 z2 z3 : Option am_V) (σ : am_S) (K : Int → am_S → Prop) (hF : MF σ) (h :
  (((a_and (a_shr v4 v6) 1) = 0 →
    am_Runs PP MLL d m_M_nodeCoin 48 [z0, z1, z2, z3, some (qi v4), some (qi (w32 (v5 - (a_and (a_shr v4 v6) 1)))), some (qi (w32 (v6 + 1)))] [] σ (kI K)) ∧
  (¬ ((a_and (a_shr v4 v6) 1) = 0) →
    ((v5 ≤ 0 →
      K v6 σ) ∧
    (¬ (v5 ≤ 0) →
      am_Runs PP MLL d m_M_nodeCoin 48 [z0, z1, z2, z3, some (qi v4), some (qi (w32 (v5 - (a_and (a_shr v4 v6) 1)))), some (qi (w32 (v6 + 1)))] [] σ (kI K)))))) : am_Runs PP MLL d m_M_nodeCoin 48 [z0, z1, z2, z3, some (qi v4), some (qi v5), some (qi v6)] [] σ (kI K) := am_wEM_ok 200 hF (⟨fun c1 => (h.1 c1), fun c1 => ⟨fun c2 => ((h.2 c1).1 c2), fun c2 => ((h.2 c1).2 c2)⟩⟩)

set_option maxRecDepth 20000 in
theorem v_M_walk_0 (d : Nat) (p1 : Int) (σ : am_S) (K : Int → am_S → Prop) (hF : MF σ) (h :
  am_Calls PP MLL d m_M_isTruth [qr (31, 12, 89), qi p1] σ (kI fun x1 s1 =>
    MF s1 ∧
    ((x1 = 0 →
      K (-1001) s1) ∧
    (¬ (x1 = 0) →
      am_Calls PP MLL d m_M_isLeft [qr (31, 12, 89), qi p1] s1 (kI fun x3 s3 =>
        MF s3 ∧
        ((x3 = 0 →
          K (-1001) s3) ∧
        (¬ (x3 = 0) →
          (((sI s3 31 73) = 0 →
            K (-1002) s3) ∧
          (¬ ((sI s3 31 73) = 0) →
            0 < ((6000 : Nat) : Int) ∧
            am_Runs PP MLL d m_M_walk 20 [some (qr (31, 12, 89)), some (qi p1), some (qi (sI s3 78 (Int.toNat 0))), none, none, none] [] s3 (kI K)))))))))) : am_Runs PP MLL d m_M_walk 0 [some (qr (31, 12, 89)), some (qi p1), none, none, none, none] [] σ (kI K) := am_wEM_ok 200 hF (⟨rfl, (am_cI h fun x1 s1 h1 => ⟨h1.1, ⟨fun c2 => (h1.2.1 c2), fun c2 => ⟨rfl, (am_cI (h1.2.2 c2) fun x3 s3 h3 => ⟨h3.1, ⟨fun c4 => (h3.2.1 c4), fun c4 => ⟨rfl, ⟨fun c5 => ((h3.2.2 c4).1 c5), fun c5 => ⟨rfl, ⟨⟨rfl, (by decide : (0 : Int) ≤ 0), ((h3.2.2 c4).2 c5).1⟩, ((h3.2.2 c4).2 c5).2⟩⟩⟩⟩⟩⟩)⟩⟩⟩)⟩)

set_option maxRecDepth 20000 in
theorem v_M_walk_20 (d : Nat) (p1 v2 : Int) (z3 z4 z5 : Option am_V) (σ : am_S) (K : Int → am_S → Prop) (hF : MF σ) (h :
  (0 ≤ v2 ∧ v2 < ((6000 : Nat) : Int)) ∧
  (((sI σ 67 (Int.toNat v2)) ≤ 0 →
    K (sI σ 75 (Int.toNat v2)) σ) ∧
  (¬ ((sI σ 67 (Int.toNat v2)) ≤ 0) →
    am_Runs PP MLL d m_M_walk 29 [some (qr (31, 12, 89)), some (qi p1), some (qi v2), some (qi 0), some (qi 0), z5] [] σ (kI K)))) : am_Runs PP MLL d m_M_walk 20 [some (qr (31, 12, 89)), some (qi p1), some (qi v2), z3, z4, z5] [] σ (kI K) := am_wEM_ok 200 hF (⟨rfl, ⟨⟨rfl, h.1.1, h.1.2⟩, ⟨fun c1 => ⟨rfl, ⟨⟨rfl, h.1.1, h.1.2⟩, (h.2.1 c1)⟩⟩, fun c1 => (h.2.2 c1)⟩⟩⟩)

set_option maxRecDepth 20000 in
theorem v_M_walk_29 (d : Nat) (p1 v2 v3 v4 : Int) (z5 : Option am_V) (σ : am_S) (K : Int → am_S → Prop) (hF : MF σ) (h :
  (0 ≤ p1 ∧ p1 < ((10000 : Nat) : Int)) ∧
  (((sI σ 33 (Int.toNat p1)) ≤ v4 →
    (0 ≤ v2 ∧ v2 < ((6000 : Nat) : Int)) ∧
    am_Calls PP MLL d m_M_weighsAt [qr (31, 12, 89), qi (w32 ((sI σ 31 13) + (sI σ 72 (Int.toNat v2))))] σ (kI fun x2 s2 =>
      MF s2 ∧
      (0 ≤ x2 ∧ x2 < ((12 : Nat) : Int)) ∧
      am_Calls PP MLL d m_M_tells [qr (31, 12, 89), qi (sI s2 41 (Int.toNat x2)), qi v3] s2 (kI fun x3 s3 =>
        MF s3 ∧
        (0 ≤ (w32 ((w32 ((w32 (7 * v2)) + x3)) + 3)) ∧ (w32 ((w32 ((w32 (7 * v2)) + x3)) + 3)) < ((42000 : Nat) : Int)) ∧
        am_Runs PP MLL d m_M_walk 20 [some (qr (31, 12, 89)), some (qi p1), some (qi (sI s3 77 (Int.toNat (w32 ((w32 ((w32 (7 * v2)) + x3)) + 3))))), some (qi v3), some (qi v4), z5] [] s3 (kI K)))) ∧
  (¬ ((sI σ 33 (Int.toNat p1)) ≤ v4) →
    (0 ≤ (w32 ((w32 (3 * p1)) + v4)) ∧ (w32 ((w32 (3 * p1)) + v4)) < ((30000 : Nat) : Int)) ∧
    (0 ≤ v2 ∧ v2 < ((6000 : Nat) : Int)) ∧
    am_Runs PP MLL d m_M_walk 29 [some (qr (31, 12, 89)), some (qi p1), some (qi v2), some (qi (w32 (v3 + (w32 ((w32 ((a_and (a_shr (sI σ 68 (Int.toNat v2)) (sI σ 34 (Int.toNat (w32 ((w32 (3 * p1)) + v4))))) 1) - (a_and (a_shr (sI σ 69 (Int.toNat v2)) (sI σ 34 (Int.toNat (w32 ((w32 (3 * p1)) + v4))))) 1))) * (sI σ 35 (Int.toNat (w32 ((w32 (3 * p1)) + v4))))))))), some (qi (w32 (v4 + 1))), some (qi (sI σ 34 (Int.toNat (w32 ((w32 (3 * p1)) + v4)))))] [] σ (kI K)))) : am_Runs PP MLL d m_M_walk 29 [some (qr (31, 12, 89)), some (qi p1), some (qi v2), some (qi v3), some (qi v4), z5] [] σ (kI K) := am_wEM_ok 200 hF (⟨rfl, ⟨⟨rfl, h.1.1, h.1.2⟩, ⟨fun c1 => ⟨rfl, ⟨rfl, ⟨rfl, ⟨rfl, ⟨⟨rfl, (h.2.1 c1).1.1, (h.2.1 c1).1.2⟩, ⟨rfl, (am_cI (h.2.1 c1).2 fun x2 s2 h2 => ⟨h2.1, ⟨⟨rfl, h2.2.1.1, h2.2.1.2⟩, ⟨rfl, (am_cI h2.2.2 fun x3 s3 h3 => ⟨h3.1, ⟨⟨rfl, h3.2.1.1, h3.2.1.2⟩, h3.2.2⟩⟩)⟩⟩⟩)⟩⟩⟩⟩⟩⟩, fun c1 => ⟨rfl, ⟨⟨rfl, (h.2.2 c1).1.1, (h.2.2 c1).1.2⟩, ⟨rfl, ⟨⟨rfl, (h.2.2 c1).2.1.1, (h.2.2 c1).2.1.2⟩, ⟨rfl, ⟨⟨rfl, (h.2.2 c1).2.1.1, (h.2.2 c1).2.1.2⟩, ⟨rfl, ⟨⟨rfl, (h.2.2 c1).1.1, (h.2.2 c1).1.2⟩, (h.2.2 c1).2.2⟩⟩⟩⟩⟩⟩⟩⟩⟩⟩⟩)

set_option maxRecDepth 20000 in
theorem v_M_addRow_0 (d : Nat) (p1 p2 : Int) (σ : am_S) (K : Int → am_S → Prop) (hF : MF σ) (h :
  (((sI σ 31 76) = 600 →
    K 0 σ) ∧
  (¬ ((sI σ 31 76) = 600) →
    (0 ≤ (sI σ 31 76) ∧ (sI σ 31 76) < ((600 : Nat) : Int)) ∧
    let s2 := putI σ 81 (Int.toNat (sI σ 31 76)) p1;
    (0 ≤ (sI s2 31 76) ∧ (sI s2 31 76) < ((600 : Nat) : Int)) ∧
    let s3 := putI s2 82 (Int.toNat (sI s2 31 76)) p2;
    let s4 := putI s3 31 76 (w32 ((sI s3 31 76) + 1));
    K 1 s4))) : am_Runs PP MLL d m_M_addRow 0 [some (qr (31, 12, 89)), some (qi p1), some (qi p2)] [] σ (kI K) := am_wEM_ok 200 hF (⟨rfl, ⟨fun c1 => ⟨(Or.inl rfl), (h.1 c1)⟩, fun c1 => ⟨rfl, ⟨rfl, ⟨⟨rfl, (h.2 c1).1.1, (h.2 c1).1.2⟩, ⟨rfl, ⟨rfl, ⟨⟨rfl, (h.2 c1).2.1.1, (h.2 c1).2.1.2⟩, ⟨rfl, ⟨rfl, ⟨(Or.inr rfl), (h.2 c1).2.2⟩⟩⟩⟩⟩⟩⟩⟩⟩⟩⟩)

set_option maxRecDepth 20000 in
theorem v_M_firstNo_0 (d : Nat) (p1 : Int) (σ : am_S) (K : Int → am_S → Prop) (hF : MF σ) (h :
  (0 ≤ p1 ∧ p1 < ((14 : Nat) : Int)) ∧
  am_Calls PP MLL d m_M_weighsAt [qr (31, 12, 89), qi (sI σ 55 (Int.toNat p1))] σ (kI fun x1 s1 =>
    MF s1 ∧
    (0 ≤ x1 ∧ x1 < ((12 : Nat) : Int)) ∧
    am_Calls PP MLL d m_M_mostOf [qr (31, 12, 89), qi (sI s1 41 (Int.toNat x1))] s1 (kI fun x2 s2 =>
      MF s2 ∧
      am_Runs PP MLL d m_M_firstNo 17 [some (qr (31, 12, 89)), some (qi p1), some (qi x2), some (qi (w32 (-x2))), some (qi 0)] [] s2 (kI K)))) : am_Runs PP MLL d m_M_firstNo 0 [some (qr (31, 12, 89)), some (qi p1), none, none, none] [] σ (kI K) := am_wEM_ok 200 hF (⟨rfl, ⟨rfl, ⟨⟨rfl, h.1.1, h.1.2⟩, ⟨rfl, (am_cI h.2 fun x1 s1 h1 => ⟨h1.1, ⟨⟨rfl, h1.2.1.1, h1.2.1.2⟩, ⟨rfl, (am_cI h1.2.2 fun x2 s2 h2 => ⟨h2.1, h2.2⟩)⟩⟩⟩)⟩⟩⟩⟩)

set_option maxRecDepth 20000 in
theorem v_M_firstNo_17 (d : Nat) (p1 v3 v4 : Int) (z2 : Option am_V) (σ : am_S) (K : Int → am_S → Prop) (hF : MF σ) (h :
  ((v4 = 0 →
    am_Calls PP MLL d m_M_makeCase [qr (31, 12, 89), qi p1, qi 7, qi v3] σ (kV fun s2 =>
      MF s2 ∧
      let s3 := putI s2 31 57 7;
      let s4 := putI s3 31 58 0;
      am_Calls PP MLL d m_M_goes [qr (31, 12, 89), qi 7, qi 0] s4 (kI fun x5 s5 =>
        MF s5 ∧
        ((x5 = 2 →
          am_Runs PP MLL d m_M_firstNo 17 [some (qr (31, 12, 89)), some (qi p1), (am_cl z2), some (qi (w32 (v3 + 0))), some (qi 1)] [] s5 (kI K)) ∧
        (¬ (x5 = 2) →
          am_Runs PP MLL d m_M_firstNo 17 [some (qr (31, 12, 89)), some (qi p1), (am_cl z2), some (qi (w32 (v3 + 1))), some (qi 0)] [] s5 (kI K)))))) ∧
  (¬ (v4 = 0) →
    K v3 σ))) : am_Runs PP MLL d m_M_firstNo 17 [some (qr (31, 12, 89)), some (qi p1), z2, some (qi v3), some (qi v4)] [] σ (kI K) := am_wEM_ok 200 hF (⟨fun c1 => ⟨rfl, (am_cV (h.1 c1) fun s2 h2 => ⟨h2.1, ⟨rfl, ⟨rfl, ⟨rfl, (am_cI h2.2 fun x5 s5 h5 => ⟨h5.1, ⟨fun c6 => ⟨fun c => absurd c (by decide : ¬ ((1 : Int) = 0)), fun _ => (h5.2.1 c6)⟩, fun c6 => ⟨fun _ => (h5.2.2 c6), fun c => absurd (by decide : (0 : Int) = 0) c⟩⟩⟩)⟩⟩⟩⟩)⟩, fun c1 => (h.2 c1)⟩)

set_option maxRecDepth 20000 in
theorem v_M_prove_0 (d : Nat) (σ : am_S) (K : Int → am_S → Prop) (hF : MF σ) (h :
  (((sI σ 31 73) = 0 →
    K (-1002) σ) ∧
  (¬ ((sI σ 31 73) = 0) →
    (((sI σ 31 35) = 0 →
      K (-1002) σ) ∧
    (¬ ((sI σ 31 35) = 0) →
      (((sI σ 31 78) = 0 →
        let s4 := putI σ 31 78 1;
        let s5 := putI s4 31 59 0;
        let s6 := putI s5 31 76 0;
        am_Calls PP MLL d m_M_startCase [qr (31, 12, 89)] s6 (kV fun s7 =>
          MF s7 ∧
          0 < ((14 : Nat) : Int) ∧
          let s8 := putI s7 54 (Int.toNat 0) (w32 ((sI s7 31 35) - 1));
          am_Runs PP MLL d m_M_prove 36 [some (qr (31, 12, 89)), some (qi 0), some (qi 1), some (qi 1), none, none] [] s8 (kI K))) ∧
      (¬ ((sI σ 31 78) = 0) →
        K (-1002) σ))))))) : am_Runs PP MLL d m_M_prove 0 [some (qr (31, 12, 89)), none, none, none, none, none] [] σ (kI K) := am_wEM_ok 200 hF (⟨rfl, ⟨fun c1 => (h.1 c1), fun c1 => ⟨rfl, ⟨fun c2 => ((h.2 c1).1 c2), fun c2 => ⟨rfl, ⟨fun c3 => ⟨⟨rfl, (Or.inr rfl)⟩, ⟨⟨rfl, (Or.inl rfl)⟩, ⟨rfl, ⟨rfl, (am_cV (((h.2 c1).2 c2).1 c3) fun s7 h7 => ⟨h7.1, ⟨rfl, ⟨rfl, ⟨⟨rfl, (by decide : (0 : Int) ≤ 0), h7.2.1⟩, h7.2.2⟩⟩⟩⟩)⟩⟩⟩⟩, fun c3 => (((h.2 c1).2 c2).2 c3)⟩⟩⟩⟩⟩⟩)

set_option maxRecDepth 20000 in
theorem v_M_prove_36 (d : Nat) (v1 v2 v3 : Int) (z4 z5 : Option am_V) (σ : am_S) (K : Int → am_S → Prop) (hF : MF σ) (h :
  ((v1 < 0 →
    (v3 = 0 ∨ v3 = 1) ∧
    let s2 := putI σ 31 77 v3;
    ((v3 = 0 →
      let s4 := putI s2 31 76 0;
      ((v3 = 0 →
        K (-1003) s4) ∧
      (¬ (v3 = 0) →
        K (sI s4 31 76) s4))) ∧
    (¬ (v3 = 0) →
      let s6 := putI s2 31 76 (sI s2 31 76);
      ((v3 = 0 →
        K (-1003) s6) ∧
      (¬ (v3 = 0) →
        K (sI s6 31 76) s6))))) ∧
  (¬ (v1 < 0) →
    ((v3 = 0 →
      (v3 = 0 ∨ v3 = 1) ∧
      let s9 := putI σ 31 77 v3;
      ((v3 = 0 →
        let s11 := putI s9 31 76 0;
        ((v3 = 0 →
          K (-1003) s11) ∧
        (¬ (v3 = 0) →
          K (sI s11 31 76) s11))) ∧
      (¬ (v3 = 0) →
        let s13 := putI s9 31 76 (sI s9 31 76);
        ((v3 = 0 →
          K (-1003) s13) ∧
        (¬ (v3 = 0) →
          K (sI s13 31 76) s13))))) ∧
    (¬ (v3 = 0) →
      am_Calls PP MLL d m_M_manyAt [qr (31, 12, 89), qi v1] σ (kI fun x15 s15 =>
        MF s15 ∧
        ((v2 = 0 →
          ((v2 = 0 →
            am_Calls PP MLL d m_M_nextWeighing [qr (31, 12, 89), qi v1] s15 (kI fun x18 s18 =>
              MF s18 ∧
              ((x18 = 0 →
                am_Runs PP MLL d m_M_prove 36 [some (qr (31, 12, 89)), some (qi (w32 (v1 + (-1)))), some (qi 0), some (qi v3), some (qi x15), z5] [] s18 (kI K)) ∧
              (¬ (x18 = 0) →
                am_Calls PP MLL d m_M_firstNo [qr (31, 12, 89), qi v1] s18 (kI fun x20 s20 =>
                  MF s20 ∧
                  (0 ≤ v1 ∧ v1 < ((14 : Nat) : Int)) ∧
                  am_Calls PP MLL d m_M_addRow [qr (31, 12, 89), qi (sI s20 60 (Int.toNat v1)), qi x20] s20 (kI fun x21 s21 =>
                    MF s21 ∧
                    am_Calls PP MLL d m_M_makeCase [qr (31, 12, 89), qi v1, qi (w32 (v1 + 1)), qi x20] s21 (kV fun s22 =>
                      MF s22 ∧
                      am_Runs PP MLL d m_M_prove 36 [some (qr (31, 12, 89)), some (qi (w32 (v1 + 1))), some (qi 1), some (qi x21), some (qi x15), some (qi x20)] [] s22 (kI K)))))))) ∧
          (¬ (v2 = 0) →
            am_Calls PP MLL d m_M_groups [qr (31, 12, 89), qi v1] s15 (kV fun s23 =>
              MF s23 ∧
              am_Calls PP MLL d m_M_nextWeighing [qr (31, 12, 89), qi v1] s23 (kI fun x24 s24 =>
                MF s24 ∧
                ((x24 = 0 →
                  am_Runs PP MLL d m_M_prove 36 [some (qr (31, 12, 89)), some (qi (w32 (v1 + (-1)))), some (qi 0), some (qi v3), some (qi x15), z5] [] s24 (kI K)) ∧
                (¬ (x24 = 0) →
                  am_Calls PP MLL d m_M_firstNo [qr (31, 12, 89), qi v1] s24 (kI fun x26 s26 =>
                    MF s26 ∧
                    (0 ≤ v1 ∧ v1 < ((14 : Nat) : Int)) ∧
                    am_Calls PP MLL d m_M_addRow [qr (31, 12, 89), qi (sI s26 60 (Int.toNat v1)), qi x26] s26 (kI fun x27 s27 =>
                      MF s27 ∧
                      am_Calls PP MLL d m_M_makeCase [qr (31, 12, 89), qi v1, qi (w32 (v1 + 1)), qi x26] s27 (kV fun s28 =>
                        MF s28 ∧
                        am_Runs PP MLL d m_M_prove 36 [some (qr (31, 12, 89)), some (qi (w32 (v1 + 1))), some (qi 1), some (qi x27), some (qi x15), some (qi x26)] [] s28 (kI K))))))))))) ∧
        (¬ (v2 = 0) →
          am_Calls PP MLL d m_M_isTooMuch [qr (31, 12, 89), qi v1, qi x15] s15 (kI fun x29 s29 =>
            MF s29 ∧
            ((x29 = 0 →
              ((v2 = 0 →
                am_Calls PP MLL d m_M_nextWeighing [qr (31, 12, 89), qi v1] s29 (kI fun x32 s32 =>
                  MF s32 ∧
                  ((x32 = 0 →
                    am_Runs PP MLL d m_M_prove 36 [some (qr (31, 12, 89)), some (qi (w32 (v1 + (-1)))), some (qi 0), some (qi v3), some (qi x15), z5] [] s32 (kI K)) ∧
                  (¬ (x32 = 0) →
                    am_Calls PP MLL d m_M_firstNo [qr (31, 12, 89), qi v1] s32 (kI fun x34 s34 =>
                      MF s34 ∧
                      (0 ≤ v1 ∧ v1 < ((14 : Nat) : Int)) ∧
                      am_Calls PP MLL d m_M_addRow [qr (31, 12, 89), qi (sI s34 60 (Int.toNat v1)), qi x34] s34 (kI fun x35 s35 =>
                        MF s35 ∧
                        am_Calls PP MLL d m_M_makeCase [qr (31, 12, 89), qi v1, qi (w32 (v1 + 1)), qi x34] s35 (kV fun s36 =>
                          MF s36 ∧
                          am_Runs PP MLL d m_M_prove 36 [some (qr (31, 12, 89)), some (qi (w32 (v1 + 1))), some (qi 1), some (qi x35), some (qi x15), some (qi x34)] [] s36 (kI K)))))))) ∧
              (¬ (v2 = 0) →
                am_Calls PP MLL d m_M_groups [qr (31, 12, 89), qi v1] s29 (kV fun s37 =>
                  MF s37 ∧
                  am_Calls PP MLL d m_M_nextWeighing [qr (31, 12, 89), qi v1] s37 (kI fun x38 s38 =>
                    MF s38 ∧
                    ((x38 = 0 →
                      am_Runs PP MLL d m_M_prove 36 [some (qr (31, 12, 89)), some (qi (w32 (v1 + (-1)))), some (qi 0), some (qi v3), some (qi x15), z5] [] s38 (kI K)) ∧
                    (¬ (x38 = 0) →
                      am_Calls PP MLL d m_M_firstNo [qr (31, 12, 89), qi v1] s38 (kI fun x40 s40 =>
                        MF s40 ∧
                        (0 ≤ v1 ∧ v1 < ((14 : Nat) : Int)) ∧
                        am_Calls PP MLL d m_M_addRow [qr (31, 12, 89), qi (sI s40 60 (Int.toNat v1)), qi x40] s40 (kI fun x41 s41 =>
                          MF s41 ∧
                          am_Calls PP MLL d m_M_makeCase [qr (31, 12, 89), qi v1, qi (w32 (v1 + 1)), qi x40] s41 (kV fun s42 =>
                            MF s42 ∧
                            am_Runs PP MLL d m_M_prove 36 [some (qr (31, 12, 89)), some (qi (w32 (v1 + 1))), some (qi 1), some (qi x41), some (qi x15), some (qi x40)] [] s42 (kI K))))))))))) ∧
            (¬ (x29 = 0) →
              am_Calls PP MLL d m_M_addRow [qr (31, 12, 89), qi (-1), qi x15] s29 (kI fun x43 s43 =>
                MF s43 ∧
                am_Runs PP MLL d m_M_prove 36 [some (qr (31, 12, 89)), some (qi (w32 (v1 + (-1)))), some (qi 0), some (qi x43), some (qi x15), z5] [] s43 (kI K))))))))))))) : am_Runs PP MLL d m_M_prove 36 [some (qr (31, 12, 89)), some (qi v1), some (qi v2), some (qi v3), z4, z5] [] σ (kI K) := am_wEM_ok 200 hF (⟨fun c1 => ⟨⟨rfl, (h.1 c1).1⟩, ⟨fun c3 => ⟨rfl, ⟨fun c5 => (((h.1 c1).2.1 c3).1 c5), fun c5 => ⟨rfl, (((h.1 c1).2.1 c3).2 c5)⟩⟩⟩, fun c3 => ⟨rfl, ⟨rfl, ⟨fun c7 => (((h.1 c1).2.2 c3).1 c7), fun c7 => ⟨rfl, (((h.1 c1).2.2 c3).2 c7)⟩⟩⟩⟩⟩⟩, fun c1 => ⟨fun c8 => ⟨⟨rfl, ((h.2 c1).1 c8).1⟩, ⟨fun c10 => ⟨rfl, ⟨fun c12 => ((((h.2 c1).1 c8).2.1 c10).1 c12), fun c12 => ⟨rfl, ((((h.2 c1).1 c8).2.1 c10).2 c12)⟩⟩⟩, fun c10 => ⟨rfl, ⟨rfl, ⟨fun c14 => ((((h.2 c1).1 c8).2.2 c10).1 c14), fun c14 => ⟨rfl, ((((h.2 c1).1 c8).2.2 c10).2 c14)⟩⟩⟩⟩⟩⟩, fun c8 => ⟨rfl, (am_cI ((h.2 c1).2 c8) fun x15 s15 h15 => ⟨h15.1, ⟨fun c16 => ⟨fun c17 => ⟨rfl, (am_cI ((h15.2.1 c16).1 c17) fun x18 s18 h18 => ⟨h18.1, ⟨fun c19 => (h18.2.1 c19), fun c19 => ⟨rfl, (am_cI (h18.2.2 c19) fun x20 s20 h20 => ⟨h20.1, ⟨rfl, ⟨⟨rfl, h20.2.1.1, h20.2.1.2⟩, ⟨rfl, (am_cI h20.2.2 fun x21 s21 h21 => ⟨h21.1, ⟨rfl, (am_cV h21.2 fun s22 h22 => ⟨h22.1, h22.2⟩)⟩⟩)⟩⟩⟩⟩)⟩⟩⟩)⟩, fun c17 => ⟨rfl, (am_cV ((h15.2.1 c16).2 c17) fun s23 h23 => ⟨h23.1, ⟨rfl, (am_cI h23.2 fun x24 s24 h24 => ⟨h24.1, ⟨fun c25 => (h24.2.1 c25), fun c25 => ⟨rfl, (am_cI (h24.2.2 c25) fun x26 s26 h26 => ⟨h26.1, ⟨rfl, ⟨⟨rfl, h26.2.1.1, h26.2.1.2⟩, ⟨rfl, (am_cI h26.2.2 fun x27 s27 h27 => ⟨h27.1, ⟨rfl, (am_cV h27.2 fun s28 h28 => ⟨h28.1, h28.2⟩)⟩⟩)⟩⟩⟩⟩)⟩⟩⟩)⟩⟩)⟩⟩, fun c16 => ⟨rfl, (am_cI (h15.2.2 c16) fun x29 s29 h29 => ⟨h29.1, ⟨fun c30 => ⟨fun c31 => ⟨rfl, (am_cI ((h29.2.1 c30).1 c31) fun x32 s32 h32 => ⟨h32.1, ⟨fun c33 => (h32.2.1 c33), fun c33 => ⟨rfl, (am_cI (h32.2.2 c33) fun x34 s34 h34 => ⟨h34.1, ⟨rfl, ⟨⟨rfl, h34.2.1.1, h34.2.1.2⟩, ⟨rfl, (am_cI h34.2.2 fun x35 s35 h35 => ⟨h35.1, ⟨rfl, (am_cV h35.2 fun s36 h36 => ⟨h36.1, h36.2⟩)⟩⟩)⟩⟩⟩⟩)⟩⟩⟩)⟩, fun c31 => ⟨rfl, (am_cV ((h29.2.1 c30).2 c31) fun s37 h37 => ⟨h37.1, ⟨rfl, (am_cI h37.2 fun x38 s38 h38 => ⟨h38.1, ⟨fun c39 => (h38.2.1 c39), fun c39 => ⟨rfl, (am_cI (h38.2.2 c39) fun x40 s40 h40 => ⟨h40.1, ⟨rfl, ⟨⟨rfl, h40.2.1.1, h40.2.1.2⟩, ⟨rfl, (am_cI h40.2.2 fun x41 s41 h41 => ⟨h41.1, ⟨rfl, (am_cV h41.2 fun s42 h42 => ⟨h42.1, h42.2⟩)⟩⟩)⟩⟩⟩⟩)⟩⟩⟩)⟩⟩)⟩⟩, fun c30 => ⟨rfl, (am_cI (h29.2.2 c30) fun x43 s43 h43 => ⟨h43.1, h43.2⟩)⟩⟩⟩)⟩⟩⟩)⟩⟩⟩)

set_option maxRecDepth 20000 in
theorem v_M_isRow_0 (d : Nat) (p1 p2 : Int) (σ : am_S) (K : Int → am_S → Prop) (hF : MF σ) (h :
  am_Calls PP MLL d m_M_in [qi p1, qi 0, qi (w32 ((sI σ 31 76) - 1))] σ (kI fun x1 s1 =>
    MF s1 ∧
    ((x1 = 0 →
      K 0 s1) ∧
    (¬ (x1 = 0) →
      am_Calls PP MLL d m_M_in [qi p2, qi 0, qi 1] s1 (kI fun x3 s3 =>
        MF s3 ∧
        ((x3 = 0 →
          K 0 s3) ∧
        (¬ (x3 = 0) →
          K 1 s3))))))) : am_Runs PP MLL d m_M_isRow 0 [some (qr (31, 12, 89)), some (qi p1), some (qi p2)] [] σ (kI K) := am_wEM_ok 200 hF (⟨rfl, (am_cI h fun x1 s1 h1 => ⟨h1.1, ⟨fun c2 => ⟨(Or.inl rfl), (h1.2.1 c2)⟩, fun c2 => (am_cI (h1.2.2 c2) fun x3 s3 h3 => ⟨h3.1, ⟨fun c4 => ⟨(Or.inl rfl), (h3.2.1 c4)⟩, fun c4 => ⟨(Or.inr rfl), (h3.2.2 c4)⟩⟩⟩)⟩⟩)⟩)

set_option maxRecDepth 20000 in
theorem v_M_row_0 (d : Nat) (p1 p2 : Int) (σ : am_S) (K : Int → am_S → Prop) (hF : MF σ) (h :
  am_Calls PP MLL d m_M_isRow [qr (31, 12, 89), qi p1, qi p2] σ (kI fun x1 s1 =>
    MF s1 ∧
    ((x1 = 0 →
      K (-1001) s1) ∧
    (¬ (x1 = 0) →
      ((p2 = 0 →
        (0 ≤ p1 ∧ p1 < ((600 : Nat) : Int)) ∧
        K (sI s1 81 (Int.toNat p1)) s1) ∧
      (¬ (p2 = 0) →
        (0 ≤ p1 ∧ p1 < ((600 : Nat) : Int)) ∧
        K (sI s1 82 (Int.toNat p1)) s1)))))) : am_Runs PP MLL d m_M_row 0 [some (qr (31, 12, 89)), some (qi p1), some (qi p2)] [] σ (kI K) := am_wEM_ok 200 hF (⟨rfl, (am_cI h fun x1 s1 h1 => ⟨h1.1, ⟨fun c2 => (h1.2.1 c2), fun c2 => ⟨fun c3 => ⟨rfl, ⟨⟨rfl, ((h1.2.2 c2).1 c3).1.1, ((h1.2.2 c2).1 c3).1.2⟩, ((h1.2.2 c2).1 c3).2⟩⟩, fun c3 => ⟨rfl, ⟨⟨rfl, ((h1.2.2 c2).2 c3).1.1, ((h1.2.2 c2).2 c3).1.2⟩, ((h1.2.2 c2).2 c3).2⟩⟩⟩⟩⟩)⟩)

set_option maxRecDepth 20000 in
theorem v_M_spoil_0 (d : Nat) (p1 p2 p3 : Int) (σ : am_S) (K : Int → am_S → Prop) (hF : MF σ) (h :
  am_Calls PP MLL d m_M_isRow [qr (31, 12, 89), qi p1, qi p2] σ (kI fun x1 s1 =>
    MF s1 ∧
    ((x1 = 0 →
      K (-1001) s1) ∧
    (¬ (x1 = 0) →
      am_Calls PP MLL d m_M_in [qi p3, qi (-200), qi 20000] s1 (kI fun x3 s3 =>
        MF s3 ∧
        ((x3 = 0 →
          K (-1001) s3) ∧
        (¬ (x3 = 0) →
          ((p2 = 0 →
            (0 ≤ p1 ∧ p1 < ((600 : Nat) : Int)) ∧
            ((p2 = 0 →
              let s7 := putI s3 81 (Int.toNat p1) p3;
              K (sI s3 81 (Int.toNat p1)) s7) ∧
            (¬ (p2 = 0) →
              let s8 := putI s3 82 (Int.toNat p1) p3;
              K (sI s3 81 (Int.toNat p1)) s8))) ∧
          (¬ (p2 = 0) →
            (0 ≤ p1 ∧ p1 < ((600 : Nat) : Int)) ∧
            ((p2 = 0 →
              let s10 := putI s3 81 (Int.toNat p1) p3;
              K (sI s3 82 (Int.toNat p1)) s10) ∧
            (¬ (p2 = 0) →
              let s11 := putI s3 82 (Int.toNat p1) p3;
              K (sI s3 82 (Int.toNat p1)) s11))))))))))) : am_Runs PP MLL d m_M_spoil 0 [some (qr (31, 12, 89)), some (qi p1), some (qi p2), some (qi p3), none] [] σ (kI K) := am_wEM_ok 200 hF (⟨rfl, (am_cI h fun x1 s1 h1 => ⟨h1.1, ⟨fun c2 => (h1.2.1 c2), fun c2 => (am_cI (h1.2.2 c2) fun x3 s3 h3 => ⟨h3.1, ⟨fun c4 => (h3.2.1 c4), fun c4 => ⟨fun c5 => ⟨rfl, ⟨⟨rfl, ((h3.2.2 c4).1 c5).1.1, ((h3.2.2 c4).1 c5).1.2⟩, ⟨fun c6 => ⟨rfl, ⟨⟨rfl, ((h3.2.2 c4).1 c5).1.1, ((h3.2.2 c4).1 c5).1.2⟩, (((h3.2.2 c4).1 c5).2.1 c6)⟩⟩, fun c6 => ⟨rfl, ⟨⟨rfl, ((h3.2.2 c4).1 c5).1.1, ((h3.2.2 c4).1 c5).1.2⟩, (((h3.2.2 c4).1 c5).2.2 c6)⟩⟩⟩⟩⟩, fun c5 => ⟨rfl, ⟨⟨rfl, ((h3.2.2 c4).2 c5).1.1, ((h3.2.2 c4).2 c5).1.2⟩, ⟨fun c9 => ⟨rfl, ⟨⟨rfl, ((h3.2.2 c4).2 c5).1.1, ((h3.2.2 c4).2 c5).1.2⟩, (((h3.2.2 c4).2 c5).2.1 c9)⟩⟩, fun c9 => ⟨rfl, ⟨⟨rfl, ((h3.2.2 c4).2 c5).1.1, ((h3.2.2 c4).2 c5).1.2⟩, (((h3.2.2 c4).2 c5).2.2 c9)⟩⟩⟩⟩⟩⟩⟩⟩)⟩⟩)⟩)

set_option maxRecDepth 20000 in
theorem v_M_bitsIn_0 (d : Nat) (p1 : Int) (σ : am_S) (K : Int → am_S → Prop) (hF : MF σ) (h :
  am_Runs PP MLL d m_M_bitsIn 4 [some (qr (31, 12, 89)), some (ql p1), none, some (qi 0), some (qi 0)] [] σ (kI K)) : am_Runs PP MLL d m_M_bitsIn 0 [some (qr (31, 12, 89)), some (ql p1), none, none, none] [] σ (kI K) := am_wEM_ok 200 hF (h)

set_option maxRecDepth 20000 in
theorem v_M_bitsIn_4 (d : Nat) (p1 v3 v4 : Int) (z2 : Option am_V) (σ : am_S) (K : Int → am_S → Prop) (hF : MF σ) (h :
  (((sI σ 31 2) ≤ v4 →
    K v3 σ) ∧
  (¬ ((sI σ 31 2) ≤ v4) →
    am_Runs PP MLL d m_M_bitsIn 4 [some (qr (31, 12, 89)), some (ql p1), (am_cl z2), some (qi (w32 (v3 + (w32 (a_land (a_lshr p1 v4) 1))))), some (qi (w32 (v4 + 1)))] [] σ (kI K)))) : am_Runs PP MLL d m_M_bitsIn 4 [some (qr (31, 12, 89)), some (ql p1), z2, some (qi v3), some (qi v4)] [] σ (kI K) := am_wEM_ok 200 hF (⟨rfl, ⟨fun c1 => (h.1 c1), fun c1 => (h.2 c1)⟩⟩)

set_option maxRecDepth 20000 in
theorem v_M_fix_0 (d : Nat) (p1 p2 p4 : Int) (σ : am_S) (K : Int → am_S → Prop) (hF : MF σ) (h :
  am_Calls PP MLL d m_M_in [qi p1, qi 0, qi 5] σ (kI fun x1 s1 =>
    MF s1 ∧
    ((x1 = 0 →
      K (-1001) s1) ∧
    (¬ (x1 = 0) →
      (((a_cmp (a_lshr p2 (sI s1 31 2)) 0) = 0 →
        (((a_cmp (a_lshr p4 (sI s1 31 2)) 0) = 0 →
          (((a_cmp (a_land p2 p4) 0) = 0 →
            (((a_cmp p2 0) = 0 →
              K (-1001) s1) ∧
            (¬ ((a_cmp p2 0) = 0) →
              am_Calls PP MLL d m_M_bitsIn [qr (31, 12, 89), ql p2] s1 (kI fun x7 s7 =>
                MF s7 ∧
                am_Calls PP MLL d m_M_bitsIn [qr (31, 12, 89), ql p4] s7 (kI fun x8 s8 =>
                  MF s8 ∧
                  ((x7 = x8 →
                    (0 ≤ p1 ∧ p1 < ((6 : Nat) : Int)) ∧
                    let s10 := putI s8 83 (Int.toNat p1) p2;
                    let s11 := putI s10 84 (Int.toNat p1) p4;
                    K 1 s11) ∧
                  (¬ (x7 = x8) →
                    K (-1001) s8))))))) ∧
          (¬ ((a_cmp (a_land p2 p4) 0) = 0) →
            K (-1001) s1))) ∧
        (¬ ((a_cmp (a_lshr p4 (sI s1 31 2)) 0) = 0) →
          K (-1001) s1))) ∧
      (¬ ((a_cmp (a_lshr p2 (sI s1 31 2)) 0) = 0) →
        K (-1001) s1)))))) : am_Runs PP MLL d m_M_fix 0 [some (qr (31, 12, 89)), some (qi p1), some (ql p2), none, some (ql p4), none] [] σ (kI K) := am_wEM_ok 200 hF ((am_cI h fun x1 s1 h1 => ⟨h1.1, ⟨fun c2 => (h1.2.1 c2), fun c2 => ⟨rfl, ⟨fun c3 => ⟨rfl, ⟨fun c4 => ⟨fun c5 => ⟨fun c6 => (((((h1.2.2 c2).1 c3).1 c4).1 c5).1 c6), fun c6 => ⟨rfl, (am_cI (((((h1.2.2 c2).1 c3).1 c4).1 c5).2 c6) fun x7 s7 h7 => ⟨h7.1, ⟨rfl, (am_cI h7.2 fun x8 s8 h8 => ⟨h8.1, ⟨fun c9 => ⟨rfl, ⟨⟨rfl, (h8.2.1 c9).1.1, (h8.2.1 c9).1.2⟩, ⟨rfl, ⟨⟨rfl, (h8.2.1 c9).1.1, (h8.2.1 c9).1.2⟩, (h8.2.1 c9).2⟩⟩⟩⟩, fun c9 => (h8.2.2 c9)⟩⟩)⟩⟩)⟩⟩, fun c5 => ((((h1.2.2 c2).1 c3).1 c4).2 c5)⟩, fun c4 => (((h1.2.2 c2).1 c3).2 c4)⟩⟩, fun c3 => ((h1.2.2 c2).2 c3)⟩⟩⟩⟩))

set_option maxRecDepth 20000 in
theorem v_M_judgedRow_0 (d : Nat) (p1 p2 p3 : Int) (σ : am_S) (K : Int → am_S → Prop) (hF : MF σ) (h :
  am_Runs PP MLL d m_M_judgedRow 4 [some (qr (31, 12, 89)), some (qi p1), some (qi p2), some (qi p3), some (qi 0), some (qi 0), none, none, none] [] σ (kI K)) : am_Runs PP MLL d m_M_judgedRow 0 [some (qr (31, 12, 89)), some (qi p1), some (qi p2), some (qi p3), none, none, none, none, none] [] σ (kI K) := am_wEM_ok 200 hF (h)

set_option maxRecDepth 20000 in
theorem v_M_judgedRow_4 (d : Nat) (p1 p2 p3 v4 v5 : Int) (z6 z7 z8 : Option am_V) (σ : am_S) (K : Int → am_S → Prop) (hF : MF σ) (h :
  ((p2 ≤ v5 →
    K v4 σ) ∧
  (¬ (p2 ≤ v5) →
    am_Runs PP MLL d m_M_judgedRow 11 [some (qr (31, 12, 89)), some (qi p1), some (qi p2), some (qi p3), some (qi v4), some (qi v5), some (qi 0), some (qi 0), z8] [] σ (kI K)))) : am_Runs PP MLL d m_M_judgedRow 4 [some (qr (31, 12, 89)), some (qi p1), some (qi p2), some (qi p3), some (qi v4), some (qi v5), z6, z7, z8] [] σ (kI K) := am_wEM_ok 200 hF (⟨fun c1 => (h.1 c1), fun c1 => (h.2 c1)⟩)

set_option maxRecDepth 20000 in
theorem v_M_judgedRow_11 (d : Nat) (p1 p2 p3 v4 v5 v6 v7 : Int) (z8 : Option am_V) (σ : am_S) (K : Int → am_S → Prop) (hF : MF σ) (h :
  (0 ≤ p3 ∧ p3 < ((10000 : Nat) : Int)) ∧
  (((sI σ 33 (Int.toNat p3)) ≤ v7 →
    (0 ≤ p1 ∧ p1 < ((12 : Nat) : Int)) ∧
    (((sI σ 41 (Int.toNat p1)) = 6 →
      (sI σ 47 (Int.toNat p1)) ≠ 0 ∧
      (0 ≤ (w32 ((w32 (3 * p1)) + (Int.tmod v5 (sI σ 47 (Int.toNat p1))))) ∧ (w32 ((w32 (3 * p1)) + (Int.tmod v5 (sI σ 47 (Int.toNat p1))))) < ((36 : Nat) : Int)) ∧
      (0 ≤ (sI σ 46 (Int.toNat (w32 ((w32 (3 * p1)) + (Int.tmod v5 (sI σ 47 (Int.toNat p1))))))) ∧ (sI σ 46 (Int.toNat (w32 ((w32 (3 * p1)) + (Int.tmod v5 (sI σ 47 (Int.toNat p1))))))) < ((12 : Nat) : Int)) ∧
      am_Calls PP MLL d m_M_tells [qr (31, 12, 89), qi (sI σ 41 (Int.toNat (sI σ 46 (Int.toNat (w32 ((w32 (3 * p1)) + (Int.tmod v5 (sI σ 47 (Int.toNat p1))))))))), qi v6] σ (kI fun x3 s3 =>
        MF s3 ∧
        am_Runs PP MLL d m_M_judgedRow 4 [some (qr (31, 12, 89)), some (qi p1), some (qi p2), some (qi p3), some (qi (w32 ((w32 ((w32 (7 * v4)) + x3)) + 3))), some (qi (w32 (v5 + 1))), some (qi v6), some (qi v7), z8] [] s3 (kI K))) ∧
    (¬ ((sI σ 41 (Int.toNat p1)) = 6) →
      am_Calls PP MLL d m_M_tells [qr (31, 12, 89), qi (sI σ 41 (Int.toNat p1)), qi v6] σ (kI fun x4 s4 =>
        MF s4 ∧
        am_Runs PP MLL d m_M_judgedRow 4 [some (qr (31, 12, 89)), some (qi p1), some (qi p2), some (qi p3), some (qi (w32 ((w32 ((w32 (7 * v4)) + x4)) + 3))), some (qi (w32 (v5 + 1))), some (qi v6), some (qi v7), z8] [] s4 (kI K))))) ∧
  (¬ ((sI σ 33 (Int.toNat p3)) ≤ v7) →
    (0 ≤ (w32 ((w32 (3 * p3)) + v7)) ∧ (w32 ((w32 (3 * p3)) + v7)) < ((30000 : Nat) : Int)) ∧
    (0 ≤ v5 ∧ v5 < ((6 : Nat) : Int)) ∧
    am_Runs PP MLL d m_M_judgedRow 11 [some (qr (31, 12, 89)), some (qi p1), some (qi p2), some (qi p3), some (qi v4), some (qi v5), some (qi (w32 (v6 + (w32 ((w32 (w64 ((a_land (a_lshr (sI σ 83 (Int.toNat v5)) (sI σ 34 (Int.toNat (w32 ((w32 (3 * p3)) + v7))))) 1) - (a_land (a_lshr (sI σ 84 (Int.toNat v5)) (sI σ 34 (Int.toNat (w32 ((w32 (3 * p3)) + v7))))) 1)))) * (sI σ 35 (Int.toNat (w32 ((w32 (3 * p3)) + v7))))))))), some (qi (w32 (v7 + 1))), some (qi (sI σ 34 (Int.toNat (w32 ((w32 (3 * p3)) + v7)))))] [] σ (kI K)))) : am_Runs PP MLL d m_M_judgedRow 11 [some (qr (31, 12, 89)), some (qi p1), some (qi p2), some (qi p3), some (qi v4), some (qi v5), some (qi v6), some (qi v7), z8] [] σ (kI K) := am_wEM_ok 200 hF (⟨rfl, ⟨⟨rfl, h.1.1, h.1.2⟩, ⟨fun c1 => ⟨rfl, ⟨rfl, ⟨⟨rfl, (h.2.1 c1).1.1, (h.2.1 c1).1.2⟩, ⟨fun c2 => ⟨rfl, ⟨rfl, ⟨⟨rfl, (h.2.1 c1).1.1, (h.2.1 c1).1.2⟩, ⟨((h.2.1 c1).2.1 c2).1, ⟨⟨rfl, ((h.2.1 c1).2.1 c2).2.1.1, ((h.2.1 c1).2.1 c2).2.1.2⟩, ⟨⟨rfl, ((h.2.1 c1).2.1 c2).2.2.1.1, ((h.2.1 c1).2.1 c2).2.2.1.2⟩, ⟨rfl, (am_cI ((h.2.1 c1).2.1 c2).2.2.2 fun x3 s3 h3 => ⟨h3.1, h3.2⟩)⟩⟩⟩⟩⟩⟩⟩, fun c2 => ⟨⟨rfl, (h.2.1 c1).1.1, (h.2.1 c1).1.2⟩, ⟨rfl, (am_cI ((h.2.1 c1).2.2 c2) fun x4 s4 h4 => ⟨h4.1, h4.2⟩)⟩⟩⟩⟩⟩⟩, fun c1 => ⟨rfl, ⟨⟨rfl, (h.2.2 c1).1.1, (h.2.2 c1).1.2⟩, ⟨rfl, ⟨⟨rfl, (h.2.2 c1).2.1.1, (h.2.2 c1).2.1.2⟩, ⟨rfl, ⟨⟨rfl, (h.2.2 c1).2.1.1, (h.2.2 c1).2.1.2⟩, ⟨rfl, ⟨⟨rfl, (h.2.2 c1).1.1, (h.2.2 c1).1.2⟩, (h.2.2 c1).2.2⟩⟩⟩⟩⟩⟩⟩⟩⟩⟩⟩)

set_option maxRecDepth 20000 in
theorem v_M_judge_0 (d : Nat) (p1 p2 : Int) (σ : am_S) (K : Int → am_S → Prop) (hF : MF σ) (h :
  am_Calls PP MLL d m_M_isNumber [qr (31, 12, 89), qi p1] σ (kI fun x1 s1 =>
    MF s1 ∧
    ((x1 = 0 →
      K (-1001) s1) ∧
    (¬ (x1 = 0) →
      am_Calls PP MLL d m_M_in [qi p2, qi 1, qi 6] s1 (kI fun x3 s3 =>
        MF s3 ∧
        ((x3 = 0 →
          K (-1001) s3) ∧
        (¬ (x3 = 0) →
          am_Runs PP MLL d m_M_judge 13 [some (qr (31, 12, 89)), some (qi p1), some (qi p2), some (qi 0), none, none, none] [] s3 (kI K)))))))) : am_Runs PP MLL d m_M_judge 0 [some (qr (31, 12, 89)), some (qi p1), some (qi p2), none, none, none, none] [] σ (kI K) := am_wEM_ok 200 hF (⟨rfl, (am_cI h fun x1 s1 h1 => ⟨h1.1, ⟨fun c2 => (h1.2.1 c2), fun c2 => (am_cI (h1.2.2 c2) fun x3 s3 h3 => ⟨h3.1, ⟨fun c4 => (h3.2.1 c4), fun c4 => (h3.2.2 c4)⟩⟩)⟩⟩)⟩)

set_option maxRecDepth 20000 in
theorem v_M_judge_13 (d : Nat) (p1 p2 v3 : Int) (z4 z5 z6 : Option am_V) (σ : am_S) (K : Int → am_S → Prop) (hF : MF σ) (h :
  ((p2 ≤ v3 →
    am_Calls PP MLL d m_M_isThere [qr (31, 12, 89), qi p1] σ (kI fun x2 s2 =>
      MF s2 ∧
      am_Runs PP MLL d m_M_judge 33 [some (qr (31, 12, 89)), some (qi p1), some (qi p2), some (qi x2), some (qi 0), z5, z6] [] s2 (kI K))) ∧
  (¬ (p2 ≤ v3) →
    (0 ≤ v3 ∧ v3 < ((6 : Nat) : Int)) ∧
    (((a_cmp (sI σ 83 (Int.toNat v3)) 0) = 0 →
      K (-1002) σ) ∧
    (¬ ((a_cmp (sI σ 83 (Int.toNat v3)) 0) = 0) →
      am_Runs PP MLL d m_M_judge 13 [some (qr (31, 12, 89)), some (qi p1), some (qi p2), some (qi (w32 (v3 + 1))), z4, z5, z6] [] σ (kI K)))))) : am_Runs PP MLL d m_M_judge 13 [some (qr (31, 12, 89)), some (qi p1), some (qi p2), some (qi v3), z4, z5, z6] [] σ (kI K) := am_wEM_ok 200 hF (⟨fun c1 => ⟨rfl, (am_cI (h.1 c1) fun x2 s2 h2 => ⟨h2.1, h2.2⟩)⟩, fun c1 => ⟨rfl, ⟨⟨rfl, (h.2 c1).1.1, (h.2 c1).1.2⟩, ⟨fun c3 => ((h.2 c1).2.1 c3), fun c3 => ((h.2 c1).2.2 c3)⟩⟩⟩⟩)

set_option maxRecDepth 20000 in
theorem v_M_judge_33 (d : Nat) (p1 p2 v3 v4 : Int) (z5 z6 : Option am_V) (σ : am_S) (K : Int → am_S → Prop) (hF : MF σ) (h :
  ((v3 = 0 →
    ((v3 = 0 →
      am_Calls PP MLL d m_M_finds [qr (31, 12, 89), qi p1, qi 1] σ (kI fun x3 s3 =>
        MF s3 ∧
        K x3 s3)) ∧
    (¬ (v3 = 0) →
      let s4 := putI σ 31 85 0;
      let s5 := putI s4 31 86 0;
      am_Runs PP MLL d m_M_judge 77 [some (qr (31, 12, 89)), some (qi p1), some (qi p2), some (qi v3), some (qi 0), z5, z6] [] s5 (kI K)))) ∧
  (¬ (v3 = 0) →
    (0 ≤ p1 ∧ p1 < ((12 : Nat) : Int)) ∧
    (((sI σ 41 (Int.toNat p1)) = 6 →
      ((p2 ≤ v4 →
        ((v3 = 0 →
          am_Calls PP MLL d m_M_finds [qr (31, 12, 89), qi p1, qi 1] σ (kI fun x9 s9 =>
            MF s9 ∧
            K x9 s9)) ∧
        (¬ (v3 = 0) →
          let s10 := putI σ 31 85 0;
          let s11 := putI s10 31 86 0;
          am_Runs PP MLL d m_M_judge 77 [some (qr (31, 12, 89)), some (qi p1), some (qi p2), some (qi v3), some (qi 0), z5, z6] [] s11 (kI K)))) ∧
      (¬ (p2 ≤ v4) →
        (sI σ 47 (Int.toNat p1)) ≠ 0 ∧
        (0 ≤ (w32 ((w32 (3 * p1)) + (Int.tmod v4 (sI σ 47 (Int.toNat p1))))) ∧ (w32 ((w32 (3 * p1)) + (Int.tmod v4 (sI σ 47 (Int.toNat p1))))) < ((36 : Nat) : Int)) ∧
        am_Calls PP MLL d m_M_isThere [qr (31, 12, 89), qi (sI σ 46 (Int.toNat (w32 ((w32 (3 * p1)) + (Int.tmod v4 (sI σ 47 (Int.toNat p1)))))))] σ (kI fun x12 s12 =>
          MF s12 ∧
          am_Runs PP MLL d m_M_judge 33 [some (qr (31, 12, 89)), some (qi p1), some (qi p2), some (qi x12), some (qi (w32 (v4 + 1))), z5, z6] [] s12 (kI K))))) ∧
    (¬ ((sI σ 41 (Int.toNat p1)) = 6) →
      ((v3 = 0 →
        am_Calls PP MLL d m_M_finds [qr (31, 12, 89), qi p1, qi 1] σ (kI fun x14 s14 =>
          MF s14 ∧
          K x14 s14)) ∧
      (¬ (v3 = 0) →
        let s15 := putI σ 31 85 0;
        let s16 := putI s15 31 86 0;
        am_Runs PP MLL d m_M_judge 77 [some (qr (31, 12, 89)), some (qi p1), some (qi p2), some (qi v3), some (qi 0), z5, z6] [] s16 (kI K)))))))) : am_Runs PP MLL d m_M_judge 33 [some (qr (31, 12, 89)), some (qi p1), some (qi p2), some (qi v3), some (qi v4), z5, z6] [] σ (kI K) := am_wEM_ok 200 hF (⟨fun c1 => ⟨fun c2 => ⟨rfl, (am_cI ((h.1 c1).1 c2) fun x3 s3 h3 => ⟨h3.1, h3.2⟩)⟩, fun c2 => ⟨rfl, ⟨rfl, ((h.1 c1).2 c2)⟩⟩⟩, fun c1 => ⟨rfl, ⟨⟨rfl, (h.2 c1).1.1, (h.2 c1).1.2⟩, ⟨fun c6 => ⟨fun c7 => ⟨fun c8 => ⟨rfl, (am_cI ((((h.2 c1).2.1 c6).1 c7).1 c8) fun x9 s9 h9 => ⟨h9.1, h9.2⟩)⟩, fun c8 => ⟨rfl, ⟨rfl, ((((h.2 c1).2.1 c6).1 c7).2 c8)⟩⟩⟩, fun c7 => ⟨rfl, ⟨rfl, ⟨⟨rfl, (h.2 c1).1.1, (h.2 c1).1.2⟩, ⟨(((h.2 c1).2.1 c6).2 c7).1, ⟨⟨rfl, (((h.2 c1).2.1 c6).2 c7).2.1.1, (((h.2 c1).2.1 c6).2 c7).2.1.2⟩, ⟨rfl, (am_cI (((h.2 c1).2.1 c6).2 c7).2.2 fun x12 s12 h12 => ⟨h12.1, h12.2⟩)⟩⟩⟩⟩⟩⟩⟩, fun c6 => ⟨fun c13 => ⟨rfl, (am_cI (((h.2 c1).2.2 c6).1 c13) fun x14 s14 h14 => ⟨h14.1, h14.2⟩)⟩, fun c13 => ⟨rfl, ⟨rfl, (((h.2 c1).2.2 c6).2 c13)⟩⟩⟩⟩⟩⟩⟩)

set_option maxRecDepth 20000 in
theorem v_M_judge_77 (d : Nat) (p1 p2 v4 : Int) (z3 z5 z6 : Option am_V) (σ : am_S) (K : Int → am_S → Prop) (hF : MF σ) (h :
  (((sI σ 31 5) ≤ v4 →
    let s2 := putI σ 31 84 (-1000);
    am_Runs PP MLL d m_M_judge 150 [some (qr (31, 12, 89)), some (qi p1), some (qi p2), (am_cl z3), some (qi 0), some (qi (w32 ((sI s2 31 5) - 1))), z6] [] s2 (kI K)) ∧
  (¬ ((sI σ 31 5) ≤ v4) →
    (0 ≤ v4 ∧ v4 < ((10000 : Nat) : Int)) ∧
    let s3 := putI σ 86 (Int.toNat v4) (-1);
    am_Calls PP MLL d m_M_isLeft [qr (31, 12, 89), qi v4] s3 (kI fun x4 s4 =>
      MF s4 ∧
      ((x4 = 0 →
        am_Runs PP MLL d m_M_judge 77 [some (qr (31, 12, 89)), some (qi p1), some (qi p2), (am_cl z3), some (qi (w32 (v4 + 1))), z5, z6] [] s4 (kI K)) ∧
      (¬ (x4 = 0) →
        am_Calls PP MLL d m_M_judgedRow [qr (31, 12, 89), qi p1, qi p2, qi v4] s4 (kI fun x6 s6 =>
          MF s6 ∧
          let s7 := putI s6 86 (Int.toNat v4) x6;
          (0 ≤ x6 ∧ x6 < ((117649 : Nat) : Int)) ∧
          (((sI s7 85 (Int.toNat x6)) = 0 →
            let s9 := putI s7 31 85 (w32 ((sI s7 31 85) + 1));
            let s10 := putI s9 85 (Int.toNat x6) (w32 ((sI s9 85 (Int.toNat x6)) + 1));
            (((sI s10 85 (Int.toNat x6)) ≤ (sI s10 31 86) →
              let s12 := putI s10 31 86 (sI s10 31 86);
              am_Runs PP MLL d m_M_judge 77 [some (qr (31, 12, 89)), some (qi p1), some (qi p2), (am_cl z3), some (qi (w32 (v4 + 1))), some (qi x6), z6] [] s12 (kI K)) ∧
            (¬ ((sI s10 85 (Int.toNat x6)) ≤ (sI s10 31 86)) →
              let s13 := putI s10 31 86 (sI s10 85 (Int.toNat x6));
              am_Runs PP MLL d m_M_judge 77 [some (qr (31, 12, 89)), some (qi p1), some (qi p2), (am_cl z3), some (qi (w32 (v4 + 1))), some (qi x6), z6] [] s13 (kI K)))) ∧
          (¬ ((sI s7 85 (Int.toNat x6)) = 0) →
            let s14 := putI s7 31 85 (w32 ((sI s7 31 85) + 0));
            let s15 := putI s14 85 (Int.toNat x6) (w32 ((sI s14 85 (Int.toNat x6)) + 1));
            (((sI s15 85 (Int.toNat x6)) ≤ (sI s15 31 86) →
              let s17 := putI s15 31 86 (sI s15 31 86);
              am_Runs PP MLL d m_M_judge 77 [some (qr (31, 12, 89)), some (qi p1), some (qi p2), (am_cl z3), some (qi (w32 (v4 + 1))), some (qi x6), z6] [] s17 (kI K)) ∧
            (¬ ((sI s15 85 (Int.toNat x6)) ≤ (sI s15 31 86)) →
              let s18 := putI s15 31 86 (sI s15 85 (Int.toNat x6));
              am_Runs PP MLL d m_M_judge 77 [some (qr (31, 12, 89)), some (qi p1), some (qi p2), (am_cl z3), some (qi (w32 (v4 + 1))), some (qi x6), z6] [] s18 (kI K)))))))))))) : am_Runs PP MLL d m_M_judge 77 [some (qr (31, 12, 89)), some (qi p1), some (qi p2), z3, some (qi v4), z5, z6] [] σ (kI K) := am_wEM_ok 200 hF (⟨rfl, ⟨fun c1 => ⟨rfl, ⟨rfl, (h.1 c1)⟩⟩, fun c1 => ⟨rfl, ⟨⟨rfl, (h.2 c1).1.1, (h.2 c1).1.2⟩, ⟨rfl, (am_cI (h.2 c1).2 fun x4 s4 h4 => ⟨h4.1, ⟨fun c5 => (h4.2.1 c5), fun c5 => ⟨rfl, (am_cI (h4.2.2 c5) fun x6 s6 h6 => ⟨h6.1, ⟨rfl, ⟨⟨rfl, (h.2 c1).1.1, (h.2 c1).1.2⟩, ⟨rfl, ⟨rfl, ⟨⟨rfl, h6.2.1.1, h6.2.1.2⟩, ⟨fun c8 => ⟨rfl, ⟨rfl, ⟨⟨rfl, h6.2.1.1, h6.2.1.2⟩, ⟨⟨rfl, h6.2.1.1, h6.2.1.2⟩, ⟨rfl, ⟨⟨rfl, h6.2.1.1, h6.2.1.2⟩, ⟨rfl, ⟨fun c11 => ⟨rfl, ⟨rfl, ((h6.2.2.1 c8).1 c11)⟩⟩, fun c11 => ⟨rfl, ⟨⟨rfl, h6.2.1.1, h6.2.1.2⟩, ⟨rfl, ((h6.2.2.1 c8).2 c11)⟩⟩⟩⟩⟩⟩⟩⟩⟩⟩⟩, fun c8 => ⟨rfl, ⟨rfl, ⟨⟨rfl, h6.2.1.1, h6.2.1.2⟩, ⟨⟨rfl, h6.2.1.1, h6.2.1.2⟩, ⟨rfl, ⟨⟨rfl, h6.2.1.1, h6.2.1.2⟩, ⟨rfl, ⟨fun c16 => ⟨rfl, ⟨rfl, ((h6.2.2.2 c8).1 c16)⟩⟩, fun c16 => ⟨rfl, ⟨⟨rfl, h6.2.1.1, h6.2.1.2⟩, ⟨rfl, ((h6.2.2.2 c8).2 c16)⟩⟩⟩⟩⟩⟩⟩⟩⟩⟩⟩⟩⟩⟩⟩⟩⟩⟩)⟩⟩⟩)⟩⟩⟩⟩⟩)

set_option maxRecDepth 20000 in
theorem v_M_judge_150 (d : Nat) (v4 v5 : Int) (z1 z2 z3 z6 : Option am_V) (σ : am_S) (K : Int → am_S → Prop) (hF : MF σ) (h :
  ((v5 < 0 →
    am_Runs PP MLL d m_M_judge 190 [some (qr (31, 12, 89)), z1, z2, z3, some (qi v4), some (qi 0), z6] [] σ (kI K)) ∧
  (¬ (v5 < 0) →
    (0 ≤ v5 ∧ v5 < ((10000 : Nat) : Int)) ∧
    (((sI σ 86 (Int.toNat v5)) < 0 →
      am_Runs PP MLL d m_M_judge 150 [some (qr (31, 12, 89)), z1, z2, z3, some (qi v4), some (qi (w32 (v5 + (-1)))), z6] [] σ (kI K)) ∧
    (¬ ((sI σ 86 (Int.toNat v5)) < 0) →
      (0 ≤ (sI σ 86 (Int.toNat v5)) ∧ (sI σ 86 (Int.toNat v5)) < ((117649 : Nat) : Int)) ∧
      (((sI σ 85 (Int.toNat (sI σ 86 (Int.toNat v5)))) = 1 →
        let s4 := putI σ 31 84 (sI σ 31 84);
        am_Runs PP MLL d m_M_judge 150 [some (qr (31, 12, 89)), z1, z2, (am_cl z3), some (qi (w32 (v4 + 1))), some (qi (w32 (v5 + (-1)))), some (qi 1)] [] s4 (kI K)) ∧
      (¬ ((sI σ 85 (Int.toNat (sI σ 86 (Int.toNat v5)))) = 1) →
        let s5 := putI σ 31 84 v5;
        am_Runs PP MLL d m_M_judge 150 [some (qr (31, 12, 89)), z1, z2, (am_cl z3), some (qi (w32 (v4 + 0))), some (qi (w32 (v5 + (-1)))), some (qi 0)] [] s5 (kI K)))))))) : am_Runs PP MLL d m_M_judge 150 [some (qr (31, 12, 89)), z1, z2, z3, some (qi v4), some (qi v5), z6] [] σ (kI K) := am_wEM_ok 200 hF (⟨fun c1 => (h.1 c1), fun c1 => ⟨rfl, ⟨⟨rfl, (h.2 c1).1.1, (h.2 c1).1.2⟩, ⟨fun c2 => ((h.2 c1).2.1 c2), fun c2 => ⟨rfl, ⟨rfl, ⟨⟨rfl, (h.2 c1).1.1, (h.2 c1).1.2⟩, ⟨⟨rfl, ((h.2 c1).2.2 c2).1.1, ((h.2 c1).2.2 c2).1.2⟩, ⟨fun c3 => ⟨fun c => absurd c (by decide : ¬ ((1 : Int) = 0)), fun _ => ⟨fun c => absurd c (by decide : ¬ ((1 : Int) = 0)), fun _ => ⟨rfl, ⟨rfl, (((h.2 c1).2.2 c2).2.1 c3)⟩⟩⟩⟩, fun c3 => ⟨fun _ => ⟨fun _ => ⟨rfl, (((h.2 c1).2.2 c2).2.2 c3)⟩, fun c => absurd (by decide : (0 : Int) = 0) c⟩, fun c => absurd (by decide : (0 : Int) = 0) c⟩⟩⟩⟩⟩⟩⟩⟩⟩⟩)

set_option maxRecDepth 20000 in
theorem v_M_judge_190 (d : Nat) (v4 v5 : Int) (z1 z2 z3 z6 : Option am_V) (σ : am_S) (K : Int → am_S → Prop) (hF : MF σ) (h :
  (((sI σ 31 5) ≤ v5 →
    let s2 := putI σ 31 83 1;
    K v4 s2) ∧
  (¬ ((sI σ 31 5) ≤ v5) →
    (0 ≤ v5 ∧ v5 < ((10000 : Nat) : Int)) ∧
    (((sI σ 86 (Int.toNat v5)) < 0 →
      am_Runs PP MLL d m_M_judge 190 [some (qr (31, 12, 89)), z1, z2, z3, some (qi v4), some (qi (w32 (v5 + 1))), z6] [] σ (kI K)) ∧
    (¬ ((sI σ 86 (Int.toNat v5)) < 0) →
      (0 ≤ (sI σ 86 (Int.toNat v5)) ∧ (sI σ 86 (Int.toNat v5)) < ((117649 : Nat) : Int)) ∧
      let s4 := putI σ 85 (Int.toNat (sI σ 86 (Int.toNat v5))) 0;
      am_Runs PP MLL d m_M_judge 190 [some (qr (31, 12, 89)), z1, z2, z3, some (qi v4), some (qi (w32 (v5 + 1))), z6] [] s4 (kI K)))))) : am_Runs PP MLL d m_M_judge 190 [some (qr (31, 12, 89)), z1, z2, z3, some (qi v4), some (qi v5), z6] [] σ (kI K) := am_wEM_ok 200 hF (⟨rfl, ⟨fun c1 => ⟨⟨rfl, (Or.inr rfl)⟩, (h.1 c1)⟩, fun c1 => ⟨rfl, ⟨⟨rfl, (h.2 c1).1.1, (h.2 c1).1.2⟩, ⟨fun c3 => ((h.2 c1).2.1 c3), fun c3 => ⟨rfl, ⟨rfl, ⟨⟨rfl, (h.2 c1).1.1, (h.2 c1).1.2⟩, ⟨⟨rfl, ((h.2 c1).2.2 c3).1.1, ((h.2 c1).2.2 c3).1.2⟩, ((h.2 c1).2.2 c3).2⟩⟩⟩⟩⟩⟩⟩⟩⟩)

set_option maxRecDepth 20000 in
theorem v_M_judged_0 (d : Nat) (p1 : Int) (σ : am_S) (K : Int → am_S → Prop) (hF : MF σ) (h :
  am_Calls PP MLL d m_M_in [qi p1, qi 0, qi 2] σ (kI fun x1 s1 =>
    MF s1 ∧
    ((x1 = 0 →
      K (-1001) s1) ∧
    (¬ (x1 = 0) →
      (((sI s1 31 83) = 0 →
        K (-1002) s1) ∧
      (¬ ((sI s1 31 83) = 0) →
        ((p1 = 0 →
          K (sI s1 31 84) s1) ∧
        (¬ (p1 = 0) →
          ((p1 = 1 →
            K (sI s1 31 85) s1) ∧
          (¬ (p1 = 1) →
            K (sI s1 31 86) s1)))))))))) : am_Runs PP MLL d m_M_judged 0 [some (qr (31, 12, 89)), some (qi p1)] [] σ (kI K) := am_wEM_ok 200 hF ((am_cI h fun x1 s1 h1 => ⟨h1.1, ⟨fun c2 => (h1.2.1 c2), fun c2 => ⟨rfl, ⟨fun c3 => ((h1.2.2 c2).1 c3), fun c3 => ⟨fun c4 => ⟨rfl, (((h1.2.2 c2).2 c3).1 c4)⟩, fun c4 => ⟨fun c5 => ⟨rfl, ((((h1.2.2 c2).2 c3).2 c4).1 c5)⟩, fun c5 => ⟨rfl, ((((h1.2.2 c2).2 c3).2 c4).2 c5)⟩⟩⟩⟩⟩⟩⟩))

set_option maxRecDepth 20000 in
theorem v_M_count_0 (d : Nat) (p1 : Int) (σ : am_S) (K : Int → am_S → Prop) (hF : MF σ) (h :
  ((p1 = 0 →
    K (sI σ 31 2) σ) ∧
  (¬ (p1 = 0) →
  ((p1 = 1 →
    K (sI σ 31 5) σ) ∧
  (¬ (p1 = 1) →
  ((p1 = 2 →
    am_Calls PP MLL d m_M_left [qr (31, 12, 89)] σ (kI fun x4 s4 =>
      MF s4 ∧
      K x4 s4)) ∧
  (¬ (p1 = 2) →
  ((p1 = 3 →
    K (sI σ 31 16) σ) ∧
  (¬ (p1 = 3) →
  ((p1 = 4 →
    am_Runs PP MLL d m_M_count 18 [some (qr (31, 12, 89)), some (qi p1), some (qi 0), some (qi 0)] [] σ (kI K)) ∧
  (¬ (p1 = 4) →
  ((p1 = 5 →
    K (sI σ 31 13) σ) ∧
  (¬ (p1 = 5) →
  ((p1 = 6 →
    K (sI σ 31 4) σ) ∧
  (¬ (p1 = 6) →
  ((p1 = 7 →
    (((sI σ 31 33) = 0 →
      K 0 σ) ∧
    (¬ ((sI σ 31 33) = 0) →
      K (sI σ 31 37) σ))) ∧
  (¬ (p1 = 7) →
  ((p1 = 8 →
    K (sI σ 31 38) σ) ∧
  (¬ (p1 = 8) →
  ((p1 = 9 →
    K (sI σ 31 76) σ) ∧
  (¬ (p1 = 9) →
  ((p1 = 10 →
    K (sI σ 31 1) σ) ∧
  (¬ (p1 = 10) →
  K (-1001) σ))))))))))))))))))))))) : am_Runs PP MLL d m_M_count 0 [some (qr (31, 12, 89)), some (qi p1), none, none] [] σ (kI K) := am_wEM_ok 200 hF (⟨fun c1 => ⟨rfl, (h.1 c1)⟩, fun c1 => ⟨fun c2 => ⟨rfl, ((h.2 c1).1 c2)⟩, fun c2 => ⟨fun c3 => ⟨rfl, (am_cI (((h.2 c1).2 c2).1 c3) fun x4 s4 h4 => ⟨h4.1, h4.2⟩)⟩, fun c3 => ⟨fun c5 => ⟨rfl, ((((h.2 c1).2 c2).2 c3).1 c5)⟩, fun c5 => ⟨fun c6 => (((((h.2 c1).2 c2).2 c3).2 c5).1 c6), fun c6 => ⟨fun c7 => ⟨rfl, ((((((h.2 c1).2 c2).2 c3).2 c5).2 c6).1 c7)⟩, fun c7 => ⟨fun c8 => ⟨rfl, (((((((h.2 c1).2 c2).2 c3).2 c5).2 c6).2 c7).1 c8)⟩, fun c8 => ⟨fun c9 => ⟨rfl, ⟨fun c10 => (((((((((h.2 c1).2 c2).2 c3).2 c5).2 c6).2 c7).2 c8).1 c9).1 c10), fun c10 => ⟨rfl, (((((((((h.2 c1).2 c2).2 c3).2 c5).2 c6).2 c7).2 c8).1 c9).2 c10)⟩⟩⟩, fun c9 => ⟨fun c11 => ⟨rfl, (((((((((h.2 c1).2 c2).2 c3).2 c5).2 c6).2 c7).2 c8).2 c9).1 c11)⟩, fun c11 => ⟨fun c12 => ⟨rfl, ((((((((((h.2 c1).2 c2).2 c3).2 c5).2 c6).2 c7).2 c8).2 c9).2 c11).1 c12)⟩, fun c12 => ⟨fun c13 => ⟨rfl, (((((((((((h.2 c1).2 c2).2 c3).2 c5).2 c6).2 c7).2 c8).2 c9).2 c11).2 c12).1 c13)⟩, fun c13 => (((((((((((h.2 c1).2 c2).2 c3).2 c5).2 c6).2 c7).2 c8).2 c9).2 c11).2 c12).2 c13)⟩⟩⟩⟩⟩⟩⟩⟩⟩⟩⟩)

set_option maxRecDepth 20000 in
theorem v_M_count_18 (d : Nat) (v2 v3 : Int) (z1 : Option am_V) (σ : am_S) (K : Int → am_S → Prop) (hF : MF σ) (h :
  (((sI σ 31 16) ≤ v3 →
    K v2 σ) ∧
  (¬ ((sI σ 31 16) ≤ v3) →
    am_Calls PP MLL d m_M_isThere [qr (31, 12, 89), qi v3] σ (kI fun x2 s2 =>
      MF s2 ∧
      ((x2 = 0 →
        am_Runs PP MLL d m_M_count 18 [some (qr (31, 12, 89)), (am_cl z1), some (qi (w32 (v2 + 0))), some (qi (w32 (v3 + 1)))] [] s2 (kI K)) ∧
      (¬ (x2 = 0) →
        am_Runs PP MLL d m_M_count 18 [some (qr (31, 12, 89)), (am_cl z1), some (qi (w32 (v2 + 1))), some (qi (w32 (v3 + 1)))] [] s2 (kI K))))))) : am_Runs PP MLL d m_M_count 18 [some (qr (31, 12, 89)), z1, some (qi v2), some (qi v3)] [] σ (kI K) := am_wEM_ok 200 hF (⟨rfl, ⟨fun c1 => (h.1 c1), fun c1 => ⟨rfl, (am_cI (h.2 c1) fun x2 s2 h2 => ⟨h2.1, ⟨fun c3 => (h2.2.1 c3), fun c3 => (h2.2.2 c3)⟩⟩)⟩⟩⟩)

set_option maxRecDepth 20000 in
theorem v_M_digest_0 (d : Nat) (σ : am_S) (K : Int → am_S → Prop) (hF : MF σ) (h :
  am_Runs PP MLL d m_M_digest 20 [some (qr (31, 12, 89)), some (ql (w64 ((w64 (31 * (w64 ((w64 (31 * 17)) + (sI σ 31 2))))) + (sI σ 31 4)))), none, some (qi 0), none, none] [] σ (kL K)) : am_Runs PP MLL d m_M_digest 0 [some (qr (31, 12, 89)), none, none, none, none, none] [] σ (kL K) := am_wEM_ok 200 hF (⟨rfl, ⟨rfl, h⟩⟩)

set_option maxRecDepth 20000 in
theorem v_M_digest_20 (d : Nat) (v1 v3 : Int) (z2 z4 z5 : Option am_V) (σ : am_S) (K : Int → am_S → Prop) (hF : MF σ) (h :
  (((sI σ 31 5) ≤ v3 →
    am_Runs PP MLL d m_M_digest 44 [some (qr (31, 12, 89)), some (ql v1), (am_cl z2), some (qi 0), z4, z5] [] σ (kL K)) ∧
  (¬ ((sI σ 31 5) ≤ v3) →
    am_Calls PP MLL d m_M_isLeft [qr (31, 12, 89), qi v3] σ (kI fun x2 s2 =>
      MF s2 ∧
      ((x2 = 0 →
        am_Runs PP MLL d m_M_digest 20 [some (qr (31, 12, 89)), some (ql (w64 ((w64 (31 * v1)) + (-1)))), none, some (qi (w32 (v3 + 1))), z4, z5] [] s2 (kL K)) ∧
      (¬ (x2 = 0) →
        (0 ≤ v3 ∧ v3 < ((10000 : Nat) : Int)) ∧
        am_Runs PP MLL d m_M_digest 20 [some (qr (31, 12, 89)), some (ql (w64 ((w64 (31 * v1)) + (sI s2 36 (Int.toNat v3))))), none, some (qi (w32 (v3 + 1))), z4, z5] [] s2 (kL K))))))) : am_Runs PP MLL d m_M_digest 20 [some (qr (31, 12, 89)), some (ql v1), z2, some (qi v3), z4, z5] [] σ (kL K) := am_wEM_ok 200 hF (⟨rfl, ⟨fun c1 => (h.1 c1), fun c1 => ⟨rfl, (am_cI (h.2 c1) fun x2 s2 h2 => ⟨h2.1, ⟨fun c3 => (h2.2.1 c3), fun c3 => ⟨rfl, ⟨⟨rfl, (h2.2.2 c3).1.1, (h2.2.2 c3).1.2⟩, (h2.2.2 c3).2⟩⟩⟩⟩)⟩⟩⟩)

set_option maxRecDepth 20000 in
theorem v_M_digest_44 (d : Nat) (v1 v3 : Int) (z2 z4 z5 : Option am_V) (σ : am_S) (K : Int → am_S → Prop) (hF : MF σ) (h :
  (((sI σ 31 16) ≤ v3 →
    K v1 σ) ∧
  (¬ ((sI σ 31 16) ≤ v3) →
    (0 ≤ v3 ∧ v3 < ((12 : Nat) : Int)) ∧
    am_Calls PP MLL d m_M_isThere [qr (31, 12, 89), qi v3] σ (kI fun x2 s2 =>
      MF s2 ∧
      ((x2 = 0 →
        am_Runs PP MLL d m_M_digest 44 [some (qr (31, 12, 89)), some (ql (w64 ((w64 (31 * v1)) + (sI σ 41 (Int.toNat v3))))), none, some (qi (w32 (v3 + 1))), z4, z5] [] s2 (kL K)) ∧
      (¬ (x2 = 0) →
        am_Runs PP MLL d m_M_digest 76 [some (qr (31, 12, 89)), some (ql (w64 ((w64 (31 * (w64 ((w64 (31 * v1)) + (sI σ 41 (Int.toNat v3)))))) + (sI s2 42 (Int.toNat v3))))), none, some (qi v3), some (qi (w32 (2 * v3))), z5] [] s2 (kL K))))))) : am_Runs PP MLL d m_M_digest 44 [some (qr (31, 12, 89)), some (ql v1), z2, some (qi v3), z4, z5] [] σ (kL K) := am_wEM_ok 200 hF (⟨rfl, ⟨fun c1 => (h.1 c1), fun c1 => ⟨rfl, ⟨⟨rfl, (h.2 c1).1.1, (h.2 c1).1.2⟩, ⟨rfl, (am_cI (h.2 c1).2 fun x2 s2 h2 => ⟨h2.1, ⟨fun c3 => (h2.2.1 c3), fun c3 => ⟨rfl, ⟨⟨rfl, (h.2 c1).1.1, (h.2 c1).1.2⟩, (h2.2.2 c3)⟩⟩⟩⟩)⟩⟩⟩⟩⟩)

set_option maxRecDepth 20000 in
theorem v_M_digest_76 (d : Nat) (v1 v3 v4 : Int) (z2 z5 : Option am_V) (σ : am_S) (K : Int → am_S → Prop) (hF : MF σ) (h :
  (((w32 ((w32 (2 * v3)) + 2)) ≤ v4 →
    am_Runs PP MLL d m_M_digest 44 [some (qr (31, 12, 89)), some (ql v1), (am_cl z2), some (qi (w32 (v3 + 1))), some (qi v4), z5] [] σ (kL K)) ∧
  (¬ ((w32 ((w32 (2 * v3)) + 2)) ≤ v4) →
    (0 ≤ v3 ∧ v3 < ((12 : Nat) : Int)) ∧
    (((sI σ 41 (Int.toNat v3)) = 6 →
      am_Runs PP MLL d m_M_digest 44 [some (qr (31, 12, 89)), some (ql v1), (am_cl z2), some (qi (w32 (v3 + 1))), some (qi v4), z5] [] σ (kL K)) ∧
    (¬ ((sI σ 41 (Int.toNat v3)) = 6) →
      (0 ≤ v4 ∧ v4 < ((24 : Nat) : Int)) ∧
      am_Runs PP MLL d m_M_digest 101 [some (qr (31, 12, 89)), some (ql (w64 ((w64 (31 * v1)) + (sI σ 44 (Int.toNat v4))))), none, some (qi v3), some (qi v4), some (qi 0)] [] σ (kL K)))))) : am_Runs PP MLL d m_M_digest 76 [some (qr (31, 12, 89)), some (ql v1), z2, some (qi v3), some (qi v4), z5] [] σ (kL K) := am_wEM_ok 200 hF (⟨fun c1 => (h.1 c1), fun c1 => ⟨rfl, ⟨⟨rfl, (h.2 c1).1.1, (h.2 c1).1.2⟩, ⟨fun c2 => ((h.2 c1).2.1 c2), fun c2 => ⟨rfl, ⟨⟨rfl, ((h.2 c1).2.2 c2).1.1, ((h.2 c1).2.2 c2).1.2⟩, ((h.2 c1).2.2 c2).2⟩⟩⟩⟩⟩⟩)

set_option maxRecDepth 20000 in
theorem v_M_digest_101 (d : Nat) (v1 v3 v4 v5 : Int) (z2 : Option am_V) (σ : am_S) (K : Int → am_S → Prop) (hF : MF σ) (h :
  (0 ≤ v4 ∧ v4 < ((24 : Nat) : Int)) ∧
  (((sI σ 44 (Int.toNat v4)) ≤ v5 →
    am_Runs PP MLL d m_M_digest 76 [some (qr (31, 12, 89)), some (ql v1), z2, some (qi v3), some (qi (w32 (v4 + 1))), some (qi v5)] [] σ (kL K)) ∧
  (¬ ((sI σ 44 (Int.toNat v4)) ≤ v5) →
    (0 ≤ (w32 ((w32 (20 * v4)) + v5)) ∧ (w32 ((w32 (20 * v4)) + v5)) < ((480 : Nat) : Int)) ∧
    am_Runs PP MLL d m_M_digest 101 [some (qr (31, 12, 89)), some (ql (w64 ((w64 (31 * v1)) + (sI σ 45 (Int.toNat (w32 ((w32 (20 * v4)) + v5))))))), none, some (qi v3), some (qi v4), some (qi (w32 (v5 + 1)))] [] σ (kL K)))) : am_Runs PP MLL d m_M_digest 101 [some (qr (31, 12, 89)), some (ql v1), z2, some (qi v3), some (qi v4), some (qi v5)] [] σ (kL K) := am_wEM_ok 200 hF (⟨rfl, ⟨⟨rfl, h.1.1, h.1.2⟩, ⟨fun c1 => (h.2.1 c1), fun c1 => ⟨rfl, ⟨⟨rfl, (h.2.2 c1).1.1, (h.2.2 c1).1.2⟩, (h.2.2 c1).2⟩⟩⟩⟩⟩)

set_option maxRecDepth 20000 in
theorem v_M_status_0 (d : Nat) (σ : am_S) (K : Int → am_S → Prop) (hF : MF σ) (h :
  K (sI σ 31 0) σ) : am_Runs PP MLL d m_M_status 0 [some (qr (31, 12, 89))] [] σ (kI K) := am_wEM_ok 200 hF (⟨rfl, h⟩)
