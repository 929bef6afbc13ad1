/-! the reference's records as a tree in cells -/
def mcl (s : am_S) (j : Nat) : Int := if j % 12 < 5 then sI s (68 + j % 12) (sI s 78 (j / 12)).toNat else if sI s 77 (7 * (sI s 78 (j / 12)).toNat + (j % 12 - 5)) < 0 then -1000 else sI s 75 (sI s 77 (7 * (sI s 78 (j / 12)).toNat + (j % 12 - 5))).toNat
theorem mcl_0 {s : am_S} {i r v : Nat} (h : sI s 78 i = r) (hv : v < 5) : mcl s (12 * i + v) = sI s (68 + v) r := by
  unfold mcl
  rw [show (12 * i + v) % 12 = v by omega, show (12 * i + v) / 12 = i by omega, if_pos hv, h, Int.toNat_natCast]
theorem mcl_5 {s : am_S} {i r v : Nat} (h : sI s 78 i = r) (hv : v < 7) : mcl s (12 * i + 5 + v) = if sI s 77 (7 * r + v) < 0 then -1000 else sI s 75 (sI s 77 (7 * r + v)).toNat := by
  unfold mcl
  rw [show (12 * i + 5 + v) % 12 = 5 + v by omega, show (12 * i + 5 + v) / 12 = i by omega, if_neg (by omega), h, Int.toNat_natCast, show 5 + v - 5 = v by omega]
theorem hNT_rt {σ : am_S} {X : sX} : ∀ n (c : Nat → Int) k a i, ¬ mn X c ≤ 0 → hNT σ X n c k a i → sI σ 75 (a + tsz X n c k - 1) = i ∧ sI σ 78 i = ((a + tsz X n c k - 1 : Nat) : Int)
  | 0, c, k, a, i, hm, h => by
    rw [tsz_z hm]
    exact h
  | n + 1, c, k, a, i, hm, h => by
    rcases h with ⟨q1, q2, q3⟩ | ⟨q1, q2, q3, q4⟩
    · rw [tsz_1 hm q1]
      exact ⟨q2, q3⟩
    · rw [tsz_s q1, show a + (1 + tof X n c k (wAt X c (yj X n c k)) (oc X k)) - 1 = a + tof X n c k (wAt X c (yj X n c k)) (oc X k) by omega]
      exact ⟨q2, q3⟩
theorem BSd_0 {f : Nat → Int} {N l r : Nat} (h : BSd f N 0 l r) : l = 0 ∧ r = 0 := by
  refine ⟨bt_ext (fun c => ?_), bt_ext (fun c => ?_)⟩
  · rw [(h.2.2 c).1, if_neg (fun q => absurd q.1 (Nat.not_lt_zero c)), bt_0]
  · rw [(h.2.2 c).2, if_neg (fun q => absurd q.1 (Nat.not_lt_zero c)), bt_0]
theorem LF_M {s : am_S} {X : sX} {tr : Nat → Nat} {c : Nat → Int} {dp a i : Nat} {o : Int} {v : sW} (hm : ¬ mn X c ≤ 0) (h2 : mn X c < 2) (hR : RC s a X tr c v dp o) (h78 : sI s 78 i = a) (h77 : ∀ o, o < 7 → sI s 77 (7 * a + o) = -1) : LF X tr (mcl s) c dp i := by
  have m1 : mn X c = 1 := by omega
  obtain ⟨r1, ⟨l, r, r2, r3, r4⟩, r5, r6, r7, r8⟩ := hR
  rw [if_pos m1] at r4 r5
  obtain ⟨l0, r0⟩ := BSd_0 r4
  refine ⟨?_, ?_, ?_, ?_, ?_, fun v hv => ?_⟩
  · have := mcl_0 (v := 0) h78 (by decide)
    rw [Nat.add_zero] at this
    rw [this]
    show sI s 68 a = 0
    rw [r2, l0]
    rfl
  · rw [mcl_0 (v := 1) h78 (by decide)]
    show sI s 69 a = 0
    rw [r3, r0]
    rfl
  · rw [mcl_0 (v := 2) h78 (by decide)]
    exact r5
  · rw [mcl_0 (v := 3) h78 (by decide)]
    exact r6
  · rw [mcl_0 (v := 4) h78 (by decide)]
    exact r7
  · rw [mcl_5 h78 hv, h77 v hv, if_pos (by decide)]
theorem SB_bd {X : sX} {c : Nat → Int} {w : sW} {l r : Nat} (h : BSd (sdw X c w) (xN X) (xN X) l r) : SB (gG X c (xN X)) w.2.1 w.2.2 (xN X) l r := by
  obtain ⟨h1, h2, h3⟩ := h
  have cs : ∀ q, (sdw X c w q = 1 ∧ rkq (gG X c (xN X)) q < w.2.1 (gG X c (xN X) q)) ∨ (sdw X c w q = -1 ∧ w.2.1 (gG X c (xN X) q) ≤ rkq (gG X c (xN X)) q ∧ rkq (gG X c (xN X)) q < w.2.1 (gG X c (xN X) q) + w.2.2 (gG X c (xN X) q)) ∨ (sdw X c w q = 0 ∧ w.2.1 (gG X c (xN X) q) ≤ rkq (gG X c (xN X)) q ∧ w.2.1 (gG X c (xN X) q) + w.2.2 (gG X c (xN X) q) ≤ rkq (gG X c (xN X)) q) := fun q => by
    unfold sdw
    by_cases b : rkq (gG X c (xN X)) q < w.2.1 (gG X c (xN X) q)
    · rw [if_pos b]; exact Or.inl ⟨rfl, b⟩
    · rw [if_neg b]
      by_cases e : rkq (gG X c (xN X)) q < w.2.1 (gG X c (xN X) q) + w.2.2 (gG X c (xN X) q)
      · rw [if_pos e]; exact Or.inr (Or.inl ⟨rfl, by omega, e⟩)
      · rw [if_neg e]; exact Or.inr (Or.inr ⟨rfl, by omega, by omega⟩)
  refine ⟨h1, h2, fun q => ?_, fun q => ?_⟩
  · rw [(h3 q).1]
    have := cs q
    split <;> split <;> omega
  · rw [(h3 q).2]
    have := cs q
    split <;> split <;> omega
theorem ywc {X : sX} {n : Nat} {c : Nat → Int} {k : Nat} (hXV : XV X) (h : can X (n + 1) c k) (h2 : ¬ mn X c < 2) (u : Nat) (hu : u < oc X k) : can X n (chd X c k (wAt X c (yj X n c k)) u) (k + 1) := by
  have hb : ¬ big X (n + 1) c := fun b => can_b h2 b h
  obtain ⟨j, hj, hy⟩ := (can_s hXV h2 hb).1 h
  have sp := ff_spec (fun j => yw X n c k (wAt X c j)) (wct X c) 0
  have e : ff (fun j => yw X n c k (wAt X c j)) (wct X c) 0 = yj X n c k := rfl
  rw [e] at sp
  have lt : yj X n c k < 0 + wct X c := by
    rcases Nat.lt_or_ge (yj X n c k) (wct X c) with q | q
    · omega
    · exact absurd hy (sp.2.2.1 j (Nat.zero_le _) (by omega))
  exact sp.2.2.2 lt u hu
theorem TC_M {s : am_S} {X : sX} {tr : Nat → Nat} (hXV : XV X) : ∀ n (c : Nat → Int) k dp o a i, ¬ mn X c ≤ 0 → can X n c k → RS s X tr n c k dp o a → hBT s X n c k a → hNT s X n c k a i → TC X tr (mcl s) n c k dp i
  | 0, c, k, dp, o, a, i, hm, hc, hR, hB, hN => LF_M hm hc hR hN.2 hB.2
  | n + 1, c, k, dp, o, a, i, hm, hc, hR, hB, hN => by
    by_cases m2 : mn X c < 2
    · have hR' : RC s a X tr c (0, fun _ => 0, fun _ => 0) dp o := by
        rcases hR with ⟨_, q⟩ | ⟨q, _⟩
        · exact q
        · exact absurd m2 q
      have hB' : ∀ o, o < 7 → sI s 77 (7 * a + o) = -1 := by
        rcases hB with ⟨_, _, q⟩ | ⟨q, _⟩
        · exact q
        · exact absurd m2 q
      have hN' : sI s 78 i = a := by
        rcases hN with ⟨_, _, q⟩ | ⟨q, _⟩
        · exact q
        · exact absurd m2 q
      exact Or.inl ⟨m2, LF_M hm m2 hR' hN' hB'⟩
    · rcases hR with ⟨q, _⟩ | ⟨_, r2, r3⟩
      · exact absurd q m2
      rcases hB with ⟨q, _⟩ | ⟨_, b2, b3, b4⟩
      · exact absurd q m2
      rcases hN with ⟨q, _⟩ | ⟨_, n2, n3, n4⟩
      · exact absurd q m2
      have m1 : ¬ mn X c = 1 := by omega
      obtain ⟨c1, ⟨l, r, c2, c3, c4⟩, c5, c6, c7, c8⟩ := r3
      rw [if_neg m1] at c4 c5
      have hy : can X (n + 1) c k := hc
      refine Or.inr ⟨m2, ⟨?_, ?_, ?_⟩, ⟨l, r, ?_, ?_, SB_bd c4⟩, fun u hu => ?_, fun v hv hn => ?_⟩
      · rw [mcl_0 (v := 2) n3 (by decide)]
        exact c5
      · rw [mcl_0 (v := 3) n3 (by decide)]
        exact c6
      · rw [mcl_0 (v := 4) n3 (by decide)]
        exact c7
      · have := mcl_0 (v := 0) n3 (by decide)
        rw [Nat.add_zero] at this
        rw [this]
        exact c2
      · rw [mcl_0 (v := 1) n3 (by decide)]
        exact c3
      · have hco := (co_bd hu).1
        rcases b4 u hu with ⟨w1, w2⟩ | ⟨w1, w2, w3⟩
        · refine Or.inl ⟨w1, ?_⟩
          rw [cl_co hu, mcl_5 n3 hco, w2, if_pos (by decide)]
        · have hn' := (n4 u hu).resolve_left w1
          have hr' := (r2 u hu).resolve_left w1
          have e1 := tof_s X n c k (wAt X c (yj X n c k)) u
          have rt := hNT_rt n _ _ _ _ w1 hn'
          refine Or.inr ⟨w1, ?_, TC_M hXV n _ _ _ _ _ _ w1 ?_ hr' w3 hn'⟩
          · rw [cl_co hu, mcl_5 n3 hco, w2, if_neg (by omega), Int.toNat_natCast, show a + tof X n c k (wAt X c (yj X n c k)) (u + 1) - 1 = a + tof X n c k (wAt X c (yj X n c k)) (u) + tsz X n (chd X c k (wAt X c (yj X n c k)) u) (k + 1) - 1 by omega]
            exact rt.1
          · exact ywc hXV hy m2 u hu
      · have hn2 : ∀ u, u < oc X k → v ≠ co X k u := fun u hu e => hn u hu (by rw [cl_co hu, e])
        rw [mcl_5 n3 hv, b3 v hv hn2, if_pos (by decide)]
/-- a tree stands in its cells in one way alone -/
theorem tof_fd {f : Nat → Nat} {q : Nat} : ∀ U, q < sN' f U → ∃ u, u < U ∧ sN' f u ≤ q ∧ q < sN' f (u + 1)
  | 0, h => absurd h (Nat.not_lt_zero _)
  | U + 1, h => by
    by_cases w : q < sN' f U
    · obtain ⟨u, a, b, c⟩ := tof_fd U w
      exact ⟨u, by omega, b, c⟩
    · exact ⟨U, by omega, by omega, h⟩
theorem SB_u {G : Nat → Nat} {L R : Nat → Int} {N l r l' r' : Nat} (h : SB G L R N l r) (h' : SB G L R N l' r') : l = l' ∧ r = r' := ⟨bt_ext (fun c => by rw [h.2.2.1 c, h'.2.2.1 c]), bt_ext (fun c => by rw [h.2.2.2 c, h'.2.2.2 c])⟩
theorem LF_u {X : sX} {tr : Nat → Nat} {f g : Nat → Int} {c : Nat → Int} {dp i : Nat} (h : LF X tr f c dp i) (h' : LF X tr g c dp i) {j : Nat} (h1 : 12 * i ≤ j) (h2 : j < 12 * i + 12) : f j = g j := by
  obtain ⟨a1, a2, a3, a4, a5, a6⟩ := h
  obtain ⟨b1, b2, b3, b4, b5, b6⟩ := h'
  by_cases e : j < 12 * i + 5
  · have : j = 12 * i ∨ j = 12 * i + 1 ∨ j = 12 * i + 2 ∨ j = 12 * i + 3 ∨ j = 12 * i + 4 := by omega
    rcases this with q | q | q | q | q
    · rw [q, a1, b1]
    · rw [q, a2, b2]
    · rw [q, a3, b3]
    · rw [q, a4, b4]
    · rw [q, a5, b5]
  · obtain ⟨v, hv⟩ : ∃ v, j = 12 * i + 5 + v := ⟨j - (12 * i + 5), by omega⟩
    rw [hv, a6 v (by omega), b6 v (by omega)]
theorem TC_u {X : sX} {tr : Nat → Nat} {f g : Nat → Int} : ∀ n (c : Nat → Int) k dp i, ¬ mn X c ≤ 0 → TC X tr f n c k dp i → TC X tr g n c k dp i → ∀ j, 12 * i ≤ j → j < 12 * (i + tsz X n c k) → f j = g j
  | 0, c, k, dp, i, hm, hf, hg, j, h1, h2 => by
    rw [tsz_z hm] at h2
    exact LF_u hf hg h1 (by omega)
  | n + 1, c, k, dp, i, hm, hf, hg, j, h1, h2 => by
    by_cases m2 : mn X c < 2
    · rw [tsz_1 hm m2] at h2
      have hf' : LF X tr f c dp i := by
        rcases hf with ⟨_, q⟩ | ⟨q, _⟩
        · exact q
        · exact absurd m2 q
      have hg' : LF X tr g c dp i := by
        rcases hg with ⟨_, q⟩ | ⟨q, _⟩
        · exact q
        · exact absurd m2 q
      exact LF_u hf' hg' h1 (by omega)
    · rcases hf with ⟨q, _⟩ | ⟨_, ⟨f1, f2, f3⟩, ⟨l, r, f4, f5, f6⟩, f7, f8⟩
      · exact absurd q m2
      rcases hg with ⟨q, _⟩ | ⟨_, ⟨g1, g2, g3⟩, ⟨l', r', g4, g5, g6⟩, g7, g8⟩
      · exact absurd q m2
      obtain ⟨el, er⟩ := SB_u f6 g6
      rw [tsz_s m2] at h2
      by_cases e : j < 12 * i + 5
      · have : j = 12 * i ∨ j = 12 * i + 1 ∨ j = 12 * i + 2 ∨ j = 12 * i + 3 ∨ j = 12 * i + 4 := by omega
        rcases this with q | q | q | q | q
        · rw [q, f4, g4, el]
        · rw [q, f5, g5, er]
        · rw [q, f1, g1]
        · rw [q, f2, g2]
        · rw [q, f3, g3]
      · by_cases e2 : j < 12 * i + 12
        · obtain ⟨v, hv⟩ : ∃ v, j = 12 * i + 5 + v := ⟨j - (12 * i + 5), by omega⟩
          rw [hv]
          by_cases ex : ∃ u, u < oc X k ∧ cl X k i u = 12 * i + 5 + v
          · obtain ⟨u, hu, eu⟩ := ex
            rw [← eu]
            rcases f7 u hu with ⟨a1, a2⟩ | ⟨a1, a2, _⟩
            · rcases g7 u hu with ⟨_, b2⟩ | ⟨b1, _⟩
              · rw [a2, b2]
              · exact absurd a1 b1
            · rcases g7 u hu with ⟨b1, _⟩ | ⟨_, b2, _⟩
              · exact absurd b1 a1
              · rw [a2, b2]
          · rw [f8 v (by omega) (fun u hu q => ex ⟨u, hu, q⟩), g8 v (by omega) (fun u hu q => ex ⟨u, hu, q⟩)]
        · obtain ⟨q, hq⟩ : ∃ q, q = j / 12 - (i + 1) := ⟨_, rfl⟩
          have hlt : q < sN' (fun u => tsz X n (chd X c k (wAt X c (yj X n c k)) u) (k + 1)) (oc X k) := by
            have : tof X n c k (wAt X c (yj X n c k)) (oc X k) = sN' (fun u => tsz X n (chd X c k (wAt X c (yj X n c k)) u) (k + 1)) (oc X k) := rfl
            omega
          obtain ⟨u, hu, u1, u2⟩ := tof_fd (oc X k) hlt
          have t1 : tof X n c k (wAt X c (yj X n c k)) (u) = sN' (fun u => tsz X n (chd X c k (wAt X c (yj X n c k)) u) (k + 1)) u := rfl
          have t2 : tof X n c k (wAt X c (yj X n c k)) (u + 1) = sN' (fun u => tsz X n (chd X c k (wAt X c (yj X n c k)) u) (k + 1)) (u + 1) := rfl
          have e1 := tof_s X n c k (wAt X c (yj X n c k)) u
          by_cases w0 : mn X (chd X c k (wAt X c (yj X n c k)) u) ≤ 0
          · have := tsz_0 (n := n) (k := k + 1) w0
            omega
          · rcases f7 u hu with ⟨a1, _⟩ | ⟨_, _, a3⟩
            · exact absurd a1 w0
            rcases g7 u hu with ⟨b1, _⟩ | ⟨_, _, b3⟩
            · exact absurd b1 w0
            exact TC_u n _ _ _ _ w0 a3 b3 j (by omega) (by omega)
