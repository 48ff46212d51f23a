set_option maxHeartbeats 4000000 in
set_option maxRecDepth 100000 in
theorem pr_about {T : Nat} {I : Mem} {J : Lng} {w : Int32} (h : Sim T I J) : PrI yX9_about cX9_about 2 0 yX10_about cX10_about 2 0 [.int w] T I J := by
  obtain ⟨⟨n, a1, a2, a3, a4⟩, ⟨N, m, hP, hPA, hq⟩, ⟨f, z, c1, c2, c3⟩, hk, hJ⟩ := id h
  have h7 := hP.2.1
  have hm := p2_128 h7 hP.2.2.2.1
  have hP2 := hq.wf hP
  have q1 := hq.1 1 (by decide)
  have q2 := hq.1 2 (by decide)
  have q3 := hq.1 3 (by decide)
  have q4 := hq.1 4 (by decide)
  have q5 := hq.1 5 (by decide)
  exact PrI.ro h (RO9.e (c_X9_about)) (fun I1 hI => by
    have h92 : I1 92 = I 92 := hI 92 (by decide)
    have h89 : I1 89 = I 89 := hI 89 (by decide)
    have hQ : PW (I1 92) N m := by rw [h92]; exact hP2
    have hc := c_X10_about (I := I1) (J := J) (w := w)
    rw [h92, vAbout_peq hq, h89, c2, a2, ← c1.2.1, ← a1.1] at hc
    exact RO10.e hc)
set_option maxHeartbeats 4000000 in
set_option maxRecDepth 100000 in
theorem pr_person {T : Nat} {I : Mem} {J : Lng} {p w : Int32} (h : Sim T I J) : PrI yX9_person cX9_person 3 2 yX10_person cX10_person 3 2 [.int p, .int w] T I J := by
  obtain ⟨⟨n, a1, a2, a3, a4⟩, ⟨N, m, hP, hPA, hq⟩, ⟨f, z, c1, c2, c3⟩, hk, hJ⟩ := id h
  have h7 := hP.2.1
  have hm := p2_128 h7 hP.2.2.2.1
  have hP2 := hq.wf hP
  have q1 := hq.1 1 (by decide)
  have q2 := hq.1 2 (by decide)
  have q3 := hq.1 3 (by decide)
  have q4 := hq.1 4 (by decide)
  have q5 := hq.1 5 (by decide)
  cases hp : pin p N with
  | none =>
    exact PrI.ro h (RO9.e (c_X9_person_u hP hp)) (fun I1 hI => by
      have h92 : I1 92 = I 92 := hI 92 (by decide)
      have h89 : I1 89 = I 89 := hI 89 (by decide)
      have hQ : PW (I1 92) N m := by rw [h92]; exact hP2
      exact RO10.e (c_X10_person_u hQ hp))
  | some j =>
    have hj := (pin_some (by omega) hp).1
    exact PrI.ro h (RO9.e (c_X9_person hP hp)) (fun I1 hI => by
      have h92 : I1 92 = I 92 := hI 92 (by decide)
      have h89 : I1 89 = I 89 := hI 89 (by decide)
      have hQ : PW (I1 92) N m := by rw [h92]; exact hP2
      have hc := c_X10_person (J := J) (w := w) hQ hp
      rw [h92, vPerson_peq hq hj] at hc
      exact RO10.e hc)
set_option maxHeartbeats 4000000 in
set_option maxRecDepth 100000 in
theorem pr_die {T : Nat} {I : Mem} {J : Lng} {p : Int32} (h : Sim T I J) : PrI yX9_die cX9_die 2 33 yX10_die cX10_die 2 5 [.int p] T I J := by
  obtain ⟨⟨n, a1, a2, a3, a4⟩, ⟨N, m, hP, hPA, hq⟩, ⟨f, z, c1, c2, c3⟩, hk, hJ⟩ := id h
  have h7 := hP.2.1
  have hm := p2_128 h7 hP.2.2.2.1
  have hP2 := hq.wf hP
  have q1 := hq.1 1 (by decide)
  have q2 := hq.1 2 (by decide)
  have q3 := hq.1 3 (by decide)
  have q4 := hq.1 4 (by decide)
  have q5 := hq.1 5 (by decide)
  cases hp : pin p N with
  | none =>
    exact PrI.ro h (RO9.e (c_X9_die_u hP hp)) (fun I1 hI => by
      have h92 : I1 92 = I 92 := hI 92 (by decide)
      have h89 : I1 89 = I 89 := hI 89 (by decide)
      have hQ : PW (I1 92) N m := by rw [h92]; exact hP2
      exact RO10.e (c_X10_die_u hQ hp))
  | some j =>
    have hj := (pin_some (by omega) hp).1
    cases hb : m.testBit j with
    | false =>
      exact PrI.ro h (RO9.e (c_X9_die_l hP hp hb)) (fun I1 hI => by
        have h92 : I1 92 = I 92 := hI 92 (by decide)
        have h89 : I1 89 = I 89 := hI 89 (by decide)
        have hQ : PW (I1 92) N m := by rw [h92]; exact hP2
        exact RO10.e (c_X10_die_l hQ hp hb))
    | true =>
      exact PrI.act h c1 (c_X9_die hP c1 hp hb) (⟨N, mclr m j, hP.die hb, hPA.die.mono (Nat.le_succ T), hq.die hP hj⟩) (fun I1 hI => by
        have h92 : I1 92 = I 92 := hI 92 (by decide)
        have h89 : I1 89 = I 89 := hI 89 (by decide)
        have hQ : PW (I1 92) N m := by rw [h92]; exact hP2
        have hc := c_X10_die (J := J) hQ (by rw [h89]; exact c2) c1.2.2.2 hp hb
        rw [h92, (hq.die hP hj).1 1 (by decide)] at hc
        exact AC10.f hc)
set_option maxHeartbeats 4000000 in
set_option maxRecDepth 100000 in
theorem pr_bear {T : Nat} {I : Mem} {J : Lng} {p w : Int32} (h : Sim T I J) : PrI yX9_bear cX9_bear 3 3 yX10_bear cX10_bear 4 2 [.int p, .int w] T I J := by
  obtain ⟨⟨n, a1, a2, a3, a4⟩, ⟨N, m, hP, hPA, hq⟩, ⟨f, z, c1, c2, c3⟩, hk, hJ⟩ := id h
  have h7 := hP.2.1
  have hm := p2_128 h7 hP.2.2.2.1
  have hP2 := hq.wf hP
  have q1 := hq.1 1 (by decide)
  have q2 := hq.1 2 (by decide)
  have q3 := hq.1 3 (by decide)
  have q4 := hq.1 4 (by decide)
  have q5 := hq.1 5 (by decide)
  cases hp : pin p N with
  | none =>
    exact PrI.ro h (RO9.e (c_X9_bear_u hP hp)) (fun I1 hI => by
      have h92 : I1 92 = I 92 := hI 92 (by decide)
      have h89 : I1 89 = I 89 := hI 89 (by decide)
      have hQ : PW (I1 92) N m := by rw [h92]; exact hP2
      exact RO10.e (c_X10_bear_u hQ hp))
  | some j =>
    have hj := (pin_some (by omega) hp).1
    cases hw : pin w 2 with
    | none =>
      exact PrI.ro h (RO9.e (c_X9_bear_b hP hp hw)) (fun I1 hI => by
        have h92 : I1 92 = I 92 := hI 92 (by decide)
        have h89 : I1 89 = I 89 := hI 89 (by decide)
        have hQ : PW (I1 92) N m := by rw [h92]; exact hP2
        exact RO10.e (c_X10_bear_b hQ hp hw))
    | some b =>
      cases hb : m.testBit j with
      | false =>
        exact PrI.ro h (RO9.e (c_X9_bear_l hP hp hw hb)) (fun I1 hI => by
          have h92 : I1 92 = I 92 := hI 92 (by decide)
          have h89 : I1 89 = I 89 := hI 89 (by decide)
          have hQ : PW (I1 92) N m := by rw [h92]; exact hP2
          exact RO10.e (c_X10_bear_l hQ hp hw hb))
      | true =>
        rcases (show N = 7 ∨ N < 7 by omega) with hN | hN
        · exact PrI.ro h (RO9.e (c_X9_bear_f hP hp hw hb hN)) (fun I1 hI => by
            have h92 : I1 92 = I 92 := hI 92 (by decide)
            have h89 : I1 89 = I 89 := hI 89 (by decide)
            have hQ : PW (I1 92) N m := by rw [h92]; exact hP2
            exact RO10.e (c_X10_bear_f hQ hp hw hb hN))
        · exact PrI.act h c1 (c_X9_bear hP c1 hp hw hb hN) (⟨N + 1, mset m N, hP.gain hN (Or.inr ⟨j, hj, rfl⟩), (hPA.gain (g := 0) hN (Nat.zero_le _) rfl).mono (Nat.le_succ T), hq.gain hN⟩) (fun I1 hI => by
            have h92 : I1 92 = I 92 := hI 92 (by decide)
            have h89 : I1 89 = I 89 := hI 89 (by decide)
            have hQ : PW (I1 92) N m := by rw [h92]; exact hP2
            have hc := c_X10_bear (J := J) hQ (by rw [h89]; exact c2) c1.2.2.2 hp hw hb hN
            rw [h92] at hc
            exact AC10.f hc)
set_option maxHeartbeats 4000000 in
set_option maxRecDepth 100000 in
theorem pr_cut {T : Nat} {I : Mem} {J : Lng} {x : Int32} (h : Sim T I J) : PrI yX9_cut cX9_cut 2 3 yX10_cut cX10_cut 2 1 [.int x] T I J := by
  obtain ⟨⟨n, a1, a2, a3, a4⟩, ⟨N, m, hP, hPA, hq⟩, ⟨f, z, c1, c2, c3⟩, hk, hJ⟩ := id h
  have h7 := hP.2.1
  have hm := p2_128 h7 hP.2.2.2.1
  have hP2 := hq.wf hP
  have q1 := hq.1 1 (by decide)
  have q2 := hq.1 2 (by decide)
  have q3 := hq.1 3 (by decide)
  have q4 := hq.1 4 (by decide)
  have q5 := hq.1 5 (by decide)
  cases hx : pin1 x 9 with
  | none =>
    exact PrI.ro h (RO9.e (c_X9_cut_b hx)) (fun I1 hI => by
      have h92 : I1 92 = I 92 := hI 92 (by decide)
      have h89 : I1 89 = I 89 := hI 89 (by decide)
      have hQ : PW (I1 92) N m := by rw [h92]; exact hP2
      exact RO10.e (c_X10_cut_b hx))
  | some k =>
    by_cases hl : lnd I 3 3 < x ∨ lnd I 3 1 = -9
    · exact PrI.ro h (RO9.e (c_X9_cut_l hx hl)) (fun I1 hI => by
        have h92 : I1 92 = I 92 := hI 92 (by decide)
        have h89 : I1 89 = I 89 := hI 89 (by decide)
        have hQ : PW (I1 92) N m := by rw [h92]; exact hP2
        exact RO10.e (c_X10_cut_l hx (by rw [h92, q3, q1]; exact hl)))
    · have hn1 : ¬ lnd I 3 3 < x := fun q => hl (Or.inl q)
      have hn2 : ¬ lnd I 3 1 = -9 := fun q => hl (Or.inr q)
      obtain ⟨g1, g2, ex⟩ := pin1_some (by decide) hx
      obtain ⟨t, ht, et⟩ := hP.2.2.2.2.2.2.2.1
      have hlt : k ≤ t := by
        rw [et, ex] at hn1
        rcases Nat.lt_or_ge t k with q | q
        · exact absurd (nI_lt q (by omega)) hn1
        · exact q
      have ev : lnd I 3 3 - x = nI (t - k) := by rw [et, ex]; exact pk_sub hlt
      exact PrI.act h c1 (c_X9_cut c1 hx hn1 hn2) ((⟨N, m, by rw [ev]; exact hP.timber (by omega), (hPA.up (by decide)).mono (Nat.le_succ T), hq.up (by decide)⟩ : PgR (T + 1) (upd (lnd I 3) 3 (lnd I 3 3 - x)) (upd (I 92) 3 (lnd I 3 3 - x)))) (fun I1 hI => by
        have h92 : I1 92 = I 92 := hI 92 (by decide)
        have h89 : I1 89 = I 89 := hI 89 (by decide)
        have hQ : PW (I1 92) N m := by rw [h92]; exact hP2
        have hc := c_X10_cut (I := I1) (J := J) (by rw [h89]; exact c2) c1.2.2.2 hx (by rw [h92, q3]; exact hn1) (by rw [h92, q1]; exact hn2)
        rw [h92, q3] at hc
        exact AC10.e hc (by rw [upI_self, znt_92, t0_92, h92]) (Mr.rf.up (by decide) (by decide)))
set_option maxHeartbeats 4000000 in
set_option maxRecDepth 100000 in
theorem pr_borrow {T : Nat} {I : Mem} {J : Lng} {x : Int32} (h : Sim T I J) : PrI yX9_borrow cX9_borrow 2 3 yX10_borrow cX10_borrow 2 1 [.int x] T I J := by
  obtain ⟨⟨n, a1, a2, a3, a4⟩, ⟨N, m, hP, hPA, hq⟩, ⟨f, z, c1, c2, c3⟩, hk, hJ⟩ := id h
  have h7 := hP.2.1
  have hm := p2_128 h7 hP.2.2.2.1
  have hP2 := hq.wf hP
  have q1 := hq.1 1 (by decide)
  have q2 := hq.1 2 (by decide)
  have q3 := hq.1 3 (by decide)
  have q4 := hq.1 4 (by decide)
  have q5 := hq.1 5 (by decide)
  cases hx : pin1 x 9 with
  | none =>
    exact PrI.ro h (RO9.e (c_X9_borrow_b hx)) (fun I1 hI => by
      have h92 : I1 92 = I 92 := hI 92 (by decide)
      have h89 : I1 89 = I 89 := hI 89 (by decide)
      have hQ : PW (I1 92) N m := by rw [h92]; exact hP2
      exact RO10.e (c_X10_borrow_b hx))
  | some k =>
    by_cases hl : 9 < lnd I 3 4 + x ∨ lnd I 3 1 = -9
    · exact PrI.ro h (RO9.e (c_X9_borrow_l hx hl)) (fun I1 hI => by
        have h92 : I1 92 = I 92 := hI 92 (by decide)
        have h89 : I1 89 = I 89 := hI 89 (by decide)
        have hQ : PW (I1 92) N m := by rw [h92]; exact hP2
        exact RO10.e (c_X10_borrow_l hx (by rw [h92, q4, q1]; exact hl)))
    · have hn1 : ¬ 9 < lnd I 3 4 + x := fun q => hl (Or.inl q)
      have hn2 : ¬ lnd I 3 1 = -9 := fun q => hl (Or.inr q)
      obtain ⟨g1, g2, ex⟩ := pin1_some (by decide) hx
      obtain ⟨t, ht, et⟩ := hP.2.2.2.2.2.2.2.2.1
      have ev : lnd I 3 4 + x = nI (t + k) := by rw [et, ex, nI_add]
      have hlt : t + k ≤ 9 := by
        rw [ev] at hn1
        rcases Nat.lt_or_ge 9 (t + k) with q | q
        · exact absurd (nI_lt (a := 9) q (by omega)) hn1
        · exact q
      exact PrI.act h c1 (c_X9_borrow c1 hx hn1 hn2) ((⟨N, m, by rw [ev]; exact hP.loans (by omega), (hPA.up (by decide)).mono (Nat.le_succ T), hq.up (by decide)⟩ : PgR (T + 1) (upd (lnd I 3) 4 (lnd I 3 4 + x)) (upd (I 92) 4 (lnd I 3 4 + x)))) (fun I1 hI => by
        have h92 : I1 92 = I 92 := hI 92 (by decide)
        have h89 : I1 89 = I 89 := hI 89 (by decide)
        have hQ : PW (I1 92) N m := by rw [h92]; exact hP2
        have hc := c_X10_borrow (I := I1) (J := J) (by rw [h89]; exact c2) c1.2.2.2 hx (by rw [h92, q4]; exact hn1) (by rw [h92, q1]; exact hn2)
        rw [h92, q4] at hc
        exact AC10.e hc (by rw [upI_self, znt_92, t0_92, h92]) (Mr.rf.up (by decide) (by decide)))
set_option maxHeartbeats 4000000 in
set_option maxRecDepth 100000 in
theorem pr_breakTie {T : Nat} {I : Mem} {J : Lng} {t : Int32} (h : Sim T I J) : PrI yX9_breakTie cX9_breakTie 3 33 yX10_breakTie cX10_breakTie 3 5 [.int t] T I J := by
  obtain ⟨⟨n, a1, a2, a3, a4⟩, ⟨N, m, hP, hPA, hq⟩, ⟨f, z, c1, c2, c3⟩, hk, hJ⟩ := id h
  have h7 := hP.2.1
  have hm := p2_128 h7 hP.2.2.2.1
  have hP2 := hq.wf hP
  have q1 := hq.1 1 (by decide)
  have q2 := hq.1 2 (by decide)
  have q3 := hq.1 3 (by decide)
  have q4 := hq.1 4 (by decide)
  have q5 := hq.1 5 (by decide)
  have hpc := pchild_peq hq hP
  cases ht : pin t 4 with
  | none =>
    exact PrI.ro h (RO9.e (c_X9_breakTie_b ht)) (fun I1 hI => by
      have h92 : I1 92 = I 92 := hI 92 (by decide)
      have h89 : I1 89 = I 89 := hI 89 (by decide)
      have hQ : PW (I1 92) N m := by rw [h92]; exact hP2
      exact RO10.e (c_X10_breakTie_b ht))
  | some k =>
    by_cases hl : pchild (lnd I 3) N m = false ∨ lnd I 3 2 = t
    · exact PrI.ro h (RO9.f (c_X9_breakTie_l hP ht hl)) (fun I1 hI => by
        have h92 : I1 92 = I 92 := hI 92 (by decide)
        have h89 : I1 89 = I 89 := hI 89 (by decide)
        have hQ : PW (I1 92) N m := by rw [h92]; exact hP2
        exact RO10.f (c_X10_breakTie_l hQ ht (by rw [h92, q2, hpc]; exact hl)))
    · have hn1 : pchild (lnd I 3) N m = true := by
        cases hb : pchild (lnd I 3) N m with
        | true => rfl
        | false => exact absurd (Or.inl hb) hl
      have hn2 : ¬ lnd I 3 2 = t := fun q => hl (Or.inr q)
      obtain ⟨g1, ex⟩ := pin_some (by decide) ht
      exact PrI.act h c1 (c_X9_breakTie hP c1 ht hn1 hn2) ((⟨N, m, by rw [ex]; exact hP.tie g1, (hPA.up (by decide)).mono (Nat.le_succ T), hq.up (by decide)⟩ : PgR (T + 1) (upd (lnd I 3) 2 t) (upd (I 92) 2 t))) (fun I1 hI => by
        have h92 : I1 92 = I 92 := hI 92 (by decide)
        have h89 : I1 89 = I 89 := hI 89 (by decide)
        have hQ : PW (I1 92) N m := by rw [h92]; exact hP2
        have hc := c_X10_breakTie (I := I1) (J := J) hQ (by rw [h89]; exact c2) c1.2.2.2 ht (by rw [h92, hpc]; exact hn1) (by rw [h92, q2]; exact hn2)
        rw [h92, q2] at hc
        exact AC10.f hc)
set_option maxHeartbeats 4000000 in
set_option maxRecDepth 100000 in
theorem pr_tens {T : Nat} {I : Mem} {J : Lng}  (h : Sim T I J) : PrI yX9_tens cX9_tens 1 3 yX10_tens cX10_tens 2 1 [] T I J := by
  obtain ⟨⟨n, a1, a2, a3, a4⟩, ⟨N, m, hP, hPA, hq⟩, ⟨f, z, c1, c2, c3⟩, hk, hJ⟩ := id h
  have h7 := hP.2.1
  have hm := p2_128 h7 hP.2.2.2.1
  have hP2 := hq.wf hP
  have q1 := hq.1 1 (by decide)
  have q2 := hq.1 2 (by decide)
  have q3 := hq.1 3 (by decide)
  have q4 := hq.1 4 (by decide)
  have q5 := hq.1 5 (by decide)
  exact PrI.act h c1 (c_X9_tens hP c1) (⟨N, m, hP.grow, hPA.grow, hq.grow⟩) (fun I1 hI => by
    have h92 : I1 92 = I 92 := hI 92 (by decide)
    have h89 : I1 89 = I 89 := hI 89 (by decide)
    have hQ : PW (I1 92) N m := by rw [h92]; exact hP2
    have hc := c_X10_tens (I := I1) (J := J) hQ (by rw [h89]; exact c2) c1.2.2.2
    rw [h92, q5] at hc
    exact AC10.e hc (by rw [upR_t]) (Mr.rf.ur (by decide) (by decide)))
set_option maxHeartbeats 4000000 in
set_option maxRecDepth 100000 in
theorem pr_undo {T : Nat} {I : Mem} {J : Lng}  (h : Sim T I J) : PrI yX9_undo cX9_undo 1 3 yX10_undo cX10_undo 2 0 [] T I J := by
  obtain ⟨⟨n, a1, a2, a3, a4⟩, ⟨N, m, hP, hPA, hq⟩, ⟨f, z, c1, c2, c3⟩, hk, hJ⟩ := id h
  have h7 := hP.2.1
  have hm := p2_128 h7 hP.2.2.2.1
  have hP2 := hq.wf hP
  have q1 := hq.1 1 (by decide)
  have q2 := hq.1 2 (by decide)
  have q3 := hq.1 3 (by decide)
  have q4 := hq.1 4 (by decide)
  have q5 := hq.1 5 (by decide)
  rcases Nat.eq_zero_or_pos z with hz | hz
  · exact PrI.ro h (RO9.e (c_X9_undo_l c1 hz)) (fun I1 hI => by
      have h92 : I1 92 = I 92 := hI 92 (by decide)
      have h89 : I1 89 = I 89 := hI 89 (by decide)
      have hQ : PW (I1 92) N m := by rw [h92]; exact hP2
      exact RO10.e (c_X10_undo_l (I := I1) (J := J) (by rw [h89, c2, hz]; rfl)))
  · refine ⟨_, c_X9_undo c1 hz, fun r σ I1 J1 q => ?_⟩
    obtain ⟨rfl, rfl, rfl, rfl⟩ := q
    have hz14 := c1.2.2.2
    have hl : (f + (z - 1)) % 14 < 14 := Nat.mod_lt _ (by decide)
    have k1 : ∀ p, p ≠ 3 → p ≠ 4 → p ≠ 5 → p ≠ 9 → ztak I f z p = I p := fun p g1 g2 g3 g4 => by
      unfold ztak
      rw [zcopy_o _ _ _ p g1 g2 g3, upI_ne g4]
    have k9 : ∀ j, j ≠ 2 → ztak I f z 9 j = I 9 j := fun j hj => by
      unfold ztak
      rw [zcopy_o _ _ _ 9 (by decide) (by decide) (by decide), upI_tf hj]
    have k92 : ztak I f z 9 2 = nI (z - 1) := by
      unfold ztak
      rw [zcopy_o _ _ _ 9 (by decide) (by decide) (by decide), upI_tt]
    have k3 : lnd (ztak I f z) 3 = lnd I (11 + 3 * ((f + (z - 1)) % 14)) := by
      unfold ztak
      rw [zcopy_l]
      exact lnd_ne (upI_ne (by omega)) (upI_ne (by omega)) (upI_ne (by omega))
    refine ⟨rfl, _, rfl, _, c_X10_undo (I := ztak I f z) (z := z - 1) (by rw [k1 89 (by decide) (by decide) (by decide) (by decide), c2, show z - 1 + 1 = z by omega]) (by omega), fun r' σ' I2 J2 q' => ?_⟩
    obtain ⟨rfl, rfl, rfl, rfl⟩ := q'
    refine ⟨rfl, rfl, Sim.mono ?_ (Nat.le_succ T)⟩
    have e1 : ∀ p, p ≠ 89 → p ≠ 92 → (upR (upI (upI (ztak I f z) 89 0 0) 89 11 (nI (z - 1))) 92 (cpy (ztak I f z 92) (ztak I f z 94) 0 (22 * (z - 1)) 22)) p = ztak I f z p := fun p g1 g2 => by rw [upR_ne g2, upI_ne g1, upI_ne g1]
    have e2 : ∀ p, p ≠ 89 → p ≠ 92 → p ≠ 3 → p ≠ 4 → p ≠ 5 → p ≠ 9 → (upR (upI (upI (ztak I f z) 89 0 0) 89 11 (nI (z - 1))) 92 (cpy (ztak I f z 92) (ztak I f z 94) 0 (22 * (z - 1)) 22)) p = I p := fun p g1 g2 g3 g4 g5 g6 => by rw [e1 p g1 g2, k1 p g3 g4 g5 g6]
    refine ⟨⟨n, ?_, ?_, ?_, fun k hk2 => ?_⟩, ?_, ⟨f, z - 1, ?_, ?_, fun i hi => ?_⟩, fun s hs => ?_, hJ⟩
    · unfold TR; rw [e2 1 (by decide) (by decide) (by decide) (by decide) (by decide) (by decide)]; exact a1
    · rw [upR_ne (by decide), upI_tf (by decide), upI_tf (by decide), k1 89 (by decide) (by decide) (by decide) (by decide)]; exact a2
    · rw [e2 2 (by decide) (by decide) (by decide) (by decide) (by decide) (by decide)]; exact a3
    · rw [e2 2 (by decide) (by decide) (by decide) (by decide) (by decide) (by decide), e2 90 (by decide) (by decide) (by decide) (by decide) (by decide) (by decide)]; exact a4 k hk2
    · rw [lnd_ne (e1 3 (by decide) (by decide)) (e1 4 (by decide) (by decide)) (e1 5 (by decide) (by decide)), k3, upR_t]
      refine (c3 (z - 1) (by omega)).b22 (fun q hq2 => ?_)
      have := cpy_in (dst := ztak I f z 92) (src := ztak I f z 94) (d := 0) (s := 22 * (z - 1)) (k := 22) hq2
      rw [Nat.zero_add] at this
      rw [this, k1 94 (by decide) (by decide) (by decide) (by decide)]
    · unfold AR
      rw [e1 9 (by decide) (by decide)]
      exact ⟨by rw [k9 1 (by decide)]; exact c1.1, k92, c1.2.2.1, by omega⟩
    · rw [upR_ne (by decide), upI_tt]
    · have hl2 : (f + i) % 14 < 14 := Nat.mod_lt _ (by decide)
      rw [lnd_ne (e2 _ (by omega) (by omega) (by omega) (by omega) (by omega) (by omega)) (e2 _ (by omega) (by omega) (by omega) (by omega) (by omega) (by omega)) (e2 _ (by omega) (by omega) (by omega) (by omega) (by omega) (by omega)), e2 94 (by decide) (by decide) (by decide) (by decide) (by decide) (by decide)]
      exact c3 i (by omega)
    · rw [e2 54 (by decide) (by decide) (by decide) (by decide) (by decide) (by decide), e2 95 (by decide) (by decide) (by decide) (by decide) (by decide) (by decide), e2 96 (by decide) (by decide) (by decide) (by decide) (by decide) (by decide), lnd_ne (e2 _ (by omega) (by omega) (by omega) (by omega) (by omega) (by omega)) (e2 _ (by omega) (by omega) (by omega) (by omega) (by omega) (by omega)) (e2 _ (by omega) (by omega) (by omega) (by omega) (by omega) (by omega))]
      exact hk s hs
