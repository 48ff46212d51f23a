set_option maxHeartbeats 4000000 in
set_option maxRecDepth 100000 in
theorem pr_heir {T : Nat} {I : Mem} {J : Lng} {p t : Int32} (h : Sim T I J) : PrI yX9_heir cX9_heir 3 32 yX10_heir cX10_heir 3 4 [.int p, .int t] T I J := by
  obtain ⟨⟨n, a1, a2, a3, a4⟩, ⟨N, m, hP, hPA, hq⟩, ⟨f, z, c1, c2, c3⟩, hk, hJ⟩ := id h
  have h7 := hP.2.1
  have hm := p2_128 h7 hP.2.2.2.1
  have hP2 := hq.wf hP
  have q1 := hq.1 1 (by decide)
  have q2 := hq.1 2 (by decide)
  have q3 := hq.1 3 (by decide)
  have q4 := hq.1 4 (by decide)
  have q5 := hq.1 5 (by decide)
  cases hp : pin p N with
  | none =>
    exact PrI.ro h (RO9.e (c_X9_heir_u hP hp)) (fun I1 hI => by
      have h92 : I1 92 = I 92 := hI 92 (by decide)
      have h89 : I1 89 = I 89 := hI 89 (by decide)
      have hQ : PW (I1 92) N m := by rw [h92]; exact hP2
      exact RO10.e (c_X10_heir_u hQ hp))
  | some j =>
    have hj := (pin_some (by omega) hp).1
    cases ht : pin t 4 with
    | none =>
      exact PrI.ro h (RO9.e (c_X9_heir_b hP hp ht)) (fun I1 hI => by
        have h92 : I1 92 = I 92 := hI 92 (by decide)
        have h89 : I1 89 = I 89 := hI 89 (by decide)
        have hQ : PW (I1 92) N m := by rw [h92]; exact hP2
        exact RO10.e (c_X10_heir_b hQ hp ht))
    | some k =>
      exact PrI.ro h (RO9.f (c_X9_heir hP hp ht)) (fun I1 hI => by
        have h92 : I1 92 = I 92 := hI 92 (by decide)
        have h89 : I1 89 = I 89 := hI 89 (by decide)
        have hQ : PW (I1 92) N m := by rw [h92]; exact hP2
        have hc := c_X10_heir (J := J) hQ hp ht
        rw [h92, hq.hr hP hj] at hc
        exact RO10.f hc)
set_option maxHeartbeats 4000000 in
set_option maxRecDepth 100000 in
theorem pr_line {T : Nat} {I : Mem} {J : Lng} {p o t : Int32} (h : Sim T I J) : PrI yX9_line cX9_line 4 32 yX10_line cX10_line 6 3 [.int p, .int o, .int t] T I J := by
  obtain ⟨⟨n, a1, a2, a3, a4⟩, ⟨N, m, hP, hPA, hq⟩, ⟨f, z, c1, c2, c3⟩, hk, hJ⟩ := id h
  have h7 := hP.2.1
  have hm := p2_128 h7 hP.2.2.2.1
  have hP2 := hq.wf hP
  have q1 := hq.1 1 (by decide)
  have q2 := hq.1 2 (by decide)
  have q3 := hq.1 3 (by decide)
  have q4 := hq.1 4 (by decide)
  have q5 := hq.1 5 (by decide)
  by_cases hu : pin p N = none ∨ pin o N = none
  · exact PrI.ro h (RO9.e (c_X9_line_u hP hu)) (fun I1 hI => by
      have h92 : I1 92 = I 92 := hI 92 (by decide)
      have h89 : I1 89 = I 89 := hI 89 (by decide)
      have hQ : PW (I1 92) N m := by rw [h92]; exact hP2
      exact RO10.e (c_X10_line_u hQ hu))
  · cases hp : pin p N with
    | none => exact absurd (Or.inl hp) hu
    | some j =>
      cases ho : pin o N with
      | none => exact absurd (Or.inr ho) hu
      | some x =>
        have hj := (pin_some (by omega) hp).1
        cases ht : pin t 4 with
        | none =>
          exact PrI.ro h (RO9.e (c_X9_line_b hP hp ho ht)) (fun I1 hI => by
            have h92 : I1 92 = I 92 := hI 92 (by decide)
            have h89 : I1 89 = I 89 := hI 89 (by decide)
            have hQ : PW (I1 92) N m := by rw [h92]; exact hP2
            exact RO10.e (c_X10_line_b hQ hp ho ht))
        | some k =>
          exact PrI.ro h (RO9.f (c_X9_line hP hp ho ht)) (fun I1 hI => by
            have h92 : I1 92 = I 92 := hI 92 (by decide)
            have h89 : I1 89 = I 89 := hI 89 (by decide)
            have hQ : PW (I1 92) N m := by rw [h92]; exact hP2
            have hc := c_X10_line (J := J) hQ hp ho ht
            rw [h92, hq.ln hP hj] at hc
            exact RO10.f hc)
set_option maxHeartbeats 4000000 in
set_option maxRecDepth 100000 in
theorem pr_next {T : Nat} {I : Mem} {J : Lng} {t : Int32} (h : Sim T I J) : PrI yX9_next cX9_next 4 33 yX10_next cX10_next 3 5 [.int t] T I J := by
  obtain ⟨⟨n, a1, a2, a3, a4⟩, ⟨N, m, hP, hPA, hq⟩, ⟨f, z, c1, c2, c3⟩, hk, hJ⟩ := id h
  have h7 := hP.2.1
  have hm := p2_128 h7 hP.2.2.2.1
  have hP2 := hq.wf hP
  have q1 := hq.1 1 (by decide)
  have q2 := hq.1 2 (by decide)
  have q3 := hq.1 3 (by decide)
  have q4 := hq.1 4 (by decide)
  have q5 := hq.1 5 (by decide)
  cases ht : pin t 4 with
  | none =>
    exact PrI.ro h (RO9.e (c_X9_next_b ht)) (fun I1 hI => by
      have h92 : I1 92 = I 92 := hI 92 (by decide)
      have h89 : I1 89 = I 89 := hI 89 (by decide)
      have hQ : PW (I1 92) N m := by rw [h92]; exact hP2
      exact RO10.e (c_X10_next_b ht))
  | some k =>
    obtain ⟨g1, ex⟩ := pin_some (by decide) ht
    exact PrI.ro h (RO9.f (c_X9_next hP ht)) (fun I1 hI => by
      have h92 : I1 92 = I 92 := hI 92 (by decide)
      have h89 : I1 89 = I 89 := hI 89 (by decide)
      have hQ : PW (I1 92) N m := by rw [h92]; exact hP2
      have hpq : Peq N (lnd I 3) (tpg I1) := hq.tr (Peq.of22 h7 (fun q hq2 => by rw [tpg_k hq2, h92]))
      have hc := c_X10_next (J := J) hQ ht
      rw [pnx_peq 7 (hpq.up (k := 2) (v := t) (by decide)) (by rw [ex]; exact hP.tie g1)] at hc
      exact RO10.f hc)
set_option maxHeartbeats 4000000 in
set_option maxRecDepth 100000 in
theorem pr_ever {T : Nat} {I : Mem} {J : Lng} {t : Int32} (h : Sim T I J) : PrI yX9_ever cX9_ever 2 32 yX10_ever cX10_ever 5 4 [.int t] T I J := by
  obtain ⟨⟨n, a1, a2, a3, a4⟩, ⟨N, m, hP, hPA, hq⟩, ⟨f, z, c1, c2, c3⟩, hk, hJ⟩ := id h
  have h7 := hP.2.1
  have hm := p2_128 h7 hP.2.2.2.1
  have hP2 := hq.wf hP
  have q1 := hq.1 1 (by decide)
  have q2 := hq.1 2 (by decide)
  have q3 := hq.1 3 (by decide)
  have q4 := hq.1 4 (by decide)
  have q5 := hq.1 5 (by decide)
  cases ht : pin t 4 with
  | none =>
    exact PrI.ro h (RO9.e (c_X9_ever_b ht)) (fun I1 hI => by
      have h92 : I1 92 = I 92 := hI 92 (by decide)
      have h89 : I1 89 = I 89 := hI 89 (by decide)
      have hQ : PW (I1 92) N m := by rw [h92]; exact hP2
      exact RO10.e (c_X10_ever_b ht))
  | some k =>
    rcases hP.2.2.2.2.2.1 with e0 | ⟨j, hj, hjb, ej⟩
    · exact PrI.ro h (RO9.e (c_X9_ever_0 ht e0)) (fun I1 hI => by
        have h92 : I1 92 = I 92 := hI 92 (by decide)
        have h89 : I1 89 = I 89 := hI 89 (by decide)
        have hQ : PW (I1 92) N m := by rw [h92]; exact hP2
        exact RO10.e (c_X10_ever_0 ht (by rw [h92, q1]; exact e0)))
    · exact PrI.ro h (RO9.f (c_X9_ever hP ht hj ej)) (fun I1 hI => by
        have h92 : I1 92 = I 92 := hI 92 (by decide)
        have h89 : I1 89 = I 89 := hI 89 (by decide)
        have hQ : PW (I1 92) N m := by rw [h92]; exact hP2
        have hpq : Peq N (lnd I 3) (tpg I1) := hq.tr (Peq.of22 h7 (fun q hq2 => by rw [tpg_k hq2, h92]))
        have hc := c_X10_ever (J := J) hQ ht hj (by rw [h92, q1]; exact ej)
        rw [hpq.he hP hj, ever_eq (phe_7 hP hj) hm (by omega)] at hc
        exact RO10.f hc)
set_option maxHeartbeats 4000000 in
set_option maxRecDepth 100000 in
theorem pr_best {T : Nat} {I : Mem} {J : Lng} {x : Int32} {own row : Bool} (h : Sim T I J) : PrI yX9_best cX9_best 4 5 yX10_best cX10_best 4 2 [.int x, .int (zB own), .int (zB row)] T I J := by
  obtain ⟨⟨n, a1, a2, a3, a4⟩, ⟨N, m, hP, hPA, hq⟩, ⟨f, z, c1, c2, c3⟩, hk, hJ⟩ := id h
  have h7 := hP.2.1
  have hm := p2_128 h7 hP.2.2.2.1
  have hP2 := hq.wf hP
  have q1 := hq.1 1 (by decide)
  have q2 := hq.1 2 (by decide)
  have q3 := hq.1 3 (by decide)
  have q4 := hq.1 4 (by decide)
  have q5 := hq.1 5 (by decide)
  cases hx : pin1 x 4 with
  | none =>
    exact PrI.ro h (RO9.e (c_X9_best_b hx)) (fun I1 hI => by
      have h92 : I1 92 = I 92 := hI 92 (by decide)
      have h89 : I1 89 = I 89 := hI 89 (by decide)
      have hQ : PW (I1 92) N m := by rw [h92]; exact hP2
      exact RO10.e (c_X10_best_b hx))
  | some k =>
    by_cases e0 : lnd I 3 1 = -9
    · exact PrI.ro h (RO9.e (c_X9_best_l hx e0)) (fun I1 hI => by
        have h92 : I1 92 = I 92 := hI 92 (by decide)
        have h89 : I1 89 = I 89 := hI 89 (by decide)
        have hQ : PW (I1 92) N m := by rw [h92]; exact hP2
        exact RO10.e (c_X10_best_l hx (by rw [h92, q1]; exact e0)))
    · obtain ⟨t, ht, et⟩ := hP.2.2.2.2.2.2.2.1
      exact PrI.ro h (RO9.f (c_X9_best hx e0 ht et)) (fun I1 hI => by
        have h92 : I1 92 = I 92 := hI 92 (by decide)
        have h89 : I1 89 = I 89 := hI 89 (by decide)
        have hQ : PW (I1 92) N m := by rw [h92]; exact hP2
        exact RO10.f (c_X10_best (I := I1) (J := J) hx (by rw [h92, q1]; exact e0) ht (by rw [h92, q3]; exact et)))
theorem nn_nI {d : Int32} (h : ¬ d < 0) : ∃ e, e < 2 ^ 31 ∧ d = nI e := by
  rw [ti_lt] at h
  have h0 : (0 : Int32).toInt = 0 := rfl
  rw [h0] at h
  have h1 := Int32.toInt_lt d
  refine ⟨d.toInt.toNat, by omega, ti_eq.mpr ?_⟩
  rw [nI_toInt (by omega)]; omega
set_option maxHeartbeats 4000000 in
set_option maxRecDepth 100000 in
theorem pr_ties {T : Nat} {I : Mem} {J : Lng} {x d p : Int32} (h : Sim T I J) : PrI yX9_ties cX9_ties 6 34 yX10_ties cX10_ties 7 5 [.int x, .int d, .int p] T I J := by
  obtain ⟨⟨n, a1, a2, a3, a4⟩, ⟨N, m, hP, hPA, hq⟩, ⟨f, z, c1, c2, c3⟩, hk, hJ⟩ := id h
  have h7 := hP.2.1
  have hm := p2_128 h7 hP.2.2.2.1
  have hP2 := hq.wf hP
  have q1 := hq.1 1 (by decide)
  have q2 := hq.1 2 (by decide)
  have q3 := hq.1 3 (by decide)
  have q4 := hq.1 4 (by decide)
  have q5 := hq.1 5 (by decide)
  cases hx : pin1 x 4 with
  | none =>
    exact PrI.ro h (RO9.e (c_X9_ties_b hx)) (fun I1 hI => by
      have h92 : I1 92 = I 92 := hI 92 (by decide)
      have h89 : I1 89 = I 89 := hI 89 (by decide)
      have hQ : PW (I1 92) N m := by rw [h92]; exact hP2
      exact RO10.e (c_X10_ties_b hx))
  | some k =>
    cases hd : pin d (10 ^ k) with
    | none =>
      by_cases hneg : d < 0
      · exact PrI.ro h (RO9.f (c_X9_ties_n hP hx hneg)) (fun I1 hI => by
          have h92 : I1 92 = I 92 := hI 92 (by decide)
          have h89 : I1 89 = I 89 := hI 89 (by decide)
          have hQ : PW (I1 92) N m := by rw [h92]; exact hP2
          exact RO10.e (c_X10_ties_d hx hd))
      · obtain ⟨e, he, rfl⟩ := nn_nI hneg
        have hk0 : dok m k e 0 = false := by
          cases hb : dok m k e 0 with
          | false => rfl
          | true =>
            have hlt := dok_lt k e 0 hb
            have h10 := ten_le k (by have := (pin1_some (by decide) hx).2.1; omega)
            rw [pin_nI (by omega) hlt] at hd
            cases hd
        exact PrI.ro h (RO9.f (c_X9_ties_d hP hx he hk0)) (fun I1 hI => by
          have h92 : I1 92 = I 92 := hI 92 (by decide)
          have h89 : I1 89 = I 89 := hI 89 (by decide)
          have hQ : PW (I1 92) N m := by rw [h92]; exact hP2
          exact RO10.e (c_X10_ties_d hx hd))
    | some e =>
      have h10 := ten_le k (by have := (pin1_some (by decide) hx).2.1; omega)
      obtain ⟨he, ed⟩ := pin_some (by omega) hd
      subst ed
      have he31 : e < 2 ^ 31 := by omega
      cases hk0 : dok m k e 0 with
      | false =>
        exact PrI.ro h (RO9.f (c_X9_ties_d hP hx he31 hk0)) (fun I1 hI => by
          have h92 : I1 92 = I 92 := hI 92 (by decide)
          have h89 : I1 89 = I 89 := hI 89 (by decide)
          have hQ : PW (I1 92) N m := by rw [h92]; exact hP2
          exact RO10.e (c_X10_ties_n hQ hx hd hk0))
      | true =>
        cases hp : pin p N with
        | none =>
          exact PrI.ro h (RO9.f (c_X9_ties_u hP hx he31 hk0 hp)) (fun I1 hI => by
            have h92 : I1 92 = I 92 := hI 92 (by decide)
            have h89 : I1 89 = I 89 := hI 89 (by decide)
            have hQ : PW (I1 92) N m := by rw [h92]; exact hP2
            exact RO10.e (c_X10_ties_u hQ hx hd hk0 hp))
        | some j =>
          exact PrI.ro h (RO9.f (c_X9_ties hP hx he31 hk0 hp)) (fun I1 hI => by
            have h92 : I1 92 = I 92 := hI 92 (by decide)
            have h89 : I1 89 = I 89 := hI 89 (by decide)
            have hQ : PW (I1 92) N m := by rw [h92]; exact hP2
            have hc := c_X10_ties (J := J) hQ hx hd hk0 hp
            rw [h92, pts_peq hq hP (dok_pcan hm hk0) 4 0 0 (by decide)] at hc
            exact RO10.f hc)
set_option maxHeartbeats 4000000 in
set_option maxRecDepth 100000 in
theorem pr_rests {T : Nat} {I : Mem} {J : Lng} {w x : Int32} (h : Sim T I J) : PrI yX9_rests cX9_rests 3 33 yX10_rests cX10_rests 3 5 [.int w, .int x] T I J := by
  obtain ⟨⟨n, a1, a2, a3, a4⟩, ⟨N, m, hP, hPA, hq⟩, ⟨f, z, c1, c2, c3⟩, hk, hJ⟩ := id h
  have h7 := hP.2.1
  have hm := p2_128 h7 hP.2.2.2.1
  have hP2 := hq.wf hP
  have q1 := hq.1 1 (by decide)
  have q2 := hq.1 2 (by decide)
  have q3 := hq.1 3 (by decide)
  have q4 := hq.1 4 (by decide)
  have q5 := hq.1 5 (by decide)
  have hpc := pchild_peq hq hP
  by_cases hb : pin w 10 = none ∨ pin x 2 = none
  · exact PrI.ro h (RO9.e (c_X9_rests_b hb)) (fun I1 hI => by
      have h92 : I1 92 = I 92 := hI 92 (by decide)
      have h89 : I1 89 = I 89 := hI 89 (by decide)
      have hQ : PW (I1 92) N m := by rw [h92]; exact hP2
      exact RO10.e (c_X10_rests_b hb))
  · cases hw : pin w 10 with
    | none => exact absurd (Or.inl hw) hb
    | some u =>
      cases hx : pin x 2 with
      | none => exact absurd (Or.inr hx) hb
      | some y =>
        have hu := (pin_some (by decide) hw).1
        cases hc0 : pchild (lnd I 3) N m with
        | false =>
          exact PrI.ro h (RO9.f (c_X9_rests_l hP hw hx hc0)) (fun I1 hI => by
            have h92 : I1 92 = I 92 := hI 92 (by decide)
            have h89 : I1 89 = I 89 := hI 89 (by decide)
            have hQ : PW (I1 92) N m := by rw [h92]; exact hP2
            exact RO10.f (c_X10_rests_l hQ hw hx (by rw [h92, hpc]; exact hc0)))
        | true =>
          exact PrI.ro h (RO9.f (c_X9_rests hP hw hx hc0)) (fun I1 hI => by
            have h92 : I1 92 = I 92 := hI 92 (by decide)
            have h89 : I1 89 = I 89 := hI 89 (by decide)
            have hQ : PW (I1 92) N m := by rw [h92]; exact hP2
            have hc := c_X10_rests (J := J) hQ hw hx (by rw [h92, hpc]; exact hc0)
            rw [(rest_eq u hu).1, (rest_eq u hu).2] at hc
            exact RO10.f hc)
theorem zp01 {u : Bool} : zpart 0 1 u = nI (mfr 0 1 u) := zpart_mfr (a := 0) (b := 1) (by decide) (by decide) (by decide)
theorem mfr_0 {F : Nat} {u : Bool} (h : 0 < F) : mfr 0 F u = mfr 0 1 u := by
  unfold mfr
  rw [Nat.gcd_zero_left, Nat.gcd_zero_left, Nat.zero_div, Nat.zero_div, Nat.div_self h, Nat.div_self (by decide)]
set_option maxHeartbeats 4000000 in
set_option maxRecDepth 100000 in
theorem pr_odds {T : Nat} {I : Mem} {J : Lng} {p : Int32} {u : Bool} (h : Sim T I J) : PrI yX9_odds cX9_odds 4 34 yX10_odds cX10_odds 8 6 [.int p, .int (zB u)] T I J := by
  obtain ⟨⟨n, a1, a2, a3, a4⟩, ⟨N, m, hP, hPA, hq⟩, ⟨f, z, c1, c2, c3⟩, hk, hJ⟩ := id h
  have h7 := hP.2.1
  have hm := p2_128 h7 hP.2.2.2.1
  have hP2 := hq.wf hP
  have q1 := hq.1 1 (by decide)
  have q2 := hq.1 2 (by decide)
  have q3 := hq.1 3 (by decide)
  have q4 := hq.1 4 (by decide)
  have q5 := hq.1 5 (by decide)
  have hfp := fac_p m
  cases hp : pin p N with
  | none =>
    exact PrI.ro h (RO9.e (c_X9_odds_u hP hp)) (fun I1 hI => by
      have h92 : I1 92 = I 92 := hI 92 (by decide)
      have h89 : I1 89 = I 89 := hI 89 (by decide)
      have hQ : PW (I1 92) N m := by rw [h92]; exact hP2
      exact RO10.e (c_X10_odds_u hQ hp))
  | some j =>
    have hj := (pin_some (by omega) hp).1
    cases hl : m.testBit j with
    | false =>
      exact PrI.ro h (RO9.e (c_X9_odds_l hP hp (Or.inl hl))) (fun I1 hI => by
        have h92 : I1 92 = I 92 := hI 92 (by decide)
        have h89 : I1 89 = I 89 := hI 89 (by decide)
        have hQ : PW (I1 92) N m := by rw [h92]; exact hP2
        have hc := c_X10_odds_l (J := J) (u := u) hQ hp hl
        rw [← zp01] at hc
        exact RO10.e hc)
    | true =>
      rcases hP.2.2.2.2.2.1 with e0 | ⟨y, hy, hyb, ey⟩
      · exact PrI.ro h (RO9.e (c_X9_odds_l hP hp (Or.inr e0))) (fun I1 hI => by
          have h92 : I1 92 = I 92 := hI 92 (by decide)
          have h89 : I1 89 = I 89 := hI 89 (by decide)
          have hQ : PW (I1 92) N m := by rw [h92]; exact hP2
          have hc := c_X10_odds (J := J) (u := u) hQ hp hl
          rw [h92, hq.hd, phd_none e0, Gt_none, mfr_0 (show 0 < fac (pop m) by omega), ← zp01] at hc
          exact RO10.f hc)
      · have hG : Gt (ohl (lnd I 3) N) j m (some y) ≤ 5040 := Gt_le hm
        have h9 := c_X9_odds (J := J) (u := u) hP hp hl (by rw [ey]; exact nI_ne9 (by omega))
        rw [phd_some (by omega) ey, odds_class hm (by omega) hyb, zpart_mfr (by omega) (by omega) (by omega)] at h9
        exact PrI.ro h (RO9.f (h9)) (fun I1 hI => by
          have h92 : I1 92 = I 92 := hI 92 (by decide)
          have h89 : I1 89 = I 89 := hI 89 (by decide)
          have hQ : PW (I1 92) N m := by rw [h92]; exact hP2
          have hc := c_X10_odds (J := J) (u := u) hQ hp hl
          rw [h92, hq.hd, phd_some (by omega) ey, ohl_peq hq hP] at hc
          exact RO10.f hc)
set_option maxHeartbeats 4000000 in
set_option maxRecDepth 100000 in
theorem pr_lender {T : Nat} {I : Mem} {J : Lng} {nn x : Int32} {u : Bool} (hT : T ≤ 64) (h : Sim T I J) : PrI yX9_lender cX9_lender 8 2 yX10_lender cX10_lender 8 2 [.int nn, .int x, .int (zB u)] T I J := by
  obtain ⟨⟨n, a1, a2, a3, a4⟩, ⟨N, m, hP, hPA, hq⟩, ⟨f, z, c1, c2, c3⟩, hk, hJ⟩ := id h
  have h7 := hP.2.1
  have hm := p2_128 h7 hP.2.2.2.1
  have hP2 := hq.wf hP
  have q1 := hq.1 1 (by decide)
  have q2 := hq.1 2 (by decide)
  have q3 := hq.1 3 (by decide)
  have q4 := hq.1 4 (by decide)
  have q5 := hq.1 5 (by decide)
  by_cases hb : pin1 nn 5 = none ∨ pin x 10 = none
  · exact PrI.ro h (RO9.e (c_X9_lender_b hb)) (fun I1 hI => by
      have h92 : I1 92 = I 92 := hI 92 (by decide)
      have h89 : I1 89 = I 89 := hI 89 (by decide)
      have hQ : PW (I1 92) N m := by rw [h92]; exact hP2
      exact RO10.e (c_X10_lender_b hb))
  · cases hn : pin1 nn 5 with
    | none => exact absurd (Or.inl hn) hb
    | some k =>
      cases hx : pin x 10 with
      | none => exact absurd (Or.inr hx) hb
      | some y =>
        rcases hP.2.2.2.2.2.1 with e0 | ⟨v, hv, hvb, ev⟩
        · exact PrI.ro h (RO9.e (c_X9_lender_l hn hx e0)) (fun I1 hI => by
            have h92 : I1 92 = I 92 := hI 92 (by decide)
            have h89 : I1 89 = I 89 := hI 89 (by decide)
            have hQ : PW (I1 92) N m := by rw [h92]; exact hP2
            have hc := c_X10_lender_l (I := I1) (J := J) (u := u) hn hx (by rw [h92, q1]; exact e0)
            rw [← zp01] at hc
            exact RO10.e hc)
        · obtain ⟨g, hg, eg⟩ := hPA v hv
          obtain ⟨k1, k5, _⟩ := pin1_some (by decide) hn
          have hy := (pin_some (by decide) hx).1
          have h10 := ten_le k k5
          have hml := mlu_le (y + g) k 0 1
          rw [Nat.one_mul] at hml
          have hpos : 0 < 10 ^ k := Nat.pow_pos (by decide)
          have h9 := c_X9_lender (J := J) (u := u) hP hn hx hv ev
          rw [eg, nI_add, show zln (nI (y + g)) k 0 1 1 = (nI (mlu (y + g) k 0 1), nI (1 * 10 ^ k)) from zln_mlu (by omega) k 0 1 1 (by omega), Nat.one_mul, zpart_mfr (by omega) (by omega) hpos] at h9
          exact PrI.ro h (RO9.e (h9)) (fun I1 hI => by
            have h92 : I1 92 = I 92 := hI 92 (by decide)
            have h89 : I1 89 = I 89 := hI 89 (by decide)
            have hQ : PW (I1 92) N m := by rw [h92]; exact hP2
            exact RO10.e (c_X10_lender (J := J) (u := u) hQ hn hx hv (by rw [h92, q1]; exact ev) (by rw [h92, (hq.2.2 v hv).2]; exact eg) (by omega)))
set_option maxHeartbeats 4000000 in
set_option maxRecDepth 100000 in
theorem pr_seed {T : Nat} {I : Mem} {J : Lng} {v : Int64} (h : Sim T I J) : PrL yX9_seed cX9_seed 5 0 yX10_seed cX10_seed 5 0 [.long v] T I J := by
  refine ⟨_, c_X9_seed, fun r σ I1 J1 q => ?_⟩
  obtain ⟨rfl, rfl, rfl, rfl⟩ := q
  refine ⟨rfl, _, rfl, _, c_X10_seed, fun r' σ' I2 J2 q' => ?_⟩
  obtain ⟨rfl, rfl, rfl, rfl⟩ := q'
  obtain ⟨b1, b2, b3, b4, b5⟩ := Sim.mono h.t0 (Nat.le_succ T)
  refine ⟨rfl, ?_, b1, b2, b3, b4, ?_⟩
  · rw [show upJ J 0 v 89 = J 89 from if_neg (by decide), ← b5]
  · rw [upJ_tt, show upJ (upJ J 0 v) 89 v 0 = upJ J 0 v 0 from if_neg (by decide), upJ_tt]
set_option maxHeartbeats 4000000 in
set_option maxRecDepth 100000 in
theorem pr_families {T : Nat} {I : Mem} {J : Lng} {x : Int32} (h : Sim T I J) : PrI yX9_families cX9_families 6 33 yX10_families cX10_families 6 5 [.int x] T I J := by
  obtain ⟨⟨n, a1, a2, a3, a4⟩, ⟨N, m, hP, hPA, hq⟩, ⟨f, z, c1, c2, c3⟩, hk, hJ⟩ := id h
  have h7 := hP.2.1
  have hm := p2_128 h7 hP.2.2.2.1
  have hP2 := hq.wf hP
  have q1 := hq.1 1 (by decide)
  have q2 := hq.1 2 (by decide)
  have q3 := hq.1 3 (by decide)
  have q4 := hq.1 4 (by decide)
  have q5 := hq.1 5 (by decide)
  cases hx : pin1 x 20 with
  | none =>
    exact PrI.ro h (RO9.e (c_X9_families_b hx)) (fun I1 hI => by
      have h92 : I1 92 = I 92 := hI 92 (by decide)
      have h89 : I1 89 = I 89 := hI 89 (by decide)
      have hQ : PW (I1 92) N m := by rw [h92]; exact hP2
      exact RO10.e (c_X10_families_b hx))
  | some k =>
    refine ⟨_, c_X9_families hP hx, fun r σ I1 J1 q => ?_⟩
    obtain ⟨hσ, hr, hJ1, hF⟩ := q
    subst J1
    have hI : ∀ p, 89 ≤ p → I1 p = I p := fun p hp => hF p (fun hq => by have := scr_hi p hq; omega)
    have h92 : I1 92 = I 92 := hI 92 (by decide)
    have h89 : I1 89 = I 89 := hI 89 (by decide)
    have hQ : PW (I1 92) N m := by rw [h92]; exact hP2
    have hpq : Peq N (lnd I 3) (tpg I1) := hq.tr (Peq.of22 h7 (fun q hq2 => by rw [tpg_k hq2, h92]))
    have hj : upJ J 0 (pfm sstep sdraw N k (lnd I 3) m (J 0) 0).2 89 = J 0 := by rw [hJ]; exact if_neg (by decide)
    have hc := c_X10_families (J := upJ J 0 (pfm sstep sdraw N k (lnd I 3) m (J 0) 0).2) hQ hx
    rw [hj, pfm_peq k hpq hP] at hc
    refine ⟨hσ, _, hr, _, hc, fun r' σ' I2 J2 q' => ?_⟩
    obtain ⟨g1, g2, g3, g4⟩ := q'
    subst J2
    obtain ⟨b1, b2, b3, b4, b5⟩ := Sim.mono ((h.fr hF).mr g4) (Nat.le_succ T)
    refine ⟨g1, g2, b1, b2, b3, b4, ?_⟩
    rw [upJ_tt, show ∀ (K : Lng) (s : Int64), upJ K 89 s 0 = K 0 from fun _ _ => if_neg (by decide), upJ_tt]
set_option maxHeartbeats 4000000 in
set_option maxRecDepth 100000 in
theorem pr_keep {T : Nat} {I : Mem} {J : Lng} {t : Int32} (h : Sim T I J) : PrI yX9_keep cX9_keep 2 2 yX10_keep cX10_keep 3 1 [.int t] T I J := by
  obtain ⟨⟨n, a1, a2, a3, a4⟩, ⟨N, m, hP, hPA, hq⟩, ⟨f, z, c1, c2, c3⟩, hk, hJ⟩ := id h
  have h7 := hP.2.1
  have hm := p2_128 h7 hP.2.2.2.1
  have hP2 := hq.wf hP
  have q1 := hq.1 1 (by decide)
  have q2 := hq.1 2 (by decide)
  have q3 := hq.1 3 (by decide)
  have q4 := hq.1 4 (by decide)
  have q5 := hq.1 5 (by decide)
  cases ht : pin t 2 with
  | none =>
    exact PrI.ro h (RO9.e (c_X9_keep_u ht)) (fun I1 hI => by
      have h92 : I1 92 = I 92 := hI 92 (by decide)
      have h89 : I1 89 = I 89 := hI 89 (by decide)
      have hQ : PW (I1 92) N m := by rw [h92]; exact hP2
      exact RO10.e (c_X10_keep_u ht))
  | some s =>
    have hs := (pin_some (by decide) ht).1
    refine ⟨_, c_X9_keep ht, fun r σ I1 J1 q => ?_⟩
    obtain ⟨rfl, rfl, rfl, rfl⟩ := q
    have k1 : ∀ p, p ≠ 83 + 3 * s → p ≠ 84 + 3 * s → p ≠ 85 + 3 * s → p ≠ 54 → (upI (zcopy I (83 + 3 * s) 3) 54 s 1) p = I p := fun p g1 g2 g3 g4 => by rw [upI_ne g4, zcopy_o _ _ _ p g1 (by omega) (by omega)]
    have k3 : lnd (upI (zcopy I (83 + 3 * s) 3) 54 s 1) (83 + 3 * s) = lnd I 3 := by
      rw [lnd_ne (I' := upI _ 54 s 1) (upI_ne (by omega)) (upI_ne (by omega)) (upI_ne (by omega)), zcopy_l]
    refine ⟨rfl, _, rfl, _, c_X10_keep (I := upI (zcopy I (83 + 3 * s) 3) 54 s 1) ht, fun r' σ' I2 J2 q' => ?_⟩
    obtain ⟨rfl, rfl, rfl, rfl⟩ := q'
    refine ⟨rfl, by rw [k1 92 (by omega) (by omega) (by omega) (by decide), q5], Sim.mono ?_ (Nat.le_succ T)⟩
    obtain ⟨A, hA⟩ : ∃ A, A = upI (zcopy I (83 + 3 * s) 3) 54 s 1 := ⟨_, rfl⟩
    rw [← hA] at k1 k3 ⊢
    have k54 : ∀ j, A 54 j = if j = s then 1 else I 54 j := fun j => by
      rw [hA, upI_self, zcopy_o _ _ _ 54 (by omega) (by omega) (by omega)]; rfl
    have e1 : ∀ p, p ≠ 89 → p ≠ 95 → p ≠ 96 → (upR (upI (upI A 89 0 0) 96 s 1) 95 (cpy (A 95) (A 92) (22 * s) 0 22)) p = A p := fun p g1 g2 g3 => by rw [upR_ne g2, upI_ne g3, upI_ne g1]
    have e2 : ∀ p, p ≠ 89 → p ≠ 95 → p ≠ 96 → p ≠ 83 + 3 * s → p ≠ 84 + 3 * s → p ≠ 85 + 3 * s → p ≠ 54 → (upR (upI (upI A 89 0 0) 96 s 1) 95 (cpy (A 95) (A 92) (22 * s) 0 22)) p = I p := fun p g1 g2 g3 g4 g5 g6 g7 => by rw [e1 p g1 g2 g3, k1 p g4 g5 g6 g7]
    refine ⟨⟨n, ?_, ?_, ?_, fun k hk2 => ?_⟩, ?_, ⟨f, z, ?_, ?_, fun i hi => ?_⟩, fun j hj => ?_, hJ⟩
    · unfold TR; rw [e2 1 (by omega) (by omega) (by omega) (by omega) (by omega) (by omega) (by omega)]; exact a1
    · rw [upR_ne (by decide), upI_ne (by decide), upI_tf (by decide), k1 89 (by omega) (by omega) (by omega) (by omega)]; exact a2
    · rw [e2 2 (by omega) (by omega) (by omega) (by omega) (by omega) (by omega) (by omega)]; exact a3
    · rw [e2 2 (by omega) (by omega) (by omega) (by omega) (by omega) (by omega) (by omega), e2 90 (by omega) (by omega) (by omega) (by omega) (by omega) (by omega) (by omega)]; exact a4 k hk2
    · rw [lnd_ne (e2 3 (by omega) (by omega) (by omega) (by omega) (by omega) (by omega) (by omega)) (e2 4 (by omega) (by omega) (by omega) (by omega) (by omega) (by omega) (by omega)) (e2 5 (by omega) (by omega) (by omega) (by omega) (by omega) (by omega) (by omega)), e2 92 (by omega) (by omega) (by omega) (by omega) (by omega) (by omega) (by omega)]
      exact ⟨N, m, hP, hPA, hq⟩
    · exact c1.fr (e2 9 (by omega) (by omega) (by omega) (by omega) (by omega) (by omega) (by omega))
    · rw [upR_ne (by decide), upI_ne (by decide), upI_tf (by decide), k1 89 (by omega) (by omega) (by omega) (by omega)]; exact c2
    · have hl : (f + i) % 14 < 14 := Nat.mod_lt _ (by decide)
      rw [lnd_ne (e2 _ (by omega) (by omega) (by omega) (by omega) (by omega) (by omega) (by omega)) (e2 _ (by omega) (by omega) (by omega) (by omega) (by omega) (by omega) (by omega)) (e2 _ (by omega) (by omega) (by omega) (by omega) (by omega) (by omega) (by omega)), e2 94 (by omega) (by omega) (by omega) (by omega) (by omega) (by omega) (by omega)]
      exact c3 i hi
    · rw [e1 54 (by decide) (by decide) (by decide), k54, upR_ne (show (96 : Nat) ≠ 95 by decide), upI_self, upI_ne (show (96 : Nat) ≠ 89 by decide), k1 96 (by omega) (by omega) (by omega) (by omega), upR_t]
      by_cases e : j = s
      · subst e
        rw [if_pos rfl, upd_s]
        refine ⟨rfl, fun _ => ?_⟩
        rw [lnd_ne (e1 _ (by omega) (by omega) (by omega)) (e1 _ (by omega) (by omega) (by omega)) (e1 _ (by omega) (by omega) (by omega)), k3]
        refine PgR.b22 ⟨N, m, hP, hPA, hq⟩ (fun q hq2 => ?_)
        rw [cpy_in hq2, Nat.zero_add, k1 92 (by omega) (by omega) (by omega) (by omega)]
      · rw [if_neg e, upd_n e, lnd_ne (e2 _ (by omega) (by omega) (by omega) (by omega) (by omega) (by omega) (by omega)) (e2 _ (by omega) (by omega) (by omega) (by omega) (by omega) (by omega) (by omega)) (e2 _ (by omega) (by omega) (by omega) (by omega) (by omega) (by omega) (by omega))]
        refine ⟨(hk j hj).1, fun g => ((hk j hj).2 g).b22 (fun q hq2 => ?_)⟩
        rcases (show j < s ∨ s < j by omega) with g | g
        · rw [cpy_lo (by omega), k1 95 (by omega) (by omega) (by omega) (by omega)]
        · rw [cpy_hi (by omega), k1 95 (by omega) (by omega) (by omega) (by omega)]
set_option maxHeartbeats 4000000 in
set_option maxRecDepth 100000 in
theorem pr_again {T : Nat} {I : Mem} {J : Lng} {t : Int32} (h : Sim T I J) : PrI yX9_again cX9_again 2 2 yX10_again cX10_again 3 1 [.int t] T I J := by
  obtain ⟨⟨n, a1, a2, a3, a4⟩, ⟨N, m, hP, hPA, hq⟩, ⟨f, z, c1, c2, c3⟩, hk, hJ⟩ := id h
  have h7 := hP.2.1
  have hm := p2_128 h7 hP.2.2.2.1
  have hP2 := hq.wf hP
  have q1 := hq.1 1 (by decide)
  have q2 := hq.1 2 (by decide)
  have q3 := hq.1 3 (by decide)
  have q4 := hq.1 4 (by decide)
  have q5 := hq.1 5 (by decide)
  cases ht : pin t 2 with
  | none =>
    exact PrI.ro h (RO9.e (c_X9_again_u ht)) (fun I1 hI => by
      have h92 : I1 92 = I 92 := hI 92 (by decide)
      have h89 : I1 89 = I 89 := hI 89 (by decide)
      have hQ : PW (I1 92) N m := by rw [h92]; exact hP2
      exact RO10.e (c_X10_again_u ht))
  | some s =>
    have hs := (pin_some (by decide) ht).1
    by_cases h0 : I 54 s = 0
    · exact PrI.ro h (RO9.e (c_X9_again_l ht h0)) (fun I1 hI => by
        have h92 : I1 92 = I 92 := hI 92 (by decide)
        have h89 : I1 89 = I 89 := hI 89 (by decide)
        have hQ : PW (I1 92) N m := by rw [h92]; exact hP2
        exact RO10.e (c_X10_again_l ht (by rw [hI 96 (by decide), ← (hk s hs).1]; exact h0)))
    · have hkr := (hk s hs).2 h0
      refine ⟨_, c_X9_again ht h0, fun r σ I1 J1 q => ?_⟩
      obtain ⟨rfl, rfl, rfl, rfl⟩ := q
      have k1 : ∀ p, p ≠ 3 → p ≠ 4 → p ≠ 5 → p ≠ 9 → (upI (upI (zcopy I 3 (83 + 3 * s)) 9 1 0) 9 2 0) p = I p := fun p g1 g2 g3 g4 => by rw [upI_ne g4, upI_ne g4, zcopy_o _ _ _ p g1 g2 g3]
      have k3 : lnd (upI (upI (zcopy I 3 (83 + 3 * s)) 9 1 0) 9 2 0) 3 = lnd I (83 + 3 * s) := by
        rw [lnd_ne (I' := upI _ 9 2 0) (upI_ne (by decide)) (upI_ne (by decide)) (upI_ne (by decide)), lnd_ne (I' := upI _ 9 1 0) (upI_ne (by decide)) (upI_ne (by decide)) (upI_ne (by decide)), zcopy_l]
      refine ⟨rfl, _, rfl, _, c_X10_again (I := upI (upI (zcopy I 3 (83 + 3 * s)) 9 1 0) 9 2 0) ht (by rw [k1 96 (by decide) (by decide) (by decide) (by decide), ← (hk s hs).1]; exact h0), fun r' σ' I2 J2 q' => ?_⟩
      obtain ⟨rfl, rfl, rfl, rfl⟩ := q'
      refine ⟨rfl, ?_, Sim.mono ?_ (Nat.le_succ T)⟩
      · obtain ⟨N', m', _, _, hq'⟩ := hkr
        have := hq'.1 5 (by decide)
        dsimp only at this
        rw [k1 95 (by decide) (by decide) (by decide) (by decide), this]
      have k9 : (upI (upI (zcopy I 3 (83 + 3 * s)) 9 1 0) 9 2 0) 9 1 = 0 ∧ (upI (upI (zcopy I 3 (83 + 3 * s)) 9 1 0) 9 2 0) 9 2 = 0 := ⟨by rw [upI_tf (by decide), upI_tt], upI_tt⟩
      obtain ⟨A, hA⟩ : ∃ A, A = upI (upI (zcopy I 3 (83 + 3 * s)) 9 1 0) 9 2 0 := ⟨_, rfl⟩
      rw [← hA] at k1 k3 k9 ⊢
      have e1 : ∀ p, p ≠ 89 → p ≠ 92 → (upI (upR (upI A 89 0 0) 92 (cpy (A 92) (A 95) 0 (22 * s) 22)) 89 11 0) p = A p := fun p g1 g2 => by rw [upI_ne g1, upR_ne g2, upI_ne g1]
      have e2 : ∀ p, p ≠ 89 → p ≠ 92 → p ≠ 3 → p ≠ 4 → p ≠ 5 → p ≠ 9 → (upI (upR (upI A 89 0 0) 92 (cpy (A 92) (A 95) 0 (22 * s) 22)) 89 11 0) p = I p := fun p g1 g2 g3 g4 g5 g6 => by rw [e1 p g1 g2, k1 p g3 g4 g5 g6]
      refine ⟨⟨n, ?_, ?_, ?_, fun k hk2 => ?_⟩, ?_, ⟨0, 0, ?_, ?_, fun i hi => absurd hi (by omega)⟩, fun j hj => ?_, hJ⟩
      · unfold TR; rw [e2 1 (by omega) (by omega) (by omega) (by omega) (by omega) (by omega)]; exact a1
      · rw [upI_tf (by decide), upR_ne (by decide), upI_tf (by decide), k1 89 (by omega) (by omega) (by omega) (by omega)]; exact a2
      · rw [e2 2 (by omega) (by omega) (by omega) (by omega) (by omega) (by omega)]; exact a3
      · rw [e2 2 (by omega) (by omega) (by omega) (by omega) (by omega) (by omega), e2 90 (by omega) (by omega) (by omega) (by omega) (by omega) (by omega)]; exact a4 k hk2
      · rw [lnd_ne (e1 3 (by omega) (by omega)) (e1 4 (by omega) (by omega)) (e1 5 (by omega) (by omega)), k3, upI_ne (by decide), upR_t]
        refine hkr.b22 (fun q hq2 => ?_)
        have := cpy_in (dst := A 92) (src := A 95) (d := 0) (s := 22 * s) (k := 22) hq2
        rw [Nat.zero_add] at this
        rw [this, k1 95 (by decide) (by decide) (by decide) (by decide)]
      · unfold AR
        rw [e1 9 (by omega) (by omega)]
        exact ⟨k9.1, k9.2, by decide, by decide⟩
      · rw [upI_tt]; rfl
      · rw [e2 54 (by omega) (by omega) (by omega) (by omega) (by omega) (by omega), e2 95 (by omega) (by omega) (by omega) (by omega) (by omega) (by omega), e2 96 (by omega) (by omega) (by omega) (by omega) (by omega) (by omega), lnd_ne (e2 _ (by omega) (by omega) (by omega) (by omega) (by omega) (by omega)) (e2 _ (by omega) (by omega) (by omega) (by omega) (by omega) (by omega)) (e2 _ (by omega) (by omega) (by omega) (by omega) (by omega) (by omega))]
        exact hk j hj
