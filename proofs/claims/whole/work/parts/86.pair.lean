/-- the class answers x, and only its scratch has changed -/
def RO9 (y : MethodName) (c : ByteArray) (nL d : Nat) (av : List Value) (x : Int32) (I : Mem) (J : Lng) : Prop := ∃ Q, q_C y c nL (some .int) d 0 0 (.ref 0 :: av) SH I J Q ∧ ∀ r σ I1 J1, Q r σ I1 J1 → σ = SH ∧ r = some (.int x) ∧ J1 = J ∧ Fr scr I I1
def RO10 (y : MethodName) (c : ByteArray) (nL d : Nat) (av : List Value) (x : Int32) (I : Mem) (J : Lng) : Prop := ∃ Q, q_C y c nL (some .int) d 0 0 (.ref 89 :: av) SH I J Q ∧ ∀ r σ I1 J1, Q r σ I1 J1 → σ = SH ∧ r = some (.int x) ∧ J1 = J ∧ Mr MSS I I1
/-- both answer the same, and then say the same -/
def PrI (y9 : MethodName) (c9 : ByteArray) (n9 d9 : Nat) (y10 : MethodName) (c10 : ByteArray) (n10 d10 : Nat) (av : List Value) (T : Nat) (I : Mem) (J : Lng) : Prop := ∃ Q, q_C y9 c9 n9 (some .int) d9 0 0 (.ref 0 :: av) SH I J Q ∧ ∀ r σ I1 J1, Q r σ I1 J1 → σ = SH ∧ ∃ x, r = some (.int x) ∧ ∃ Q', q_C y10 c10 n10 (some .int) d10 0 0 (.ref 89 :: av) SH I1 J1 Q' ∧ ∀ r' σ' I2 J2, Q' r' σ' I2 J2 → σ' = SH ∧ r' = some (.int x) ∧ Sim (T + 1) I2 J2
def PrL (y9 : MethodName) (c9 : ByteArray) (n9 d9 : Nat) (y10 : MethodName) (c10 : ByteArray) (n10 d10 : Nat) (av : List Value) (T : Nat) (I : Mem) (J : Lng) : Prop := ∃ Q, q_C y9 c9 n9 (some .long) d9 0 0 (.ref 0 :: av) SH I J Q ∧ ∀ r σ I1 J1, Q r σ I1 J1 → σ = SH ∧ ∃ x, r = some (.long x) ∧ ∃ Q', q_C y10 c10 n10 (some .long) d10 0 0 (.ref 89 :: av) SH I1 J1 Q' ∧ ∀ r' σ' I2 J2, Q' r' σ' I2 J2 → σ' = SH ∧ r' = some (.long x) ∧ Sim (T + 1) I2 J2
section
variable {y9 y10 : MethodName} {c9 c10 : ByteArray} {n9 d9 n10 d10 : Nat} {av : List Value} {x : Int32} {T : Nat} {I : Mem} {J : Lng}
theorem RO9.e (h : q_E y9 c9 n9 (some .int) d9 (.ref 0 :: av) I J (some (.int x)) I J) : RO9 y9 c9 n9 d9 av x I J := ⟨_, h, fun r σ I1 J1 q => ⟨q.2.1, q.1, q.2.2.2, by rw [q.2.2.1]; exact Fr.rf⟩⟩
theorem RO9.f (h : q_F y9 c9 n9 (some .int) d9 (.ref 0 :: av) I J (fun r I1 J1 => r = some (.int x) ∧ J1 = J ∧ Fr scr I I1)) : RO9 y9 c9 n9 d9 av x I J := ⟨_, h, fun r σ I1 J1 q => ⟨q.1, q.2.1, q.2.2.1, q.2.2.2⟩⟩
theorem RO10.e (h : q_E y10 c10 n10 (some .int) d10 (.ref 89 :: av) I J (some (.int x)) (upI I 89 0 0) J) : RO10 y10 c10 n10 d10 av x I J := ⟨_, h, fun r σ I1 J1 q => ⟨q.2.1, q.1, q.2.2.2, by rw [q.2.2.1]; exact Mr.rf.f (by decide)⟩⟩
theorem RO10.f (h : q_F y10 c10 n10 (some .int) d10 (.ref 89 :: av) I J (fun r I1 J1 => r = some (.int x) ∧ J1 = J ∧ Mr MSS I I1)) : RO10 y10 c10 n10 d10 av x I J := ⟨_, h, fun r σ I1 J1 q => ⟨q.1, q.2.1, q.2.2.1, q.2.2.2⟩⟩
theorem scr_hi : ∀ p ∈ scr, p < 89 := by decide
theorem scrL_hi : ∀ p ∈ scrL, p < 89 := by decide
theorem PrI.ro (h : Sim T I J) (h9 : RO9 y9 c9 n9 d9 av x I J) (h10 : ∀ I1, (∀ p, 89 ≤ p → I1 p = I p) → RO10 y10 c10 n10 d10 av x I1 J) : PrI y9 c9 n9 d9 y10 c10 n10 d10 av T I J := by
  obtain ⟨Q, a1, a2⟩ := h9
  refine ⟨Q, a1, fun r σ I1 J1 q => ?_⟩
  obtain ⟨b1, b2, b3, b4⟩ := a2 r σ I1 J1 q
  subst J1
  obtain ⟨Q', e1, e2⟩ := h10 I1 (fun p hp => b4 p (fun hq => by have := scr_hi p hq; omega))
  refine ⟨b1, x, b2, Q', e1, fun r' σ' I2 J2 q' => ?_⟩
  obtain ⟨f1, f2, f3, f4⟩ := e2 r' σ' I2 J2 q'
  subst J2
  exact ⟨f1, f2, ((h.fr b4).mr f4).mono (Nat.le_succ T)⟩
/-- an act -/
def AC10 (y : MethodName) (c : ByteArray) (nL d : Nat) (av : List Value) (x : Int32) (z : Nat) (b : Nat → Int32) (I : Mem) (J : Lng) : Prop := ∃ Q, q_C y c nL (some .int) d 0 0 (.ref 89 :: av) SH I J Q ∧ ∀ r σ I1 J1, Q r σ I1 J1 → σ = SH ∧ r = some (.int x) ∧ J1 = J ∧ I1 92 = b ∧ Mr MSL (znt (upI I 89 0 0) z) I1
theorem AC10.e {z : Nat} {b : Nat → Int32} {I' : Mem} (h : q_E y10 c10 n10 (some .int) d10 (.ref 89 :: av) I J (some (.int x)) I' J) (h1 : I' 92 = b) (h2 : Mr MSL (znt (upI I 89 0 0) z) I') : AC10 y10 c10 n10 d10 av x z b I J := ⟨_, h, fun r σ I1 J1 q => ⟨q.2.1, q.1, q.2.2.2, by rw [q.2.2.1]; exact h1, by rw [q.2.2.1]; exact h2⟩⟩
theorem AC10.f {z : Nat} {b : Nat → Int32} (h : q_F y10 c10 n10 (some .int) d10 (.ref 89 :: av) I J (fun r I1 J1 => r = some (.int x) ∧ J1 = J ∧ I1 92 = b ∧ Mr MSL (znt (upI I 89 0 0) z) I1)) : AC10 y10 c10 n10 d10 av x z b I J := ⟨_, h, fun r σ I1 J1 q => ⟨q.1, q.2.1, q.2.2.1, q.2.2.2.1, q.2.2.2.2⟩⟩
theorem PrI.act {f z : Nat} {a b : Nat → Int32} (h : Sim T I J) (hA : AR I f z) (h9 : q_F y9 c9 n9 (some .int) d9 (.ref 0 :: av) I J (fun r I1 J1 => r = some (.int x) ∧ J1 = J ∧ lnd I1 3 = a ∧ Fr scrL (zrem I f z) I1)) (hR : PgR (T + 1) a b) (h10 : ∀ I1, (∀ p, 89 ≤ p → I1 p = I p) → AC10 y10 c10 n10 d10 av x z b I1 J) : PrI y9 c9 n9 d9 y10 c10 n10 d10 av T I J := by
  refine ⟨_, h9, fun r σ I1 J1 q => ?_⟩
  obtain ⟨b1, b2, b3, b4, b5⟩ := q
  subst J1
  obtain ⟨Q', e1, e2⟩ := h10 I1 (fun p hp => by rw [b5 p (fun hq => by have := scrL_hi p hq; omega), zrem_o I f z (by omega) (by omega)])
  refine ⟨b1, x, b2, Q', e1, fun r' σ' I2 J2 q' => ?_⟩
  obtain ⟨f1, f2, f3, f4, f5⟩ := e2 r' σ' I2 J2 q'
  subst J2
  exact ⟨f1, f2, h.act hA b5 b4 f5 (by rw [f4]; exact hR)⟩
end
set_option maxHeartbeats 4000000 in
set_option maxRecDepth 100000 in
theorem pr_write {T : Nat} {I : Mem} {J : Lng} {x : Int32} (h : Sim T I J) : PrI yX9_write cX9_write 2 1 yX10_write cX10_write 2 1 [.int x] T I J := by
  obtain ⟨⟨n, a1, a2, a3, a4⟩, ⟨N, m, hP, hPA, hq⟩, ⟨f, z, c1, c2, c3⟩, hk, hJ⟩ := id h
  have h7 := hP.2.1
  have hP2 := hq.wf hP
  cases hx : pin x 256 with
  | none => 
    exact PrI.ro h (RO9.e (c_X9_write_b a1 hx)) (fun I1 hI => by
      have h92 : I1 92 = I 92 := hI 92 (by decide)
      have hQ : PW (I1 92) N m := by rw [h92]; exact hP2
      refine RO10.e ?_
      have h89 : I1 89 = I 89 := hI 89 (by decide)
      exact c_X10_write_b (by rw [h89]; exact a2) hx)
  | some b =>
    rcases (show n = 40 ∨ n < 40 by have := a1.2; omega) with hn | hn
    · exact PrI.ro h (RO9.e (c_X9_write_f a1 hx hn)) (fun I1 hI => by
        have h92 : I1 92 = I 92 := hI 92 (by decide)
        have hQ : PW (I1 92) N m := by rw [h92]; exact hP2
        refine RO10.e ?_
        have h89 : I1 89 = I 89 := hI 89 (by decide)
        exact c_X10_write_f (by rw [h89]; exact a2) hx hn)
    · obtain ⟨hb, ex⟩ := pin_some (by decide) hx
      refine ⟨_, c_X9_write a1 hx hn, fun r σ I1 J1 q => ?_⟩
      obtain ⟨rfl, rfl, rfl, rfl⟩ := q
      refine ⟨rfl, _, rfl, _, c_X10_write (I := upI (upI I 2 n x) 1 1 (nI (n + 1))) (n := n) (by rw [upI_ne (by decide), upI_ne (by decide)]; exact a2) hx hn, fun r' σ' I2 J2 q' => ?_⟩
      obtain ⟨rfl, rfl, rfl, rfl⟩ := q'
      refine ⟨rfl, rfl, Sim.mono ?_ (Nat.le_succ T)⟩
      have e1 : ∀ p, p ≠ 1 → p ≠ 2 → p ≠ 89 → p ≠ 90 → (upI (upI (upI (upI (upI I 2 n x) 1 1 (nI (n + 1))) 89 0 0) 90 n x) 89 2 (nI (n + 1))) p = I p := fun p q1 q2 q3 q4 => by rw [upI_ne q3, upI_ne q4, upI_ne q3, upI_ne q1, upI_ne q2]
      have e2 : ∀ k, (upI (upI (upI (upI (upI I 2 n x) 1 1 (nI (n + 1))) 89 0 0) 90 n x) 89 2 (nI (n + 1))) 2 k = if k = n then x else I 2 k := fun k => by rw [upI_ne (by decide), upI_ne (by decide), upI_ne (by decide), upI_ne (by decide), upI_self]; rfl
      have e90 : ∀ k, (upI (upI (upI (upI (upI I 2 n x) 1 1 (nI (n + 1))) 89 0 0) 90 n x) 89 2 (nI (n + 1))) 90 k = if k = n then x else I 90 k := fun k => by rw [upI_ne (by decide), upI_self, upI_ne (by decide), upI_ne (by decide), upI_ne (by decide)]; rfl
      refine ⟨⟨n + 1, ⟨?_, by omega⟩, upI_tt, fun k hk2 => ?_, fun k hk2 => ?_⟩, ?_, ⟨f, z, ?_, ?_, fun i hi => ?_⟩, fun s hs => ?_, hJ⟩
      · rw [upI_ne (by decide), upI_ne (by decide), upI_ne (by decide), upI_tt]
      · rw [e2]
        split
        · exact ⟨b, hb, ex⟩
        · exact a3 k (by omega)
      · rw [e2, e90]
        split
        · rfl
        · exact a4 k (by omega)
      · rw [lnd_ne (e1 3 (by decide) (by decide) (by decide) (by decide)) (e1 4 (by decide) (by decide) (by decide) (by decide)) (e1 5 (by decide) (by decide) (by decide) (by decide)), e1 92 (by decide) (by decide) (by decide) (by decide)]
        exact ⟨N, m, hP, hPA, hq⟩
      · exact c1.fr (e1 9 (by decide) (by decide) (by decide) (by decide))
      · rw [upI_tf (by decide), upI_ne (by decide), upI_tf (by decide), upI_ne (by decide), upI_ne (by decide)]; exact c2
      · have hl : (f + i) % 14 < 14 := Nat.mod_lt _ (by decide)
        rw [lnd_ne (e1 _ (by omega) (by omega) (by omega) (by omega)) (e1 _ (by omega) (by omega) (by omega) (by omega)) (e1 _ (by omega) (by omega) (by omega) (by omega)), e1 94 (by decide) (by decide) (by decide) (by decide)]; exact c3 i hi
      · rw [e1 54 (by decide) (by decide) (by decide) (by decide), e1 95 (by decide) (by decide) (by decide) (by decide), e1 96 (by decide) (by decide) (by decide) (by decide), lnd_ne (e1 _ (by omega) (by omega) (by omega) (by omega)) (e1 _ (by omega) (by omega) (by omega) (by omega)) (e1 _ (by omega) (by omega) (by omega) (by omega))]; exact hk s hs
set_option maxHeartbeats 4000000 in
set_option maxRecDepth 100000 in
theorem pr_wipe {T : Nat} {I : Mem} {J : Lng}  (h : Sim T I J) : PrI yX9_wipe cX9_wipe 2 0 yX10_wipe cX10_wipe 2 0 [] T I J := by
  obtain ⟨⟨n, a1, a2, a3, a4⟩, ⟨N, m, hP, hPA, hq⟩, ⟨f, z, c1, c2, c3⟩, hk, hJ⟩ := id h
  have h7 := hP.2.1
  have hP2 := hq.wf hP
  refine ⟨_, c_X9_wipe, fun r σ I1 J1 q => ?_⟩
  obtain ⟨rfl, rfl, rfl, rfl⟩ := q
  refine ⟨rfl, _, rfl, _, c_X10_wipe (I := upI I 1 1 0), fun r' σ' I2 J2 q' => ?_⟩
  obtain ⟨rfl, rfl, rfl, rfl⟩ := q'
  refine ⟨rfl, by rw [upI_ne (by decide), a2, a1.1], Sim.mono ?_ (Nat.le_succ T)⟩
  have e1 : ∀ p, p ≠ 1 → p ≠ 89 → (upI (upI (upI I 1 1 0) 89 0 0) 89 2 0) p = I p := fun p q1 q3 => by rw [upI_ne q3, upI_ne q3, upI_ne q1]
  refine ⟨⟨0, ⟨?_, by omega⟩, upI_tt, fun k hk2 => absurd hk2 (by omega), fun k hk2 => absurd hk2 (by omega)⟩, ?_, ⟨f, z, ?_, ?_, fun i hi => ?_⟩, fun s hs => ?_, hJ⟩
  · rw [upI_ne (by decide), upI_ne (by decide), upI_tt]; rfl
  · rw [lnd_ne (e1 3 (by decide) (by decide)) (e1 4 (by decide) (by decide)) (e1 5 (by decide) (by decide)), e1 92 (by decide) (by decide)]
    exact ⟨N, m, hP, hPA, hq⟩
  · exact c1.fr (e1 9 (by decide) (by decide))
  · rw [upI_tf (by decide), upI_tf (by decide), upI_ne (by decide)]; exact c2
  · have hl : (f + i) % 14 < 14 := Nat.mod_lt _ (by decide)
    rw [lnd_ne (e1 _ (by omega) (by omega)) (e1 _ (by omega) (by omega)) (e1 _ (by omega) (by omega)), e1 94 (by decide) (by decide)]; exact c3 i hi
  · rw [e1 54 (by decide) (by decide), e1 95 (by decide) (by decide), e1 96 (by decide) (by decide), lnd_ne (e1 _ (by omega) (by omega)) (e1 _ (by omega) (by omega)) (e1 _ (by omega) (by omega))]; exact hk s hs
set_option maxHeartbeats 4000000 in
set_option maxRecDepth 100000 in
theorem pr_fault {T : Nat} {I : Mem} {J : Lng}  (h : Sim T I J) : PrI yX9_fault cX9_fault 1 3 yX10_fault cX10_fault 1 4 [] T I J := by
  obtain ⟨⟨n, a1, a2, a3, a4⟩, ⟨N, m, hP, hPA, hq⟩, ⟨f, z, c1, c2, c3⟩, hk, hJ⟩ := id h
  have h7 := hP.2.1
  have hP2 := hq.wf hP
  exact PrI.ro h (RO9.e (c_X9_fault a1)) (fun I1 hI => by
    have h92 : I1 92 = I 92 := hI 92 (by decide)
    have hQ : PW (I1 92) N m := by rw [h92]; exact hP2
    have h89 : I1 89 = I 89 := hI 89 (by decide)
    have h90 : I1 90 = I 90 := hI 90 (by decide)
    have hT90 : TX (I1 90) n := fun k hk2 => by rw [h90, a4 k hk2]; exact a3 k hk2
    have hzz : zf (I1 90) n 0 = zff (I 2) n n 0 := by rw [zf_0, h90]; exact zff_congr n 0 (fun j _ q => a4 j (by omega))
    refine RO10.f ?_
    have hc := c_X10_fault (I := I1) (J := J) rfl hT90 (by rw [h89]; exact a2) a1.2
    rw [hzz] at hc
    exact hc)
set_option maxHeartbeats 4000000 in
set_option maxRecDepth 100000 in
theorem pr_land {T : Nat} {I : Mem} {J : Lng}  (h : Sim T I J) : PrI yX9_land cX9_land 2 3 yX10_land cX10_land 2 4 [] T I J := by
  obtain ⟨⟨n, a1, a2, a3, a4⟩, ⟨N, m, hP, hPA, hq⟩, ⟨f, z, c1, c2, c3⟩, hk, hJ⟩ := id h
  have h7 := hP.2.1
  have hP2 := hq.wf hP
  by_cases hz : zff (I 2) n n 0 = -9
  · obtain ⟨k, hk7, hn, hms⟩ := zff_k a1.2 hz
    subst hn
    have hT3 : TR I (3 + 4 * k) := by rw [show 3 + 4 * k = 4 * k + 3 by omega]; exact a1
    refine ⟨_, c_X9_land hT3 hk7 (by rw [show 3 + 4 * k = 4 * k + 3 by omega]; exact hz), fun r σ I1 J1 q => ?_⟩
    obtain ⟨rfl, rfl, rfl, rfl⟩ := q
    have hl : ∀ p, 89 ≤ p → zland I k p = I p := fun p hp => zland_o I k (by omega)
    have hT90 : TX (zland I k 90) (4 * k + 3) := fun j hj => by rw [hl 90 (by decide), a4 j hj]; exact a3 j hj
    have hzz : zf (zland I k 90) (4 * k + 3) 0 = -9 := by rw [zf_0, hl 90 (by decide), zff_congr (tx := I 2) (4 * k + 3) 0 (fun j _ q => a4 j (by omega))]; exact hz
    refine ⟨rfl, _, rfl, _, c_X10_land (I := zland I k) (n := 4 * k + 3) rfl hT90 (by rw [hl 89 (by decide)]; exact a2) (by omega) hzz, fun r' σ' I2 J2 q' => ?_⟩
    obtain ⟨g1, k', f', g2, g3, g4, g5, g6, g7, g8, g9⟩ := q'
    obtain rfl : k' = k := by omega
    subst g5
    refine ⟨g1, g4, ?_⟩
    have e1 : ∀ p ∈ simP, p < 89 → I2 p = zland I k' p := fun p hp q => by
      rw [g6.1 p (by omega) (fun hq => by
        rcases List.mem_cons.mp hq with e | e
        · omega
        · exact simP_msl p hp (by omega) e), upI_ne (by omega)]
    refine ⟨⟨4 * k' + 3, ?_, ?_, ?_, fun j hj => ?_⟩, ?_, ⟨0, 0, ?_, ?_, fun i hi => absurd hi (by omega)⟩, fun s hs => ?_, hJ⟩
    · unfold TR; rw [e1 1 (by decide) (by decide), zland_o I k' (by omega)]; exact a1
    · rw [g6.2 2 (by decide), upI_tf (by decide), hl 89 (by decide)]; exact a2
    · rw [e1 2 (by decide) (by decide), zland_o I k' (by omega)]; exact a3
    · rw [e1 2 (by decide) (by decide), zland_o I k' (by omega), g6.1 90 (by decide) (by decide), upI_ne (by decide), hl 90 (by decide)]; exact a4 j hj
    · rw [lnd_ne (e1 3 (by decide) (by decide)) (e1 4 (by decide) (by decide)) (e1 5 (by decide) (by decide)), zland_3 I hk7, g7, hl 90 (by decide)]
      exact land_rel (T + 1) hk7 a3 hms a4
    · unfold AR
      rw [e1 9 (by decide) (by decide)]
      unfold zland
      refine ⟨?_, ?_, by decide, by decide⟩
      · rw [upI_ne (by decide), upI_ne (by decide), upI_tf (by decide), upI_tt]; rfl
      · rw [upI_ne (by decide), upI_ne (by decide), upI_tt]; rfl
    · rw [g6.2 11 (by decide), upI_tt]; rfl
    · have h54 : ∀ s, s < 2 → I2 54 s = 0 := fun s hs => by
        rw [e1 54 (by decide) (by decide)]
        unfold zland
        rcases (show s = 0 ∨ s = 1 by omega) with rfl | rfl
        · rw [upI_tf (by decide), upI_tt]
        · rw [upI_tt]
      refine ⟨?_, fun q => absurd (h54 s hs) q⟩
      rw [h54 s hs]
      rcases (show s = 0 ∨ s = 1 by omega) with rfl | rfl
      · exact g8.symm
      · exact g9.symm
  · exact PrI.ro h (RO9.e (c_X9_land_f a1 hz)) (fun I1 hI => by
      have h92 : I1 92 = I 92 := hI 92 (by decide)
      have hQ : PW (I1 92) N m := by rw [h92]; exact hP2
      have h89 : I1 89 = I 89 := hI 89 (by decide)
      have h90 : I1 90 = I 90 := hI 90 (by decide)
      have hT90 : TX (I1 90) n := fun k hk2 => by rw [h90, a4 k hk2]; exact a3 k hk2
      have hzz : zf (I1 90) n 0 = zff (I 2) n n 0 := by rw [zf_0, h90]; exact zff_congr n 0 (fun j _ q => a4 j (by omega))
      refine RO10.f ?_
      have hc := c_X10_land_f (I := I1) (J := J) rfl hT90 (by rw [h89]; exact a2) a1.2 (by rw [hzz]; exact hz)
      exact hc)
