/-! the class's memory and the reference's say the same -/
def Sim (T : Nat) (I : Mem) (J : Lng) : Prop :=
  (∃ n, TR I n ∧ I 89 2 = nI n ∧ TX (I 2) n ∧ ∀ k, k < n → I 90 k = I 2 k) ∧
  PgR T (lnd I 3) (I 92) ∧
  (∃ f z, AR I f z ∧ I 89 11 = nI z ∧ ∀ i, i < z → PgR T (lnd I (11 + 3 * ((f + i) % 14))) (fun q => I 94 (22 * i + q))) ∧
  (∀ s, s < 2 → I 54 s = I 96 s ∧ (¬ I 54 s = 0 → PgR T (lnd I (83 + 3 * s)) (fun q => I 95 (22 * s + q)))) ∧
  J 0 = J 89
theorem PgR.b22 {T : Nat} {a b b' : Nat → Int32} (h : PgR T a b) (e : ∀ q, q < 22 → b' q = b q) : PgR T a b' := by
  obtain ⟨N, m, h1, h2, h3⟩ := h
  exact ⟨N, m, h1, h2, h3.tr (Peq.of22 h1.2.1 e)⟩
theorem PgR.mono {T T' : Nat} {a b : Nat → Int32} (h : PgR T a b) (hT : T ≤ T') : PgR T' a b := by
  obtain ⟨N, m, h1, h2, h3⟩ := h
  exact ⟨N, m, h1, fun p hp => (h2 p hp).imp fun g hg => ⟨by omega, hg.2⟩, h3⟩
theorem Sim.mono {T T' : Nat} {I : Mem} {J : Lng} (h : Sim T I J) (hT : T ≤ T') : Sim T' I J := by
  obtain ⟨h1, h2, ⟨f, z, h3, h4, h5⟩, h6, h7⟩ := h
  exact ⟨h1, h2.mono hT, ⟨f, z, h3, h4, fun i hi => (h5 i hi).mono hT⟩, fun s hs => ⟨(h6 s hs).1, fun q => ((h6 s hs).2 q).mono hT⟩, h7⟩
/-- the places that Sim looks at -/
def simP : List Nat := [1, 2, 3, 4, 5, 9, 11, 12, 13, 14, 15, 16, 17, 18, 19, 20, 21, 22, 23, 24, 25, 26, 27, 28, 29, 30, 31, 32, 33, 34, 35, 36, 37, 38, 39, 40, 41, 42, 43, 44, 45, 46, 47, 48, 49, 50, 51, 52, 54, 83, 84, 85, 86, 87, 88, 90, 92, 94, 95, 96]
theorem simP_act : ∀ j, j < 14 → 11 + 3 * j ∈ simP ∧ 11 + 3 * j + 1 ∈ simP ∧ 11 + 3 * j + 2 ∈ simP := by decide
theorem simP_kep : ∀ s, s < 2 → 83 + 3 * s ∈ simP ∧ 83 + 3 * s + 1 ∈ simP ∧ 83 + 3 * s + 2 ∈ simP := by decide
theorem Sim.cg {T : Nat} {I I1 : Mem} {J : Lng} (h : Sim T I J) (hp : ∀ p ∈ simP, I1 p = I p) (h2 : I1 89 2 = I 89 2) (h11 : I1 89 11 = I 89 11) : Sim T I1 J := by
  obtain ⟨⟨n, a1, a2, a3, a4⟩, b, ⟨f, z, c1, c2, c3⟩, d, e⟩ := h
  refine ⟨⟨n, ?_, by rw [h2]; exact a2, by rw [hp 2 (by decide)]; exact a3, fun k hk => by rw [hp 2 (by decide), hp 90 (by decide)]; exact a4 k hk⟩, ?_, ⟨f, z, ?_, by rw [h11]; exact c2, fun i hi => ?_⟩, fun s hs => ?_, e⟩
  · unfold TR; rw [hp 1 (by decide)]; exact a1
  · rw [lnd_ne (hp 3 (by decide)) (hp 4 (by decide)) (hp 5 (by decide)), hp 92 (by decide)]; exact b
  · exact c1.fr (hp 9 (by decide))
  · obtain ⟨q1, q2, q3⟩ := simP_act ((f + i) % 14) (Nat.mod_lt _ (by decide))
    rw [lnd_ne (hp _ q1) (hp _ q2) (hp _ q3), hp 94 (by decide)]; exact c3 i hi
  · obtain ⟨q1, q2, q3⟩ := simP_kep s hs
    rw [hp 54 (by decide), hp 96 (by decide), lnd_ne (hp _ q1) (hp _ q2) (hp _ q3), hp 95 (by decide)]; exact d s hs
theorem simP_scr : ∀ p ∈ simP, p ∉ scr := by decide
theorem simP_mss : ∀ p ∈ simP, p ≠ 89 ∧ p ∉ MSS := by decide
theorem Sim.fr {T : Nat} {I I1 : Mem} {J : Lng} (h : Sim T I J) (k : Fr scr I I1) : Sim T I1 J := h.cg (fun p hp => k p (simP_scr p hp)) (by rw [k 89 (by decide)]) (by rw [k 89 (by decide)])
theorem Sim.mr {T : Nat} {I I1 : Mem} {J : Lng} (h : Sim T I J) (k : Mr MSS I I1) : Sim T I1 J := h.cg (fun p hp => k.1 p (simP_mss p hp).1 (simP_mss p hp).2) (k.2 2 (by decide)) (k.2 11 (by decide))
theorem Sim.t0 {T : Nat} {I : Mem} {J : Lng} (h : Sim T I J) : Sim T (upI I 89 0 0) J := h.mr (Mr.rf.f (by decide))
/-! an act is written down -/
theorem zrem_9 (I : Mem) {f z : Nat} (h : AR I f z) : AR (zrem I f z) (rf f z) (rz z + 1) := by
  obtain ⟨h1, h2, h3, h4⟩ := h
  unfold zrem rf rz
  by_cases e : z = 14
  · rw [if_pos e, if_pos e, if_pos e]
    have hl : ((f + 1) % 14 + 13) % 14 < 14 := Nat.mod_lt _ (by decide)
    refine ⟨?_, upI_tt, Nat.mod_lt _ (by decide), by omega⟩
    rw [upI_tf (by decide), zcopy_o _ _ _ 9 (by omega) (by omega) (by omega), upI_tf (by decide), upI_tt]
  · rw [if_neg e, if_neg e, if_neg e]
    have hl : (f + z) % 14 < 14 := Nat.mod_lt _ (by decide)
    refine ⟨?_, upI_tt, h3, by omega⟩
    rw [upI_tf (by decide), zcopy_o _ _ _ 9 (by omega) (by omega) (by omega)]; exact h1
theorem zrem_new (I : Mem) (f z : Nat) : lnd (zrem I f z) (11 + 3 * ((rf f z + rz z) % 14)) = lnd I 3 := by
  have hl : (rf f z + rz z) % 14 < 14 := Nat.mod_lt _ (by decide)
  have hb : ∀ p, p ≠ 9 → (if z = 14 then upI (upI I 9 1 (nI ((f + 1) % 14))) 9 2 (nI 13) else I) p = I p := fun p hp => by
    split
    · rw [upI_ne hp, upI_ne hp]
    · rfl
  unfold zrem
  rw [lnd_ne (I' := upI _ 9 2 _) (upI_ne (by omega)) (upI_ne (by omega)) (upI_ne (by omega)), zcopy_l]
  exact lnd_ne (hb _ (by decide)) (hb _ (by decide)) (hb _ (by decide))
theorem zrem_old (I : Mem) {f z j : Nat} (hj : j < 14) (hne : j ≠ (rf f z + rz z) % 14) : lnd (zrem I f z) (11 + 3 * j) = lnd I (11 + 3 * j) := by
  have hl : (rf f z + rz z) % 14 < 14 := Nat.mod_lt _ (by decide)
  have hb : ∀ p, p ≠ 9 → (if z = 14 then upI (upI I 9 1 (nI ((f + 1) % 14))) 9 2 (nI 13) else I) p = I p := fun p hp => by
    split
    · rw [upI_ne hp, upI_ne hp]
    · rfl
  have hz : ∀ p, 11 + 3 * j ≤ p → p ≤ 13 + 3 * j → zrem I f z p = I p := fun p h1 h2 => by
    unfold zrem
    rw [upI_ne (by omega), zcopy_o _ _ _ p (by omega) (by omega) (by omega), hb p (by omega)]
  exact lnd_ne (hz _ (by omega) (by omega)) (hz _ (by omega) (by omega)) (hz _ (by omega) (by omega))
theorem znt_11 (I : Mem) (z : Nat) : znt I z 89 11 = nI (rz z + 1) := by unfold znt; exact upI_tt
theorem znt_f (I : Mem) (z : Nat) {k : Nat} (hk : k ≠ 11) : znt I z 89 k = I 89 k := by
  unfold znt
  rw [upI_tf hk, upR_ne (by decide)]
  split
  · rw [upI_tf hk, upR_ne (by decide)]
  · rfl
theorem znt_new (I : Mem) (z : Nat) {q : Nat} (hq : q < 22) : znt I z 94 (22 * rz z + q) = I 92 q := by
  unfold znt
  rw [upI_ne (by decide), upR_t, cpy_in hq, Nat.zero_add]
theorem znt_old (I : Mem) {z i q : Nat} (hz : z ≤ 14) (hi : i < rz z) (hq : q < 22) : znt I z 94 (22 * i + q) = I 94 (22 * (if z = 14 then i + 1 else i) + q) := by
  unfold znt
  rw [upI_ne (by decide), upR_t, cpy_lo (by omega)]
  by_cases e : z = 14
  · rw [if_pos e, if_pos e, upI_ne (by decide), upR_t]
    have hr : rz z = 13 := if_pos e
    have := cpy_in (dst := I 94) (src := I 94) (d := 0) (s := 22) (k := 286) (i := 22 * i + q) (by omega)
    rw [Nat.zero_add] at this
    rw [this, show 22 + (22 * i + q) = 22 * (i + 1) + q by omega]
  · rw [if_neg e, if_neg e]
theorem simP_scrL : ∀ p ∈ simP, p ≠ 3 → p ≠ 4 → p ≠ 5 → p ∉ scrL := by decide
theorem simP_msl : ∀ p ∈ simP, p ≠ 92 → p ∉ MSL := by decide
theorem Sim.act {T f z : Nat} {I I1 I2 : Mem} {J : Lng} {a' : Nat → Int32} (h : Sim T I J) (hA : AR I f z) (h1 : Fr scrL (zrem I f z) I1) (ha : lnd I1 3 = a') (h2 : Mr MSL (znt (upI I1 89 0 0) z) I2) (hR : PgR (T + 1) a' (I2 92)) : Sim (T + 1) I2 J := by
  obtain ⟨⟨n, a1, a2, a3, a4⟩, b, ⟨f0, z0, c1, c2, c3⟩, d, e⟩ := h
  have hf0 : f0 = f := nI_inj (by have := c1.2.2.1; omega) (by have := hA.2.2.1; omega) (c1.1.symm.trans hA.1)
  have hz0 : z0 = z := nI_inj (by have := c1.2.2.2; omega) (by have := hA.2.2.2; omega) (c1.2.1.symm.trans hA.2.1)
  subst hf0; subst hz0
  have hz14 := hA.2.2.2
  have hf14 := hA.2.2.1
  -- places of the class
  have k1 : ∀ p ∈ simP, p < 89 → I2 p = I1 p := fun p hp hl => by
    rw [h2.1 p (by omega) (simP_msl p hp (by omega)), znt_o _ _ (by omega) (by omega), upI_ne (by omega)]
  have k2 : ∀ p ∈ simP, p ≠ 3 → p ≠ 4 → p ≠ 5 → I1 p = zrem I f0 z0 p := fun p hp q1 q2 q3 => h1 p (simP_scrL p hp q1 q2 q3)
  have k3 : ∀ p ∈ simP, p ≠ 3 → p ≠ 4 → p ≠ 5 → p < 89 → I2 p = zrem I f0 z0 p := fun p hp q1 q2 q3 q4 => (k1 p hp q4).trans (k2 p hp q1 q2 q3)
  have k4 : ∀ p, p ≠ 89 → 89 ≤ p → I1 p = I p := fun p q1 q2 => by
    have : p ∉ scrL := fun hp => by
      have : ∀ x ∈ scrL, x < 89 := by decide
      have := this p hp
      omega
    rw [h1 p this, zrem_o I _ _ (by omega) (by omega)]
  have k89 : I1 89 = I 89 := by rw [h1 89 (by decide), zrem_o I _ _ (by decide) (by decide)]
  refine ⟨⟨n, ?_, ?_, ?_, fun k hk => ?_⟩, ?_, ⟨rf f0 z0, rz z0 + 1, ?_, ?_, fun i hi => ?_⟩, fun s hs => ?_, e⟩
  · unfold TR
    rw [k3 1 (by decide) (by decide) (by decide) (by decide) (by decide), zrem_o I _ _ (by decide) (by decide)]; exact a1
  · rw [h2.2 2 (by decide), znt_f _ _ (by decide), upI_tf (by decide), k89]; exact a2
  · rw [k3 2 (by decide) (by decide) (by decide) (by decide) (by decide), zrem_o I _ _ (by decide) (by decide)]; exact a3
  · rw [k3 2 (by decide) (by decide) (by decide) (by decide) (by decide), zrem_o I _ _ (by decide) (by decide), h2.1 90 (by decide) (by decide), znt_o _ _ (by decide) (by decide), upI_ne (by decide), k4 90 (by decide) (by decide)]; exact a4 k hk
  · rw [lnd_ne (k1 3 (by decide) (by decide)) (k1 4 (by decide) (by decide)) (k1 5 (by decide) (by decide)), ha]; exact hR
  · exact (zrem_9 I hA).fr (k3 9 (by decide) (by decide) (by decide) (by decide) (by decide))
  · rw [h2.2 11 (by decide), znt_11]
  · have hrf : rf f0 z0 < 14 := by unfold rf; split <;> first | exact Nat.mod_lt _ (by decide) | exact hf14
    have hrz : rz z0 ≤ 13 := by unfold rz; split <;> omega
    have hl : (rf f0 z0 + i) % 14 < 14 := Nat.mod_lt _ (by decide)
    obtain ⟨q1, q2, q3⟩ := simP_act _ hl
    rw [lnd_ne (k3 _ q1 (by omega) (by omega) (by omega) (by omega)) (k3 _ q2 (by omega) (by omega) (by omega) (by omega)) (k3 _ q3 (by omega) (by omega) (by omega) (by omega)), h2.1 94 (by decide) (by decide)]
    by_cases ei : i = rz z0
    · subst ei
      rw [zrem_new]
      refine (b.mono (Nat.le_succ T)).b22 (fun q hq => ?_)
      rw [znt_new _ _ hq, upI_ne (by decide), k4 92 (by decide) (by decide)]
    · have hne : (rf f0 z0 + i) % 14 ≠ (rf f0 z0 + rz z0) % 14 := by omega
      rw [zrem_old I hl hne]
      have hlt : i < rz z0 := by omega
      have := c3 (if z0 = 14 then i + 1 else i) (by unfold rz at hlt hi; split at hlt <;> split <;> omega)
      have e1 : (f0 + (if z0 = 14 then i + 1 else i)) % 14 = (rf f0 z0 + i) % 14 := by
        unfold rf
        split <;> omega
      rw [e1] at this
      refine (this.mono (Nat.le_succ T)).b22 (fun q hq => ?_)
      rw [znt_old _ hz14 hlt hq, upI_ne (by decide), k4 94 (by decide) (by decide)]
  · obtain ⟨q1, q2, q3⟩ := simP_kep s hs
    have hz : ∀ p ∈ simP, 53 ≤ p → p < 89 → I2 p = I p := fun p hp g1 g2 => by
      rw [k3 p hp (by omega) (by omega) (by omega) g2, zrem_o I _ _ (by omega) (by omega)]
    have h95 : I2 95 = I 95 := by rw [h2.1 95 (by decide) (by decide), znt_o _ _ (by decide) (by decide), upI_ne (by decide), k4 95 (by decide) (by decide)]
    have h96 : I2 96 = I 96 := by rw [h2.1 96 (by decide) (by decide), znt_o _ _ (by decide) (by decide), upI_ne (by decide), k4 96 (by decide) (by decide)]
    rw [hz 54 (by decide) (by decide) (by decide), h96, h95, lnd_ne (hz _ q1 (by omega) (by omega)) (hz _ q2 (by omega) (by omega)) (hz _ q3 (by omega) (by omega))]
    exact ⟨(d s hs).1, fun q => ((d s hs).2 q).mono (Nat.le_succ T)⟩
