/-! acts keep a page a land -/
theorem pdie_hi {a : Nat → Int32} {n m j k : Nat} (h : 5 ≤ k) : pdie a n m j k = a k := by
  unfold pdie
  split
  · rw [upd_n (by omega), upd_n (by omega), upd_n (by omega)]
  · rw [upd_n (by omega)]
theorem PA.die {T : Nat} {a : Nat → Int32} {n m j : Nat} (h : PA T a n) : PA T (pdie a n m j) n := fun p hp => by
  rw [pdie_hi (by omega)]; exact h p hp
theorem PA.up {T : Nat} {a : Nat → Int32} {n k : Nat} {v : Int32} (h : PA T a n) (hk : k < 15) : PA T (upd a k v) n := fun p hp => by
  rw [upd_n (by omega)]; exact h p hp
theorem PA.mono {T T' : Nat} {a : Nat → Int32} {n : Nat} (h : PA T a n) (hT : T ≤ T') : PA T' a n := fun p hp => (h p hp).imp fun g hg => ⟨by omega, hg.2⟩
theorem pgain_lo {a : Nat → Int32} {n k : Nat} {par age : Int32} {b : Bool} (h0 : k ≠ 0) (hk : k < 6) : pgain a n par b age k = a k := by
  unfold pgain
  rw [upd_n (by omega), upd_n (by omega), upd_n (by omega), upd_n (by omega), upd_n (by omega)]
theorem pgain_0 {a : Nat → Int32} {n : Nat} {par age : Int32} {b : Bool} : pgain a n par b age 0 = a 0 ||| (1 <<< (nI n &&& 31)) := by
  unfold pgain
  rw [upd_n (by decide), upd_n (by decide), upd_s]
theorem pgain_6 {a : Nat → Int32} {n : Nat} {par age : Int32} {b : Bool} : pgain a n par b age 6 = nI (n + 1) := by unfold pgain; rw [upd_s]
theorem pgain_14 {a : Nat → Int32} {n : Nat} {par age : Int32} {b : Bool} : pgain a n par b age 14 = cond b (a 14 ||| (1 <<< (nI n &&& 31))) (a 14) := by unfold pgain; rw [upd_n (by decide), upd_s]
theorem pgain_p {a : Nat → Int32} {n p : Nat} {par age : Int32} {b : Bool} (hn : n < 7) (hp : p ≤ n) : pgain a n par b age (7 + p) = if p = n then par else a (7 + p) := by
  unfold pgain
  rw [upd_n (by omega), upd_n (by omega), upd_n (by omega), upd_n (by omega)]
  split
  · rename_i e; rw [e, upd_s]
  · rw [upd_n (by omega)]
theorem pgain_a {a : Nat → Int32} {n p : Nat} {par age : Int32} {b : Bool} (hn : n < 7) (hp : p ≤ n) : pgain a n par b age (15 + p) = if p = n then age else a (15 + p) := by
  unfold pgain
  rw [upd_n (by omega), upd_n (by omega), upd_n (by omega)]
  split
  · rename_i e; rw [e, upd_s]
  · rw [upd_n (by omega), upd_n (by omega)]
theorem mset_top {m n : Nat} (hm : m < 2 ^ n) : mset m n = m + 2 ^ n := by
  unfold mset
  rw [Nat.testBit_lt_two_pow hm, if_neg (by decide)]
theorem mset_p2 {m n : Nat} (hm : m < 2 ^ n) : mset m n < 2 ^ (n + 1) := by
  rw [mset_top hm, Nat.pow_succ]; omega
theorem PW.gain {a : Nat → Int32} {n m : Nat} {par age : Int32} {b : Bool} (h : PW a n m) (hn : n < 7) (hp : par = -9 ∨ ∃ j, j < n ∧ par = nI j) : PW (pgain a n par b age) (n + 1) (mset m n) := by
  obtain ⟨h1, h2, h3, h4, h5, h6, h7, h8, h9, w, hw, h10⟩ := h
  have hm := p2_128 h2 h4
  have hw7 := p2_128 h2 hw
  refine ⟨pgain_6, by omega, ?_, mset_p2 h4, fun k hk => ?_, ?_, ?_, ?_, ?_, cond b (mset w n) w, ?_, ?_⟩
  · rw [pgain_0, h3, mI_set m hm n hn]
  · dsimp only
    rw [pgain_p hn (by omega)]
    split
    · rename_i e
      subst e
      exact hp
    · exact h5 k (by omega)
  · rw [pgain_lo (by decide) (by decide)]
    rcases h6 with e | ⟨x, hx, hb, e⟩
    · exact Or.inl e
    · exact Or.inr ⟨x, by omega, by rw [mset_bit m hm n hn x (by omega), hb]; rfl, e⟩
  · rw [pgain_lo (by decide) (by decide)]; exact h7
  · rw [pgain_lo (by decide) (by decide)]; exact h8
  · rw [pgain_lo (by decide) (by decide)]; exact h9
  · cases b with
    | true => exact mset_p2 hw
    | false => exact Nat.lt_of_lt_of_le hw (Nat.pow_le_pow_right (by decide) (by omega))
  · rw [pgain_14, h10]
    cases b with
    | true => exact mI_set w hw7 n hn
    | false => rfl
theorem PA.gain {T : Nat} {a : Nat → Int32} {n g : Nat} {par age : Int32} {b : Bool} (h : PA T a n) (hn : n < 7) (hg : g ≤ 9 + T) (e : age = nI g) : PA T (pgain a n par b age) (n + 1) := fun p hp => by
  rw [pgain_a hn (by omega)]
  split
  · exact ⟨g, hg, e⟩
  · exact h p (by omega)
theorem Peq.gain {a b : Nat → Int32} {N : Nat} {par age : Int32} {w : Bool} (h : Peq N a b) (hn : N < 7) : Peq (N + 1) (pgain a N par w age) (pgain b N par w age) := by
  obtain ⟨e, e14, ep⟩ := h
  refine ⟨fun k hk => ?_, ?_, fun p hp => ?_⟩
  · rcases (show k = 0 ∨ k = 6 ∨ (k ≠ 0 ∧ k < 6) by omega) with rfl | rfl | ⟨h0, h6⟩
    · rw [pgain_0, pgain_0, e 0 (by decide)]
    · rw [pgain_6, pgain_6]
    · rw [pgain_lo h0 h6, pgain_lo h0 h6, e k hk]
  · rw [pgain_14, pgain_14, e14]
  · rw [pgain_p hn (by omega), pgain_p hn (by omega), pgain_a hn (by omega), pgain_a hn (by omega)]
    split
    · exact ⟨rfl, rfl⟩
    · exact ep p (by omega)
theorem pold_out {a : Nat → Int32} {n k : Nat} (h : k < 15 ∨ 15 + n ≤ k) : pold a n k = a k := by unfold pold; rw [if_neg (by omega)]
theorem pold_in {a : Nat → Int32} {n p : Nat} (h : p < n) : pold a n (15 + p) = a (15 + p) + 1 := by unfold pold; rw [if_pos (by omega)]
theorem gr_t : ∀ t, t < 10 → ∃ u, u < 10 ∧ (if nI t + 1 < 9 then nI t + 1 else 9) = nI u := by decide
theorem PW.grow {a : Nat → Int32} {n m : Nat} (h : PW a n m) : PW (pgrow a n) n m := by
  obtain ⟨h1, h2, h3, h4, h5, h6, h7, ⟨t, ht, h8⟩, h9, h10⟩ := h
  have o : ∀ k, k < 15 → k ≠ 3 → k ≠ 5 → pgrow a n k = a k := fun k hk q1 q2 => by
    unfold pgrow
    rw [upd_n q2, upd_n q1, pold_out (Or.inl hk)]
  refine ⟨by rw [o 6 (by decide) (by decide) (by decide)]; exact h1, h2, by rw [o 0 (by decide) (by decide) (by decide)]; exact h3, h4, fun k hk => ?_, by rw [o 1 (by decide) (by decide) (by decide)]; exact h6, by rw [o 2 (by decide) (by decide) (by decide)]; exact h7, ?_, by rw [o 4 (by decide) (by decide) (by decide)]; exact h9, by rw [o 14 (by decide) (by decide) (by decide)]; exact h10⟩
  · dsimp only
    rw [o (7 + k) (by omega) (by omega) (by omega)]; exact h5 k hk
  · unfold pgrow
    rw [upd_n (by decide), upd_s, h8]
    exact gr_t t ht
theorem PA.grow {T : Nat} {a : Nat → Int32} {n : Nat} (h : PA T a n) : PA (T + 1) (pgrow a n) n := fun p hp => by
  obtain ⟨g, hg, e⟩ := h p hp
  unfold pgrow
  rw [upd_n (by omega), upd_n (by omega), pold_in hp, e, nI_1]
  exact ⟨g + 1, by omega, rfl⟩
theorem Peq.grow {a b : Nat → Int32} {N : Nat} (h : Peq N a b) : Peq N (pgrow a N) (pgrow b N) := by
  have hp : Peq N (pold a N) (pold b N) := ⟨fun k hk => by rw [pold_out (Or.inl (by omega)), pold_out (Or.inl (by omega)), h.1 k hk], by rw [pold_out (Or.inl (by decide)), pold_out (Or.inl (by decide)), h.2.1], fun p hp => by
    refine ⟨?_, by rw [pold_in hp, pold_in hp, (h.2.2 p hp).2]⟩
    rcases Nat.lt_or_ge (7 + p) 15 with q | q
    · rw [pold_out (Or.inl q), pold_out (Or.inl q), (h.2.2 p hp).1]
    · obtain ⟨r, hr⟩ : ∃ r, 7 + p = 15 + r := ⟨7 + p - 15, by omega⟩
      rw [hr]
      rcases Nat.lt_or_ge r N with q2 | q2
      · rw [pold_in q2, pold_in q2, ← hr, (h.2.2 p hp).1]
      · rw [pold_out (Or.inr (by omega)), pold_out (Or.inr (by omega)), ← hr, (h.2.2 p hp).1]⟩
  unfold pgrow
  rw [h.1 3 (by decide), h.1 5 (by decide)]
  exact (hp.up (by decide)).up (by decide)
theorem PW.timber {a : Nat → Int32} {n m t : Nat} (h : PW a n m) (ht : t < 10) : PW (upd a 3 (nI t)) n m := by
  obtain ⟨h1, h2, h3, h4, h5, h6, h7, h8, h9, h10⟩ := h
  refine ⟨h1, h2, h3, h4, fun k hk => ?_, h6, h7, ⟨t, ht, rfl⟩, h9, h10⟩
  dsimp only
  rw [upd_n (by omega)]; exact h5 k hk
theorem PW.loans {a : Nat → Int32} {n m t : Nat} (h : PW a n m) (ht : t < 10) : PW (upd a 4 (nI t)) n m := by
  obtain ⟨h1, h2, h3, h4, h5, h6, h7, h8, h9, h10⟩ := h
  refine ⟨h1, h2, h3, h4, fun k hk => ?_, h6, h7, h8, ⟨t, ht, rfl⟩, h10⟩
  dsimp only
  rw [upd_n (by omega)]; exact h5 k hk
theorem PW.holder0 {a : Nat → Int32} {n m : Nat} (h : PW a n m) (hn : 0 < n) (hb : m.testBit 0 = true) : PW (upd a 1 0) n m := by
  obtain ⟨h1, h2, h3, h4, h5, h6, h7, h8, h9, h10⟩ := h
  refine ⟨h1, h2, h3, h4, fun k hk => ?_, Or.inr ⟨0, hn, hb, rfl⟩, h7, h8, h9, h10⟩
  dsimp only
  rw [upd_n (by omega)]; exact h5 k hk
/-! answers depend on the land alone -/
theorem vAbout_peq {a b : Nat → Int32} {N : Nat} {z l w : Int32} (h : Peq N a b) : vAbout b z l w = vAbout a z l w := by
  have e := h.1
  unfold vAbout
  split <;> first | rfl | exact e _ (by decide)
theorem vPerson_peq {a b : Nat → Int32} {N m j : Nat} {w : Int32} (h : Peq N a b) (hj : j < N) : vPerson b N m j w = vPerson a N m j w := by
  have e := h.2.2 j hj
  unfold vPerson
  split
  · rfl
  · exact e.1
  · unfold pw; rw [h.2.1]
  · exact e.2
  · rfl
  · rw [fkm_congr (fun k hk => (h.2.2 k hk).1)]
theorem ohl_peq {a b : Nat → Int32} {N m : Nat} (h : Peq N a b) (hP : PW a N m) : ohl b N = ohl a N := by
  funext j
  unfold ohl
  split
  · rename_i hj
    rw [h.1 2 (by decide), h.he hP hj]
  · rfl
theorem zln_mlu {s : Nat} (hs : s < 2000) : ∀ r k a b, k + r ≤ 5 → zln (nI s) r k (nI a) (nI b) = (nI (mlu s r k a), nI (b * 10 ^ r))
  | 0, k, a, b, _ => by rw [Nat.pow_zero, Nat.mul_one]; rfl
  | r + 1, k, a, b, hk => by
    unfold zln mlu
    have e : (10 - (if nI s + nI k < 10 then nI s + nI k else 10) : Int32) = nI (10 - (s + k)) := by
      rw [nI_add]
      rcases Nat.lt_or_ge (s + k) 10 with q | q
      · rw [if_pos (show nI (s + k) < 10 from nI_lt (b := 10) q (by decide)), t_sub (by omega)]
      · rw [if_neg (show ¬ nI (s + k) < 10 from nI_nlt (a := s + k) (b := 10) q (by omega)), show 10 - (s + k) = 0 by omega]; rfl
    rw [e, pk_mul, show nI b * 10 = nI (b * 10) from pk_mul b 10, zln_mlu hs r (k + 1) _ _ (by omega), Nat.pow_succ, Nat.mul_assoc, Nat.mul_comm 10]
/-! ever -/
theorem fold_bit {i : Nat} (hi : i < 7) : ∀ (L : List Nat) (S : Nat), S < 128 → (∀ x ∈ L, x < 7) → (L.foldl mset S) < 128 ∧ (L.foldl mset S).testBit i = (S.testBit i || decide (i ∈ L))
  | [], S, hS, _ => ⟨hS, by simp⟩
  | x :: L, S, hS, hL => by
    have hx := hL x List.mem_cons_self
    obtain ⟨h1, h2⟩ := fold_bit hi L (mset S x) (mset_lt S hS x hx) (fun y hy => hL y (List.mem_cons_of_mem _ hy))
    refine ⟨h1, ?_⟩
    rw [List.foldl_cons, h2, mset_bit S hS x hx i hi]
    by_cases e : i = x
    · subst e; simp
    · rw [beq_eq_false_iff_ne.mpr e]; simp [e]
theorem evs_bit {L : List Nat} (hL : ∀ x ∈ L, x < 7) {i : Nat} (hi : i < 7) : ∀ (r q S : Nat), pop q ≤ r → q < 128 → S < 128 → evs L r q S < 128 ∧ (evs L r q S).testBit i = (S.testBit i || (decide (i ∈ L) && q.testBit i))
  | 0, q, S, hp, hq, hS => by
    refine ⟨hS, ?_⟩
    have : q.testBit i = false := by
      cases hb : q.testBit i with
      | false => rfl
      | true => exact absurd (show pop q = 0 by omega) (pop_0 q hq i hi hb)
    show S.testBit i = _
    rw [this]; simp
  | r + 1, q, S, hp, hq, hS => by
    unfold evs
    cases hf : L.find? (fun x => q.testBit x) with
    | none =>
      refine ⟨hS, ?_⟩
      rw [List.find?_eq_none] at hf
      by_cases e : i ∈ L
      · have := hf i e
        have h0 : q.testBit i = false := by simpa using this
        rw [h0]; simp
      · simp [e]
    | some x =>
      have hx := hL x (List.mem_of_find?_eq_some hf)
      have hxL := List.mem_of_find?_eq_some hf
      have hb : q.testBit x = true := by have := List.find?_some hf; exact this
      have hpc := pop_clr q hq x hx hb
      obtain ⟨h1, h2⟩ := evs_bit hL hi r (mclr q x) (mset S x) (by omega) (mclr_lt q hq x hx) (mset_lt S hS x hx)
      refine ⟨h1, ?_⟩
      dsimp only
      rw [h2, mset_bit S hS x hx i hi, mclr_bit q hq x hx i hi]
      by_cases e : i = x
      · subst e; simp [hxL, hb]
      · rw [beq_eq_false_iff_ne.mpr e]; simp
theorem ever_eq {L : List Nat} (hL : ∀ x ∈ L, x < 7) {m h : Nat} (hm : m < 128) (hh : h < 7) : evs L 7 (mclr m h) (2 ^ h) = 2 ^ h ||| (L.foldl mset 0 &&& m) := by
  have h2 : ∀ h, h < 7 → 2 ^ h < 128 := by decide
  have hq := mclr_lt m hm h hh
  refine bit_ext (evs_bit hL (i := 0) (by decide) 7 _ _ (pop_7 _) hq (h2 h hh)).1 (Nat.or_lt_two_pow (n := 7) (h2 h hh) (Nat.lt_of_le_of_lt Nat.and_le_right hm)) (fun i hi => ?_)
  rw [(evs_bit hL hi 7 _ _ (pop_7 _) hq (h2 h hh)).2, Nat.testBit_or, Nat.testBit_and, (fold_bit hi L 0 (by decide) hL).2, mclr_bit m hm h hh i hi, Nat.testBit_two_pow, Nat.zero_testBit]
  by_cases e : h = i
  · subst e; simp
  · have e2 : (i == h) = false := by simp; exact fun q => e q.symm
    rw [e2]; simp
theorem phe_7 {a : Nat → Int32} {N m j : Nat} {tie : Int32} (hP : PW a N m) (hj : j < N) : ∀ x ∈ (phe a N tie j).1, x < 7 := by
  have := (she_lt (w := pw a) (ag := fun p => a (15 + p)) (tie := tie) hP.2.1 hP.2.2.2.2.1 hj)
  intro x hx
  have h7 := hP.2.1
  have := (this.2.2 x hx).1
  omega
