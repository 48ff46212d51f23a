/-! sets of at most seven people as masks below 128 -/
def mclr (m c : Nat) : Nat := if m.testBit c then m - 2 ^ c else m
def mset (m c : Nat) : Nat := if m.testBit c then m else m + 2 ^ c
theorem mI_bit : ∀ m, m < 128 → ∀ c, c < 7 → zbit (nI m) (nI c) = m.testBit c := by decide +kernel
theorem mI_shl : ∀ c, c < 7 → (1 : Int32) <<< (nI c &&& 31) = nI (2 ^ c) := by decide +kernel
theorem mI_clr : ∀ m, m < 128 → ∀ c, c < 7 → nI m &&& ((1 <<< (nI c &&& 31)) ^^^ (-1)) = nI (mclr m c) := by decide +kernel
theorem mI_set : ∀ m, m < 128 → ∀ c, c < 7 → nI m ||| (1 <<< (nI c &&& 31)) = nI (mset m c) := by decide +kernel
theorem mclr_lt : ∀ m, m < 128 → ∀ c, c < 7 → mclr m c < 128 := by decide +kernel
theorem mset_lt : ∀ m, m < 128 → ∀ c, c < 7 → mset m c < 128 := by decide +kernel
theorem mclr_bit : ∀ m, m < 128 → ∀ c, c < 7 → ∀ j, j < 7 → (mclr m c).testBit j = (m.testBit j && !(j == c)) := by decide +kernel
theorem mset_bit : ∀ m, m < 128 → ∀ c, c < 7 → ∀ j, j < 7 → (mset m c).testBit j = (m.testBit j || j == c) := by decide +kernel
theorem m_hi {m : Nat} (hm : m < 128) {j : Nat} (hj : 7 ≤ j) : m.testBit j = false := Nat.testBit_lt_two_pow (Nat.lt_of_lt_of_le hm (by have := Nat.pow_le_pow_right (show 0 < 2 by decide) hj; omega))
theorem m_ext {m k : Nat} (hm : m < 128) (hk : k < 128) (h : ∀ j, j < 7 → m.testBit j = k.testBit j) : m = k := by
  apply Nat.eq_of_testBit_eq
  intro j
  by_cases hj : j < 7
  · exact h j hj
  · rw [m_hi hm (by omega), m_hi hk (by omega)]
theorem m_0 {m : Nat} (hm : m < 128) (h : ∀ j, j < 7 → m.testBit j = false) : m = 0 := m_ext hm (by decide) (fun j hj => by rw [h j hj, Nat.zero_testBit])
theorem nI_inj {a b : Nat} (ha : a < 2 ^ 31) (hb : b < 2 ^ 31) (h : nI a = nI b) : a = b := (nI_eq ha hb).mp h
theorem nI_ne9 {a : Nat} (ha : a < 2 ^ 31) : nI a ≠ -9 := by
  intro h
  have h1 : (nI a).toInt = (-9 : Int32).toInt := by rw [h]
  rw [nI_toInt ha] at h1
  have h2 : (-9 : Int32).toInt = -9 := by decide
  omega
/-- the children of q among the first k -/
def fkm (pr : Nat → Int32) (q : Int32) : Nat → Nat
  | 0 => 0
  | k + 1 => if pr k = q then fkm pr q k + 2 ^ k else fkm pr q k
theorem fkm_lt (pr : Nat → Int32) (q : Int32) : ∀ k, fkm pr q k < 2 ^ k
  | 0 => by simp [fkm]
  | k + 1 => by
    have := fkm_lt pr q k
    unfold fkm
    split <;> rw [Nat.pow_succ] <;> omega
theorem fkm_bit (pr : Nat → Int32) (q : Int32) : ∀ k j, (fkm pr q k).testBit j = (decide (j < k) && decide (pr j = q))
  | 0, j => by simp [fkm]
  | k + 1, j => by
    have ih := fkm_bit pr q k
    have hlt := fkm_lt pr q k
    unfold fkm
    by_cases hj : j < k
    · have h1 : j ≠ k := by omega
      split
      · rw [Nat.add_comm, Nat.testBit_two_pow_add_gt hj, ih j]; simp [hj, show j < k + 1 by omega]
      · rw [ih j]; simp [hj, show j < k + 1 by omega]
    · by_cases hk : j = k
      · subst hk
        split
        · rename_i h
          rw [Nat.add_comm, Nat.testBit_two_pow_add_eq, Nat.testBit_lt_two_pow hlt]; simp [h]
        · rename_i h
          rw [Nat.testBit_lt_two_pow hlt]; simp [h]
      · have h2 : k + 1 ≤ j := by omega
        have h3 : 2 ^ (k + 1) ≤ 2 ^ j := Nat.pow_le_pow_right (by decide) h2
        have h4 : 2 ^ (k + 1) = 2 * 2 ^ k := by rw [Nat.pow_succ, Nat.mul_comm]
        split
        · rw [Nat.testBit_lt_two_pow (by omega)]; simp [show ¬ j < k + 1 by omega]
        · rw [Nat.testBit_lt_two_pow (by omega)]; simp [show ¬ j < k + 1 by omega]
theorem zkids_eq {I : Mem} {t : Nat} {p : Int32} : ∀ k, k ≤ 7 → zkids I t p k = nI (fkm (I (t + 1)) p k)
  | 0, _ => rfl
  | k + 1, hk => by
    have ih := zkids_eq (I := I) (t := t) (p := p) k (by omega)
    unfold zkids fkm
    split
    · rw [ih, mI_shl k (by omega)]
      have h := fa_or_sum (a := 2 ^ k) (k := k + 1) 0 (by rw [Nat.pow_succ]; have := Nat.two_pow_pos k; omega)
      have h2 := fa_or_sum (a := fkm (I (t + 1)) p k) (k := k) 1 (fkm_lt _ _ _)
      rw [Nat.mul_one] at h2
      rw [show nI (fkm (I (t + 1)) p k) ||| nI (2 ^ k) = nI (2 ^ k) ||| nI (fkm (I (t + 1)) p k) from Int32.or_comm _ _, h2, Nat.add_comm]
    · exact ih
/-- who goes ahead -/
def fah (w : Nat → Bool) (ag : Nat → Int32) (tie : Int32) (k j : Nat) : Bool :=
  if tie = 2 ∧ w k ≠ w j then w k
  else if tie = 3 then !(decide (ag j < ag k) || (decide (ag k = ag j) && decide (k < j)))
  else (decide (ag j < ag k) || (decide (ag k = ag j) && decide (k < j)))
/-- the first of a set, out of those below k -/
def fpick (ah : Nat → Nat → Bool) (m : Nat) : Nat → Option Nat
  | 0 => none
  | k + 1 => match fpick ah m k with
    | none => if m.testBit k then some k else none
    | some f => if m.testBit k && ah k f then some k else some f
theorem fpick_in {ah : Nat → Nat → Bool} {m : Nat} : ∀ {k c : Nat}, fpick ah m k = some c → c < k ∧ m.testBit c = true
  | 0, c, h => by simp [fpick] at h
  | k + 1, c, h => by
    have ih := @fpick_in ah m k
    unfold fpick at h
    cases hf : fpick ah m k with
    | none =>
      rw [hf] at h
      by_cases hb : m.testBit k
      · simp [hb] at h; subst h; exact ⟨by omega, hb⟩
      · simp [hb] at h
    | some f =>
      rw [hf] at h
      obtain ⟨h1, h2⟩ := ih hf
      by_cases hb : m.testBit k && ah k f
      · simp only [hb, if_true] at h; cases h
        simp only [Bool.and_eq_true] at hb
        exact ⟨by omega, hb.1⟩
      · simp only [hb] at h; cases h; exact ⟨by omega, h2⟩
theorem fpick_none {ah : Nat → Nat → Bool} {m : Nat} : ∀ {k : Nat}, fpick ah m k = none ↔ ∀ j, j < k → m.testBit j = false
  | 0 => by simp [fpick]
  | k + 1 => by
    have ih := @fpick_none ah m k
    unfold fpick
    cases hf : fpick ah m k with
    | none =>
      have h1 := ih.mp hf
      by_cases hb : m.testBit k
      · simp only [hb, if_true]
        exact ⟨fun h => (by cases h), fun h => by rw [h k (by omega)] at hb; cases hb⟩
      · simp only [hb]
        refine ⟨fun _ j hj => ?_, fun _ => rfl⟩
        rcases Nat.lt_or_ge j k with h | h
        · exact h1 j h
        · rw [show j = k by omega]; simpa using hb
    | some f =>
      obtain ⟨h1, h2⟩ := fpick_in hf
      refine ⟨fun h => ?_, fun h => ?_⟩
      · dsimp only at h
        by_cases hb : (m.testBit k && ah k f) = true
        · rw [if_pos hb] at h; cases h
        · rw [if_neg hb] at h; cases h
      · rw [h f (by omega)] at h2; cases h2
/-- the set in order -/
def ford (ah : Nat → Nat → Bool) : Nat → Nat → List Nat
  | 0, _ => []
  | f + 1, m => match fpick ah m 7 with
    | none => []
    | some c => c :: ford ah f (mclr m c)
/-- the lines below, each once: what was listed, and who was seen -/
def fdl (kids : Nat → Nat) (no : Nat → Bool) (ah : Nat → Nat → Bool) : Nat → (List Nat × Nat) → Nat → (List Nat × Nat)
  | 0, s, _ => s
  | f + 1, s, p => if s.2.testBit p || no p then s else (ford ah 7 (kids p)).foldl (fdl kids no ah f) (s.1 ++ [p], mset s.2 p)
/-- what a kin holds: a row of people, and who was seen -/
def kput (I : Mem) (q : Nat) (l : List Nat) (s : Nat) : Mem := fun p i => if p = q then (if i = 1 then nI l.length else if i = 2 then nI s else I p i) else if p = q + 1 then (if i < l.length then nI (l.getD i 0) else I p i) else I p i
theorem kput_ne {I : Mem} {q : Nat} {l : List Nat} {s p : Nat} (h1 : p ≠ q) (h2 : p ≠ q + 1) : kput I q l s p = I p := by
  funext i; simp [kput, h1, h2]
theorem kput_1 (I : Mem) (q : Nat) (l : List Nat) (s : Nat) : kput I q l s q 1 = nI l.length := by simp [kput]
theorem kput_2 (I : Mem) (q : Nat) (l : List Nat) (s : Nat) : kput I q l s q 2 = nI s := by simp [kput]
theorem kput_row (I : Mem) (q : Nat) (l : List Nat) (s : Nat) {i : Nat} (h : i < l.length) : kput I q l s (q + 1) i = nI (l.getD i 0) := by simp [kput, h]
theorem kput_add (I : Mem) (q : Nat) (l : List Nat) (s s' x : Nat) : upI (upI (upI (kput I q l s) q 2 (nI s')) (q + 1) l.length (nI x)) q 1 (nI (l.length + 1)) = kput I q (l ++ [x]) s' := by
  funext p i
  by_cases hq : p = q
  · subst hq
    by_cases h1 : i = 1
    · subst h1; simp [upI, kput]
    · by_cases h2 : i = 2
      · subst h2; simp [upI, kput]
      · simp [upI, kput, h1, h2]
  · by_cases hq1 : p = q + 1
    · subst hq1
      by_cases hi : i = l.length
      · subst hi; simp [upI, kput, List.getD]
      · by_cases hl : i < l.length
        · simp [upI, kput, hi, hl, List.getD, List.getElem?_append_left hl, show i < l.length + 1 by omega]
        · simp [upI, kput, hi, hl, show ¬ i < l.length + 1 by omega]
    · simp [upI, kput, hq, hq1]
theorem kput_seen (I : Mem) (q : Nat) (l : List Nat) (s s' : Nat) : upI (kput I q l s) q 2 (nI s') = kput I q l s' := by
  funext p i
  by_cases hq : p = q
  · subst hq
    by_cases h2 : i = 2
    · subst h2; simp [upI, kput]
    · simp [upI, kput, h2]
  · simp [upI, kput, hq]
theorem kput_kput (I : Mem) (q : Nat) (l l2 : List Nat) (s s2 : Nat) (h : l.length ≤ l2.length) : kput (kput I q l s) q l2 s2 = kput I q l2 s2 := by
  funext p i
  by_cases hq : p = q
  · subst hq
    by_cases h1 : i = 1
    · simp [kput, h1]
    · by_cases h2 : i = 2
      · simp [kput, h2]
      · simp [kput, h1, h2]
  · by_cases hq1 : p = q + 1
    · subst hq1
      by_cases hi : i < l2.length
      · simp [kput, hi]
      · simp [kput, hi, show ¬ i < l.length by omega]
    · simp [kput, hq, hq1]
theorem q_apart {t q : Nat} (ht : t ∈ q_lands) (hq : q ∈ q_kins) : t ≠ q ∧ t ≠ q + 1 ∧ t + 1 ≠ q ∧ t + 1 ≠ q + 1 ∧ t + 2 ≠ q ∧ t + 2 ≠ q + 1 := by
  have : ∀ t ∈ q_lands, ∀ q ∈ q_kins, t ≠ q ∧ t ≠ q + 1 ∧ t + 1 ≠ q ∧ t + 1 ≠ q + 1 ∧ t + 2 ≠ q ∧ t + 2 ≠ q + 1 := by decide
  exact this t ht q hq
