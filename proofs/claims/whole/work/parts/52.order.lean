/-! the order among children as a key -/
def kyo (ag : Nat → Int32) (a : Nat) : Int := (a : Int) - 8 * (ag a).toInt
def ky (w : Nat → Bool) (ag : Nat → Int32) (tie : Int32) (a : Nat) : Int := if tie = 3 then - kyo ag a else if tie = 2 then kyo ag a + (if w a = true then 0 else 1099511627776) else kyo ag a
theorem ky_ne {w : Nat → Bool} {ag : Nat → Int32} {tie : Int32} {a b : Nat} (ha : a < 7) (hb : b < 7) (h : a ≠ b) : ky w ag tie a ≠ ky w ag tie b := by
  unfold ky kyo
  split
  · omega
  · split
    · split <;> split <;> omega
    · omega
theorem mold_k {ag : Nat → Int32} {a b : Nat} (ha : a < 7) (hb : b < 7) : (decide (ag b < ag a) || (decide (ag a = ag b) && decide (a < b))) = decide (kyo ag a < kyo ag b) := by
  unfold kyo
  rw [Bool.eq_iff_iff]
  simp only [Bool.or_eq_true, Bool.and_eq_true, decide_eq_true_eq, ti_lt, ti_eq]
  omega
theorem fah_k {w : Nat → Bool} {ag : Nat → Int32} {tie : Int32} {a b : Nat} (ha : a < 7) (hb : b < 7) (h : a ≠ b) : fah w ag tie a b = decide (ky w ag tie a < ky w ag tie b) := by
  unfold fah
  rw [mold_k ha hb]
  have b1 := Int32.toInt_lt (ag a)
  have b2 := Int32.le_toInt (ag a)
  have b3 := Int32.toInt_lt (ag b)
  have b4 := Int32.le_toInt (ag b)
  have hk : kyo ag a ≠ kyo ag b := by unfold kyo; omega
  have k1 : kyo ag a < 2 ^ 35 ∧ - 2 ^ 35 < kyo ag a := by unfold kyo; omega
  have k2 : kyo ag b < 2 ^ 35 ∧ - 2 ^ 35 < kyo ag b := by unfold kyo; omega
  unfold ky
  by_cases h2 : tie = 2
  · have h3 : ¬ tie = 3 := by rw [h2]; decide
    rw [if_neg h3, if_neg h3, if_pos h2, if_neg h3, if_pos h2]
    cases hwa : w a <;> cases hwb : w b
    · rw [if_neg (fun q => q.2 rfl)]; simp
    · rw [if_pos ⟨h2, by decide⟩]; simp; omega
    · rw [if_pos ⟨h2, by decide⟩]; simp; omega
    · rw [if_neg (fun q => q.2 rfl)]; simp
  · rw [if_neg (fun q => h2 q.1)]
    by_cases h3 : tie = 3
    · rw [if_pos h3, if_pos h3, if_pos h3, Bool.eq_iff_iff]
      simp only [Bool.not_eq_true', decide_eq_false_iff_not, decide_eq_true_eq]
      omega
    · rw [if_neg h3, if_neg h3, if_neg h2, if_neg h3, if_neg h2]
/-- what a choice out of a set lists -/
def fsel (pk : Nat → Option Nat) : Nat → Nat → List Nat
  | 0, _ => []
  | f + 1, m => match pk m with
    | none => []
    | some c => c :: fsel pk f (mclr m c)
theorem ford_sel (ah : Nat → Nat → Bool) : ∀ f m, ford ah f m = fsel (fun m => fpick ah m 7) f m
  | 0, _ => rfl
  | f + 1, m => by
    unfold ford fsel
    cases fpick ah m 7 with
    | none => rfl
    | some c => dsimp only; rw [ford_sel ah f]
/-- the last of a set, out of those below k -/
def flast (ah : Nat → Nat → Bool) (m : Nat) : Nat → Option Nat
  | 0 => none
  | k + 1 => match flast ah m k with
    | none => if m.testBit k then some k else none
    | some f => if m.testBit k && ah f k then some k else some f
theorem flast_in {ah : Nat → Nat → Bool} {m : Nat} : ∀ {k c : Nat}, flast ah m k = some c → c < k ∧ m.testBit c = true
  | 0, c, h => by simp [flast] at h
  | k + 1, c, h => by
    have ih := @flast_in ah m k
    unfold flast at h
    cases hf : flast ah m k with
    | none =>
      rw [hf] at h; dsimp only at h
      split at h
      · rename_i hb; cases h; exact ⟨by omega, hb⟩
      · cases h
    | some f =>
      obtain ⟨h1, h2⟩ := ih hf
      rw [hf] at h; dsimp only at h
      split at h
      · rename_i hb; cases h; simp only [Bool.and_eq_true] at hb; exact ⟨by omega, hb.1⟩
      · cases h; exact ⟨by omega, h2⟩
theorem flast_none {ah : Nat → Nat → Bool} {m : Nat} : ∀ {k : Nat}, flast ah m k = none → ∀ j, j < k → m.testBit j = false
  | 0, _, j, hj => by omega
  | k + 1, h, j, hj => by
    have ih := @flast_none ah m k
    unfold flast at h
    cases hf : flast ah m k with
    | none =>
      rw [hf] at h; dsimp only at h
      split at h
      · cases h
      · rename_i hb
        rcases Nat.lt_or_ge j k with q | q
        · exact ih hf j q
        · obtain rfl : j = k := by omega
          simpa using hb
    | some f =>
      rw [hf] at h; dsimp only at h
      split at h <;> cases h
section
variable {ah : Nat → Nat → Bool} {key : Nat → Int} {m : Nat}
theorem fpick_k (hk : ∀ a b, a < 7 → b < 7 → a ≠ b → ah a b = decide (key a < key b) ∧ key a ≠ key b) : ∀ {k c : Nat}, k ≤ 7 → fpick ah m k = some c → ∀ x, x < k → m.testBit x = true → x ≠ c → key c < key x
  | 0, c, _, h, x, hx, _, _ => by omega
  | k + 1, c, h7, h, x, hx, hb, hne => by
    have ih := @fpick_k hk k
    unfold fpick at h
    cases hf : fpick ah m k with
    | none =>
      have := fpick_none.mp hf
      rw [hf] at h; dsimp only at h
      split at h
      · cases h
        rw [this x (by omega)] at hb; cases hb
      · cases h
    | some f =>
      obtain ⟨f1, f2⟩ := fpick_in hf
      have hkf := hk k f (by omega) (by omega) (by omega)
      rw [hf] at h; dsimp only at h
      split at h
      · rename_i hb2
        cases h
        simp only [Bool.and_eq_true] at hb2
        have e2 := hb2.2
        rw [hkf.1, decide_eq_true_eq] at e2
        by_cases hxf : x = f
        · rw [hxf]; exact e2
        · have := ih (by omega) hf x (by omega) hb hxf
          omega
      · rename_i hb2
        cases h
        rcases Nat.lt_or_ge x k with q | q
        · exact ih (by omega) hf x q hb hne
        · obtain rfl : x = k := by omega
          rw [hb, Bool.true_and, hkf.1, decide_eq_true_eq] at hb2
          have := hkf.2
          omega
theorem flast_k (hk : ∀ a b, a < 7 → b < 7 → a ≠ b → ah a b = decide (key a < key b) ∧ key a ≠ key b) : ∀ {k c : Nat}, k ≤ 7 → flast ah m k = some c → ∀ x, x < k → m.testBit x = true → x ≠ c → key x < key c
  | 0, c, _, h, x, hx, _, _ => by omega
  | k + 1, c, h7, h, x, hx, hb, hne => by
    have ih := @flast_k hk k
    unfold flast at h
    cases hf : flast ah m k with
    | none =>
      have := flast_none hf
      rw [hf] at h; dsimp only at h
      split at h
      · cases h
        rw [this x (by omega)] at hb; cases hb
      · cases h
    | some f =>
      obtain ⟨f1, f2⟩ := flast_in hf
      have hkf := hk f k (by omega) (by omega) (by omega)
      rw [hf] at h; dsimp only at h
      split at h
      · rename_i hb2
        cases h
        simp only [Bool.and_eq_true] at hb2
        have e2 := hb2.2
        rw [hkf.1, decide_eq_true_eq] at e2
        by_cases hxf : x = f
        · rw [hxf]; exact e2
        · have := ih (by omega) hf x (by omega) hb hxf
          omega
      · rename_i hb2
        cases h
        rcases Nat.lt_or_ge x k with q | q
        · exact ih (by omega) hf x q hb hne
        · obtain rfl : x = k := by omega
          rw [hb, Bool.true_and, hkf.1, decide_eq_true_eq] at hb2
          have := hkf.2
          omega
end
theorem pop_clr : ∀ m, m < 128 → ∀ c, c < 7 → m.testBit c = true → pop (mclr m c) + 1 = pop m := by decide +kernel
theorem pop_0 : ∀ m, m < 128 → ∀ c, c < 7 → m.testBit c = true → pop m ≠ 0 := by decide +kernel
theorem fsel_mem {pk : Nat → Option Nat} (h1 : ∀ m c, m < 128 → pk m = some c → c < 7 ∧ m.testBit c = true) (h0 : ∀ m, m < 128 → pk m = none → ∀ j, j < 7 → m.testBit j = false) : ∀ (f m : Nat), m < 128 → pop m ≤ f → ∀ x, x ∈ fsel pk f m ↔ (x < 7 ∧ m.testBit x = true)
  | 0, m, hm, hp, x => by
    unfold fsel
    refine ⟨fun h => absurd h List.not_mem_nil, fun h => absurd (show pop m = 0 by omega) (pop_0 m hm x h.1 h.2)⟩
  | f + 1, m, hm, hp, x => by
    unfold fsel
    cases hc : pk m with
    | none =>
      dsimp only
      refine ⟨fun h => absurd h List.not_mem_nil, fun h => ?_⟩
      rw [h0 m hm hc x h.1] at h; exact absurd h.2 (by decide)
    | some c =>
      dsimp only
      obtain ⟨c1, c2⟩ := h1 m c hm hc
      have ih := fsel_mem h1 h0 f (mclr m c) (mclr_lt m hm c c1) (by have := pop_clr m hm c c1 c2; omega) x
      rw [List.mem_cons, ih]
      constructor
      · rintro (rfl | ⟨a, b⟩)
        · exact ⟨c1, c2⟩
        · rw [mclr_bit m hm c c1 x a] at b
          simp only [Bool.and_eq_true] at b
          exact ⟨a, b.1⟩
      · rintro ⟨a, b⟩
        by_cases e : x = c
        · exact Or.inl e
        · refine Or.inr ⟨a, ?_⟩
          rw [mclr_bit m hm c c1 x a, b]; simp [e]
theorem fsel_pw {pk : Nat → Option Nat} (h1 : ∀ m c, m < 128 → pk m = some c → c < 7 ∧ m.testBit c = true) (h0 : ∀ m, m < 128 → pk m = none → ∀ j, j < 7 → m.testBit j = false) {R : Nat → Nat → Prop} (hR : ∀ m c, m < 128 → pk m = some c → ∀ x, x < 7 → m.testBit x = true → x ≠ c → R c x) : ∀ (f m : Nat), m < 128 → pop m ≤ f → (fsel pk f m).Pairwise R
  | 0, m, hm, hp => List.Pairwise.nil
  | f + 1, m, hm, hp => by
    unfold fsel
    cases hc : pk m with
    | none => exact List.Pairwise.nil
    | some c =>
      dsimp only
      obtain ⟨c1, c2⟩ := h1 m c hm hc
      have hp2 : pop (mclr m c) ≤ f := by have := pop_clr m hm c c1 c2; omega
      refine List.Pairwise.cons (fun x hx => ?_) (fsel_pw h1 h0 hR f _ (mclr_lt m hm c c1) hp2)
      obtain ⟨a, b⟩ := (fsel_mem h1 h0 f _ (mclr_lt m hm c c1) hp2 x).mp hx
      rw [mclr_bit m hm c c1 x a] at b
      simp only [Bool.and_eq_true, Bool.not_eq_true', beq_eq_false_iff_ne] at b
      exact hR m c hm hc x a b.1 b.2
theorem pw_uniq {R : Nat → Nat → Prop} (ha : ∀ a b, R a b → ¬ R b a) : ∀ (l k : List Nat), l.Pairwise R → k.Pairwise R → (∀ x, x ∈ l ↔ x ∈ k) → l = k
  | [], [], _, _, _ => rfl
  | [], b :: k, _, _, h => absurd ((h b).mpr List.mem_cons_self) List.not_mem_nil
  | a :: l, [], _, _, h => absurd ((h a).mp List.mem_cons_self) List.not_mem_nil
  | a :: l, b :: k, h1, h2, h => by
    rw [List.pairwise_cons] at h1 h2
    have hab : a = b := by
      rcases List.mem_cons.mp ((h a).mp List.mem_cons_self) with e | e
      · exact e
      · rcases List.mem_cons.mp ((h b).mpr List.mem_cons_self) with e2 | e2
        · exact e2.symm
        · exact absurd (h1.1 b e2) (ha _ _ (h2.1 a e))
    subst hab
    rw [pw_uniq ha l k h1.2 h2.2 (fun x => ?_)]
    constructor
    · intro hx
      rcases List.mem_cons.mp ((h x).mp (List.mem_cons_of_mem _ hx)) with e | e
      · subst e; exact absurd (h1.1 x hx) (ha _ _ (h1.1 x hx))
      · exact e
    · intro hx
      rcases List.mem_cons.mp ((h x).mpr (List.mem_cons_of_mem _ hx)) with e | e
      · subst e; exact absurd (h2.1 x hx) (ha _ _ (h2.1 x hx))
      · exact e
theorem ford_pw {ah : Nat → Nat → Bool} {key : Nat → Int} (hk : ∀ a b, a < 7 → b < 7 → a ≠ b → ah a b = decide (key a < key b) ∧ key a ≠ key b) {m : Nat} (hm : m < 128) : (ford ah 7 m).Pairwise (fun a b => key a < key b) := by
  rw [ford_sel]
  exact fsel_pw (fun m c _ h => fpick_in h) (fun m _ h => fpick_none.mp h) (fun m c _ h x hx hb hne => fpick_k hk (by decide) h x hx hb hne) 7 m hm (pop_7 m)
theorem ford_mem {ah : Nat → Nat → Bool} {m : Nat} (hm : m < 128) (x : Nat) : x ∈ ford ah 7 m ↔ (x < 7 ∧ m.testBit x = true) := by
  rw [ford_sel]
  exact fsel_mem (fun m c _ h => fpick_in h) (fun m _ h => fpick_none.mp h) 7 m hm (pop_7 m) x
theorem ford_nodup {ah : Nat → Nat → Bool} {key : Nat → Int} (hk : ∀ a b, a < 7 → b < 7 → a ≠ b → ah a b = decide (key a < key b) ∧ key a ≠ key b) {m : Nat} (hm : m < 128) : (ford ah 7 m).Nodup := (ford_pw hk hm).imp (fun h e => by subst e; omega)
/-- the last one first is the other way round -/
theorem flast_rev {ah : Nat → Nat → Bool} {key : Nat → Int} (hk : ∀ a b, a < 7 → b < 7 → a ≠ b → ah a b = decide (key a < key b) ∧ key a ≠ key b) {m : Nat} (hm : m < 128) : fsel (fun m => flast ah m 7) 7 m = (ford ah 7 m).reverse := by
  refine pw_uniq (R := fun a b => key b < key a) (fun a b h => by omega) _ _ ?_ ?_ (fun x => ?_)
  · exact fsel_pw (fun m c _ h => flast_in h) (fun m _ h => flast_none h) (fun m c _ h x hx hb hne => flast_k hk (by decide) h x hx hb hne) 7 m hm (pop_7 m)
  · rw [List.pairwise_reverse]; exact ford_pw hk hm
  · rw [List.mem_reverse, ford_mem hm, fsel_mem (fun m c _ h => flast_in h) (fun m _ h => flast_none h) 7 m hm (pop_7 m)]
