/-! orders of deaths: the count, by sets that still live -/
def msb (m d : Nat) : Nat := m &&& (127 ^^^ d)
theorem msb_I : ∀ m, m < 128 → ∀ d, d < 128 → nI m &&& (nI d ^^^ (-1)) = nI (msb m d) := by decide +kernel
theorem b127 : ∀ k, k < 7 → (127 : Nat).testBit k = true := by decide
theorem msb_bit {m d k : Nat} (hk : k < 7) : (msb m d).testBit k = (m.testBit k && !d.testBit k) := by
  unfold msb
  rw [Nat.testBit_and, Nat.testBit_xor, b127 k hk]
  simp
theorem msb_le (m d : Nat) : msb m d ≤ m := Nat.and_le_left
theorem bit_ext {a b : Nat} (ha : a < 128) (hb : b < 128) (h : ∀ k, k < 7 → a.testBit k = b.testBit k) : a = b := by
  refine Nat.eq_of_testBit_eq fun i => ?_
  rcases Nat.lt_or_ge i 7 with q | q
  · exact h i q
  · rw [Nat.testBit_lt_two_pow (Nat.lt_of_lt_of_le ha (Nat.pow_le_pow_right (n := 2) (by decide) q)), Nat.testBit_lt_two_pow (Nat.lt_of_lt_of_le hb (Nat.pow_le_pow_right (n := 2) (by decide) q))]
theorem bit_7 {m k : Nat} (hm : m < 128) (h : m.testBit k = true) : k < 7 := p2_bit (n := 7) hm h
theorem msb_set {m d k : Nat} (hm : m < 128) (hd : d < 128) (hk : k < 7) : msb m (mset d k) = mclr (msb m d) k := by
  have hS : msb m d < 128 := Nat.lt_of_le_of_lt (msb_le m d) hm
  refine bit_ext (Nat.lt_of_le_of_lt (msb_le _ _) hm) (mclr_lt _ hS k hk) (fun j hj => ?_)
  rw [msb_bit hj, mset_bit d hd k hk j hj, mclr_bit _ hS k hk j hj, msb_bit hj]
  cases m.testBit j <;> cases d.testBit j <;> cases (j == k) <;> rfl
def SB (d m : Nat) : Prop := ∀ k, k < 7 → d.testBit k = true → m.testBit k = true
theorem SB.le {d m : Nat} (hd : d < 128) (h : SB d m) : d ≤ m := by
  have e : d &&& m = d := by
    refine Nat.eq_of_testBit_eq fun i => ?_
    rw [Nat.testBit_and]
    cases hb : d.testBit i with
    | false => rfl
    | true => rw [h i (bit_7 hd hb) hb]; rfl
  rw [← e]; exact Nat.and_le_right
theorem SB.set {d m k : Nat} (hd : d < 128) (hk : k < 7) (h : SB d m) (hb : m.testBit k = true) : SB (mset d k) m := fun j hj q => by
  rw [mset_bit d hd k hk j hj] at q
  rcases Bool.or_eq_true_iff.mp q with q | q
  · exact h j hj q
  · rw [beq_iff_eq.mp q]; exact hb
theorem SB.ne {d m : Nat} (hm : m < 128) (h : d < m) : pop (msb m d) ≠ 0 := fun q => by
  have hS : msb m d < 128 := Nat.lt_of_le_of_lt (msb_le m d) hm
  have : SB m d := fun k hk hb => by
    cases hd : d.testBit k with
    | true => rfl
    | false => exact absurd q (pop_0 _ hS k hk (by rw [msb_bit hk, hb, hd]; rfl))
  have := this.le hm
  omega
def onx (hl : Nat → List Nat) (S : Nat) (h : Option Nat) (k : Nat) : Option Nat := if h = some k then (hl k).find? (fun x => (mclr S k).testBit x) else h
def csr (S : Nat) (F : Nat → Nat) : Nat → Nat → Nat
  | 0, _ => 0
  | r + 1, k => (if S.testBit k = true then F k else 0) + csr S F r (k + 1)
theorem csr_congr {S : Nat} {F G : Nat → Nat} : ∀ r k, (∀ j, k ≤ j → j < k + r → S.testBit j = true → F j = G j) → csr S F r k = csr S G r k
  | 0, _, _ => rfl
  | r + 1, k, h => by
    unfold csr
    rw [csr_congr r (k + 1) (fun j h1 h2 => h j (by omega) (by omega))]
    cases hb : S.testBit k with
    | false => rfl
    | true => rw [h k (Nat.le_refl _) (by omega) hb]
theorem csr_c {S c : Nat} : ∀ r k, csr S (fun _ => c) r k = csr S (fun _ => 1) r k * c
  | 0, _ => by unfold csr; rw [Nat.zero_mul]
  | r + 1, k => by
    unfold csr
    rw [csr_c r (k + 1), Nat.add_mul]
    cases S.testBit k <;> simp
theorem csr_0 {S : Nat} {F : Nat → Nat} : ∀ r k, (∀ j, k ≤ j → S.testBit j = true → F j = 0) → csr S F r k = 0
  | 0, _, _ => rfl
  | r + 1, k, h => by
    unfold csr
    rw [csr_0 r (k + 1) (fun j hj => h j (by omega))]
    cases hb : S.testBit k with
    | false => rfl
    | true => rw [if_pos rfl, h k (Nat.le_refl _) hb]
theorem csr_add {S : Nat} {F : Nat → Nat} : ∀ r s k, csr S F (r + s) k = csr S F r k + csr S F s (k + r)
  | 0, s, k => by rw [Nat.zero_add, Nat.add_zero, show csr S F 0 k = 0 from rfl, Nat.zero_add]
  | r + 1, s, k => by
    rw [show r + 1 + s = (r + s) + 1 by omega]
    unfold csr
    rw [csr_add r s (k + 1), show k + 1 + r = k + (r + 1) by omega, Nat.add_assoc]
    cases s <;> simp [csr]
theorem csr_N {S N : Nat} {F : Nat → Nat} (hN : N ≤ 7) (hS : S < 2 ^ N) : csr S F 7 0 = csr S F N 0 := by
  have e := csr_add (S := S) (F := F) N (7 - N) 0
  rw [show N + (7 - N) = 7 by omega] at e
  rw [e, csr_0 (7 - N) (0 + N) (fun j hj hb => absurd (p2_bit hS hb) (by omega)), Nat.add_zero]
theorem pop_cs (S : Nat) : pop S = csr S (fun _ => 1) 7 0 := by
  unfold pop csr csr csr csr csr csr csr csr
  simp only [List.range, List.range.loop, List.filter]
  cases S.testBit 0 <;> cases S.testBit 1 <;> cases S.testBit 2 <;> cases S.testBit 3 <;> cases S.testBit 4 <;> cases S.testBit 5 <;> cases S.testBit 6 <;> rfl
def uo (hl : Nat → List Nat) (p : Nat) : Nat → Nat → Option Nat → Nat
  | 0, _, _ => 0
  | r + 1, S, h => csr S (fun k => if onx hl S h k = some p then fac r else uo hl p r (mclr S k) (onx hl S h k)) 7 0
theorem onx_some {hl : Nat → List Nat} {S k x : Nat} {h : Option Nat} (hS : S < 128) (hk : k < 7) (hh : ∀ y, h = some y → y < 7 ∧ S.testBit y = true) (e : onx hl S h k = some x) : x < 7 ∧ (mclr S k).testBit x = true := by
  unfold onx at e
  split at e
  · have := List.find?_some e
    exact ⟨bit_7 (mclr_lt S hS k hk) this, this⟩
  · rename_i hne
    obtain ⟨h1, h2⟩ := hh x e
    refine ⟨h1, ?_⟩
    rw [mclr_bit S hS k hk x h1, h2]
    have : x ≠ k := fun q => hne (by rw [e, q])
    simp [this]
theorem onx_7 {hl : Nat → List Nat} {S k x : Nat} {h : Option Nat} (hS : S < 128) (hk : k < 7) (hh : ∀ y, h = some y → y < 7) (e : onx hl S h k = some x) : x < 7 := by
  unfold onx at e
  split at e
  · exact bit_7 (mclr_lt S hS k hk) (by have := List.find?_some e; exact this)
  · exact hh x e
theorem uo_none (hl : Nat → List Nat) (p : Nat) : ∀ r S, uo hl p r S none = 0
  | 0, _ => rfl
  | r + 1, S => by
    unfold uo
    refine csr_0 7 0 (fun k _ _ => ?_)
    have e : onx hl S none k = none := by unfold onx; simp
    rw [e, if_neg (by simp), uo_none hl p r]
theorem uo_no (hl : Nat → List Nat) (p : Nat) : ∀ r S h, S < 128 → S.testBit p = false → h ≠ some p → uo hl p r S h = 0
  | 0, _, _, _, _, _ => rfl
  | r + 1, S, h, hS, hp, hh => by
    unfold uo
    refine csr_0 7 0 (fun k _ hb => ?_)
    have hk := bit_7 hS hb
    have hpk : (mclr S k).testBit p = false := by
      cases q : (mclr S k).testBit p with
      | false => rfl
      | true =>
        have h7 := bit_7 (mclr_lt S hS k hk) q
        rw [mclr_bit S hS k hk p h7, hp] at q
        cases q
    have hne : onx hl S h k ≠ some p := by
      unfold onx
      split
      · intro q
        have := List.find?_some q
        rw [hpk] at this; cases this
      · exact hh
    rw [if_neg hne]
    exact uo_no hl p r _ _ (mclr_lt S hS k hk) hpk hne
theorem fac_pop {S : Nat} {r : Nat} (h : pop S = r + 1) : csr S (fun _ => fac r) 7 0 = fac (pop S) := by
  rw [csr_c, ← pop_cs, h]; rfl
/-! sums of ways, weighed -/
def un (w : Nat → Nat) (i v : Nat) : Nat → Nat := fun x => if x = i then v else w x
def tl (w g : Nat → Nat) : Nat → Nat → Nat
  | 0, _ => 0
  | r + 1, a => w a * g a + tl w g r (a + 1)
theorem tl_ne {w g : Nat → Nat} {i v : Nat} : ∀ r a, (i < a ∨ a + r ≤ i) → tl (un w i v) g r a = tl w g r a
  | 0, _, _ => rfl
  | r + 1, a, h => by
    unfold tl
    rw [tl_ne r (a + 1) (by omega), show un w i v a = w a from if_neg (by omega)]
theorem tl_up {w g : Nat → Nat} {i v : Nat} : ∀ r a, a ≤ i → i < a + r → tl (un w i (w i + v)) g r a = tl w g r a + v * g i
  | 0, _, _, _ => by omega
  | r + 1, a, h1, h2 => by
    unfold tl
    by_cases e : i = a
    · subst e
      rw [tl_ne r (i + 1) (Or.inl (by omega)), show un w i (w i + v) i = w i + v from if_pos rfl, Nat.add_mul]
      omega
    · rw [tl_up r (a + 1) (by omega) (by omega), show un w i (w i + v) a = w a from if_neg (by omega)]
      omega
theorem tl_ge {w g : Nat → Nat} {i : Nat} : ∀ r a, a ≤ i → i < a + r → w i * g i ≤ tl w g r a
  | 0, _, _, _ => by omega
  | r + 1, a, h1, h2 => by
    unfold tl
    by_cases e : i = a
    · subst e; omega
    · have := tl_ge (w := w) (g := g) (i := i) r (a + 1) (by omega) (by omega)
      omega
theorem fac_1 : ∀ k, k ≤ 7 → 1 ≤ fac k ∧ fac k ≤ 5040 := by decide
theorem fac_p (S : Nat) : 1 ≤ fac (pop S) ∧ fac (pop S) ≤ 5040 := fac_1 _ (pop_7 S)
