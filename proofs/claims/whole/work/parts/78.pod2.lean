/-! the reference's ways -/
def oN (o : Option Nat) : Nat := o.getD 7
def ho (x : Nat) : Option Nat := if x = 7 then none else some x
theorem ho_oN {o : Option Nat} (h : ∀ x, o = some x → x < 7) : ho (oN o) = o := by
  cases o with
  | none => rfl
  | some x => exact if_neg (by have := h x rfl; show ¬ x = 7; omega)
theorem oN_le {o : Option Nat} (h : ∀ x, o = some x → x < 7) : oN o ≤ 7 := by
  cases o with
  | none => exact Nat.le_refl _
  | some x => have := h x rfl; show x ≤ 7; omega
def oix (hl : Nat → List Nat) (p S d : Nat) (h : Option Nat) (e : Bool) (k : Nat) : Nat := 16 * mset d k + 2 * oN (onx hl S h k) + (if e = true ∨ onx hl S h k = some p then 1 else 0)
def mgo (hl : Nat → List Nat) (p S d : Nat) (h : Option Nat) (e : Bool) (v : Int32) : Nat → Nat → (Nat → Int32) → (Nat → Int32)
  | 0, _, R => R
  | r + 1, k, R => mgo hl p S d h e v r (k + 1) (if S.testBit k = true then upd R (oix hl p S d h e k) (R (oix hl p S d h e k) + v) else R)
theorem oix_parts {hl : Nat → List Nat} {p S d k : Nat} {h : Option Nat} {e : Bool} (hx : ∀ x, onx hl S h k = some x → x < 7) : oix hl p S d h e k / 16 = mset d k ∧ oix hl p S d h e k % 16 / 2 = oN (onx hl S h k) ∧ oix hl p S d h e k % 2 = (if e = true ∨ onx hl S h k = some p then 1 else 0) := by
  have h1 := oN_le hx
  unfold oix
  split <;> refine ⟨by omega, by omega, by omega⟩
def gF (m i : Nat) : Nat := fac (pop (msb m (i / 16)))
def gU (hl : Nat → List Nat) (p m i : Nat) : Nat := if i % 2 = 1 then fac (pop (msb m (i / 16))) else uo hl p (pop (msb m (i / 16))) (msb m (i / 16)) (ho (i % 16 / 2))
/-- a state that may be come to -/
def ost (m x : Nat) : Prop := x / 16 < 128 ∧ SB (x / 16) m ∧ ∀ y, ho (x % 16 / 2) = some y → y < 7 ∧ (msb m (x / 16)).testBit y = true
theorem gF_bal {hl : Nat → List Nat} {p m i : Nat} (hm : m < 128) (hs : ost m i) (hi : i / 16 < m) : csr (msb m (i / 16)) (fun k => gF m (oix hl p (msb m (i / 16)) (i / 16) (ho (i % 16 / 2)) (decide (i % 2 = 1)) k)) 7 0 = gF m i := by
  have hS : msb m (i / 16) < 128 := Nat.lt_of_le_of_lt (msb_le _ _) hm
  obtain ⟨r, hr⟩ : ∃ r, pop (msb m (i / 16)) = r + 1 := ⟨pop (msb m (i / 16)) - 1, by have := SB.ne hm hi; omega⟩
  rw [show gF m i = fac (pop (msb m (i / 16))) from rfl, ← fac_pop hr]
  refine csr_congr 7 0 (fun k _ _ hb => ?_)
  have hk := bit_7 hS hb
  have hp := oix_parts (hl := hl) (p := p) (d := i / 16) (e := decide (i % 2 = 1)) (fun x hx => (onx_some hS hk hs.2.2 hx).1)
  show fac (pop (msb m (_ / 16))) = fac r
  rw [hp.1, msb_set hm hs.1 hk]
  have := pop_clr _ hS k hk hb
  rw [show pop (mclr (msb m (i / 16)) k) = r by omega]
theorem gU_bal {hl : Nat → List Nat} {p m i : Nat} (hm : m < 128) (hs : ost m i) (hi : i / 16 < m) : csr (msb m (i / 16)) (fun k => gU hl p m (oix hl p (msb m (i / 16)) (i / 16) (ho (i % 16 / 2)) (decide (i % 2 = 1)) k)) 7 0 = gU hl p m i := by
  have hS : msb m (i / 16) < 128 := Nat.lt_of_le_of_lt (msb_le _ _) hm
  obtain ⟨r, hr⟩ : ∃ r, pop (msb m (i / 16)) = r + 1 := ⟨pop (msb m (i / 16)) - 1, by have := SB.ne hm hi; omega⟩
  by_cases he : i % 2 = 1
  · rw [show gU hl p m i = fac (pop (msb m (i / 16))) from if_pos he, ← fac_pop hr]
    refine csr_congr 7 0 (fun k _ _ hb => ?_)
    have hk := bit_7 hS hb
    have hp := oix_parts (hl := hl) (p := p) (d := i / 16) (e := decide (i % 2 = 1)) (fun x hx => (onx_some hS hk hs.2.2 hx).1)
    have h2 := hp.2.2
    rw [if_pos (Or.inl (by simpa using he))] at h2
    unfold gU
    rw [if_pos h2, hp.1, msb_set hm hs.1 hk]
    have := pop_clr _ hS k hk hb
    rw [show pop (mclr (msb m (i / 16)) k) = r by omega]
  · rw [show gU hl p m i = uo hl p (pop (msb m (i / 16))) (msb m (i / 16)) (ho (i % 16 / 2)) from if_neg he, hr]
    show _ = csr _ _ 7 0
    refine csr_congr 7 0 (fun k _ _ hb => ?_)
    have hk := bit_7 hS hb
    have hx7 := fun x hx => (onx_some (hl := hl) (x := x) hS hk hs.2.2 hx).1
    have hp := oix_parts (hl := hl) (p := p) (d := i / 16) (e := decide (i % 2 = 1)) hx7
    have h2 := hp.2.2
    have hpc := pop_clr _ hS k hk hb
    unfold gU
    rw [hp.1, msb_set hm hs.1 hk, show pop (mclr (msb m (i / 16)) k) = r by omega, hp.2.1, ho_oN hx7, h2]
    by_cases hq : onx hl (msb m (i / 16)) (ho (i % 16 / 2)) k = some p
    · rw [if_pos (Or.inr hq), if_pos rfl, if_pos hq]
    · rw [if_neg (show ¬ (decide (i % 2 = 1) = true ∨ _) from fun q => q.elim (fun q => he (by simpa using q)) hq), if_neg (by decide), if_neg hq]
theorem mgo_w {hl : Nat → List Nat} {p S d : Nat} {h : Option Nat} {e : Bool} {u : Nat} : ∀ (r k : Nat) (R : Nat → Int32) (w : Nat → Nat), (∀ x, x < 2048 → R x = nI (w x)) →
    ∃ w' : Nat → Nat, (∀ x, x < 2048 → mgo hl p S d h e (nI u) r k R x = nI (w' x)) ∧ (∀ x, w' x ≠ 0 → w x ≠ 0 ∨ ∃ j, k ≤ j ∧ j < k + r ∧ S.testBit j = true ∧ x = oix hl p S d h e j) ∧ ∀ (g : Nat → Nat) (a L : Nat), (∀ j, k ≤ j → j < k + r → S.testBit j = true → a ≤ oix hl p S d h e j ∧ oix hl p S d h e j < a + L) → tl w' g L a = tl w g L a + u * csr S (fun j => g (oix hl p S d h e j)) r k := by
  intro r
  induction r with
  | zero => exact fun k R w hw => ⟨w, hw, fun x hx => Or.inl hx, fun g a L _ => by show _ = _ + u * 0; rw [Nat.mul_zero, Nat.add_zero]⟩
  | succ r ih =>
    intro k R w hw
    unfold mgo
    cases hb : S.testBit k with
    | false =>
      rw [if_neg (by decide)]
      obtain ⟨w', h1, h2, h3⟩ := ih (k + 1) R w hw
      refine ⟨w', h1, fun x hx => ?_, fun g a L hj => ?_⟩
      · rcases h2 x hx with q | ⟨j, q1, q2, q3⟩
        · exact Or.inl q
        · exact Or.inr ⟨j, by omega, by omega, q3⟩
      · rw [h3 g a L (fun j q1 q2 => hj j (by omega) (by omega))]
        show _ = _ + u * ((if S.testBit k = true then _ else 0) + _)
        rw [hb, if_neg (by decide), Nat.zero_add]
    | true =>
      rw [if_pos rfl]
      obtain ⟨w', h1, h2, h3⟩ := ih (k + 1) (upd R (oix hl p S d h e k) (R (oix hl p S d h e k) + nI u)) (un w (oix hl p S d h e k) (w (oix hl p S d h e k) + u)) (fun x hx => by
        by_cases q : x = oix hl p S d h e k
        · subst q
          rw [upd_s, hw _ hx, nI_add]
          show _ = nI (if _ then _ else _)
          rw [if_pos rfl]
        · rw [upd_n q, hw x hx]
          show _ = nI (if _ then _ else _)
          rw [if_neg q])
      refine ⟨w', h1, fun x hx => ?_, fun g a L hj => ?_⟩
      · rcases h2 x hx with q | ⟨j, q1, q2, q3⟩
        · by_cases qx : x = oix hl p S d h e k
          · exact Or.inr ⟨k, Nat.le_refl _, by omega, hb, qx⟩
          · left
            have : un w (oix hl p S d h e k) (w (oix hl p S d h e k) + u) x = w x := if_neg qx
            rw [this] at q; exact q
        · exact Or.inr ⟨j, by omega, by omega, q3⟩
      · obtain ⟨b1, b2⟩ := hj k (Nat.le_refl _) (by omega) hb
        rw [h3 g a L (fun j q1 q2 => hj j (by omega) (by omega)), tl_up L a b1 b2]
        show _ = _ + u * ((if S.testBit k = true then _ else 0) + _)
        rw [hb, if_pos rfl, Nat.mul_add, Nat.add_assoc]
/-- what holds ahead of state i -/
def OI (hl : Nat → List Nat) (p m G i : Nat) (R : Nat → Int32) : Prop := ∃ w : Nat → Nat, (∀ x, x < 2048 → R x = nI (w x)) ∧ (∀ x, w x ≠ 0 → ost m x) ∧ tl w (gF m) (16 * m + 16 - i) i = fac (pop m) ∧ tl w (gU hl p m) (16 * m + 16 - i) i = G
theorem OI.next {hl : Nat → List Nat} {p m G i : Nat} {R : Nat → Int32} (hm : m < 128) (hi : i < 16 * m) (h : OI hl p m G i R) : (¬ 0 < R i → OI hl p m G (i + 1) R) ∧ (0 < R i → ost m i ∧ ∀ N, N ≤ 7 → m < 2 ^ N → OI hl p m G (i + 1) (mgo hl p (msb m (i / 16)) (i / 16) (ho (i % 16 / 2)) (decide (i % 2 = 1)) (R i) N 0 R)) := by
  obtain ⟨w, h1, h2, h3, h4⟩ := h
  have hL : 16 * m + 16 - i = (16 * m + 16 - (i + 1)) + 1 := by omega
  rw [hL] at h3 h4
  unfold tl at h3 h4
  have hb : w i ≤ 5040 := by
    have a1 := fac_p m
    have a2 : 1 ≤ gF m i := (fac_p _).1
    have a3 : w i * 1 ≤ w i * gF m i := Nat.mul_le_mul_left _ a2
    omega
  have hR : R i = nI (w i) := h1 i (by omega)
  have hpos : 0 < R i ↔ w i ≠ 0 := by
    rw [hR, ti_lt, nI_toInt (by omega)]
    show (0 : Int) < _ ↔ _
    omega
  refine ⟨fun hn => ?_, fun hp => ?_⟩
  · have w0 : w i = 0 := Decidable.byContradiction fun q => hn (hpos.mpr q)
    rw [w0, Nat.zero_mul, Nat.zero_add] at h3 h4
    exact ⟨w, h1, h2, h3, h4⟩
  · have hne := hpos.mp hp
    have hs := h2 i hne
    refine ⟨hs, fun N hN hmN => ?_⟩
    have hS : msb m (i / 16) < 128 := Nat.lt_of_le_of_lt (msb_le _ _) hm
    have hSN : msb m (i / 16) < 2 ^ N := Nat.lt_of_le_of_lt (msb_le _ _) hmN
    have hd : i / 16 < m := by omega
    have key : ∀ j, (msb m (i / 16)).testBit j = true → ost m (oix hl p (msb m (i / 16)) (i / 16) (ho (i % 16 / 2)) (decide (i % 2 = 1)) j) ∧ i + 1 ≤ oix hl p (msb m (i / 16)) (i / 16) (ho (i % 16 / 2)) (decide (i % 2 = 1)) j ∧ oix hl p (msb m (i / 16)) (i / 16) (ho (i % 16 / 2)) (decide (i % 2 = 1)) j < i + 1 + (16 * m + 16 - (i + 1)) := by
      intro j hj
      have hj7 := bit_7 hS hj
      have hx7 := fun x hx => onx_some (hl := hl) (x := x) hS hj7 hs.2.2 hx
      obtain ⟨p1, p2, p3⟩ := oix_parts (hl := hl) (p := p) (d := i / 16) (e := decide (i % 2 = 1)) (fun x hx => (hx7 x hx).1)
      have hjb := hj
      rw [msb_bit hj7, Bool.and_eq_true] at hjb
      have hsb : SB (mset (i / 16) j) m := hs.2.1.set hs.1 hj7 hjb.1
      have hlt := mset_lt _ hs.1 j hj7
      have hle := hsb.le hlt
      have hgt : i / 16 < mset (i / 16) j := by
        unfold mset
        rw [show (i / 16).testBit j = false by simpa using hjb.2, if_neg (by decide)]
        have := Nat.two_pow_pos j
        omega
      refine ⟨⟨by rw [p1]; exact hlt, by rw [p1]; exact hsb, fun y hy => ?_⟩, by omega, by omega⟩
      rw [p2, ho_oN (fun x hx => (hx7 x hx).1)] at hy
      rw [p1, msb_set hm hs.1 hj7]
      exact hx7 y hy
    rw [hR]
    obtain ⟨w', a1, a2, a3⟩ := mgo_w (hl := hl) (p := p) (S := msb m (i / 16)) (d := i / 16) (h := ho (i % 16 / 2)) (e := decide (i % 2 = 1)) (u := w i) N 0 R w h1
    refine ⟨w', a1, fun x hx => ?_, ?_, ?_⟩
    · rcases a2 x hx with q | ⟨j, _, _, q3, q4⟩
      · exact h2 x q
      · rw [q4]; exact (key j q3).1
    · rw [a3 (gF m) (i + 1) _ (fun j _ _ q => (key j q).2), ← csr_N hN hSN, gF_bal hm hs hd]
      omega
    · rw [a3 (gU hl p m) (i + 1) _ (fun j _ _ q => (key j q).2), ← csr_N hN hSN, gU_bal hm hs hd]
      omega
