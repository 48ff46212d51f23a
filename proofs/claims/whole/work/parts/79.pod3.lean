/-- in how many orders p holds at some time -/
def Gt (hl : Nat → List Nat) (p m : Nat) (h : Option Nat) : Nat := if h = some p then fac (pop m) else uo hl p (pop m) m h
theorem msb_0 {m : Nat} (hm : m < 128) : msb m 0 = m := bit_ext (Nat.lt_of_le_of_lt (msb_le _ _) hm) hm (fun k hk => by rw [msb_bit hk]; simp)
theorem msb_self {m : Nat} (hm : m < 128) : msb m m = 0 := bit_ext (Nat.lt_of_le_of_lt (msb_le _ _) hm) (by decide) (fun k hk => by rw [msb_bit hk]; cases m.testBit k <;> simp)
theorem pop_z : pop 0 = 0 := by decide
theorem tl_z {g : Nat → Nat} : ∀ r a, tl (fun _ => 0) g r a = 0
  | 0, _ => rfl
  | r + 1, a => by unfold tl; rw [tl_z r, Nat.zero_mul]
theorem OI.first {hl : Nat → List Nat} {p m : Nat} {f : Nat → Int32} {h : Option Nat} (hm : m < 128) (hh : ∀ y, h = some y → y < 7 ∧ m.testBit y = true) : OI hl p m (Gt hl p m h) 0 (upd (fil f 0 2048) (2 * oN h + (if h = some p then 1 else 0)) 1) := by
  have h7 := oN_le (fun x hx => (hh x hx).1)
  obtain ⟨i, hi⟩ : ∃ i, i = 2 * oN h + (if h = some p then 1 else 0) := ⟨_, rfl⟩
  rw [← hi]
  have hi16 : i < 16 := by rw [hi]; split <;> omega
  have hd : i / 16 = 0 := by omega
  have hmd : i % 16 / 2 = oN h := by rw [hi]; split <;> omega
  have hpar : i % 2 = 1 ↔ h = some p := by
    rw [hi]
    by_cases q : h = some p
    · rw [if_pos q]; exact ⟨fun _ => q, fun _ => by omega⟩
    · rw [if_neg q]; exact ⟨fun w => by omega, fun w => absurd w q⟩
  refine ⟨un (fun _ => 0) i (0 + 1), fun x hx => ?_, fun x hx => ?_, ?_, ?_⟩
  · by_cases q : x = i
    · rw [q, upd_s]; show _ = nI (if _ then _ else _); rw [if_pos rfl]; rfl
    · rw [upd_n q]; show _ = nI (if _ then _ else _); rw [if_neg q]; unfold fil; rw [if_pos hx]; rfl
  · have q : x = i := Decidable.byContradiction fun q => hx (if_neg q)
    rw [q]
    refine ⟨by omega, (by rw [hd]; intro k _ hb; rw [Nat.zero_testBit] at hb; cases hb), fun y hy => ?_⟩
    rw [hmd, ho_oN (fun x hx => (hh x hx).1)] at hy
    rw [hd, msb_0 hm]
    exact hh y hy
  · rw [tl_up (w := fun _ => 0) (v := 1) (i := i) _ 0 (Nat.zero_le _) (by omega), tl_z]
    unfold gF
    rw [hd, msb_0 hm]; omega
  · rw [tl_up (w := fun _ => 0) (v := 1) (i := i) _ 0 (Nat.zero_le _) (by omega), tl_z]
    unfold gU Gt
    rw [hd, msb_0 hm, hmd, ho_oN (fun x hx => (hh x hx).1)]
    by_cases q : h = some p
    · rw [if_pos (hpar.mpr q), if_pos q]; omega
    · rw [if_neg (fun w => q (hpar.mp w)), if_neg q]; omega
/-- the last sums -/
def msum (R : Nat → Int32) (b : Nat) : Nat → Nat → Int32 × Int32 → Int32 × Int32
  | 0, _, x => x
  | r + 1, k, x => msum R b r (k + 1) (x.1 + (if k % 2 = 1 then R (b + k) else 0), x.2 + R (b + k))
theorem OI.last {hl : Nat → List Nat} {p m G : Nat} {R : Nat → Int32} (hm : m < 128) (h : OI hl p m G (16 * m) R) : msum R (16 * m) 16 0 (0, 0) = (nI G, nI (fac (pop m))) := by
  obtain ⟨w, h1, h2, h3, h4⟩ := h
  rw [show 16 * m + 16 - 16 * m = 16 by omega] at h3 h4
  have key : ∀ r k a c, k + r ≤ 16 → msum R (16 * m) r k (nI a, nI c) = (nI (a + tl w (gU hl p m) r (16 * m + k)), nI (c + tl w (gF m) r (16 * m + k))) := by
    intro r
    induction r with
    | zero => intro k a c _; rfl
    | succ r ih =>
      intro k a c hk
      have hd : (16 * m + k) / 16 = m := by omega
      have hf : gF m (16 * m + k) = 1 := by unfold gF; rw [hd, msb_self hm, pop_z]; rfl
      have hu : gU hl p m (16 * m + k) = if k % 2 = 1 then 1 else 0 := by
        unfold gU
        rw [hd, msb_self hm, pop_z, show (16 * m + k) % 2 = k % 2 by omega]
        split <;> rfl
      unfold msum tl
      dsimp only
      rw [h1 (16 * m + k) (by omega), nI_add, hf, hu, Nat.mul_one]
      split
      · rw [nI_add, ih (k + 1) _ _ (by omega), Nat.mul_one, Nat.add_assoc, Nat.add_assoc, Nat.add_assoc]
      · rw [Int32.add_zero, ih (k + 1) _ _ (by omega), Nat.mul_zero, Nat.zero_add, Nat.add_assoc, Nat.add_assoc]
  have := key 16 0 0 0 (by omega)
  rw [Nat.zero_add, Nat.zero_add, Nat.add_zero, h3, h4] at this
  exact this
/-! the class's ways -/
def gC (hl : Nat → List Nat) (p i : Nat) : Nat := if i % 7 = p then fac (pop (i / 7)) else uo hl p (pop (i / 7)) (i / 7) (some (i % 7))
def gM (i : Nat) : Nat := fac (pop (i / 7))
def oal (w : Nat → Nat) : Prop := ∀ i, w i ≠ 0 → (i / 7).testBit (i % 7) = true
theorem tl_add {w g : Nat → Nat} : ∀ r s a, tl w g (r + s) a = tl w g r a + tl w g s (a + r)
  | 0, s, a => by rw [Nat.zero_add, Nat.add_zero, show tl w g 0 a = 0 from rfl, Nat.zero_add]
  | r + 1, s, a => by
    rw [show r + 1 + s = (r + s) + 1 by omega]
    show w a * g a + tl w g (r + s) (a + 1) = w a * g a + tl w g r (a + 1) + tl w g s (a + (r + 1))
    rw [tl_add r s (a + 1), show a + 1 + r = a + (r + 1) by omega]; omega
theorem tl_eq {w w' g : Nat → Nat} : ∀ r a, (∀ i, a ≤ i → i < a + r → w' i = w i) → tl w' g r a = tl w g r a
  | 0, _, _ => rfl
  | r + 1, a, h => by
    show w' a * g a + tl w' g r (a + 1) = w a * g a + tl w g r (a + 1)
    rw [h a (Nat.le_refl _) (by omega), tl_eq r (a + 1) (fun i h1 h2 => h i (by omega) (by omega))]
theorem mclr_ltS {S d : Nat} (h : S.testBit d = true) : mclr S d < S := by
  unfold mclr
  rw [if_pos h]
  have := Nat.two_pow_pos d
  have : 2 ^ d ≤ S := Nat.ge_two_pow_of_testBit h
  omega
theorem ogo_w {hl : Nat → List Nat} {S h p u ρ : Nat} (hS : S < 128) (hh : h < 7) (hhS : S.testBit h = true) (hp : h ≠ p) (hρ : pop S = ρ + 1) : ∀ (r d : Nat) (R : Nat → Int32) (w : Nat → Nat), d + r ≤ 7 → (∀ i, i < 896 → R i = nI (w i)) → oal w →
    ∃ w' : Nat → Nat, (∀ i, i < 896 → ogo hl S h p (nI u) r d R i = nI (w' i)) ∧ oal w' ∧ (∀ i, 7 * S ≤ i → w' i = w i) ∧ tl w' (gC hl p) (7 * S) 0 = tl w (gC hl p) (7 * S) 0 + u * csr S (fun k => if onx hl S (some h) k = some p then fac ρ else uo hl p ρ (mclr S k) (onx hl S (some h) k)) r d ∧ tl w' gM (7 * S) 0 ≤ tl w gM (7 * S) 0 + u * csr S (fun _ => fac ρ) r d := by
  intro r
  induction r with
  | zero => exact fun d R w _ hw ha => ⟨w, hw, ha, fun _ _ => rfl, by show _ = _ + u * 0; omega, by show _ ≤ _ + u * 0; omega⟩
  | succ r ih =>
    intro d R w hd hw ha
    have hd7 : d < 7 := by omega
    unfold ogo
    have c1 : ∀ F, csr S F (r + 1) d = (if S.testBit d = true then F d else 0) + csr S F r (d + 1) := fun F => rfl
    rw [c1, c1]
    cases hb : S.testBit d with
    | false =>
      obtain ⟨w', a1, a2, a3, a4, a5⟩ := ih (d + 1) R w (by omega) hw ha
      refine ⟨w', a1, a2, a3, ?_, ?_⟩
      · rw [a4, if_neg (by decide), Nat.zero_add]
      · rw [if_neg (by decide), Nat.zero_add]; exact a5
    | true =>
      have hpc := pop_clr S hS d hd7 hb
      by_cases hdp : d = p
      · have e0 : onx hl S (some h) d = some h := by
          unfold onx
          rw [if_neg (fun q => hp (by rw [← hdp]; exact Option.some.inj q))]
        obtain ⟨w', a1, a2, a3, a4, a5⟩ := ih (d + 1) R w (by omega) hw ha
        refine ⟨w', ?_, a2, a3, ?_, ?_⟩
        · rw [show (true && !(d == p)) = false by simp [hdp]]; exact a1
        · rw [a4, if_pos rfl, e0, if_neg (fun q => hp (Option.some.inj q)), uo_no hl p ρ (mclr S d) (some h) (mclr_lt S hS d hd7) (by rw [← hdp, mclr_bit S hS d hd7 d hd7]; simp) (fun q => hp (Option.some.inj q)), Nat.zero_add]
        · rw [if_pos rfl, Nat.mul_add]; omega
      · rw [show (true && !(d == p)) = true by simp [hdp], if_pos rfl, if_pos rfl, if_pos rfl]
        have eo : (if d = h then (hl d).find? (fun x => (mclr S d).testBit x) else some h) = onx hl S (some h) d := by
          unfold onx
          by_cases q : d = h
          · rw [if_pos q, if_pos (by rw [q])]
          · rw [if_neg q, if_neg (fun e => q (Option.some.inj e).symm)]
        rw [eo]
        cases ex : onx hl S (some h) d with
        | none =>
          obtain ⟨w', a1, a2, a3, a4, a5⟩ := ih (d + 1) R w (by omega) hw ha
          refine ⟨w', a1, a2, a3, ?_, ?_⟩
          · rw [a4, if_neg (by simp), uo_none, Nat.zero_add]
          · rw [Nat.mul_add]; omega
        | some x =>
          obtain ⟨hx7, hxb⟩ := onx_some hS hd7 (fun y hy => by cases hy; exact ⟨hh, hhS⟩) ex
          have hlt := mclr_ltS hb
          have hix : mclr S d * 7 + x < 7 * S := by omega
          have hdv : (mclr S d * 7 + x) / 7 = mclr S d := by omega
          have hmd : (mclr S d * 7 + x) % 7 = x := by omega
          obtain ⟨w', a1, a2, a3, a4, a5⟩ := ih (d + 1) (upd R (mclr S d * 7 + x) (R (mclr S d * 7 + x) + nI u)) (un w (mclr S d * 7 + x) (w (mclr S d * 7 + x) + u)) (by omega) (fun i hi => by
            by_cases q : i = mclr S d * 7 + x
            · subst q
              rw [upd_s, hw _ hi, nI_add]
              show _ = nI (if _ then _ else _)
              rw [if_pos rfl]
            · rw [upd_n q, hw i hi]
              show _ = nI (if _ then _ else _)
              rw [if_neg q]) (fun i hi => by
            by_cases q : i = mclr S d * 7 + x
            · rw [q, hdv, hmd]; exact hxb
            · have e : un w (mclr S d * 7 + x) (w (mclr S d * 7 + x) + u) i = w i := if_neg q
              rw [e] at hi; exact ha i hi)
          refine ⟨w', a1, a2, fun i hi => ?_, ?_, ?_⟩
          · rw [a3 i hi]; exact if_neg (by omega)
          · rw [a4, tl_up (7 * S) 0 (Nat.zero_le _) (by omega), Nat.mul_add, ← Nat.add_assoc]
            congr 2
            congr 1
            unfold gC
            rw [hdv, hmd, show pop (mclr S d) = ρ by omega]
            by_cases q : x = p
            · rw [if_pos q, if_pos (by rw [q])]
            · rw [if_neg q, if_neg (fun e => q (Option.some.inj e))]
          · rw [tl_up (7 * S) 0 (Nat.zero_le _) (by omega)] at a5
            rw [Nat.mul_add]
            unfold gM at a5 ⊢
            rw [hdv, show pop (mclr S d) = ρ by omega] at a5
            omega
