/-- what holds ahead of set S's holder h -/
def CI (hl : Nat → List Nat) (p G S h : Nat) (x : (Nat → Int32) × Int32) : Prop := ∃ (w : Nat → Nat) (s : Nat), (∀ i, i < 896 → x.1 i = nI (w i)) ∧ oal w ∧ x.2 = nI s ∧ s + tl w (gC hl p) (7 * S) 0 + tl w (gC hl p) (7 - h) (7 * S + h) = G ∧ tl w gM (7 * S) 0 + tl w gM (7 - h) (7 * S + h) ≤ 5040
theorem tl_s {w g : Nat → Nat} (r a : Nat) : tl w g (r + 1) a = w a * g a + tl w g r (a + 1) := rfl
theorem pop_pos : ∀ S, S < 128 → 0 < S → 0 < pop S := by decide +kernel
theorem CI.step {hl : Nat → List Nat} {p G S h : Nat} {x : (Nat → Int32) × Int32} (hS : S < 128) (hS0 : 0 < S) (hh : h < 7) (H : CI hl p G S h x) : CI hl p G S (h + 1) (if ¬ x.1 (S * 7 + h) ≤ 0 then (if h = p then (x.1, x.2 + x.1 (S * 7 + h) * nI (fac (pop S))) else (ogo hl S h p (x.1 (S * 7 + h)) 7 0 x.1, x.2)) else x) := by
  obtain ⟨w, s, h1, h2, h3, h4, h5⟩ := H
  rw [show 7 - h = (7 - (h + 1)) + 1 by omega, tl_s (7 - (h + 1)) (7 * S + h)] at h4 h5
  have hi : S * 7 + h = 7 * S + h := by omega
  rw [hi]
  have hR : x.1 (7 * S + h) = nI (w (7 * S + h)) := h1 _ (by omega)
  have hm1 : 1 ≤ gM (7 * S + h) := (fac_p _).1
  have hb : w (7 * S + h) ≤ 5040 := by
    have a3 : w (7 * S + h) * 1 ≤ w (7 * S + h) * gM (7 * S + h) := Nat.mul_le_mul_left _ hm1
    omega
  have hpos : ¬ x.1 (7 * S + h) ≤ 0 ↔ w (7 * S + h) ≠ 0 := by
    rw [hR, ti_le, nI_toInt (by omega)]
    show ¬ _ ≤ (0 : Int) ↔ _
    omega
  have hdv : (7 * S + h) / 7 = S := by omega
  have hmd : (7 * S + h) % 7 = h := by omega
  by_cases hp0 : ¬ x.1 (7 * S + h) ≤ 0
  · rw [if_pos hp0]
    have hne := hpos.mp hp0
    have hal := h2 _ hne
    rw [hdv, hmd] at hal
    by_cases hp : h = p
    · rw [if_pos hp]
      refine ⟨w, s + w (7 * S + h) * fac (pop S), h1, h2, ?_, ?_, ?_⟩
      · show x.2 + _ = _
        rw [h3, hR, pk_mul, nI_add]
      · have hg : gC hl p (7 * S + h) = fac (pop S) := by unfold gC; rw [hmd, if_pos hp, hdv]
        rw [hg] at h4
        rw [show 7 * S + (h + 1) = 7 * S + h + 1 by omega]
        omega
      · rw [show 7 * S + (h + 1) = 7 * S + h + 1 by omega]
        omega
    · rw [if_neg hp]
      obtain ⟨ρ, hρ⟩ : ∃ ρ, pop S = ρ + 1 := ⟨pop S - 1, by have := pop_pos S hS hS0; omega⟩
      obtain ⟨w', a1, a2, a3, a4, a5⟩ := ogo_w (hl := hl) (u := w (7 * S + h)) hS hh hal hp hρ 7 0 x.1 w (by omega) h1 h2
      have hg : gC hl p (7 * S + h) = csr S (fun k => if onx hl S (some h) k = some p then fac ρ else uo hl p ρ (mclr S k) (onx hl S (some h) k)) 7 0 := by
        unfold gC
        rw [hmd, if_neg hp, hdv, hρ]; rfl
      have hgm : gM (7 * S + h) = csr S (fun _ => fac ρ) 7 0 := by unfold gM; rw [hdv, fac_pop hρ]
      rw [hg] at h4
      rw [hgm] at h5
      refine ⟨w', s, ?_, a2, h3, ?_, ?_⟩
      · rw [hR]; exact a1
      · rw [show 7 * S + (h + 1) = 7 * S + h + 1 by omega, tl_eq (w := w) (7 - (h + 1)) (7 * S + h + 1) (fun i q _ => a3 i (by omega)), a4]
        omega
      · rw [show 7 * S + (h + 1) = 7 * S + h + 1 by omega, tl_eq (w := w) (7 - (h + 1)) (7 * S + h + 1) (fun i q _ => a3 i (by omega))]
        omega
  · rw [if_neg hp0]
    have w0 : w (7 * S + h) = 0 := Decidable.byContradiction fun q => hp0 (hpos.mpr q)
    rw [w0, Nat.zero_mul, Nat.zero_add] at h4 h5
    exact ⟨w, s, h1, h2, h3, h4, h5⟩
theorem CI.oin {hl : Nat → List Nat} {p G S : Nat} (hS : S < 128) (hS0 : 0 < S) : ∀ (r h : Nat) (x : (Nat → Int32) × Int32), h + r = 7 → CI hl p G S h x → CI hl p G S 7 (oin hl S p r h x)
  | 0, h, x, hr, H => by
    obtain rfl : h = 7 := by omega
    exact H
  | r + 1, h, x, hr, H => CI.oin hS hS0 r (h + 1) _ (by omega) (H.step hS hS0 (by omega))
theorem CI.down {hl : Nat → List Nat} {p G S : Nat} {x : (Nat → Int32) × Int32} (H : CI hl p G (S + 1) 7 x) : CI hl p G S 0 x := by
  obtain ⟨w, s, h1, h2, h3, h4, h5⟩ := H
  have e : ∀ g, tl w g (7 * (S + 1)) 0 = tl w g (7 * S) 0 + tl w g 7 (7 * S) := fun g => by
    rw [show 7 * (S + 1) = 7 * S + 7 by omega, tl_add, Nat.zero_add]
  have e0 : ∀ g, tl w g (7 - 7) (7 * (S + 1) + 7) = 0 := fun g => rfl
  rw [e, e0] at h4
  rw [e, e0] at h5
  exact ⟨w, s, h1, h2, h3, by rw [show 7 - 0 = 7 from rfl, Nat.add_zero]; omega, by rw [show 7 - 0 = 7 from rfl, Nat.add_zero]; omega⟩
theorem CI.oout {hl : Nat → List Nat} {p G : Nat} : ∀ (S : Nat) (x : (Nat → Int32) × Int32), S < 128 → CI hl p G S 0 x → (oout hl p S x).2 = nI G
  | 0, x, _, H => by
    obtain ⟨w, s, h1, h2, h3, h4, h5⟩ := H
    have e : tl w (gC hl p) 7 0 = 0 := by
      have : ∀ r a, a + r ≤ 7 → tl w (gC hl p) r a = 0 := by
        intro r
        induction r with
        | zero => intro a _; rfl
        | succ r ih =>
          intro a ha
          show w a * _ + _ = 0
          rw [ih (a + 1) (by omega)]
          have w0 : w a = 0 := Decidable.byContradiction fun q => by
            have := h2 a q
            rw [show a / 7 = 0 by omega, Nat.zero_testBit] at this
            cases this
          rw [w0, Nat.zero_mul]
      exact this 7 0 (by omega)
    have h4' : s + 0 + tl w (gC hl p) 7 0 = G := h4
    rw [e] at h4'
    show x.2 = _
    rw [h3, ← h4']; rfl
  | S + 1, x, hS, H => CI.oout S _ (by omega) (CI.down (H.oin hS (by omega) 7 0 x rfl))
theorem odds_class {hl : Nat → List Nat} {p m : Nat} {f : Nat → Int32} {h : Nat} (hm : m < 128) (hh : h < 7) (hb : m.testBit h = true) : (oout hl p m (oadd (fil f 0 896) m (some h) 1, 0)).2 = nI (Gt hl p m (some h)) := by
  refine CI.oout m _ hm ⟨un (fun _ => 0) (m * 7 + h) (0 + 1), 0, fun i hi => ?_, fun i hi => ?_, rfl, ?_, ?_⟩
  · show upd (fil f 0 896) (m * 7 + h) (fil f 0 896 (m * 7 + h) + 1) i = _
    by_cases q : i = m * 7 + h
    · subst q
      rw [upd_s]; show _ = nI (if _ then _ else _); rw [if_pos rfl]; unfold fil; rw [if_pos hi]; rfl
    · rw [upd_n q]; show _ = nI (if _ then _ else _); rw [if_neg q]; unfold fil; rw [if_pos hi]; rfl
  · have q : i = m * 7 + h := Decidable.byContradiction fun q => hi (if_neg q)
    rw [q, show (m * 7 + h) / 7 = m by omega, show (m * 7 + h) % 7 = h by omega]; exact hb
  · rw [tl_ne (7 * m) 0 (Or.inr (by omega)), tl_z, tl_up (w := fun _ => 0) (v := 1) (7 - 0) (7 * m + 0) (by omega) (by omega), tl_z]
    unfold gC Gt
    rw [show (m * 7 + h) / 7 = m by omega, show (m * 7 + h) % 7 = h by omega]
    by_cases q : h = p
    · rw [if_pos q, if_pos (by rw [q])]; omega
    · rw [if_neg q, if_neg (fun e => q (Option.some.inj e))]; omega
  · rw [tl_ne (7 * m) 0 (Or.inr (by omega)), tl_z, tl_up (w := fun _ => 0) (v := 1) (7 - 0) (7 * m + 0) (by omega) (by omega), tl_z]
    unfold gM
    rw [show (m * 7 + h) / 7 = m by omega]
    have := (fac_p m).2
    omega
theorem uo_le (hl : Nat → List Nat) (p : Nat) : ∀ r S h, S < 128 → pop S = r → uo hl p r S h ≤ fac r
  | 0, _, _, _, _ => Nat.zero_le _
  | r + 1, S, h, hS, hr => by
    rw [← hr, ← fac_pop hr]
    rw [hr]
    unfold uo
    have mono : ∀ (F G : Nat → Nat) r k, (∀ j, S.testBit j = true → F j ≤ G j) → csr S F r k ≤ csr S G r k := by
      intro F G r
      induction r with
      | zero => intro k _; exact Nat.le_refl _
      | succ r ih =>
        intro k hq
        have := ih (k + 1) hq
        show (if _ then _ else _) + _ ≤ (if _ then _ else _) + _
        cases hb : S.testBit k with
        | false => rw [if_neg (by decide), if_neg (by decide)]; omega
        | true => rw [if_pos rfl, if_pos rfl]; have := hq k hb; omega
    refine mono _ _ 7 0 (fun j hj => ?_)
    have hj7 := bit_7 hS hj
    have hpc := pop_clr S hS j hj7 hj
    split
    · exact Nat.le_refl _
    · exact uo_le hl p r _ _ (mclr_lt S hS j hj7) (by omega)
theorem Gt_le {hl : Nat → List Nat} {p m : Nat} {h : Option Nat} (hm : m < 128) : Gt hl p m h ≤ 5040 := by
  unfold Gt
  have := (fac_p m).2
  split
  · exact this
  · exact Nat.le_trans (uo_le hl p _ m h hm rfl) this
theorem Gt_none {hl : Nat → List Nat} {p m : Nat} : Gt hl p m none = 0 := by unfold Gt; rw [if_neg (by simp), uo_none]
/-! the two divisors -/
theorem zgc_gcd : ∀ (k g l : Nat), g < 2 ^ 31 → l < 2 ^ 31 → l < 2 ^ k → zgc (2 * k) (nI g) (nI l) = nI (Nat.gcd g l)
  | 0, g, l, _, _, hk => by
    obtain rfl : l = 0 := by simpa using hk
    rw [Nat.gcd_zero_right]; rfl
  | k + 1, g, l, hg, hl, hk => by
    rw [show 2 * (k + 1) = 2 * k + 1 + 1 by omega]
    unfold zgc
    by_cases h0 : l = 0
    · subst h0
      rw [if_pos (show nI 0 = 0 from rfl), Nat.gcd_zero_right]
    · rw [if_neg (show ¬ nI l = 0 from fun q => h0 (nI_inj hl (by decide) q)), pk_rem hg (by omega) hl]
      have hgl : g % l < l := Nat.mod_lt _ (by omega)
      have e1 : Nat.gcd g l = Nat.gcd l (g % l) := by rw [Nat.gcd_comm g l, Nat.gcd_rec l g, Nat.gcd_comm]
      unfold zgc
      by_cases h1 : g % l = 0
      · rw [h1, if_pos (show nI 0 = 0 from rfl), e1, h1, Nat.gcd_zero_right]
      · rw [if_neg (show ¬ nI (g % l) = 0 from fun q => h1 (nI_inj (by omega) (by decide) q)), pk_rem hl (by omega) (by omega)]
        have h2 : l % (g % l) < g % l := Nat.mod_lt _ (by omega)
        have h3 : l % (g % l) + g % l ≤ l := by
          have a1 := Nat.div_add_mod l (g % l)
          have a2 : 1 ≤ l / (g % l) := (Nat.le_div_iff_mul_le (by omega)).mpr (by omega)
          have a3 : g % l * 1 ≤ g % l * (l / (g % l)) := Nat.mul_le_mul_left _ a2
          omega
        have e2 : Nat.gcd l (g % l) = Nat.gcd (g % l) (l % (g % l)) := by rw [Nat.gcd_comm l, Nat.gcd_rec (g % l) l, Nat.gcd_comm]
        rw [zgc_gcd k (g % l) (l % (g % l)) (by omega) (by omega) (by rw [Nat.pow_succ] at hk; omega), e1, e2]
theorem zpart_mfr {a b : Nat} {u : Bool} (ha : a < 2 ^ 31) (hb : b < 2 ^ 31) (h0 : 0 < b) : zpart (nI a) (nI b) u = nI (mfr a b u) := by
  have e := zgc_gcd 32 a b ha hb (by omega)
  have hg : 0 < Nat.gcd a b := Nat.gcd_pos_of_pos_right a h0
  have hle : Nat.gcd a b ≤ b := Nat.gcd_le_right a h0
  unfold zpart mfr
  rw [show (64 : Nat) = 2 * 32 from rfl, e, if_neg (show ¬ nI (Nat.gcd a b) = 0 from fun q => absurd (show Nat.gcd a b = 0 from nI_inj (by omega) (by decide) q) (by omega))]
  cases u with
  | true => exact pk_div ha hg (by omega)
  | false => exact pk_div hb hg (by omega)
