/-! the reference's line -/
def ML (I I1 : Mem) : Prop := (∀ p, p ≠ 97 → p ≠ 98 → p ≠ 89 → I1 p = I p) ∧ ∀ k, k ≠ 16 → I1 89 k = I 89 k
theorem ML.rf {I : Mem} : ML I I := ⟨fun _ _ _ _ => rfl, fun _ _ => rfl⟩
theorem ML.tr {I I1 I2 : Mem} (h : ML I I1) (k : ML I1 I2) : ML I I2 := ⟨fun p a b c => (k.1 p a b c).trans (h.1 p a b c), fun q hq => (k.2 q hq).trans (h.2 q hq)⟩
theorem ML.pg {I I1 : Mem} (h : ML I I1) {t : Nat} (ht : t ∈ q_pages) : I1 t = I t := by
  have : ∀ t ∈ q_pages, t ≠ 97 ∧ t ≠ 98 ∧ t ≠ 89 := by decide
  obtain ⟨a, b, c⟩ := this t ht
  exact h.1 t a b c
theorem ML.u97 {I I1 : Mem} (h : ML I I1) {k : Nat} {v : Int32} : ML I (upI I1 97 k v) := ⟨fun p a b c => by rw [upI_ne a]; exact h.1 p a b c, fun k hk => by rw [upI_ne (by decide)]; exact h.2 k hk⟩
theorem ML.u98 {I I1 : Mem} (h : ML I I1) {k : Nat} {v : Int32} : ML I (upI I1 98 k v) := ⟨fun p a b c => by rw [upI_ne b]; exact h.1 p a b c, fun k hk => by rw [upI_ne (by decide)]; exact h.2 k hk⟩
theorem ML.u16 {I I1 : Mem} (h : ML I I1) {v : Int32} : ML I (upI I1 89 16 v) := ⟨fun p a b c => by rw [upI_ne c]; exact h.1 p a b c, fun k hk => by rw [upI_tf hk]; exact h.2 k hk⟩
/-- what stands in the row -/
def RW (I : Mem) (l : List Nat) : Prop := I 89 16 = nI l.length ∧ ∀ i, i < l.length → I 97 i = nI (l.getD i 0)
def OP (I : Mem) (l : List Nat) : Prop := ∀ i, i < l.length → I 98 i = nI (l.getD i 0)
theorem OP.add {I : Mem} {l : List Nat} {c : Nat} (h : OP I l) : OP (upI I 98 l.length (nI c)) (l ++ [c]) := fun i hi => by
  by_cases e : i = l.length
  · subst e; rw [upI_tt]; simp [List.getD]
  · have hi2 : i < l.length := by simp at hi; omega
    rw [upI_tf e, h i hi2]; simp [List.getD, List.getElem?_append_left hi2]
theorem OP.ne {I I1 : Mem} {l : List Nat} (h : OP I l) (e : I1 98 = I 98) : OP I1 l := fun i hi => by rw [e]; exact h i hi
theorem OP.lft {I : Mem} {l k : List Nat} (h : OP I (l ++ k)) : OP I l := fun i hi => by
  rw [h i (by simp; omega)]; simp [List.getD, List.getElem?_append_left hi]
theorem RW.ne {I I1 : Mem} {l : List Nat} (h : RW I l) (e : I1 97 = I 97) (e2 : I1 89 16 = I 89 16) : RW I1 l := ⟨by rw [e2]; exact h.1, fun i hi => by rw [e]; exact h.2 i hi⟩
theorem RW.add {I : Mem} {l : List Nat} {c : Nat} {v : Int32} (h : RW I l) (hv : v = nI (l.length + 1)) : RW (upI (upI I 97 l.length (nI c)) 89 16 v) (l ++ [c]) := by
  refine ⟨by rw [upI_tt, hv]; simp, fun i hi => ?_⟩
  rw [upI_ne (by decide)]
  by_cases e : i = l.length
  · subst e; rw [upI_tt]; simp [List.getD]
  · have hi2 : i < l.length := by simp at hi; omega
    rw [upI_tf e, h.2 i hi2]; simp [List.getD, List.getElem?_append_left hi2]
theorem flast_more {ah : Nat → Nat → Bool} {m N : Nat} (h : ∀ j, N ≤ j → m.testBit j = false) : ∀ d, flast ah m (N + d) = flast ah m N
  | 0 => rfl
  | d + 1 => by
    have e := flast_more h (ah := ah) d
    have s : flast ah m (N + d + 1) = match flast ah m (N + d) with
      | none => if m.testBit (N + d) then some (N + d) else none
      | some f => if m.testBit (N + d) && ah f (N + d) then some (N + d) else some f := rfl
    rw [show N + (d + 1) = N + d + 1 from rfl, s, e, h (N + d) (by omega)]
    cases flast ah m N <;> rfl
theorem fpick_more {ah : Nat → Nat → Bool} {m N : Nat} (h : ∀ j, N ≤ j → m.testBit j = false) : ∀ d, fpick ah m (N + d) = fpick ah m N
  | 0 => rfl
  | d + 1 => by
    have e := fpick_more h (ah := ah) d
    have s : fpick ah m (N + d + 1) = match fpick ah m (N + d) with
      | none => if m.testBit (N + d) then some (N + d) else none
      | some f => if m.testBit (N + d) && ah (N + d) f then some (N + d) else some f := rfl
    rw [show N + (d + 1) = N + d + 1 from rfl, s, e, h (N + d) (by omega)]
    cases fpick ah m N <;> rfl
theorem bit_hi {m N j : Nat} (h : m < 2 ^ N) (hj : N ≤ j) : m.testBit j = false := Nat.testBit_lt_two_pow (Nat.lt_of_lt_of_le h (Nat.pow_le_pow_right (by decide) hj))
theorem flast_7 {ah : Nat → Nat → Bool} {m N : Nat} (hN : N ≤ 7) (h : m < 2 ^ N) : flast ah m N = flast ah m 7 := by
  have := flast_more (ah := ah) (fun j hj => bit_hi h hj) (7 - N)
  rw [show N + (7 - N) = 7 by omega] at this
  exact this.symm
theorem fpick_7 {ah : Nat → Nat → Bool} {m N : Nat} (hN : N ≤ 7) (h : m < 2 ^ N) : fpick ah m N = fpick ah m 7 := by
  have := fpick_more (ah := ah) (fun j hj => bit_hi h hj) (7 - N)
  rw [show N + (7 - N) = 7 by omega] at this
  exact this.symm
theorem upI_upI_ne {I : Mem} {a b : Nat} {k j : Nat} {v u : Int32} (h : a ≠ b) : (upI (upI I a k v) b j u) a = (upI I a k v) a := upI_ne h
abbrev mpr (I : Mem) (t : Nat) : Nat → Int32 := fun k => I t (7 + k)
abbrev mw (I : Mem) (t : Nat) : Nat → Bool := fun k => zbit (I t 14) (nI k)
abbrev mag (I : Mem) (t : Nat) : Nat → Int32 := fun k => I t (15 + k)
abbrev mkl (I : Mem) (t N : Nat) (tie : Int32) : Nat → List Nat := skl N (mpr I t) (mw I t) (mag I t) tie
set_option maxHeartbeats 4000000 in
set_option maxRecDepth 100000 in
theorem l_lay_pick {I : Mem} {J : Lng} {t N : Nat} (ht : t ∈ q_pages) (hN : I t 6 = nI N) (h7 : N ≤ 7) {tie fr : Int32} {Z : List Nat} {I1 : Mem} (hM : ML I I1) {left : Nat} (hl : left < 2 ^ N) {v4 v5 v7 : Int32} : ∀ (r k : Nat), N - k = r → k ≤ N → (∀ x9 : Option Value, q_w yX10_layLine.cls yX10_layLine.name cX10_layLine 10 .return_ 2 (fun st I2 J1 => st = [] ∧ ((none : Option Value) = none ∧ J1 = J ∧ ML I I2 ∧ RW I2 Z)) 148 [some (.ref 89), some (.ref t), some (.int fr), some (.int tie), some (.int (v4)), some (.int (v5)), some (.int (nI left)), some (.int (v7)), some (.int (oI (flast (fah (mw I t) (mag I t) tie) left N))), x9] [] (I1) (J)) → q_w yX10_layLine.cls yX10_layLine.name cX10_layLine 10 .return_ 2 (fun st I2 J1 => st = [] ∧ ((none : Option Value) = none ∧ J1 = J ∧ ML I I2 ∧ RW I2 Z)) 94 [some (.ref 89), some (.ref t), some (.int fr), some (.int tie), some (.int (v4)), some (.int (v5)), some (.int (nI left)), some (.int (v7)), some (.int (oI (flast (fah (mw I t) (mag I t) tie) left k))), some (.int (nI k))] [] (I1) (J) := by
  have hp := SH_page ht
  have hl7 : left < 128 := p2_128 h7 hl
  have hpg : I1 t = I t := hM.pg ht
  have hN1 : I1 t 6 = nI N := by rw [hpg]; exact hN
  intro r
  induction r with
  | zero =>
    intro k hr hk K
    obtain rfl : k = N := by omega
    refine w_iload dX10_layLine_94 rfl ?_
    refine w_aload_n dX10_layLine_96 rfl ?_
    refine w_bipush (v := 6) dX10_layLine_97 (by decide) ?_
    refine w_iald (j := 6) dX10_layLine_99 (by first | assumption | rfl) rfl rfl (by decide) (by decide) ?_
    refine w_icmp_ge (tgt := 148) dX10_layLine_100 (by decide) (fun c_100 => ?_) (fun c_100 => absurd (by rw [hN1]; exact Int32.le_refl _) c_100)
    exact K _
  | succ r ih =>
    intro k hr hk K
    have hk7 : k < 7 := by omega
    have hh := c_X10_has (I := I1) (J := J) (s := nI left) (k := nI k)
    rw [mI_bit left hl7 k hk7] at hh
    have hs : flast (fah (mw I t) (mag I t) tie) left (k + 1) = match flast (fah (mw I t) (mag I t) tie) left k with
      | none => if left.testBit k then some k else none
      | some f => if left.testBit k && fah (mw I t) (mag I t) tie f k then some k else some f := rfl
    cases hf : flast (fah (mw I t) (mag I t) tie) left k with
    | none =>
      rw [hf] at hs
      dsimp only at hs
      refine w_iload dX10_layLine_94 rfl ?_
      refine w_aload_n dX10_layLine_96 rfl ?_
      refine w_bipush (v := 6) dX10_layLine_97 (by decide) ?_
      refine w_iald (j := 6) dX10_layLine_99 (by first | assumption | rfl) rfl rfl (by decide) (by decide) ?_
      refine w_icmp_ge (tgt := 148) dX10_layLine_100 (by decide) (fun c_100 => absurd c_100 (by rw [hN1]; exact nI_ge (by omega) (by omega))) (fun c_100 => ?_)
      refine w_iload dX10_layLine_103 rfl ?_
      refine w_iload dX10_layLine_105 rfl ?_
      refine w_callSi dX10_layLine_107 k_X10_82 (hh) rfl rfl rfl (Nat.le_of_ble_eq_true rfl) (by first | decide | omega) ?_
      refine w_if_eq (tgt := 138) dX10_layLine_110 (by decide) (fun c_110 => ?_) (fun c_110 => ?_)
      · refine w_iload dX10_layLine_138 rfl ?_
        refine w_istore dX10_layLine_140 (by decide) rfl ?_
        refine w_iincv (c := 1) dX10_layLine_142 (by decide) rfl (by decide) rfl ?_
        refine w_goto (tgt := 94) dX10_layLine_145 (by decide) ?_
        have hb : left.testBit k = false := zB_eq0.mp c_110
        rw [hb] at hs
        have hs2 : flast (fah (mw I t) (mag I t) tie) left (k + 1) = none := hs
        have := ih (k + 1) (by omega) (by omega) K
        rw [hs2] at this
        rw [nI_1]
        exact this
      · refine w_iload dX10_layLine_113 rfl ?_
        refine w_bipush (v := (-9)) dX10_layLine_115 (by decide) ?_
        refine w_icmp_eq (tgt := 133) dX10_layLine_117 (by decide) (fun c_117 => ?_) (fun c_117 => absurd (show oI none = (-9 : Int32) from rfl) c_117)
        refine w_iload dX10_layLine_133 rfl ?_
        refine w_goto (tgt := 140) dX10_layLine_135 (by decide) ?_
        refine w_istore dX10_layLine_140 (by decide) rfl ?_
        refine w_iincv (c := 1) dX10_layLine_142 (by decide) rfl (by decide) rfl ?_
        refine w_goto (tgt := 94) dX10_layLine_145 (by decide) ?_
        have hb : left.testBit k = true := by simpa [zB_eq0] using c_110
        rw [hb] at hs
        have hs2 : flast (fah (mw I t) (mag I t) tie) left (k + 1) = some k := hs
        have := ih (k + 1) (by omega) (by omega) K
        rw [hs2] at this
        rw [nI_1]
        exact this
    | some f =>
      rw [hf] at hs
      dsimp only at hs
      obtain ⟨hfk, hfb⟩ := flast_in hf
      have hah := c_X10_isAhead (I := I1) (J := J) (a := f) (b := k) ht (by omega) hk7 (tie := tie)
      rw [hpg] at hah
      have hah2 : q_E yX10_isAhead cX10_isAhead 8 (some .boolean) 1 [.ref 89, .ref t, .int (nI f), .int (nI k), .int tie] I1 J (some (.int (zB (fah (mw I t) (mag I t) tie f k)))) I1 J := hah
      refine w_iload dX10_layLine_94 rfl ?_
      refine w_aload_n dX10_layLine_96 rfl ?_
      refine w_bipush (v := 6) dX10_layLine_97 (by decide) ?_
      refine w_iald (j := 6) dX10_layLine_99 (by first | assumption | rfl) rfl rfl (by decide) (by decide) ?_
      refine w_icmp_ge (tgt := 148) dX10_layLine_100 (by decide) (fun c_100 => absurd c_100 (by rw [hN1]; exact nI_ge (by omega) (by omega))) (fun c_100 => ?_)
      refine w_iload dX10_layLine_103 rfl ?_
      refine w_iload dX10_layLine_105 rfl ?_
      refine w_callSi dX10_layLine_107 k_X10_82 (hh) rfl rfl rfl (Nat.le_of_ble_eq_true rfl) (by first | decide | omega) ?_
      refine w_if_eq (tgt := 138) dX10_layLine_110 (by decide) (fun c_110 => ?_) (fun c_110 => ?_)
      · refine w_iload dX10_layLine_138 rfl ?_
        refine w_istore dX10_layLine_140 (by decide) rfl ?_
        refine w_iincv (c := 1) dX10_layLine_142 (by decide) rfl (by decide) rfl ?_
        refine w_goto (tgt := 94) dX10_layLine_145 (by decide) ?_
        have hb : left.testBit k = false := zB_eq0.mp c_110
        rw [hb, Bool.false_and] at hs
        have hs2 : flast (fah (mw I t) (mag I t) tie) left (k + 1) = some f := hs
        have := ih (k + 1) (by omega) (by omega) K
        rw [hs2] at this
        rw [nI_1]
        exact this
      · refine w_iload dX10_layLine_113 rfl ?_
        refine w_bipush (v := (-9)) dX10_layLine_115 (by decide) ?_
        refine w_icmp_eq (tgt := 133) dX10_layLine_117 (by decide) (fun c_117 => absurd c_117 (nI_ne9 (by omega))) (fun c_117 => ?_)
        refine w_aload_n dX10_layLine_120 rfl ?_
        refine w_aload_n dX10_layLine_121 rfl ?_
        refine w_iload dX10_layLine_122 rfl ?_
        refine w_iload dX10_layLine_124 rfl ?_
        refine w_iload_n dX10_layLine_126 rfl ?_
        refine w_callVi dX10_layLine_127 k_X10_93 (by first | assumption | rfl) rfl (hah2) rfl rfl rfl (Nat.le_of_ble_eq_true rfl) (by first | decide | omega) ?_
        refine w_if_eq (tgt := 138) dX10_layLine_130 (by decide) (fun c_130 => ?_) (fun c_130 => ?_)
        · refine w_iload dX10_layLine_138 rfl ?_
          refine w_istore dX10_layLine_140 (by decide) rfl ?_
          refine w_iincv (c := 1) dX10_layLine_142 (by decide) rfl (by decide) rfl ?_
          refine w_goto (tgt := 94) dX10_layLine_145 (by decide) ?_
          have hb : fah (mw I t) (mag I t) tie f k = false := zB_eq0.mp c_130
          rw [hb, Bool.and_false] at hs
          have hs2 : flast (fah (mw I t) (mag I t) tie) left (k + 1) = some f := hs
          have := ih (k + 1) (by omega) (by omega) K
          rw [hs2] at this
          rw [nI_1]
          exact this
        · refine w_iload dX10_layLine_133 rfl ?_
          refine w_goto (tgt := 140) dX10_layLine_135 (by decide) ?_
          refine w_istore dX10_layLine_140 (by decide) rfl ?_
          refine w_iincv (c := 1) dX10_layLine_142 (by decide) rfl (by decide) rfl ?_
          refine w_goto (tgt := 94) dX10_layLine_145 (by decide) ?_
          have hb : left.testBit k = true := by simpa [zB_eq0] using c_110
          have hb2 : fah (mw I t) (mag I t) tie f k = true := by simpa [zB_eq0] using c_130
          rw [hb, hb2] at hs
          have hs2 : flast (fah (mw I t) (mag I t) tie) left (k + 1) = some k := hs
          have := ih (k + 1) (by omega) (by omega) K
          rw [hs2] at this
          rw [nI_1]
          exact this
theorem flast_bit {ah : Nat → Nat → Bool} {m : Nat} (hm : m < 128) (h0 : m ≠ 0) : ∃ c, flast ah m 7 = some c ∧ c < 7 ∧ m.testBit c = true := by
  cases h : flast ah m 7 with
  | none => exact absurd (m_0 hm (flast_none h)) h0
  | some c => exact ⟨c, rfl, flast_in h⟩
set_option maxHeartbeats 4000000 in
set_option maxRecDepth 100000 in
theorem l_lay_push {I : Mem} {J : Lng} {t N : Nat} (ht : t ∈ q_pages) (hN : I t 6 = nI N) (h7 : N ≤ 7) {tie fr : Int32} {Z : List Nat} {l : List Nat} {v4 v5 : Int32} : ∀ (f left : Nat) (op : List Nat) (I1 : Mem) (x8 x9 : Option Value), left < 2 ^ N → pop left ≤ f → op.length + (fsel (fun m => flast (fah (mw I t) (mag I t) tie) m 7) f left).length ≤ 8 → ML I I1 → RW I1 l → OP I1 op → (∀ (I2 : Mem) (x6 x8 x9 : Option Value), ML I I2 → RW I2 l → OP I2 (op ++ fsel (fun m => flast (fah (mw I t) (mag I t) tie) m 7) f left) → q_w yX10_layLine.cls yX10_layLine.name cX10_layLine 10 .return_ 2 (fun st I2 J1 => st = [] ∧ ((none : Option Value) = none ∧ J1 = J ∧ ML I I2 ∧ RW I2 Z)) 174 [some (.ref 89), some (.ref t), some (.int fr), some (.int tie), some (.int (v4)), some (.int (v5)), x6, some (.int (nI (op ++ fsel (fun m => flast (fah (mw I t) (mag I t) tie) m 7) f left).length)), x8, x9] [] (I2) (J)) → q_w yX10_layLine.cls yX10_layLine.name cX10_layLine 10 .return_ 2 (fun st I2 J1 => st = [] ∧ ((none : Option Value) = none ∧ J1 = J ∧ ML I I2 ∧ RW I2 Z)) 82 [some (.ref 89), some (.ref t), some (.int fr), some (.int tie), some (.int (v4)), some (.int (v5)), some (.int (nI left)), some (.int (nI op.length)), x8, x9] [] (I1) (J) := by
  have hp := SH_page ht
  intro f
  induction f with
  | zero =>
    intro left op I1 x8 x9 hl hpp hln hM hR hO K
    have hl7 : left < 128 := p2_128 h7 hl
    have h0 : left = 0 := m_0 hl7 (fun j hj => by
      cases hb : left.testBit j with
      | false => rfl
      | true => exact absurd (show pop left = 0 by omega) (pop_0 left hl7 j hj hb))
    subst h0
    have K2 := K I1 (some (.int (nI 0))) x8 x9 hM hR (by rw [show fsel (fun m => flast (fah (mw I t) (mag I t) tie) m 7) 0 0 = [] from rfl, List.append_nil]; exact hO)
    rw [show fsel (fun m => flast (fah (mw I t) (mag I t) tie) m 7) 0 0 = [] from rfl, List.append_nil] at K2
    refine w_iload dX10_layLine_82 rfl ?_
    refine w_if_eq (tgt := 174) dX10_layLine_84 (by decide) (fun c_84 => ?_) (fun c_84 => absurd (rfl : nI 0 = (0 : Int32)) c_84)
    exact K2
  | succ f ih =>
    intro left op I1 x8 x9 hl hpp hln hM hR hO K
    have hl7 : left < 128 := p2_128 h7 hl
    by_cases h0 : left = 0
    · subst h0
      have hfl : flast (fah (mw I t) (mag I t) tie) 0 7 = none := by
        cases h : flast (fah (mw I t) (mag I t) tie) 0 7 with
        | none => rfl
        | some c => have := (flast_in h).2; rw [Nat.zero_testBit] at this; cases this
      have hse : fsel (fun m => flast (fah (mw I t) (mag I t) tie) m 7) (f + 1) 0 = [] := by
        unfold fsel
        rw [hfl]
      have K2 := K I1 (some (.int (nI 0))) x8 x9 hM hR (by rw [hse, List.append_nil]; exact hO)
      rw [hse, List.append_nil] at K2
      refine w_iload dX10_layLine_82 rfl ?_
      refine w_if_eq (tgt := 174) dX10_layLine_84 (by decide) (fun c_84 => ?_) (fun c_84 => absurd (rfl : nI 0 = (0 : Int32)) c_84)
      exact K2
    · obtain ⟨c, hc, hc7, hcb⟩ := flast_bit (ah := fah (mw I t) (mag I t) tie) hl7 h0
      have hse : fsel (fun m => flast (fah (mw I t) (mag I t) tie) m 7) (f + 1) left = c :: fsel (fun m => flast (fah (mw I t) (mag I t) tie) m 7) f (mclr left c) := by
        show (match flast (fah (mw I t) (mag I t) tie) left 7 with
          | none => []
          | some c => c :: fsel (fun m => flast (fah (mw I t) (mag I t) tie) m 7) f (mclr left c)) = _
        rw [hc]
      have hcn : c < N := p2_bit hl hcb
      rw [hse] at hln K
      simp only [List.length_cons] at hln
      refine w_iload dX10_layLine_82 rfl ?_
      refine w_if_eq (tgt := 174) dX10_layLine_84 (by decide) (fun c_84 => absurd c_84 (fun e => h0 (nI_inj (b := 0) (by omega) (by decide) e))) (fun c_84 => ?_)
      refine w_bipush (v := (-9)) dX10_layLine_87 (by decide) ?_
      refine w_istore dX10_layLine_89 (by decide) rfl ?_
      refine w_iconst (v := 0) dX10_layLine_91 (by decide) ?_
      refine w_istore dX10_layLine_92 (by decide) rfl ?_
      refine l_lay_pick ht hN h7 hM hl N 0 rfl (Nat.zero_le _) (fun x9 => ?_)
      rw [flast_7 h7 hl, hc]
      show q_w yX10_layLine.cls yX10_layLine.name cX10_layLine 10 .return_ 2 (fun st I2 J1 => st = [] ∧ ((none : Option Value) = none ∧ J1 = J ∧ ML I I2 ∧ RW I2 Z)) 148 [some (.ref 89), some (.ref t), some (.int fr), some (.int tie), some (.int (v4)), some (.int (v5)), some (.int (nI left)), some (.int (nI op.length)), some (.int (nI c)), x9] [] (I1) (J)
      refine w_iload dX10_layLine_148 rfl ?_
      refine w_iconst (v := 1) dX10_layLine_150 (by decide) ?_
      refine w_iload dX10_layLine_151 rfl ?_
      refine w_ishl dX10_layLine_153 ?_
      refine w_iconst (v := (-1)) dX10_layLine_154 (by decide) ?_
      refine w_ixor dX10_layLine_155 ?_
      refine w_iand dX10_layLine_156 ?_
      rw [mI_clr left hl7 c hc7]
      refine w_istore dX10_layLine_157 (by decide) rfl ?_
      refine w_aload_n dX10_layLine_159 rfl ?_
      refine w_getR dX10_layLine_160 f_X10_35 (by first | assumption | rfl) rfl rfl ?_
      refine w_iload dX10_layLine_163 rfl ?_
      refine w_iload dX10_layLine_165 rfl ?_
      refine w_iast (j := op.length) dX10_layLine_167 (by first | assumption | rfl) rfl rfl (show op.length < 8 by omega) (by decide) ?_
      refine w_iincv (c := 1) dX10_layLine_168 (by decide) rfl (by decide) rfl ?_
      refine w_goto (tgt := 82) dX10_layLine_171 (by decide) ?_
      rw [nI_1, show op.length + 1 = (op ++ [c]).length by simp]
      exact ih (mclr left c) (op ++ [c]) _ _ _ (Nat.lt_of_le_of_lt (mclr_le _ _) hl) (by have := pop_clr left hl7 c hc7 hcb; omega) (by simp; omega) hM.u98 (hR.ne (upI_ne (by decide)) (by rw [upI_ne (by decide)])) hO.add (fun I2 x6 x8 x9 a b d => by have := K I2 x6 x8 x9 a b (by rw [List.append_assoc] at d; exact d); rw [List.append_assoc]; exact this)
