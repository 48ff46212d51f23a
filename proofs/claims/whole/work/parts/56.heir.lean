set_option maxHeartbeats 4000000 in
set_option maxRecDepth 100000 in
theorem l_heir_pick {I : Mem} {J : Lng} {t N m : Nat} (ht : t ∈ q_pages) (hN : I t 6 = nI N) (h7 : N ≤ 7) (hv : FP N (mpr I t)) (h0 : I t 0 = nI m) (hm : m < 128) {tie : Int32} {j : Nat} (hj : j < N) {Z : Option Nat} {I1 : Mem} (hM : ML I I1) {left : Nat} (hl : left < 2 ^ N) {v4 : Int32} : ∀ (r k : Nat), N - k = r → k ≤ N → (∀ x7 : Option Value, q_w yX10_heirOf.cls yX10_heirOf.name cX10_heirOf 8 .ireturn 3 (fun st I2 J1 => ∃ v : Int32, st = [.int v] ∧ (some (Value.int v) = some (.int (oI Z)) ∧ J1 = J ∧ ML I I2)) 85 [some (.ref 89), some (.ref t), some (.int (nI j)), some (.int (tie)), some (.int (v4)), some (.int (nI left)), some (.int (oI (fpick (fah (mw I t) (mag I t) tie) left N))), x7] [] (I1) (J)) → q_w yX10_heirOf.cls yX10_heirOf.name cX10_heirOf 8 .ireturn 3 (fun st I2 J1 => ∃ v : Int32, st = [.int v] ∧ (some (Value.int v) = some (.int (oI Z)) ∧ J1 = J ∧ ML I I2)) 31 [some (.ref 89), some (.ref t), some (.int (nI j)), some (.int (tie)), some (.int (v4)), some (.int (nI left)), some (.int (oI (fpick (fah (mw I t) (mag I t) tie) left k))), some (.int (nI k))] [] (I1) (J) := by
  have hp := SH_page ht
  have hl7 : left < 128 := p2_128 h7 hl
  have hpg : I1 t = I t := hM.pg ht
  have hN1 : I1 t 6 = nI N := by rw [hpg]; exact hN
  intro r
  induction r with
  | zero =>
    intro k hr hk K
    obtain rfl : k = N := by omega
    refine w_iload dX10_heirOf_31 rfl ?_
    refine w_aload_n dX10_heirOf_33 rfl ?_
    refine w_bipush (v := 6) dX10_heirOf_34 (by decide) ?_
    refine w_iald (j := 6) dX10_heirOf_36 (by first | assumption | rfl) rfl rfl (by decide) (by decide) ?_
    refine w_icmp_ge (tgt := 85) dX10_heirOf_37 (by decide) (fun c_37 => ?_) (fun c_37 => absurd (by rw [hN1]; exact Int32.le_refl _) c_37)
    exact K _
  | succ r ih =>
    intro k hr hk K
    have hk7 : k < 7 := by omega
    have hh := c_X10_has (I := I1) (J := J) (s := nI left) (k := nI k)
    rw [mI_bit left hl7 k hk7] at hh
    have hs : fpick (fah (mw I t) (mag I t) tie) left (k + 1) = match fpick (fah (mw I t) (mag I t) tie) left k with
      | none => if left.testBit k then some k else none
      | some f => if left.testBit k && fah (mw I t) (mag I t) tie k f then some k else some f := rfl
    cases hf : fpick (fah (mw I t) (mag I t) tie) left k with
    | none =>
      rw [hf] at hs
      dsimp only at hs
      refine w_iload dX10_heirOf_31 rfl ?_
      refine w_aload_n dX10_heirOf_33 rfl ?_
      refine w_bipush (v := 6) dX10_heirOf_34 (by decide) ?_
      refine w_iald (j := 6) dX10_heirOf_36 (by first | assumption | rfl) rfl rfl (by decide) (by decide) ?_
      refine w_icmp_ge (tgt := 85) dX10_heirOf_37 (by decide) (fun c_37 => absurd c_37 (by rw [hN1]; exact nI_ge (by omega) (by omega))) (fun c_37 => ?_)
      refine w_iload dX10_heirOf_40 rfl ?_
      refine w_iload dX10_heirOf_42 rfl ?_
      refine w_callSi dX10_heirOf_44 k_X10_82 (hh) rfl rfl rfl (Nat.le_of_ble_eq_true rfl) (by first | decide | omega) ?_
      refine w_if_eq (tgt := 75) dX10_heirOf_47 (by decide) (fun c_47 => ?_) (fun c_47 => ?_)
      · refine w_iload dX10_heirOf_75 rfl ?_
        refine w_istore dX10_heirOf_77 (by decide) rfl ?_
        refine w_iincv (c := 1) dX10_heirOf_79 (by decide) rfl (by decide) rfl ?_
        refine w_goto (tgt := 31) dX10_heirOf_82 (by decide) ?_
        have hb : left.testBit k = false := zB_eq0.mp c_47
        rw [hb] at hs
        have hs2 : fpick (fah (mw I t) (mag I t) tie) left (k + 1) = none := hs
        have := ih (k + 1) (by omega) (by omega) K
        rw [hs2] at this
        rw [nI_1]
        exact this
      · refine w_iload dX10_heirOf_50 rfl ?_
        refine w_bipush (v := (-9)) dX10_heirOf_52 (by decide) ?_
        refine w_icmp_eq (tgt := 70) dX10_heirOf_54 (by decide) (fun c_54 => ?_) (fun c_54 => absurd (show oI none = (-9 : Int32) from rfl) c_54)
        refine w_iload dX10_heirOf_70 rfl ?_
        refine w_goto (tgt := 77) dX10_heirOf_72 (by decide) ?_
        refine w_istore dX10_heirOf_77 (by decide) rfl ?_
        refine w_iincv (c := 1) dX10_heirOf_79 (by decide) rfl (by decide) rfl ?_
        refine w_goto (tgt := 31) dX10_heirOf_82 (by decide) ?_
        have hb : left.testBit k = true := by simpa [zB_eq0] using c_47
        rw [hb] at hs
        have hs2 : fpick (fah (mw I t) (mag I t) tie) left (k + 1) = some k := hs
        have := ih (k + 1) (by omega) (by omega) K
        rw [hs2] at this
        rw [nI_1]
        exact this
    | some f =>
      rw [hf] at hs
      dsimp only at hs
      obtain ⟨hfk, hfb⟩ := fpick_in hf
      have hah := c_X10_isAhead (I := I1) (J := J) (a := k) (b := f) ht hk7 (by omega) (tie := tie)
      rw [hpg] at hah
      have hah2 : q_E yX10_isAhead cX10_isAhead 8 (some .boolean) 1 [.ref 89, .ref t, .int (nI k), .int (nI f), .int tie] I1 J (some (.int (zB (fah (mw I t) (mag I t) tie k f)))) I1 J := hah
      refine w_iload dX10_heirOf_31 rfl ?_
      refine w_aload_n dX10_heirOf_33 rfl ?_
      refine w_bipush (v := 6) dX10_heirOf_34 (by decide) ?_
      refine w_iald (j := 6) dX10_heirOf_36 (by first | assumption | rfl) rfl rfl (by decide) (by decide) ?_
      refine w_icmp_ge (tgt := 85) dX10_heirOf_37 (by decide) (fun c_37 => absurd c_37 (by rw [hN1]; exact nI_ge (by omega) (by omega))) (fun c_37 => ?_)
      refine w_iload dX10_heirOf_40 rfl ?_
      refine w_iload dX10_heirOf_42 rfl ?_
      refine w_callSi dX10_heirOf_44 k_X10_82 (hh) rfl rfl rfl (Nat.le_of_ble_eq_true rfl) (by first | decide | omega) ?_
      refine w_if_eq (tgt := 75) dX10_heirOf_47 (by decide) (fun c_47 => ?_) (fun c_47 => ?_)
      · refine w_iload dX10_heirOf_75 rfl ?_
        refine w_istore dX10_heirOf_77 (by decide) rfl ?_
        refine w_iincv (c := 1) dX10_heirOf_79 (by decide) rfl (by decide) rfl ?_
        refine w_goto (tgt := 31) dX10_heirOf_82 (by decide) ?_
        have hb : left.testBit k = false := zB_eq0.mp c_47
        rw [hb, Bool.false_and] at hs
        have hs2 : fpick (fah (mw I t) (mag I t) tie) left (k + 1) = some f := hs
        have := ih (k + 1) (by omega) (by omega) K
        rw [hs2] at this
        rw [nI_1]
        exact this
      · refine w_iload dX10_heirOf_50 rfl ?_
        refine w_bipush (v := (-9)) dX10_heirOf_52 (by decide) ?_
        refine w_icmp_eq (tgt := 70) dX10_heirOf_54 (by decide) (fun c_54 => absurd c_54 (nI_ne9 (by omega))) (fun c_54 => ?_)
        refine w_aload_n dX10_heirOf_57 rfl ?_
        refine w_aload_n dX10_heirOf_58 rfl ?_
        refine w_iload dX10_heirOf_59 rfl ?_
        refine w_iload dX10_heirOf_61 rfl ?_
        refine w_iload_n dX10_heirOf_63 rfl ?_
        refine w_callVi dX10_heirOf_64 k_X10_93 (by first | assumption | rfl) rfl (hah2) rfl rfl rfl (Nat.le_of_ble_eq_true rfl) (by first | decide | omega) ?_
        refine w_if_eq (tgt := 75) dX10_heirOf_67 (by decide) (fun c_67 => ?_) (fun c_67 => ?_)
        · refine w_iload dX10_heirOf_75 rfl ?_
          refine w_istore dX10_heirOf_77 (by decide) rfl ?_
          refine w_iincv (c := 1) dX10_heirOf_79 (by decide) rfl (by decide) rfl ?_
          refine w_goto (tgt := 31) dX10_heirOf_82 (by decide) ?_
          have hb : fah (mw I t) (mag I t) tie k f = false := zB_eq0.mp c_67
          rw [hb, Bool.and_false] at hs
          have hs2 : fpick (fah (mw I t) (mag I t) tie) left (k + 1) = some f := hs
          have := ih (k + 1) (by omega) (by omega) K
          rw [hs2] at this
          rw [nI_1]
          exact this
        · refine w_iload dX10_heirOf_70 rfl ?_
          refine w_goto (tgt := 77) dX10_heirOf_72 (by decide) ?_
          refine w_istore dX10_heirOf_77 (by decide) rfl ?_
          refine w_iincv (c := 1) dX10_heirOf_79 (by decide) rfl (by decide) rfl ?_
          refine w_goto (tgt := 31) dX10_heirOf_82 (by decide) ?_
          have hb : left.testBit k = true := by simpa [zB_eq0] using c_47
          have hb2 : fah (mw I t) (mag I t) tie k f = true := by simpa [zB_eq0] using c_67
          rw [hb, hb2] at hs
          have hs2 : fpick (fah (mw I t) (mag I t) tie) left (k + 1) = some k := hs
          have := ih (k + 1) (by omega) (by omega) K
          rw [hs2] at this
          rw [nI_1]
          exact this
theorem oI_ne9 {o : Option Nat} (h : ∀ x, o = some x → x < 7) (hn : oI o = -9) : o = none := by
  cases o with
  | none => rfl
  | some x => exact absurd hn (nI_ne9 (by have := h x rfl; omega))
theorem ford_0 (ah : Nat → Nat → Bool) (f : Nat) : ford ah f 0 = [] := by
  cases f with
  | zero => rfl
  | succ f =>
    have : fpick ah 0 7 = none := fpick_none.mpr (fun j _ => Nat.zero_testBit j)
    unfold ford
    rw [this]
theorem find_lt {l : List Nat} {P : Nat → Bool} (h : ∀ x, x ∈ l → x < 7) : ∀ x, l.find? P = some x → x < 7 := fun x hx => h x (List.mem_of_find?_eq_some hx)
set_option maxHeartbeats 4000000 in
set_option maxRecDepth 100000 in
theorem l_heir_kids {I : Mem} {J : Lng} {t N m : Nat} (ht : t ∈ q_pages) (hN : I t 6 = nI N) (h7 : N ≤ 7) (hv : FP N (mpr I t)) (h0 : I t 0 = nI m) (hm : m < 128) {tie : Int32} {j : Nat} (hj : j < N) {Z : Option Nat} : ∀ (f left : Nat) (o : Option Nat) (I1 : Mem) (x6 x7 : Option Value), left < 2 ^ N → pop left ≤ f → (∀ x, o = some x → x < 7) → ML I I1 → (∀ (I2 : Mem) (v5 : Int32) (x6 x7 : Option Value), ML I I2 → q_w yX10_heirOf.cls yX10_heirOf.name cX10_heirOf 8 .ireturn 3 (fun st I2 J1 => ∃ v : Int32, st = [.int v] ∧ (some (Value.int v) = some (.int (oI Z)) ∧ J1 = J ∧ ML I I2)) 117 [some (.ref 89), some (.ref t), some (.int (nI j)), some (.int (tie)), some (.int (oI (o.or (((ford (fah (mw I t) (mag I t) tie) f left).flatMap (dft (mkl I t N tie) (sno (mw I t) tie) 7)).find? (ffo m j))))), some (.int (v5)), x6, x7] [] (I2) (J)) → q_w yX10_heirOf.cls yX10_heirOf.name cX10_heirOf 8 .ireturn 3 (fun st I2 J1 => ∃ v : Int32, st = [.int v] ∧ (some (Value.int v) = some (.int (oI Z)) ∧ J1 = J ∧ ML I I2)) 12 [some (.ref 89), some (.ref t), some (.int (nI j)), some (.int (tie)), some (.int (oI o)), some (.int (nI left)), x6, x7] [] (I1) (J) := by
  have hp := SH_page ht
  have hT : TK (mkl I t N tie) := skl_TK h7 hv
  have hDlt : ∀ c, c < 7 → ∀ x, x ∈ dft (mkl I t N tie) (sno (mw I t) tie) 7 c → x < 7 := fun c hc x hx => (dft_ge hT 7 c x hc hx).2
  have hDlen : ∀ c, c < 7 → (dft (mkl I t N tie) (sno (mw I t) tie) 7 c).length ≤ 7 := fun c hc => dft_len hT 7 hc
  intro f
  induction f with
  | zero =>
    intro left o I1 x6 x7 hl hpp ho hM K
    have hl7 : left < 128 := p2_128 h7 hl
    have hz : left = 0 := m_0 hl7 (fun j hj => by
      cases hb : left.testBit j with
      | false => rfl
      | true => exact absurd (show pop left = 0 by omega) (pop_0 left hl7 j hj hb))
    subst hz
    have K2 := K I1 (nI 0) x6 x7 hM
    rw [ford_0, List.flatMap_nil, List.find?_nil, Option.or_none] at K2
    refine w_iload dX10_heirOf_12 rfl ?_
    refine w_if_eq (tgt := 117) dX10_heirOf_14 (by decide) (fun c_14 => ?_) (fun c_14 => absurd (rfl : nI 0 = (0 : Int32)) c_14)
    exact K2
  | succ f ih =>
    intro left o I1 x6 x7 hl hpp ho hM K
    have hl7 : left < 128 := p2_128 h7 hl
    by_cases hz : left = 0
    · subst hz
      have K2 := K I1 (nI 0) x6 x7 hM
      rw [ford_0, List.flatMap_nil, List.find?_nil, Option.or_none] at K2
      refine w_iload dX10_heirOf_12 rfl ?_
      refine w_if_eq (tgt := 117) dX10_heirOf_14 (by decide) (fun c_14 => ?_) (fun c_14 => absurd (rfl : nI 0 = (0 : Int32)) c_14)
      exact K2
    · cases o with
      | some y =>
        have K2 := K I1 (nI left) x6 x7 hM
        rw [Option.some_or] at K2
        have hy := ho y rfl
        refine w_iload dX10_heirOf_12 rfl ?_
        refine w_if_eq (tgt := 117) dX10_heirOf_14 (by decide) (fun c_14 => absurd c_14 (fun e => hz (nI_inj (b := 0) (by omega) (by decide) e))) (fun c_14 => ?_)
        refine w_iload dX10_heirOf_17 rfl ?_
        refine w_bipush (v := (-9)) dX10_heirOf_19 (by decide) ?_
        refine w_icmp_ne (tgt := 117) dX10_heirOf_21 (by decide) (fun c_21 => ?_) (fun c_21 => absurd c_21 (nI_ne9 (by omega)))
        exact K2
      | none =>
        obtain ⟨c, hc⟩ : ∃ c, fpick (fah (mw I t) (mag I t) tie) left 7 = some c := by
          cases h : fpick (fah (mw I t) (mag I t) tie) left 7 with
          | none => exact absurd (m_0 hl7 (fpick_none.mp h)) hz
          | some c => exact ⟨c, rfl⟩
        obtain ⟨hc7, hcb⟩ := fpick_in hc
        have hcn : c < N := p2_bit hl hcb
        have hse : ford (fah (mw I t) (mag I t) tie) (f + 1) left = c :: ford (fah (mw I t) (mag I t) tie) f (mclr left c) := by
          show (match fpick (fah (mw I t) (mag I t) tie) left 7 with
            | none => []
            | some c => c :: ford (fah (mw I t) (mag I t) tie) f (mclr left c)) = _
          rw [hc]
        rw [hse] at K
        refine w_iload dX10_heirOf_12 rfl ?_
        refine w_if_eq (tgt := 117) dX10_heirOf_14 (by decide) (fun c_14 => absurd c_14 (fun e => hz (nI_inj (b := 0) (by omega) (by decide) e))) (fun c_14 => ?_)
        refine w_iload dX10_heirOf_17 rfl ?_
        refine w_bipush (v := (-9)) dX10_heirOf_19 (by decide) ?_
        refine w_icmp_ne (tgt := 117) dX10_heirOf_21 (by decide) (fun c_21 => absurd c_21 (fun q => q rfl)) (fun c_21 => ?_)
        refine w_bipush (v := (-9)) dX10_heirOf_24 (by decide) ?_
        refine w_istore dX10_heirOf_26 (by decide) rfl ?_
        refine w_iconst (v := 0) dX10_heirOf_28 (by decide) ?_
        refine w_istore dX10_heirOf_29 (by decide) rfl ?_
        refine l_heir_pick ht hN h7 hv h0 hm hj hM hl N 0 rfl (Nat.zero_le _) (fun x7 => ?_)
        rw [fpick_7 h7 hl, hc]
        show q_w yX10_heirOf.cls yX10_heirOf.name cX10_heirOf 8 .ireturn 3 (fun st I2 J1 => ∃ v : Int32, st = [.int v] ∧ (some (Value.int v) = some (.int (oI Z)) ∧ J1 = J ∧ ML I I2)) 85 [some (.ref 89), some (.ref t), some (.int (nI j)), some (.int (tie)), some (.int (-9)), some (.int (nI left)), some (.int (nI c)), x7] [] (I1) (J)
        refine w_iload dX10_heirOf_85 rfl ?_
        refine w_iconst (v := 1) dX10_heirOf_87 (by decide) ?_
        refine w_iload dX10_heirOf_88 rfl ?_
        refine w_ishl dX10_heirOf_90 ?_
        refine w_iconst (v := (-1)) dX10_heirOf_91 (by decide) ?_
        refine w_ixor dX10_heirOf_92 ?_
        refine w_iand dX10_heirOf_93 ?_
        rw [mI_clr left hl7 c hc7]
        have hpg := hM.pg ht
        have hla := c_X10_layLine (I := I1) (J := J) (tie := tie) ht (by rw [hpg]; exact hN) h7 (by unfold mpr; rw [hpg]; exact hv) hcn
        refine w_istore dX10_heirOf_94 (by decide) rfl ?_
        refine w_aload_n dX10_heirOf_96 rfl ?_
        refine w_aload_n dX10_heirOf_97 rfl ?_
        refine w_iload dX10_heirOf_98 rfl ?_
        refine w_iload_n dX10_heirOf_100 rfl ?_
        refine w_callVF dX10_heirOf_101 k_X10_97 (by first | assumption | rfl) rfl (hla) rfl rfl rfl (Nat.le_of_ble_eq_true rfl) (by first | decide | omega) (fun r_101 I_101 J_101 h_101 => ?_)
        obtain ⟨rfl, rfl, hM1, hR1⟩ := h_101
        unfold mkl mpr mw mag at hR1
        rw [hpg] at hR1
        have hM2 := hM.tr hM1
        have hfo := c_X10_firstOf (I := I_101) (J := J_101) (l := dft (mkl I t N tie) (sno (mw I t) tie) 7 c) hR1 (hDlen c hc7) (hDlt c hc7) hm (show j < 7 by omega)
        refine w_aload_n dX10_heirOf_104 rfl ?_
        refine w_aload_n dX10_heirOf_105 rfl ?_
        refine w_iconst (v := 0) dX10_heirOf_106 (by decide) ?_
        refine w_iald (j := 0) dX10_heirOf_107 (by first | assumption | rfl) rfl rfl (by decide) (by decide) ?_
        rw [hM2.pg ht, h0]
        refine w_iload_n dX10_heirOf_108 rfl ?_
        refine w_callVi dX10_heirOf_109 k_X10_101 (by first | assumption | rfl) rfl (hfo) rfl rfl rfl (Nat.le_of_ble_eq_true rfl) (by first | decide | omega) ?_
        refine w_istore dX10_heirOf_112 (by decide) rfl ?_
        refine w_goto (tgt := 12) dX10_heirOf_114 (by decide) ?_
        refine ih (mclr left c) ((dft (mkl I t N tie) (sno (mw I t) tie) 7 c).find? (ffo m j)) I_101 _ _ (Nat.lt_of_le_of_lt (mclr_le _ _) hl) (by have := pop_clr left hl7 c hc7 hcb; omega) (find_lt (hDlt c hc7)) hM2 (fun I2 v5 x6 x7 hM3 => ?_)
        have := K I2 v5 x6 x7 hM3
        rw [List.flatMap_cons, List.find?_append, Option.none_or] at this
        exact this
set_option maxHeartbeats 4000000 in
set_option maxRecDepth 100000 in
theorem l_heir_up {I : Mem} {J : Lng} {t N m : Nat} (ht : t ∈ q_pages) (hN : I t 6 = nI N) (h7 : N ≤ 7) (hv : FP N (mpr I t)) (h0 : I t 0 = nI m) (hm : m < 128) {tie : Int32} {j : Nat} (hj : j < N) {Z : Option Nat} : ∀ (r : Nat) (o : Option Nat) (a : Int32) (I1 : Mem) (v5 : Int32) (x7 : Option Value), (a = -9 ∨ ∃ u, u < r ∧ u < N ∧ a = nI u) → (∀ x, o = some x → x < 7) → ML I I1 → o.or (((ups (mpr I t) r a).flatMap (dft (mkl I t N tie) (sno (mw I t) tie) 7)).find? (ffo m j)) = Z → q_w yX10_heirOf.cls yX10_heirOf.name cX10_heirOf 8 .ireturn 3 (fun st I2 J1 => ∃ v : Int32, st = [.int v] ∧ (some (Value.int v) = some (.int (oI Z)) ∧ J1 = J ∧ ML I I2)) 125 [some (.ref 89), some (.ref t), some (.int (nI j)), some (.int (tie)), some (.int (oI o)), some (.int (v5)), some (.int (a)), x7] [] (I1) (J) := by
  have hp := SH_page ht
  have hT : TK (mkl I t N tie) := skl_TK h7 hv
  have hDlt : ∀ c, c < 7 → ∀ x, x ∈ dft (mkl I t N tie) (sno (mw I t) tie) 7 c → x < 7 := fun c hc x hx => (dft_ge hT 7 c x hc hx).2
  have hDlen : ∀ c, c < 7 → (dft (mkl I t N tie) (sno (mw I t) tie) 7 c).length ≤ 7 := fun c hc => dft_len hT 7 hc
  intro r
  induction r with
  | zero =>
    intro o a I1 v5 x7 ha ho hM hZ
    obtain rfl : a = -9 := by
      rcases ha with e | ⟨u, hu, _⟩
      · exact e
      · omega
    have hZ2 : o = Z := by rw [← hZ]; exact (Option.or_none).symm
    cases o with
    | none =>
      refine w_iload dX10_heirOf_125 rfl ?_
      refine w_bipush (v := (-9)) dX10_heirOf_127 (by decide) ?_
      refine w_icmp_ne (tgt := 169) dX10_heirOf_129 (by decide) (fun c_129 => absurd c_129 (fun q => q rfl)) (fun c_129 => ?_)
      refine w_iload dX10_heirOf_132 rfl ?_
      refine w_bipush (v := (-9)) dX10_heirOf_134 (by decide) ?_
      refine w_icmp_eq (tgt := 169) dX10_heirOf_136 (by decide) (fun c_136 => ?_) (fun c_136 => absurd rfl c_136)
      refine w_iload dX10_heirOf_169 rfl ?_
      exact w_ret dX10_heirOf_171 ⟨_, rfl, by rw [← hZ2], rfl, hM⟩
    | some y =>
      have hy := ho y rfl
      refine w_iload dX10_heirOf_125 rfl ?_
      refine w_bipush (v := (-9)) dX10_heirOf_127 (by decide) ?_
      refine w_icmp_ne (tgt := 169) dX10_heirOf_129 (by decide) (fun c_129 => ?_) (fun c_129 => absurd c_129 (nI_ne9 (by omega)))
      refine w_iload dX10_heirOf_169 rfl ?_
      exact w_ret dX10_heirOf_171 ⟨_, rfl, by rw [← hZ2], rfl, hM⟩
  | succ r ih =>
    intro o a I1 v5 x7 ha ho hM hZ
    cases o with
    | some y =>
      have hy := ho y rfl
      have hZ2 : some y = Z := by rw [← hZ]; rfl
      refine w_iload dX10_heirOf_125 rfl ?_
      refine w_bipush (v := (-9)) dX10_heirOf_127 (by decide) ?_
      refine w_icmp_ne (tgt := 169) dX10_heirOf_129 (by decide) (fun c_129 => ?_) (fun c_129 => absurd c_129 (nI_ne9 (by omega)))
      refine w_iload dX10_heirOf_169 rfl ?_
      exact w_ret dX10_heirOf_171 ⟨_, rfl, by rw [← hZ2], rfl, hM⟩
    | none =>
      rcases ha with rfl | ⟨u, hu, huN, rfl⟩
      · have hZ2 : none = Z := by rw [← hZ]; rfl
        refine w_iload dX10_heirOf_125 rfl ?_
        refine w_bipush (v := (-9)) dX10_heirOf_127 (by decide) ?_
        refine w_icmp_ne (tgt := 169) dX10_heirOf_129 (by decide) (fun c_129 => absurd c_129 (fun q => q rfl)) (fun c_129 => ?_)
        refine w_iload dX10_heirOf_132 rfl ?_
        refine w_bipush (v := (-9)) dX10_heirOf_134 (by decide) ?_
        refine w_icmp_eq (tgt := 169) dX10_heirOf_136 (by decide) (fun c_136 => ?_) (fun c_136 => absurd rfl c_136)
        refine w_iload dX10_heirOf_169 rfl ?_
        exact w_ret dX10_heirOf_171 ⟨_, rfl, by rw [← hZ2], rfl, hM⟩
      · have hpg := hM.pg ht
        have hla := c_X10_layLine (I := I1) (J := J) (tie := tie) ht (by rw [hpg]; exact hN) h7 (by unfold mpr; rw [hpg]; exact hv) huN
        have hus : ups (mpr I t) (r + 1) (nI u) = u :: ups (mpr I t) r (mpr I t u) := by
          show (if nI u = -9 then [] else (nI u).toNatClampNeg :: ups (mpr I t) r (mpr I t (nI u).toNatClampNeg)) = _
          rw [if_neg (nI_ne9 (by omega)), nI_clamp (by omega)]
        rw [hus, List.flatMap_cons, List.find?_append, Option.none_or] at hZ
        refine w_iload dX10_heirOf_125 rfl ?_
        refine w_bipush (v := (-9)) dX10_heirOf_127 (by decide) ?_
        refine w_icmp_ne (tgt := 169) dX10_heirOf_129 (by decide) (fun c_129 => absurd c_129 (fun q => q rfl)) (fun c_129 => ?_)
        refine w_iload dX10_heirOf_132 rfl ?_
        refine w_bipush (v := (-9)) dX10_heirOf_134 (by decide) ?_
        refine w_icmp_eq (tgt := 169) dX10_heirOf_136 (by decide) (fun c_136 => absurd c_136 (nI_ne9 (by omega))) (fun c_136 => ?_)
        refine w_aload_n dX10_heirOf_139 rfl ?_
        refine w_aload_n dX10_heirOf_140 rfl ?_
        refine w_iload dX10_heirOf_141 rfl ?_
        refine w_iload_n dX10_heirOf_143 rfl ?_
        refine w_callVF dX10_heirOf_144 k_X10_97 (by first | assumption | rfl) rfl (hla) rfl rfl rfl (Nat.le_of_ble_eq_true rfl) (by first | decide | omega) (fun r_144 I_144 J_144 h_144 => ?_)
        obtain ⟨rfl, rfl, hM1, hR1⟩ := h_144
        unfold mkl mpr mw mag at hR1
        rw [hpg] at hR1
        have hM2 := hM.tr hM1
        have hfo := c_X10_firstOf (I := I_144) (J := J_144) (l := dft (mkl I t N tie) (sno (mw I t) tie) 7 u) hR1 (hDlen u (by omega)) (hDlt u (by omega)) hm (show j < 7 by omega)
        refine w_aload_n dX10_heirOf_147 rfl ?_
        refine w_aload_n dX10_heirOf_148 rfl ?_
        refine w_iconst (v := 0) dX10_heirOf_149 (by decide) ?_
        refine w_iald (j := 0) dX10_heirOf_150 (by first | assumption | rfl) rfl rfl (by decide) (by decide) ?_
        rw [hM2.pg ht, h0]
        refine w_iload_n dX10_heirOf_151 rfl ?_
        refine w_callVi dX10_heirOf_152 k_X10_101 (by first | assumption | rfl) rfl (hfo) rfl rfl rfl (Nat.le_of_ble_eq_true rfl) (by first | decide | omega) ?_
        refine w_istore dX10_heirOf_155 (by decide) rfl ?_
        refine w_aload_n dX10_heirOf_157 rfl ?_
        refine w_bipush (v := 7) dX10_heirOf_158 (by decide) ?_
        refine w_iload dX10_heirOf_160 rfl ?_
        refine w_iadd dX10_heirOf_162 ?_
        refine w_iald (j := (7 + u)) dX10_heirOf_163 (by first | assumption | rfl) rfl ix_7 (show 7 + u < 22 by omega) (by decide) ?_
        rw [hM2.pg ht]
        refine w_istore dX10_heirOf_164 (by decide) rfl ?_
        refine w_goto (tgt := 125) dX10_heirOf_166 (by decide) ?_
        refine ih _ (I t (7 + u)) I_144 _ _ ?_ (find_lt (hDlt u (by omega))) hM2 hZ
        rcases hv u huN with e | ⟨z, hz, e⟩
        · exact Or.inl e
        · exact Or.inr ⟨z, by omega, by omega, e⟩
theorem phr_hls {I : Mem} {t N : Nat} {tie : Int32} {j m : Nat} (h7 : N ≤ 7) (hv : FP N (mpr I t)) (hj : j < N) : phr (I t) N tie j m = (hls N (mpr I t) (mw I t) (mag I t) tie j).find? (ffo m j) := she_heir h7 hv hj m
set_option maxHeartbeats 4000000 in
set_option maxRecDepth 100000 in
theorem c_X10_heirOf {I : Mem} {J : Lng} {t N m : Nat} (ht : t ∈ q_pages) (hN : I t 6 = nI N) (h7 : N ≤ 7) (hv : FP N (mpr I t)) (h0 : I t 0 = nI m) (hm : m < 128) {tie : Int32} {j : Nat} (hj : j < N) : q_F yX10_heirOf cX10_heirOf 8 (some .int) 3 [.ref 89, .ref t, .int (nI j), .int tie] I J (fun r I2 J1 => r = some (.int (oI (phr (I t) N tie j m))) ∧ J1 = J ∧ ML I I2) := by
  have hp := SH_page ht
  have hch := c_X10_childrenOf (I := I) (J := J) ht hN h7 (q := nI j)
  refine q_Fi me_X10_heirOf rfl (Nat.le_of_ble_eq_true rfl) ?_
  show q_w _ _ _ _ _ _ _ 0 [some (.ref 89), some (.ref t), some (.int (nI j)), some (.int tie), none, none, none, none] [] I J
  refine w_bipush (v := (-9)) dX10_heirOf_0 (by decide) ?_
  refine w_istore dX10_heirOf_2 (by decide) rfl ?_
  refine w_aload_n dX10_heirOf_4 rfl ?_
  refine w_aload_n dX10_heirOf_5 rfl ?_
  refine w_iload_n dX10_heirOf_6 rfl ?_
  refine w_callVi dX10_heirOf_7 k_X10_89 (by first | assumption | rfl) rfl (hch) rfl rfl rfl (Nat.le_of_ble_eq_true rfl) (by first | decide | omega) ?_
  refine w_istore dX10_heirOf_10 (by decide) rfl ?_
  refine l_heir_kids ht hN h7 hv h0 hm hj (Z := phr (I t) N tie j m) 7 (fkm (mpr I t) (nI j) N) none I _ _ (fkm_lt _ _ _) (pop_7 _) (fun x hx => by cases hx) ML.rf (fun I2 v5 x6 x7 hM => ?_)
  refine w_aload_n dX10_heirOf_117 rfl ?_
  refine w_bipush (v := 7) dX10_heirOf_118 (by decide) ?_
  refine w_iload_n dX10_heirOf_120 rfl ?_
  refine w_iadd dX10_heirOf_121 ?_
  refine w_iald (j := (7 + j)) dX10_heirOf_122 (by first | assumption | rfl) rfl ix_7 (show 7 + j < 22 by omega) (by decide) ?_
  rw [hM.pg ht]
  refine w_istore dX10_heirOf_123 (by decide) rfl ?_
  refine l_heir_up ht hN h7 hv h0 hm hj 7 _ (I t (7 + j)) I2 _ _ ?_ ?_ hM ?_
  · rcases hv j hj with e | ⟨z, hz, e⟩
    · exact Or.inl e
    · exact Or.inr ⟨z, by omega, by omega, e⟩
  · intro x hx
    rw [Option.none_or] at hx
    have hx2 := List.mem_of_find?_eq_some hx
    obtain ⟨c, hc, hx3⟩ := List.mem_flatMap.mp hx2
    exact (dft_ge (skl_TK h7 hv) 7 c x (by have := skl_in (w := mw I t) (ag := mag I t) (tie := tie) h7 hc; omega) hx3).2
  · rw [phr_hls h7 hv hj, Option.none_or]
    unfold hls
    rw [List.find?_append]
