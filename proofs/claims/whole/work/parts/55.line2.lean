theorem dss_rev (kl : Nat → List Nat) : ∀ l : List Nat, dss kl l.reverse = dss kl l
  | [] => rfl
  | x :: l => by
    rw [List.reverse_cons, dss_app, dss_rev kl l]
    show dss kl l + (dsz kl x + 0) = dsz kl x + dss kl l
    omega
theorem pt_ne {t : Nat} (h : t ∈ q_pages) : t ≠ 89 ∧ t ≠ 97 ∧ t ≠ 98 := by
  have : ∀ t ∈ q_pages, t ≠ 89 ∧ t ≠ 97 ∧ t ≠ 98 := by decide
  exact this t h
set_option maxHeartbeats 4000000 in
set_option maxRecDepth 100000 in
theorem l_lay {I : Mem} {J : Lng} {t N : Nat} (ht : t ∈ q_pages) (hN : I t 6 = nI N) (h7 : N ≤ 7) (hv : FP N (mpr I t)) {tie fr : Int32} {Z : List Nat} : ∀ (r : Nat) (op l : List Nat) (I1 : Mem) (x5 x6 x7 x8 x9 : Option Value), dss (mkl I t N tie) op ≤ r → l.length + dss (mkl I t N tie) op ≤ 7 → (∀ x, x ∈ op → x < N) → ML I I1 → RW I1 l → OP I1 op → l ++ op.reverse.flatMap (dft (mkl I t N tie) (sno (mw I t) tie) 7) = Z → q_w yX10_layLine.cls yX10_layLine.name cX10_layLine 10 .return_ 2 (fun st I2 J1 => st = [] ∧ ((none : Option Value) = none ∧ J1 = J ∧ ML I I2 ∧ RW I2 Z)) 15 [some (.ref 89), some (.ref t), some (.int (fr)), some (.int (tie)), some (.int (nI op.length)), x5, x6, x7, x8, x9] [] (I1) (J) := by
  have hp := SH_page ht
  have hT : TK (mkl I t N tie) := skl_TK h7 hv
  intro r
  induction r with
  | zero =>
    intro op l I1 x5 x6 x7 x8 x9 hr hl hop hM hR hO hZ
    have hlen := dss_ge hT op (fun x hx => by have := hop x hx; omega)
    obtain rfl : op = [] := List.eq_nil_of_length_eq_zero (by omega)
    have hZ2 : l = Z := by rw [← hZ]; simp
    refine w_iload dX10_layLine_15 rfl ?_
    refine w_if_le (tgt := 181) dX10_layLine_17 (by decide) (fun c_17 => ?_) (fun c_17 => absurd (show nI 0 ≤ (0 : Int32) by decide) c_17)
    exact w_ret dX10_layLine_181 ⟨rfl, rfl, rfl, hM, by rw [← hZ2]; exact hR⟩
  | succ r ih =>
    intro op l I1 x5 x6 x7 x8 x9 hr hl hop hM hR hO hZ
    rcases List.eq_nil_or_concat op with rfl | ⟨op, c, rfl⟩
    · have hZ2 : l = Z := by rw [← hZ]; simp
      refine w_iload dX10_layLine_15 rfl ?_
      refine w_if_le (tgt := 181) dX10_layLine_17 (by decide) (fun c_17 => ?_) (fun c_17 => absurd (show nI 0 ≤ (0 : Int32) by decide) c_17)
      exact w_ret dX10_layLine_181 ⟨rfl, rfl, rfl, hM, by rw [← hZ2]; exact hR⟩
    · rw [List.concat_eq_append] at *
      have hcN : c < N := hop c (by simp)
      have hop2 : ∀ x, x ∈ op → x < N := fun x hx => hop x (by simp [hx])
      have hpg := hM.pg ht
      have hs : dss (mkl I t N tie) (op ++ [c]) = dss (mkl I t N tie) op + (1 + dss (mkl I t N tie) (mkl I t N tie c)) := by
        rw [dss_app, ← dsz_eq hT (show c < 7 by omega)]; rfl
      rw [hs] at hr hl
      have hol := dss_ge hT op (fun x hx => by have := hop2 x hx; omega)
      have hD := dft_7 (no := sno (mw I t) tie) hT (show c < 7 by omega)
      have hZ2 : l ++ (dft (mkl I t N tie) (sno (mw I t) tie) 7 c ++ op.reverse.flatMap (dft (mkl I t N tie) (sno (mw I t) tie) 7)) = Z := by rw [← hZ]; simp
      have hoc : I1 98 op.length = nI c := by rw [hO op.length (by simp)]; simp [List.getD]
      have hlen : (op ++ [c]).length = op.length + 1 := by simp
      refine w_iload dX10_layLine_15 rfl ?_
      refine w_if_le (tgt := 181) dX10_layLine_17 (by decide) (fun c_17 => absurd c_17 (by rw [hlen]; exact nI_nle (by omega) (by omega))) (fun c_17 => ?_)
      refine w_iincv (c := (-1)) dX10_layLine_20 (by decide) rfl (by decide) rfl ?_
      rw [hlen, pk_m1]
      refine w_aload_n dX10_layLine_23 rfl ?_
      refine w_getR dX10_layLine_24 f_X10_35 (by first | assumption | rfl) rfl rfl ?_
      refine w_iload dX10_layLine_27 rfl ?_
      refine w_iald (j := op.length) dX10_layLine_29 (by first | assumption | rfl) rfl rfl (show op.length < 8 by omega) (by decide) ?_
      rw [hoc]
      refine w_istore dX10_layLine_30 (by decide) rfl ?_
      refine w_iload_n dX10_layLine_32 rfl ?_
      refine w_if_ne (tgt := 48) dX10_layLine_33 (by decide) (fun c_33 => ?_) (fun c_33 => ?_)
      · refine w_aload_n dX10_layLine_48 rfl ?_
        refine w_getR dX10_layLine_49 f_X10_32 (by first | assumption | rfl) rfl rfl ?_
        refine w_aload_n dX10_layLine_52 rfl ?_
        refine w_getI dX10_layLine_53 f_X10_86 (by first | assumption | rfl) rfl ?_
        refine w_iload dX10_layLine_56 rfl ?_
        refine w_iast (j := l.length) dX10_layLine_58 (by first | assumption | rfl) rfl hR.1 (show l.length < 8 by omega) (by decide) ?_
        have hno : sno (mw I t) tie c = false := by
          show (decide (tie = 0) && _) = false
          rw [show decide (tie = 0) = false by simpa using c_33]; rfl
        have hM3 : ML I (upI (upI I1 97 l.length (nI c)) 89 16 ((upI I1 97 l.length (nI c)) 89 16 + 1)) := hM.u97.u16
        have hR3 : RW (upI (upI I1 97 l.length (nI c)) 89 16 ((upI I1 97 l.length (nI c)) 89 16 + 1)) (l ++ [c]) := hR.add (by rw [upI_ne (by decide), hR.1, nI_1])
        have hO3 : OP (upI (upI I1 97 l.length (nI c)) 89 16 ((upI I1 97 l.length (nI c)) 89 16 + 1)) op := hO.lft.ne (by rw [upI_ne (by decide), upI_ne (by decide)])
        have hp3 := hM3.pg ht
        have hch := c_X10_childrenOf (I := upI (upI I1 97 l.length (nI c)) 89 16 ((upI I1 97 l.length (nI c)) 89 16 + 1)) (J := J) ht (by rw [hp3]; exact hN) h7 (q := nI c)
        rw [hp3] at hch
        refine w_aload_n dX10_layLine_59 rfl ?_
        refine w_dup dX10_layLine_60 rfl ?_
        refine w_getI dX10_layLine_61 f_X10_86 (by first | assumption | rfl) rfl ?_
        refine w_iconst (v := 1) dX10_layLine_64 (by decide) ?_
        refine w_iadd dX10_layLine_65 ?_
        refine w_putI dX10_layLine_66 f_X10_86 (by first | assumption | rfl) rfl ?_
        refine w_aload_n dX10_layLine_69 rfl ?_
        refine w_aload_n dX10_layLine_70 rfl ?_
        refine w_iload dX10_layLine_71 rfl ?_
        refine w_callVi dX10_layLine_73 k_X10_89 (by first | assumption | rfl) rfl (hch) rfl rfl rfl (Nat.le_of_ble_eq_true rfl) (by first | decide | omega) ?_
        refine w_istore dX10_layLine_76 (by decide) rfl ?_
        refine w_iload dX10_layLine_78 rfl ?_
        refine w_istore dX10_layLine_80 (by decide) rfl ?_
        have hkn : ∀ x, x ∈ mkl I t N tie c → x < N := fun x hx => (skl_in h7 hx).1
        have hfs : fsel (fun m => flast (fah (mw I t) (mag I t) tie) m 7) 7 (fkm (mpr I t) (nI c) N) = (mkl I t N tie c).reverse := flast_rev (key := ky (mw I t) (mag I t) tie) (fun a b ha hb hne => ⟨fah_k ha hb hne, ky_ne ha hb hne⟩) (fkm_lt' h7 _)
        have hcl : (mkl I t N tie c).length ≤ dss (mkl I t N tie) (mkl I t N tie c) := dss_ge hT _ (fun x hx => by have := hkn x hx; omega)
        refine l_lay_push ht hN h7 (l := l ++ [c]) 7 (fkm (mpr I t) (nI c) N) op _ _ _ (fkm_lt _ _ _) (pop_7 _) (by rw [hfs, List.length_reverse]; omega) hM3 hR3 hO3 (fun I2 x6 x8 x9 hM4 hR4 hO4 => ?_)
        rw [hfs] at hO4 ⊢
        refine w_iload dX10_layLine_174 rfl ?_
        refine w_istore dX10_layLine_176 (by decide) rfl ?_
        refine w_goto (tgt := 15) dX10_layLine_178 (by decide) ?_
        rw [if_neg (by rw [hno]; decide)] at hD
        rw [hD] at hZ2
        refine ih (op ++ (mkl I t N tie c).reverse) (l ++ [c]) _ _ _ _ _ _ ?_ ?_ ?_ hM4 hR4 hO4 ?_
        · rw [dss_app, dss_rev]; omega
        · rw [dss_app, dss_rev, List.length_append]; simp only [List.length_cons, List.length_nil]; omega
        · intro x hx
          rcases List.mem_append.mp hx with q | q
          · exact hop2 x q
          · exact hkn x (List.mem_reverse.mp q)
        · rw [← hZ2]; simp
      · refine w_aload_n dX10_layLine_36 rfl ?_
        refine w_bipush (v := 14) dX10_layLine_37 (by decide) ?_
        refine w_iald (j := 14) dX10_layLine_39 (by first | assumption | rfl) rfl rfl (by decide) (by decide) ?_
        refine w_iload dX10_layLine_40 rfl ?_
        refine w_callSi dX10_layLine_42 k_X10_82 (c_X10_has) rfl rfl rfl (Nat.le_of_ble_eq_true rfl) (by first | decide | omega) ?_
        refine w_if_ne (tgt := 178) dX10_layLine_45 (by decide) (fun c_45 => ?_) (fun c_45 => ?_)
        · refine w_goto (tgt := 15) dX10_layLine_178 (by decide) ?_
          have hno : sno (mw I t) tie c = true := by
            have h1 : mw I t c = true := by
              show zbit (I t 14) (nI c) = true
              rw [← hpg]
              simpa [zB_eq0] using c_45
            show (decide (tie = 0) && mw I t c) = true
            rw [h1, show decide (tie = 0) = true by simpa using c_33]; rfl
          rw [if_pos hno] at hD
          rw [hD] at hZ2
          exact ih op l _ _ _ _ _ _ (by omega) (by omega) hop2 hM hR hO.lft hZ2
        · refine w_aload_n dX10_layLine_48 rfl ?_
          refine w_getR dX10_layLine_49 f_X10_32 (by first | assumption | rfl) rfl rfl ?_
          refine w_aload_n dX10_layLine_52 rfl ?_
          refine w_getI dX10_layLine_53 f_X10_86 (by first | assumption | rfl) rfl ?_
          refine w_iload dX10_layLine_56 rfl ?_
          refine w_iast (j := l.length) dX10_layLine_58 (by first | assumption | rfl) rfl hR.1 (show l.length < 8 by omega) (by decide) ?_
          have hno : sno (mw I t) tie c = false := by
            have : mw I t c = false := by show zbit (I t 14) (nI c) = false; rw [← hpg]; exact zB_eq0.mp c_45
            show (_ && mw I t c) = false
            rw [this, Bool.and_false]
          have hM3 : ML I (upI (upI I1 97 l.length (nI c)) 89 16 ((upI I1 97 l.length (nI c)) 89 16 + 1)) := hM.u97.u16
          have hR3 : RW (upI (upI I1 97 l.length (nI c)) 89 16 ((upI I1 97 l.length (nI c)) 89 16 + 1)) (l ++ [c]) := hR.add (by rw [upI_ne (by decide), hR.1, nI_1])
          have hO3 : OP (upI (upI I1 97 l.length (nI c)) 89 16 ((upI I1 97 l.length (nI c)) 89 16 + 1)) op := hO.lft.ne (by rw [upI_ne (by decide), upI_ne (by decide)])
          have hp3 := hM3.pg ht
          have hch := c_X10_childrenOf (I := upI (upI I1 97 l.length (nI c)) 89 16 ((upI I1 97 l.length (nI c)) 89 16 + 1)) (J := J) ht (by rw [hp3]; exact hN) h7 (q := nI c)
          rw [hp3] at hch
          refine w_aload_n dX10_layLine_59 rfl ?_
          refine w_dup dX10_layLine_60 rfl ?_
          refine w_getI dX10_layLine_61 f_X10_86 (by first | assumption | rfl) rfl ?_
          refine w_iconst (v := 1) dX10_layLine_64 (by decide) ?_
          refine w_iadd dX10_layLine_65 ?_
          refine w_putI dX10_layLine_66 f_X10_86 (by first | assumption | rfl) rfl ?_
          refine w_aload_n dX10_layLine_69 rfl ?_
          refine w_aload_n dX10_layLine_70 rfl ?_
          refine w_iload dX10_layLine_71 rfl ?_
          refine w_callVi dX10_layLine_73 k_X10_89 (by first | assumption | rfl) rfl (hch) rfl rfl rfl (Nat.le_of_ble_eq_true rfl) (by first | decide | omega) ?_
          refine w_istore dX10_layLine_76 (by decide) rfl ?_
          refine w_iload dX10_layLine_78 rfl ?_
          refine w_istore dX10_layLine_80 (by decide) rfl ?_
          have hkn : ∀ x, x ∈ mkl I t N tie c → x < N := fun x hx => (skl_in h7 hx).1
          have hfs : fsel (fun m => flast (fah (mw I t) (mag I t) tie) m 7) 7 (fkm (mpr I t) (nI c) N) = (mkl I t N tie c).reverse := flast_rev (key := ky (mw I t) (mag I t) tie) (fun a b ha hb hne => ⟨fah_k ha hb hne, ky_ne ha hb hne⟩) (fkm_lt' h7 _)
          have hcl : (mkl I t N tie c).length ≤ dss (mkl I t N tie) (mkl I t N tie c) := dss_ge hT _ (fun x hx => by have := hkn x hx; omega)
          refine l_lay_push ht hN h7 (l := l ++ [c]) 7 (fkm (mpr I t) (nI c) N) op _ _ _ (fkm_lt _ _ _) (pop_7 _) (by rw [hfs, List.length_reverse]; omega) hM3 hR3 hO3 (fun I2 x6 x8 x9 hM4 hR4 hO4 => ?_)
          rw [hfs] at hO4 ⊢
          refine w_iload dX10_layLine_174 rfl ?_
          refine w_istore dX10_layLine_176 (by decide) rfl ?_
          refine w_goto (tgt := 15) dX10_layLine_178 (by decide) ?_
          rw [if_neg (by rw [hno]; decide)] at hD
          rw [hD] at hZ2
          refine ih (op ++ (mkl I t N tie c).reverse) (l ++ [c]) _ _ _ _ _ _ ?_ ?_ ?_ hM4 hR4 hO4 ?_
          · rw [dss_app, dss_rev]; omega
          · rw [dss_app, dss_rev, List.length_append]; simp only [List.length_cons, List.length_nil]; omega
          · intro x hx
            rcases List.mem_append.mp hx with q | q
            · exact hop2 x q
            · exact hkn x (List.mem_reverse.mp q)
          · rw [← hZ2]; simp
set_option maxHeartbeats 4000000 in
set_option maxRecDepth 100000 in
theorem c_X10_layLine {I : Mem} {J : Lng} {t N : Nat} (ht : t ∈ q_pages) (hN : I t 6 = nI N) (h7 : N ≤ 7) (hv : FP N (mpr I t)) {tie : Int32} {j : Nat} (hj : j < N) : q_F yX10_layLine cX10_layLine 10 none 2 [.ref 89, .ref t, .int (nI j), .int tie] I J (fun r I2 J1 => r = none ∧ J1 = J ∧ ML I I2 ∧ RW I2 (dft (mkl I t N tie) (sno (mw I t) tie) 7 j)) := by
  refine q_Fv me_X10_layLine rfl (Nat.le_of_ble_eq_true rfl) ?_
  show q_w _ _ _ _ _ _ _ 0 [some (.ref 89), some (.ref t), some (.int (nI j)), some (.int tie), none, none, none, none, none, none] [] I J
  refine w_iconst (v := 1) dX10_layLine_0 (by decide) ?_
  refine w_istore dX10_layLine_1 (by decide) rfl ?_
  refine w_aload_n dX10_layLine_3 rfl ?_
  refine w_iconst (v := 0) dX10_layLine_4 (by decide) ?_
  refine w_putI dX10_layLine_5 f_X10_86 (by first | assumption | rfl) rfl ?_
  refine w_aload_n dX10_layLine_8 rfl ?_
  refine w_getR dX10_layLine_9 f_X10_35 (by first | assumption | rfl) rfl rfl ?_
  refine w_iconst (v := 0) dX10_layLine_12 (by decide) ?_
  refine w_iload_n dX10_layLine_13 rfl ?_
  refine w_iast (j := 0) dX10_layLine_14 (by first | assumption | rfl) rfl rfl (by decide) (by decide) ?_
  have hT : TK (mkl I t N tie) := skl_TK h7 hv
  have hsz : dss (mkl I t N tie) [j] ≤ 7 := by
    have := dsz_7 hT (show j < 7 by omega)
    show dsz (mkl I t N tie) j + 0 ≤ 7
    omega
  refine l_lay ht hN h7 hv 7 [j] [] _ _ _ _ _ _ hsz (by simpa using hsz) (fun x hx => by rw [List.mem_singleton.mp hx]; exact hj) ML.rf.u16.u98 ⟨?_, fun i hi => absurd hi (Nat.not_lt_zero i)⟩ (fun i hi => ?_) (by simp)
  · rw [upI_ne (by decide), upI_tt]; rfl
  · obtain rfl : i = 0 := by simp at hi; omega
    rw [upI_tt]; rfl
/-- the first of a list that lives, one aside -/
abbrev ffo (m s : Nat) (x : Nat) : Bool := !(x == s) && m.testBit x
set_option maxHeartbeats 4000000 in
set_option maxRecDepth 100000 in
theorem l_X10_firstOf {I : Mem} {J : Lng} {l : List Nat} {m s : Nat} (hR : RW I l) (hl : l.length ≤ 7) (hx : ∀ x, x ∈ l → x < 7) (hm : m < 128) (hs : s < 7) {Z : Option Nat} : ∀ (r k : Nat), l.length - k = r → k ≤ l.length → (l.drop k).find? (ffo m s) = Z → q_w yX10_firstOf.cls yX10_firstOf.name cX10_firstOf 4 .ireturn 1 (fun st I1 J1 => st = [.int (oI Z)] ∧ I1 = I ∧ J1 = J) 2 [some (.ref 89), some (.int (nI m)), some (.int (nI s)), some (.int (nI k))] [] (I) (J) := by
  intro r
  induction r with
  | zero =>
    intro k hr hk hZ
    obtain rfl : k = l.length := by omega
    have hZ2 : Z = none := by rw [← hZ, List.drop_length]; rfl
    refine w_iload_n dX10_firstOf_2 rfl ?_
    refine w_aload_n dX10_firstOf_3 rfl ?_
    refine w_getI dX10_firstOf_4 f_X10_86 (by first | assumption | rfl) rfl ?_
    refine w_icmp_ge (tgt := 46) dX10_firstOf_7 (by decide) (fun c_7 => ?_) (fun c_7 => absurd (by rw [hR.1]; exact Int32.le_refl _) c_7)
    refine w_bipush (v := (-9)) dX10_firstOf_46 (by decide) ?_
    exact w_ret dX10_firstOf_48 ⟨by rw [hZ2]; rfl, rfl, rfl⟩
  | succ r ih =>
    intro k hr hk hZ
    have hkl : k < l.length := by omega
    have hg : l.getD k 0 = l[k] := by simp [List.getD, hkl]
    have h97 : I 97 k = nI (l[k]) := by rw [hR.2 k hkl, hg]
    have hk7 : l[k] < 7 := hx _ (List.getElem_mem hkl)
    have hd : l.drop k = l[k] :: l.drop (k + 1) := List.drop_eq_getElem_cons hkl
    rw [hd, List.find?_cons] at hZ
    have hh := c_X10_has (I := I) (J := J) (s := nI m) (k := nI (l[k]))
    rw [mI_bit m hm _ hk7] at hh
    refine w_iload_n dX10_firstOf_2 rfl ?_
    refine w_aload_n dX10_firstOf_3 rfl ?_
    refine w_getI dX10_firstOf_4 f_X10_86 (by first | assumption | rfl) rfl ?_
    refine w_icmp_ge (tgt := 46) dX10_firstOf_7 (by decide) (fun c_7 => absurd c_7 (by rw [hR.1]; exact nI_ge (by omega) (by omega))) (fun c_7 => ?_)
    refine w_aload_n dX10_firstOf_10 rfl ?_
    refine w_getR dX10_firstOf_11 f_X10_32 (by first | assumption | rfl) rfl rfl ?_
    refine w_iload_n dX10_firstOf_14 rfl ?_
    refine w_iald (j := k) dX10_firstOf_15 (by first | assumption | rfl) rfl rfl (show k < 8 by omega) (by decide) ?_
    rw [h97]
    refine w_iload_n dX10_firstOf_16 rfl ?_
    refine w_icmp_eq (tgt := 40) dX10_firstOf_17 (by decide) (fun c_17 => ?_) (fun c_17 => ?_)
    · refine w_iincv (c := 1) dX10_firstOf_40 (by decide) rfl (by decide) rfl ?_
      refine w_goto (tgt := 2) dX10_firstOf_43 (by decide) ?_
      have hne : l[k] = s := nI_inj (by omega) (by omega) c_17
      have hf : ffo m s l[k] = false := by simp [ffo, hne]
      rw [hf] at hZ
      rw [nI_1]
      exact ih (k + 1) (by omega) (by omega) hZ
    · refine w_iload_n dX10_firstOf_20 rfl ?_
      refine w_aload_n dX10_firstOf_21 rfl ?_
      refine w_getR dX10_firstOf_22 f_X10_32 (by first | assumption | rfl) rfl rfl ?_
      refine w_iload_n dX10_firstOf_25 rfl ?_
      refine w_iald (j := k) dX10_firstOf_26 (by first | assumption | rfl) rfl rfl (show k < 8 by omega) (by decide) ?_
      rw [h97]
      refine w_callSi dX10_firstOf_27 k_X10_82 (hh) rfl rfl rfl (Nat.le_of_ble_eq_true rfl) (by first | decide | omega) ?_
      refine w_if_eq (tgt := 40) dX10_firstOf_30 (by decide) (fun c_30 => ?_) (fun c_30 => ?_)
      · refine w_iincv (c := 1) dX10_firstOf_40 (by decide) rfl (by decide) rfl ?_
        refine w_goto (tgt := 2) dX10_firstOf_43 (by decide) ?_
        have hb : m.testBit l[k] = false := zB_eq0.mp c_30
        have hf : ffo m s l[k] = false := by simp [ffo, hb]
        rw [hf] at hZ
        rw [nI_1]
        exact ih (k + 1) (by omega) (by omega) hZ
      · refine w_aload_n dX10_firstOf_33 rfl ?_
        refine w_getR dX10_firstOf_34 f_X10_32 (by first | assumption | rfl) rfl rfl ?_
        refine w_iload_n dX10_firstOf_37 rfl ?_
        refine w_iald (j := k) dX10_firstOf_38 (by first | assumption | rfl) rfl rfl (show k < 8 by omega) (by decide) ?_
        rw [h97]
        have hb : m.testBit l[k] = true := by simpa [zB_eq0] using c_30
        have hne : l[k] ≠ s := fun e => c_17 (by rw [e])
        have hf : ffo m s l[k] = true := by simp [ffo, hb, hne]
        rw [hf] at hZ
        exact w_ret dX10_firstOf_39 ⟨by rw [← hZ]; rfl, rfl, rfl⟩
set_option maxHeartbeats 4000000 in
set_option maxRecDepth 100000 in
theorem c_X10_firstOf {I : Mem} {J : Lng} {l : List Nat} {m s : Nat} (hR : RW I l) (hl : l.length ≤ 7) (hx : ∀ x, x ∈ l → x < 7) (hm : m < 128) (hs : s < 7) : q_E yX10_firstOf cX10_firstOf 4 (some .int) 1 [.ref 89, .int (nI m), .int (nI s)] I J (some (.int (oI (l.find? (ffo m s))))) (I) (J) := by
  refine q_Ei me_X10_firstOf rfl (Nat.le_of_ble_eq_true rfl) ?_
  show q_w _ _ _ _ _ _ _ 0 [some (.ref 89), some (.int (nI m)), some (.int (nI s)), none] [] I J
  refine w_iconst (v := 0) dX10_firstOf_0 (by decide) ?_
  refine w_istore_n dX10_firstOf_1 (by decide) rfl ?_
  exact l_X10_firstOf hR hl hx hm hs l.length 0 rfl (Nat.zero_le _) rfl
