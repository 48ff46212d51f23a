/-- each one's parent is nobody or one told ahead -/
def FP (n : Nat) (pr : Nat → Int32) : Prop := ∀ k, k < n → pr k = -9 ∨ ∃ j, j < k ∧ pr k = nI j
theorem FP.v {n : Nat} {pr : Nat → Int32} (h : FP n pr) (hn : n ≤ 7) : FV n pr := by
  intro k hk j hj e
  rcases h k hk with q | ⟨i, hi, q⟩
  · exact absurd (e.symm.trans q) (nI_ne9 (by omega))
  · have := nI_inj (by omega) (by omega) (e.symm.trans q)
    omega
theorem kput_nil {I : Mem} {q s : Nat} {a b : Int32} (ha : a = 0) (hb : b = nI s) : upI (upI I q 1 a) q 2 b = kput I q [] s := by
  subst ha; subst hb
  funext p i
  by_cases hq : p = q
  · subst hq
    by_cases h2 : i = 2
    · subst h2; simp [upI, kput]
    · by_cases h1 : i = 1
      · subst h1; simp [upI, kput]; rfl
      · simp [upI, kput, h1, h2]
  · simp [upI, kput, hq]
/-- up from parent to parent -/
def fup (pr : Nat → Int32) (g : (List Nat × Nat) → Nat → (List Nat × Nat)) : Nat → (List Nat × Nat) → Int32 → (List Nat × Nat)
  | 0, st, _ => st
  | k + 1, st, a => if a = -9 then st else fup pr g k (g st a.toNatClampNeg) (pr a.toNatClampNeg)
/-- all heirs of j, in the order in which they are asked -/
def fhe (I : Mem) (t n : Nat) (tie : Int32) (j : Nat) : List Nat × Nat := fup (I (t + 1)) (fd I t n tie 7) 7 ((ford (ahI I t tie) 7 (kI I t n j)).foldl (fd I t n tie 7) ([], 2 ^ j)) (I (t + 1) j)
theorem KI.nil {n j : Nat} (hj : j < 7) : KI n ([], 2 ^ j) := by
  have h : ∀ j, j < 7 → 2 ^ j < 128 := by decide
  exact ⟨h j hj, List.nodup_nil, fun x hx => absurd hx List.not_mem_nil⟩
theorem KI.nil0 {n : Nat} : KI n ([], 0) := ⟨by decide, List.nodup_nil, fun x hx => absurd hx List.not_mem_nil⟩
section
variable {I : Mem} {q t : Nat} {l : List Nat} {s : Nat}
theorem FM.u {n a : Nat} {f : Nat} {v : Int32} (ht : t ∈ q_lands) (hq : q ∈ q_kins) (h : FM I t n) : FM (upI I q f v) t n := ⟨by rw [upI_ne (q_apart ht hq).1]; exact h.1, h.2⟩
end
set_option maxHeartbeats 4000000 in
set_option maxRecDepth 100000 in
theorem c_X5_listLine {I : Mem} {J : Lng} {q t n : Nat} {tie : Int32} (hq : q ∈ q_kins) (ht : t ∈ q_lands) (hF : FM I t n) (hv : FV n (I (t + 1))) {j : Nat} (hj : j < n) : q_E yX5_listLine cX5_listLine 4 none 31 [.ref q, .ref t, .int (nI j), .int tie] I J none (kput I q (fd I t n tie 7 ([], 0) j).1 (fd I t n tie 7 ([], 0) j).2) (J) := by
  obtain ⟨ht0, ht1, ht2⟩ := SH_land ht
  obtain ⟨hq0, hq1⟩ := SH_kin hq
  have hn7 := hF.2
  refine q_Ev me_X5_listLine rfl (Nat.le_of_ble_eq_true rfl) ?_
  show q_w _ _ _ _ _ _ _ 0 [some (.ref q), some (.ref t), some (.int (nI j)), some (.int tie)] [] I J
  refine w_aload_n dX5_listLine_0 rfl ?_
  refine w_iconst (v := 0) dX5_listLine_1 (by decide) ?_
  refine w_putI dX5_listLine_2 f_X5_15 (by first | assumption | rfl) rfl ?_
  refine w_aload_n dX5_listLine_5 rfl ?_
  refine w_iconst (v := 0) dX5_listLine_6 (by decide) ?_
  refine w_putI dX5_listLine_7 f_X5_19 (by first | assumption | rfl) rfl ?_
  refine w_mem (I2 := kput I q [] 0) (kput_nil rfl rfl) ?_
  refine w_aload_n dX5_listLine_10 rfl ?_
  refine w_aload_n dX5_listLine_11 rfl ?_
  refine w_iload_n dX5_listLine_12 rfl ?_
  refine w_iload_n dX5_listLine_13 rfl ?_
  refine w_iconst (v := 0) dX5_listLine_14 (by decide) ?_
  refine w_callVv dX5_listLine_15 k_X5_22 (by first | assumption | rfl) rfl ((c_kin hq ht hF hv 7).1 j 0 ([], 0) hj (Nat.zero_le _) (by omega) KI.nil0) rfl rfl rfl (Nat.le_of_ble_eq_true rfl) (by first | decide | omega) ?_
  exact w_ret dX5_listLine_18 ⟨rfl, rfl, rfl⟩
set_option maxHeartbeats 4000000 in
set_option maxRecDepth 100000 in
theorem l_X5_listHeirs {I : Mem} {J : Lng} {q t n : Nat} {tie : Int32} (hq : q ∈ q_kins) (ht : t ∈ q_lands) (hF : FM I t n) (hv : FP n (I (t + 1))) {j : Nat} (R : List Nat × Nat) : ∀ (r i : Nat) (a : Int32) (st : List Nat × Nat), 7 - i = r → i ≤ 7 → (a = -9 ∨ ∃ u, u + i < 7 ∧ u < n ∧ a = nI u) → KI n st → fup (I (t + 1)) (fd I t n tie 7) r st a = R → q_w yX5_listHeirs.cls yX5_listHeirs.name cX5_listHeirs 6 .return_ 31 (fun st0 I1 J1 => st0 = [] ∧ I1 = kput I q R.1 R.2 ∧ J1 = J) 39 [some (.ref q), some (.ref t), some (.int (nI j)), some (.int tie), some (.int a), some (.int (nI i))] [] (kput I q st.1 st.2) (J) := by
  obtain ⟨ht0, ht1, ht2⟩ := SH_land ht
  obtain ⟨hq0, hq1⟩ := SH_kin hq
  have hn7 := hF.2
  intro r
  induction r with
  | zero =>
    intro i a st hr hi ha hst hR
    obtain rfl : i = 7 := by omega
    refine w_iload dX5_listHeirs_39 rfl ?_
    refine w_bipush (v := 7) dX5_listHeirs_41 (by decide) ?_
    refine w_icmp_ge (tgt := 76) dX5_listHeirs_43 (by decide) (fun c_43 => ?_) (fun c_43 => absurd (show (7 : Int32) ≤ nI 7 by decide) c_43)
    exact w_ret dX5_listHeirs_76 ⟨rfl, by rw [← hR]; rfl, rfl⟩
  | succ r ih =>
    intro i a st hr hi ha hst hR
    have hi7 : i < 7 := by omega
    rcases ha with rfl | ⟨u, hu, hun, rfl⟩
    · have hR2 : st = R := hR
      refine w_iload dX5_listHeirs_39 rfl ?_
      refine w_bipush (v := 7) dX5_listHeirs_41 (by decide) ?_
      refine w_icmp_ge (tgt := 76) dX5_listHeirs_43 (by decide) (fun c_43 => absurd c_43 (nI_ge (b := 7) hi7 (by decide))) (fun c_43 => ?_)
      refine w_iload dX5_listHeirs_46 rfl ?_
      refine w_bipush (v := (-9)) dX5_listHeirs_48 (by decide) ?_
      refine w_icmp_eq (tgt := 76) dX5_listHeirs_50 (by decide) (fun c_50 => ?_) (fun c_50 => absurd (rfl : (-9 : Int32) = -9) c_50)
      exact w_ret dX5_listHeirs_76 ⟨rfl, by rw [hR2], rfl⟩
    · have hR2 : fup (I (t + 1)) (fd I t n tie 7) r (fd I t n tie 7 st u) (I (t + 1) u) = R := by
        rw [← hR]
        show _ = if nI u = -9 then _ else _
        rw [if_neg (nI_ne9 (by omega)), nI_clamp (by omega)]
      have hst2 : KI n (fd I t n tie 7 st u) := fdl_KI hF.2 (fun p => kI_lt hF.2) (kI_c (hv.v hn7) hF.2) 7 st u hun hst
      refine w_iload dX5_listHeirs_39 rfl ?_
      refine w_bipush (v := 7) dX5_listHeirs_41 (by decide) ?_
      refine w_icmp_ge (tgt := 76) dX5_listHeirs_43 (by decide) (fun c_43 => absurd c_43 (nI_ge (b := 7) hi7 (by decide))) (fun c_43 => ?_)
      refine w_iload dX5_listHeirs_46 rfl ?_
      refine w_bipush (v := (-9)) dX5_listHeirs_48 (by decide) ?_
      refine w_icmp_eq (tgt := 76) dX5_listHeirs_50 (by decide) (fun c_50 => absurd c_50 (nI_ne9 (by omega))) (fun c_50 => ?_)
      refine w_aload_n dX5_listHeirs_53 rfl ?_
      refine w_aload_n dX5_listHeirs_54 rfl ?_
      refine w_iload dX5_listHeirs_55 rfl ?_
      refine w_iload_n dX5_listHeirs_57 rfl ?_
      refine w_iconst (v := 0) dX5_listHeirs_58 (by decide) ?_
      refine w_callVv dX5_listHeirs_59 k_X5_22 (by first | assumption | rfl) rfl ((c_kin hq ht hF (hv.v hn7) 7).1 u 0 st hun (Nat.zero_le _) (by omega) hst) rfl rfl rfl (Nat.le_of_ble_eq_true rfl) (by first | decide | omega) ?_
      refine w_aload_n dX5_listHeirs_62 rfl ?_
      refine w_iload dX5_listHeirs_63 rfl ?_
      refine w_callVi dX5_listHeirs_65 k_X5_35 (by first | assumption | rfl) rfl (ck_parentOf ht hq hF hun) rfl rfl rfl (Nat.le_of_ble_eq_true rfl) (by first | decide | omega) ?_
      refine w_istore dX5_listHeirs_68 (by decide) rfl ?_
      refine w_iincv (c := 1) dX5_listHeirs_70 (by decide) rfl (by decide) rfl ?_
      refine w_goto (tgt := 39) dX5_listHeirs_73 (by decide) ?_
      rw [nI_1]
      refine ih (i + 1) _ _ (by omega) (by omega) ?_ hst2 hR2
      rcases hv u hun with e | ⟨z, hz, e⟩
      · exact Or.inl e
      · exact Or.inr ⟨z, by omega, by omega, e⟩
set_option maxHeartbeats 4000000 in
set_option maxRecDepth 100000 in
theorem c_X5_listHeirs {I : Mem} {J : Lng} {q t n : Nat} {tie : Int32} (hq : q ∈ q_kins) (ht : t ∈ q_lands) (hF : FM I t n) (hv : FP n (I (t + 1))) {j : Nat} (hj : j < n) : q_E yX5_listHeirs cX5_listHeirs 6 none 31 [.ref q, .ref t, .int (nI j), .int tie] I J none (kput I q (fhe I t n tie j).1 (fhe I t n tie j).2) (J) := by
  obtain ⟨ht0, ht1, ht2⟩ := SH_land ht
  obtain ⟨hq0, hq1⟩ := SH_kin hq
  have hn7 := hF.2
  refine q_Ev me_X5_listHeirs rfl (Nat.le_of_ble_eq_true rfl) ?_
  show q_w _ _ _ _ _ _ _ 0 [some (.ref q), some (.ref t), some (.int (nI j)), some (.int tie), none, none] [] I J
  refine w_aload_n dX5_listHeirs_0 rfl ?_
  refine w_iconst (v := 0) dX5_listHeirs_1 (by decide) ?_
  refine w_putI dX5_listHeirs_2 f_X5_15 (by first | assumption | rfl) rfl ?_
  refine w_aload_n dX5_listHeirs_5 rfl ?_
  refine w_iload_n dX5_listHeirs_6 rfl ?_
  refine w_callVi dX5_listHeirs_7 k_X5_26 (by first | assumption | rfl) rfl (cn_has ht (FM.u (a := 0) ht hq hF) hj) rfl rfl rfl (Nat.le_of_ble_eq_true rfl) (by first | decide | omega) ?_
  refine w_if_ne (tgt := 14) dX5_listHeirs_10 (by decide) (fun c_10 => ?_) (fun c_10 => absurd c_10 (by decide))
  refine w_aload_n dX5_listHeirs_14 rfl ?_
  refine w_iconst (v := 1) dX5_listHeirs_15 (by decide) ?_
  refine w_iload_n dX5_listHeirs_16 rfl ?_
  refine w_ishl dX5_listHeirs_17 ?_
  refine w_putI dX5_listHeirs_18 f_X5_19 (by first | assumption | rfl) rfl ?_
  refine w_mem (I2 := kput I q [] (2 ^ j)) (kput_nil rfl (mI_shl j (by omega))) ?_
  refine w_aload_n dX5_listHeirs_21 rfl ?_
  refine w_aload_n dX5_listHeirs_22 rfl ?_
  refine w_iload_n dX5_listHeirs_23 rfl ?_
  refine w_iload_n dX5_listHeirs_24 rfl ?_
  refine w_iconst (v := 0) dX5_listHeirs_25 (by decide) ?_
  refine w_callVv dX5_listHeirs_26 k_X5_32 (by first | assumption | rfl) rfl ((c_kin hq ht hF (hv.v hn7) 7).2 j 0 ([], 2 ^ j) hj (Nat.zero_le _) (by omega) (KI.nil (by omega))) rfl rfl rfl (Nat.le_of_ble_eq_true rfl) (by first | decide | omega) ?_
  refine w_aload_n dX5_listHeirs_29 rfl ?_
  refine w_iload_n dX5_listHeirs_30 rfl ?_
  refine w_callVi dX5_listHeirs_31 k_X5_35 (by first | assumption | rfl) rfl (ck_parentOf ht hq hF hj) rfl rfl rfl (Nat.le_of_ble_eq_true rfl) (by first | decide | omega) ?_
  refine w_istore dX5_listHeirs_34 (by decide) rfl ?_
  refine w_iconst (v := 0) dX5_listHeirs_36 (by decide) ?_
  refine w_istore dX5_listHeirs_37 (by decide) rfl ?_
  refine l_X5_listHeirs hq ht hF hv _ 7 0 _ _ rfl (by decide) ?_ (foldl_KI (fun st x hx h => fdl_KI hF.2 (fun p => kI_lt hF.2) (kI_c (hv.v hn7) hF.2) 7 st x hx h) _ _ (fun x hx => kI_c (hv.v hn7) hn7 j hj x (ford_in (kI_lt hn7) hx).2) (KI.nil (by omega))) rfl
  rcases hv j hj with e | ⟨z, hz, e⟩
  · exact Or.inl e
  · exact Or.inr ⟨z, by omega, by omega, e⟩
/-- the row l stands in the kin q -/
def KR (I : Mem) (q : Nat) (l : List Nat) : Prop := I q 1 = nI l.length ∧ l.length ≤ 7 ∧ ∀ i, i < l.length → I (q + 1) i = nI (l.getD i 0) ∧ l.getD i 0 < 7
theorem KR.k {I : Mem} {q n s : Nat} {l : List Nat} (hn : n ≤ 7) (h : KI n (l, s)) : KR (kput I q l s) q l := by
  refine ⟨kput_1 _ _ _ _, h.len7 hn, fun i hi => ⟨kput_row _ _ _ _ hi, ?_⟩⟩
  have h1 : l.getD i 0 = l[i] := by simp [List.getD, hi]
  rw [h1]
  have := (h.2.2 l[i] (List.getElem_mem hi)).1
  omega
/-- the place of x behind k places -/
def fidx (x : Nat) : List Nat → Nat → Option Nat
  | [], _ => none
  | a :: r, k => if a = x then some k else fidx x r (k + 1)
theorem KR.at {I : Mem} {q : Nat} {l pre r : List Nat} {x : Nat} (h : KR I q l) (e : l = pre ++ x :: r) : pre.length < l.length ∧ I (q + 1) pre.length = nI x ∧ x < 7 ∧ pre.length < 7 := by
  have hl : pre.length < l.length := by rw [e]; simp
  have h1 := h.2.2 pre.length hl
  have h2 : l.getD pre.length 0 = x := by rw [e]; simp [List.getD]
  rw [h2] at h1
  have := h.2.1
  exact ⟨hl, h1.1, h1.2, by omega⟩
set_option maxHeartbeats 4000000 in
set_option maxRecDepth 100000 in
theorem l_X5_firstOf {I : Mem} {J : Lng} {q m : Nat} {l : List Nat} (hq : q ∈ q_kins) (hR : KR I q l) (hm : m < 128) : ∀ (r pre : List Nat), l = pre ++ r → r.find? (fun x => m.testBit x) = l.find? (fun x => m.testBit x) → q_w yX5_firstOf.cls yX5_firstOf.name cX5_firstOf 3 .ireturn 0 (fun st I1 J1 => st = [.int (oI (l.find? (fun x => m.testBit x)))] ∧ I1 = I ∧ J1 = J) 2 [some (.ref q), some (.int (nI m)), some (.int (nI pre.length))] [] (I) (J) := by
  obtain ⟨hq0, hq1⟩ := SH_kin hq
  intro r
  induction r with
  | nil =>
    intro pre e ht
    have hl : l.length = pre.length := by rw [e]; simp
    refine w_iload_n dX5_firstOf_2 rfl ?_
    refine w_aload_n dX5_firstOf_3 rfl ?_
    refine w_getI dX5_firstOf_4 f_X5_15 (by first | assumption | rfl) rfl ?_
    refine w_icmp_ge (tgt := 43) dX5_firstOf_7 (by decide) (fun c_7 => ?_) (fun c_7 => absurd (by rw [hR.1, hl]; exact Int32.le_refl _) c_7)
    refine w_bipush (v := (-9)) dX5_firstOf_43 (by decide) ?_
    exact w_ret dX5_firstOf_45 ⟨by rw [← ht]; rfl, rfl, rfl⟩
  | cons x r ih =>
    intro pre e ht
    obtain ⟨g1, g2, g3, g4⟩ := hR.at e
    refine w_iload_n dX5_firstOf_2 rfl ?_
    refine w_aload_n dX5_firstOf_3 rfl ?_
    refine w_getI dX5_firstOf_4 f_X5_15 (by first | assumption | rfl) rfl ?_
    refine w_icmp_ge (tgt := 43) dX5_firstOf_7 (by decide) (fun c_7 => absurd c_7 (by rw [hR.1]; exact nI_ge g1 (by have := hR.2.1; omega))) (fun c_7 => ?_)
    refine w_iload_n dX5_firstOf_10 rfl ?_
    refine w_bipush (v := 7) dX5_firstOf_11 (by decide) ?_
    refine w_icmp_ge (tgt := 43) dX5_firstOf_13 (by decide) (fun c_13 => absurd c_13 (nI_ge (b := 7) g4 (by decide))) (fun c_13 => ?_)
    refine w_iload_n dX5_firstOf_16 rfl ?_
    refine w_aload_n dX5_firstOf_17 rfl ?_
    refine w_getR dX5_firstOf_18 f_X5_9 (by first | assumption | rfl) rfl rfl ?_
    refine w_iload_n dX5_firstOf_21 rfl ?_
    refine w_iald (j := pre.length) dX5_firstOf_22 (by first | assumption | rfl) rfl rfl g4 (by decide) ?_
    rw [g2]
    refine w_ishr dX5_firstOf_23 ?_
    refine w_iconst (v := 1) dX5_firstOf_24 (by decide) ?_
    refine w_iand dX5_firstOf_25 ?_
    refine w_iconst (v := 1) dX5_firstOf_26 (by decide) ?_
    refine w_icmp_ne (tgt := 37) dX5_firstOf_27 (by decide) (fun c_27 => ?_) (fun c_27 => ?_)
    · refine w_iincv (c := 1) dX5_firstOf_37 (by decide) rfl (by decide) rfl ?_
      refine w_goto (tgt := 2) dX5_firstOf_40 (by decide) ?_
      rw [nI_1, show pre.length + 1 = (pre ++ [x]).length by simp]
      exact ih (pre ++ [x]) (by rw [e]; simp) (by rw [← ht, List.find?_cons, zbit_f hm g3 c_27])
    · refine w_aload_n dX5_firstOf_30 rfl ?_
      refine w_getR dX5_firstOf_31 f_X5_9 (by first | assumption | rfl) rfl rfl ?_
      refine w_iload_n dX5_firstOf_34 rfl ?_
      refine w_iald (j := pre.length) dX5_firstOf_35 (by first | assumption | rfl) rfl rfl g4 (by decide) ?_
      rw [g2]
      refine w_ret dX5_firstOf_36 ⟨?_, rfl, rfl⟩
      rw [← ht, List.find?_cons, zbit_t hm g3 c_27]; rfl
set_option maxHeartbeats 4000000 in
set_option maxRecDepth 100000 in
theorem c_X5_firstOf {I : Mem} {J : Lng} {q m : Nat} {l : List Nat} (hq : q ∈ q_kins) (hR : KR I q l) (hm : m < 128) : q_E yX5_firstOf cX5_firstOf 3 (some .int) 0 [.ref q, .int (nI m)] I J (some (.int (oI (l.find? (fun x => m.testBit x))))) (I) (J) := by
  obtain ⟨hq0, hq1⟩ := SH_kin hq
  refine q_Ei me_X5_firstOf rfl (Nat.le_of_ble_eq_true rfl) ?_
  show q_w _ _ _ _ _ _ _ 0 [some (.ref q), some (.int (nI m)), none] [] I J
  refine w_iconst (v := 0) dX5_firstOf_0 (by decide) ?_
  refine w_istore_n dX5_firstOf_1 (by decide) rfl ?_
  exact l_X5_firstOf hq hR hm l [] rfl rfl
set_option maxHeartbeats 4000000 in
set_option maxRecDepth 100000 in
theorem l_X5_placeOf {I : Mem} {J : Lng} {q x0 : Nat} {l : List Nat} (hq : q ∈ q_kins) (hR : KR I q l) (hx : x0 < 7) : ∀ (r pre : List Nat), l = pre ++ r → fidx x0 r pre.length = fidx x0 l 0 → q_w yX5_placeOf.cls yX5_placeOf.name cX5_placeOf 3 .ireturn 0 (fun st I1 J1 => st = [.int (oI (fidx x0 l 0))] ∧ I1 = I ∧ J1 = J) 2 [some (.ref q), some (.int (nI x0)), some (.int (nI pre.length))] [] (I) (J) := by
  obtain ⟨hq0, hq1⟩ := SH_kin hq
  intro r
  induction r with
  | nil =>
    intro pre e ht
    have hl : l.length = pre.length := by rw [e]; simp
    refine w_iload_n dX5_placeOf_2 rfl ?_
    refine w_aload_n dX5_placeOf_3 rfl ?_
    refine w_getI dX5_placeOf_4 f_X5_15 (by first | assumption | rfl) rfl ?_
    refine w_icmp_ge (tgt := 34) dX5_placeOf_7 (by decide) (fun c_7 => ?_) (fun c_7 => absurd (by rw [hR.1, hl]; exact Int32.le_refl _) c_7)
    refine w_bipush (v := (-9)) dX5_placeOf_34 (by decide) ?_
    exact w_ret dX5_placeOf_36 ⟨by rw [← ht]; rfl, rfl, rfl⟩
  | cons x r ih =>
    intro pre e ht
    obtain ⟨g1, g2, g3, g4⟩ := hR.at e
    refine w_iload_n dX5_placeOf_2 rfl ?_
    refine w_aload_n dX5_placeOf_3 rfl ?_
    refine w_getI dX5_placeOf_4 f_X5_15 (by first | assumption | rfl) rfl ?_
    refine w_icmp_ge (tgt := 34) dX5_placeOf_7 (by decide) (fun c_7 => absurd c_7 (by rw [hR.1]; exact nI_ge g1 (by have := hR.2.1; omega))) (fun c_7 => ?_)
    refine w_iload_n dX5_placeOf_10 rfl ?_
    refine w_bipush (v := 7) dX5_placeOf_11 (by decide) ?_
    refine w_icmp_ge (tgt := 34) dX5_placeOf_13 (by decide) (fun c_13 => absurd c_13 (nI_ge (b := 7) g4 (by decide))) (fun c_13 => ?_)
    refine w_aload_n dX5_placeOf_16 rfl ?_
    refine w_getR dX5_placeOf_17 f_X5_9 (by first | assumption | rfl) rfl rfl ?_
    refine w_iload_n dX5_placeOf_20 rfl ?_
    refine w_iald (j := pre.length) dX5_placeOf_21 (by first | assumption | rfl) rfl rfl g4 (by decide) ?_
    rw [g2]
    refine w_iload_n dX5_placeOf_22 rfl ?_
    refine w_icmp_ne (tgt := 28) dX5_placeOf_23 (by decide) (fun c_23 => ?_) (fun c_23 => ?_)
    · refine w_iincv (c := 1) dX5_placeOf_28 (by decide) rfl (by decide) rfl ?_
      refine w_goto (tgt := 2) dX5_placeOf_31 (by decide) ?_
      rw [nI_1, show pre.length + 1 = (pre ++ [x]).length by simp]
      have h9 : fidx x0 r (pre ++ [x]).length = fidx x0 l 0 := by
        rw [← ht]
        show _ = if x = x0 then _ else _
        rw [if_neg (fun h => c_23 (by rw [h]))]; simp
      exact ih (pre ++ [x]) (by rw [e]; simp) h9
    · refine w_iload_n dX5_placeOf_26 rfl ?_
      refine w_ret dX5_placeOf_27 ⟨?_, rfl, rfl⟩
      rw [← ht]; unfold fidx; rw [if_pos (nI_inj (by omega) (by omega) c_23)]; rfl
set_option maxHeartbeats 4000000 in
set_option maxRecDepth 100000 in
theorem c_X5_placeOf {I : Mem} {J : Lng} {q x0 : Nat} {l : List Nat} (hq : q ∈ q_kins) (hR : KR I q l) (hx : x0 < 7) : q_E yX5_placeOf cX5_placeOf 3 (some .int) 0 [.ref q, .int (nI x0)] I J (some (.int (oI (fidx x0 l 0)))) (I) (J) := by
  obtain ⟨hq0, hq1⟩ := SH_kin hq
  refine q_Ei me_X5_placeOf rfl (Nat.le_of_ble_eq_true rfl) ?_
  show q_w _ _ _ _ _ _ _ 0 [some (.ref q), some (.int (nI x0)), none] [] I J
  refine w_iconst (v := 0) dX5_placeOf_0 (by decide) ?_
  refine w_istore_n dX5_placeOf_1 (by decide) rfl ?_
  exact l_X5_placeOf hq hR hx l [] rfl rfl
set_option maxHeartbeats 4000000 in
set_option maxRecDepth 100000 in
theorem l_X5_allOf {I : Mem} {J : Lng} {q m : Nat} {l : List Nat} (hq : q ∈ q_kins) (hR : KR I q l) : ∀ (r pre : List Nat) (b : Nat), l = pre ++ r → b < 128 → r.foldl mset b = l.foldl mset 0 → q_w yX5_allOf.cls yX5_allOf.name cX5_allOf 4 .ireturn 0 (fun st I1 J1 => st = [.int (nI (l.foldl mset 0 &&& m))] ∧ I1 = I ∧ J1 = J) 4 [some (.ref q), some (.int (nI m)), some (.int (nI b)), some (.int (nI pre.length))] [] (I) (J) := by
  obtain ⟨hq0, hq1⟩ := SH_kin hq
  intro r
  induction r with
  | nil =>
    intro pre b e hb ht
    have hl : l.length = pre.length := by rw [e]; simp
    refine w_iload_n dX5_allOf_4 rfl ?_
    refine w_aload_n dX5_allOf_5 rfl ?_
    refine w_getI dX5_allOf_6 f_X5_15 (by first | assumption | rfl) rfl ?_
    refine w_icmp_ge (tgt := 35) dX5_allOf_9 (by decide) (fun c_9 => ?_) (fun c_9 => absurd (by rw [hR.1, hl]; exact Int32.le_refl _) c_9)
    refine w_iload_n dX5_allOf_35 rfl ?_
    refine w_iload_n dX5_allOf_36 rfl ?_
    refine w_iand dX5_allOf_37 ?_
    exact w_ret dX5_allOf_38 ⟨by rw [← ht, fa_and]; rfl, rfl, rfl⟩
  | cons x r ih =>
    intro pre b e hb ht
    obtain ⟨g1, g2, g3, g4⟩ := hR.at e
    refine w_iload_n dX5_allOf_4 rfl ?_
    refine w_aload_n dX5_allOf_5 rfl ?_
    refine w_getI dX5_allOf_6 f_X5_15 (by first | assumption | rfl) rfl ?_
    refine w_icmp_ge (tgt := 35) dX5_allOf_9 (by decide) (fun c_9 => absurd c_9 (by rw [hR.1]; exact nI_ge g1 (by have := hR.2.1; omega))) (fun c_9 => ?_)
    refine w_iload_n dX5_allOf_12 rfl ?_
    refine w_bipush (v := 7) dX5_allOf_13 (by decide) ?_
    refine w_icmp_ge (tgt := 35) dX5_allOf_15 (by decide) (fun c_15 => absurd c_15 (nI_ge (b := 7) g4 (by decide))) (fun c_15 => ?_)
    refine w_iload_n dX5_allOf_18 rfl ?_
    refine w_iconst (v := 1) dX5_allOf_19 (by decide) ?_
    refine w_aload_n dX5_allOf_20 rfl ?_
    refine w_getR dX5_allOf_21 f_X5_9 (by first | assumption | rfl) rfl rfl ?_
    refine w_iload_n dX5_allOf_24 rfl ?_
    refine w_iald (j := pre.length) dX5_allOf_25 (by first | assumption | rfl) rfl rfl g4 (by decide) ?_
    rw [g2]
    refine w_ishl dX5_allOf_26 ?_
    refine w_ior dX5_allOf_27 ?_
    rw [mI_set b hb x g3]
    refine w_istore_n dX5_allOf_28 (by decide) rfl ?_
    refine w_iincv (c := 1) dX5_allOf_29 (by decide) rfl (by decide) rfl ?_
    refine w_goto (tgt := 4) dX5_allOf_32 (by decide) ?_
    rw [nI_1, show pre.length + 1 = (pre ++ [x]).length by simp]
    exact ih (pre ++ [x]) _ (by rw [e]; simp) (mset_lt b hb x g3) ht
set_option maxHeartbeats 4000000 in
set_option maxRecDepth 100000 in
theorem c_X5_allOf {I : Mem} {J : Lng} {q m : Nat} {l : List Nat} (hq : q ∈ q_kins) (hR : KR I q l) : q_E yX5_allOf cX5_allOf 4 (some .int) 0 [.ref q, .int (nI m)] I J (some (.int (nI (l.foldl mset 0 &&& m)))) (I) (J) := by
  obtain ⟨hq0, hq1⟩ := SH_kin hq
  refine q_Ei me_X5_allOf rfl (Nat.le_of_ble_eq_true rfl) ?_
  show q_w _ _ _ _ _ _ _ 0 [some (.ref q), some (.int (nI m)), none, none] [] I J
  refine w_iconst (v := 0) dX5_allOf_0 (by decide) ?_
  refine w_istore_n dX5_allOf_1 (by decide) rfl ?_
  refine w_iconst (v := 0) dX5_allOf_2 (by decide) ?_
  refine w_istore_n dX5_allOf_3 (by decide) rfl ?_
  exact l_X5_allOf hq hR l [] 0 rfl (by decide) rfl
