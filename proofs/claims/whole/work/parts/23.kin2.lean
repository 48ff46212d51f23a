theorem w_mem {own nm : String} {cc : ByteArray} {nL : Nat} {rop : Instr} {d : Nat} {Q : List Value → Mem → Lng → Prop} {pc : Nat} {L : List (Option Value)} {st : List Value} {I I2 : Mem} {J : Lng} (h : I = I2) (K : q_w own nm cc nL rop d Q pc L st I2 J) : q_w own nm cc nL rop d Q pc L st I J := by
  subst h; exact K
/-- a row of people that were seen, each once -/
def KI (n : Nat) (st : List Nat × Nat) : Prop := st.2 < 128 ∧ st.1.Nodup ∧ ∀ x ∈ st.1, x < n ∧ st.2.testBit x = true
theorem nodup_len {l : List Nat} {n : Nat} (h : l.Nodup) (hn : ∀ x ∈ l, x < n) : l.length ≤ n := by
  refine fb_holes n l.length (fun i => l.getD i 0) (fun i hi => ?_) (fun i j hij hj h2 => ?_)
  · have : l.getD i 0 = l[i] := by simp [List.getD, hi]
    rw [this]; exact hn _ (List.getElem_mem hi)
  · have h1 : l.getD i 0 = l[i] := by simp [List.getD, show i < l.length by omega]
    have h3 : l.getD j 0 = l[j] := by simp [List.getD, hj]
    have h4 := (List.pairwise_iff_getElem.mp h) i j (by omega) hj hij
    rw [h1, h3] at h2
    exact h4 h2
theorem KI.add {n j : Nat} {st : List Nat × Nat} (h : KI n st) (hn : n ≤ 7) (hj : j < n) (hs : st.2.testBit j = false) : KI n (st.1 ++ [j], mset st.2 j) := by
  obtain ⟨h1, h2, h3⟩ := h
  refine ⟨mset_lt _ h1 _ (by omega), ?_, fun x hx => ?_⟩
  · rw [List.nodup_append]
    refine ⟨h2, by simp, fun a ha b hb hab => ?_⟩
    simp at hb
    subst hb; subst hab
    rw [(h3 a ha).2] at hs; cases hs
  · rcases List.mem_append.mp hx with q | q
    · refine ⟨(h3 x q).1, ?_⟩
      rw [mset_bit _ h1 _ (by omega) _ (by have := (h3 x q).1; omega), (h3 x q).2]; rfl
    · simp at q; subst q
      refine ⟨hj, ?_⟩
      rw [mset_bit _ h1 _ (by omega) _ (by omega)]; simp
theorem KI.len {n j : Nat} {st : List Nat × Nat} (h : KI n st) (hn : n ≤ 7) (hj : j < n) (hs : st.2.testBit j = false) : st.1.length < 7 := by
  have h2 := h.add hn hj hs
  have := nodup_len h2.2.1 (fun x hx => (h2.2.2 x hx).1)
  simp at this
  omega
theorem KI.len7 {n : Nat} {st : List Nat × Nat} (h : KI n st) (hn : n ≤ 7) : st.1.length ≤ 7 := by
  have := nodup_len h.2.1 (fun x hx => (h.2.2 x hx).1)
  omega
theorem ford_in {ah : Nat → Nat → Bool} : ∀ {f m x : Nat}, m < 128 → x ∈ ford ah f m → x < 7 ∧ m.testBit x = true
  | 0, m, x, hm, h => by simp [ford] at h
  | f + 1, m, x, hm, h => by
    unfold ford at h
    cases hp : fpick ah m 7 with
    | none => rw [hp] at h; simp at h
    | some c =>
      rw [hp] at h
      obtain ⟨h1, h2⟩ := fpick_in hp
      rcases List.mem_cons.mp h with rfl | h
      · exact ⟨h1, h2⟩
      · obtain ⟨h3, h4⟩ := ford_in (mclr_lt m hm c h1) h
        rw [mclr_bit m hm c h1 x h3] at h4
        simp only [Bool.and_eq_true] at h4
        exact ⟨h3, h4.1⟩
theorem foldl_KI {n : Nat} {g : (List Nat × Nat) → Nat → (List Nat × Nat)} (hg : ∀ st j, j < n → KI n st → KI n (g st j)) : ∀ (l : List Nat) (st : List Nat × Nat), (∀ x ∈ l, x < n) → KI n st → KI n (l.foldl g st)
  | [], st, _, h => h
  | a :: l, st, hl, h => foldl_KI hg l (g st a) (fun x hx => hl x (List.mem_cons_of_mem _ hx)) (hg st a (hl a List.mem_cons_self) h)
theorem fdl_KI {n : Nat} {kids : Nat → Nat} {no : Nat → Bool} {ah : Nat → Nat → Bool} (hn : n ≤ 7) (hk : ∀ p, kids p < 128) (hc : ∀ p, p < n → ∀ c, (kids p).testBit c = true → c < n) : ∀ (f : Nat) (st : List Nat × Nat) (j : Nat), j < n → KI n st → KI n (fdl kids no ah f st j)
  | 0, st, j, _, h => h
  | f + 1, st, j, hj, h => by
    unfold fdl
    by_cases hs : (st.2.testBit j || no j) = true
    · rw [if_pos hs]; exact h
    · rw [if_neg hs]
      simp only [Bool.or_eq_true, not_or, Bool.not_eq_true] at hs
      exact foldl_KI (fun st j hj h => fdl_KI hn hk hc f st j hj h) _ _ (fun x hx => hc j hj x (ford_in (hk j) hx).2) (h.add hn hj hs.1)
abbrev fd (I : Mem) (t n : Nat) (tie : Int32) := fdl (kI I t n) (noI I t tie) (ahI I t tie)
section
variable {I : Mem} {q t : Nat} {l : List Nat} {s : Nat}
theorem kput_t (ht : t ∈ q_lands) (hq : q ∈ q_kins) : kput I q l s t = I t := kput_ne (q_apart ht hq).1 (q_apart ht hq).2.1
theorem kput_t1 (ht : t ∈ q_lands) (hq : q ∈ q_kins) : kput I q l s (t + 1) = I (t + 1) := kput_ne (q_apart ht hq).2.2.1 (q_apart ht hq).2.2.2.1
theorem kput_t2 (ht : t ∈ q_lands) (hq : q ∈ q_kins) : kput I q l s (t + 2) = I (t + 2) := kput_ne (q_apart ht hq).2.2.2.2.1 (q_apart ht hq).2.2.2.2.2
theorem FM.k {n : Nat} (ht : t ∈ q_lands) (hq : q ∈ q_kins) (h : FM I t n) : FM (kput I q l s) t n := ⟨by rw [kput_t ht hq]; exact h.1, h.2⟩
theorem wI_k (ht : t ∈ q_lands) (hq : q ∈ q_kins) : wI (kput I q l s) t = wI I t := by funext k; unfold wI; rw [kput_t ht hq]
theorem kI_k (ht : t ∈ q_lands) (hq : q ∈ q_kins) : kI (kput I q l s) t = kI I t := by funext n k; unfold kI; rw [kput_t1 ht hq]
theorem ahI_k (ht : t ∈ q_lands) (hq : q ∈ q_kins) : ahI (kput I q l s) t = ahI I t := by funext tie; unfold ahI; rw [wI_k ht hq, kput_t2 ht hq]
theorem noI_k (ht : t ∈ q_lands) (hq : q ∈ q_kins) : noI (kput I q l s) t = noI I t := by funext tie p; unfold noI; rw [wI_k ht hq]
theorem fd_k (ht : t ∈ q_lands) (hq : q ∈ q_kins) : fd (kput I q l s) t = fd I t := by funext n tie; unfold fd; rw [kI_k ht hq, noI_k ht hq, ahI_k ht hq]
theorem ck_isWoman {J : Lng} {n j : Nat} (ht : t ∈ q_lands) (hq : q ∈ q_kins) (hF : FM I t n) (hj : j < n) : q_E yX6_isWoman cX6_isWoman 2 (some .boolean) 1 [.ref t, .int (nI j)] (kput I q l s) J (some (.int (zB (wI I t j)))) (kput I q l s) J := by
  have := cn_isWoman ht (hF.k (l := l) (s := s) ht hq) hj (J := J)
  rwa [wI_k ht hq] at this
theorem ck_childrenOf {J : Lng} {n j : Nat} (ht : t ∈ q_lands) (hq : q ∈ q_kins) (hF : FM I t n) : q_E yX6_childrenOf cX6_childrenOf 4 (some .int) 0 [.ref t, .int (nI j)] (kput I q l s) J (some (.int (nI (kI I t n j)))) (kput I q l s) J := by
  have := cn_childrenOf ht (hF.k (l := l) (s := s) ht hq) (J := J) (j := j)
  rwa [kI_k ht hq] at this
theorem ck_parentOf {J : Lng} {n j : Nat} (ht : t ∈ q_lands) (hq : q ∈ q_kins) (hF : FM I t n) (hj : j < n) : q_E yX6_parentOf cX6_parentOf 2 (some .int) 1 [.ref t, .int (nI j)] (kput I q l s) J (some (.int (I (t + 1) j))) (kput I q l s) J := by
  have := cn_parentOf ht (hF.k (l := l) (s := s) ht hq) hj (J := J)
  rwa [kput_t1 ht hq] at this
theorem ck_firstChild {J : Lng} {n m : Nat} {tie : Int32} (ht : t ∈ q_lands) (hq : q ∈ q_kins) (hF : FM I t n) (hm : m < 128) (hmn : ∀ j, m.testBit j = true → j < n) : q_E yX6_firstChild cX6_firstChild 5 (some .int) 1 [.ref t, .int (nI m), .int tie] (kput I q l s) J (some (.int (oI (fpick (ahI I t tie) m 7)))) (kput I q l s) J := by
  have := c_X6_firstChild ht (hF.k (l := l) (s := s) ht hq) hm hmn (J := J) (tie := tie)
  rwa [ahI_k ht hq] at this
end
theorem kput_add' {I : Mem} {q : Nat} {l : List Nat} {s s' x : Nat} {a b : Int32} (ha : a = nI s') (hb : b = nI (l.length + 1)) : upI (upI (upI (kput I q l s) q 2 a) (q + 1) l.length (nI x)) q 1 b = kput I q (l ++ [x]) s' := by
  subst ha; subst hb; exact kput_add I q l s s' x
def cAL (I : Mem) (J : Lng) (q t n : Nat) (tie : Int32) (f : Nat) : Prop := ∀ (j dd : Nat) (st : List Nat × Nat), j < n → dd ≤ j → 7 - j ≤ f → KI n st → q_E yX5_addLine cX5_addLine 5 none (2 * f + 6) [.ref q, .ref t, .int (nI j), .int tie, .int (nI dd)] (kput I q st.1 st.2) J none (kput I q (fd I t n tie f st j).1 (fd I t n tie f st j).2) J
def cAC (I : Mem) (J : Lng) (q t n : Nat) (tie : Int32) (f : Nat) : Prop := ∀ (j dd : Nat) (st : List Nat × Nat), j < n → dd ≤ j + 1 → 7 - j ≤ f + 1 → KI n st → q_E yX5_addChildren cX5_addChildren 8 none (2 * f + 7) [.ref q, .ref t, .int (nI j), .int tie, .int (nI dd)] (kput I q st.1 st.2) J none (kput I q ((ford (ahI I t tie) 7 (kI I t n j)).foldl (fd I t n tie f) st).1 ((ford (ahI I t tie) 7 (kI I t n j)).foldl (fd I t n tie f) st).2) J
theorem kI_c {I : Mem} {t n : Nat} (hv : FV n (I (t + 1))) (hn : n ≤ 7) : ∀ p, p < n → ∀ c, (kI I t n p).testBit c = true → c < n := fun p hp c h => (kI_in hv (by omega) h).1
set_option maxHeartbeats 4000000 in
set_option maxRecDepth 100000 in
theorem l_X5_addChildren {I : Mem} {J : Lng} {q t n : Nat} {tie : Int32} {f j dd : Nat} (hq : q ∈ q_kins) (ht : t ∈ q_lands) (hF : FM I t n) (hv : FV n (I (t + 1))) (hA : cAL I J q t n tie f) (hj : j < n) (hdd : dd ≤ j + 1) (hf : 7 - j ≤ f + 1) (R : List Nat × Nat) : ∀ (r i m : Nat) (st : List Nat × Nat) (x7 : Option Value), 7 - i = r → i ≤ 7 → m < 128 → (∀ c, m.testBit c = true → c < n ∧ j < c) → KI n st → (ford (ahI I t tie) r m).foldl (fd I t n tie f) st = R → q_w yX5_addChildren.cls yX5_addChildren.name cX5_addChildren 8 .return_ (2 * f + 7) (fun st0 I1 J1 => st0 = [] ∧ I1 = kput I q R.1 R.2 ∧ J1 = J) 10 [some (.ref q), some (.ref t), some (.int (nI j)), some (.int tie), some (.int (nI dd)), some (.int (nI m)), some (.int (nI i)), x7] [] (kput I q st.1 st.2) (J) := by
  obtain ⟨ht0, ht1, ht2⟩ := SH_land ht
  obtain ⟨hq0, hq1⟩ := SH_kin hq
  intro r
  induction r with
  | zero =>
    intro i m st x7 hr hi hm hmc hst hR
    obtain rfl : i = 7 := by omega
    refine w_iload dX5_addChildren_10 rfl ?_
    refine w_bipush (v := 7) dX5_addChildren_12 (by decide) ?_
    refine w_icmp_ge (tgt := 58) dX5_addChildren_14 (by decide) (fun c_14 => ?_) (fun c_14 => absurd (show (7 : Int32) ≤ nI 7 by decide) c_14)
    exact w_ret dX5_addChildren_58 ⟨rfl, by rw [← hR]; rfl, rfl⟩
  | succ r ih =>
    intro i m st x7 hr hi hm hmc hst hR
    have hi7 : i < 7 := by omega
    cases hp : fpick (ahI I t tie) m 7 with
    | none =>
      have hm0 : m = 0 := m_0 hm (fpick_none.mp hp)
      subst hm0
      have hR2 : st = R := by rw [← hR]; simp [ford, hp]
      refine w_iload dX5_addChildren_10 rfl ?_
      refine w_bipush (v := 7) dX5_addChildren_12 (by decide) ?_
      refine w_icmp_ge (tgt := 58) dX5_addChildren_14 (by decide) (fun c_14 => absurd c_14 (nI_ge (b := 7) hi7 (by decide))) (fun c_14 => ?_)
      refine w_iload dX5_addChildren_17 rfl ?_
      refine w_if_eq (tgt := 58) dX5_addChildren_19 (by decide) (fun c_19 => ?_) (fun c_19 => absurd (show nI 0 = 0 from rfl) c_19)
      exact w_ret dX5_addChildren_58 ⟨rfl, by rw [hR2], rfl⟩
    | some c =>
      obtain ⟨hc7, hcb⟩ := fpick_in hp
      obtain ⟨hcn, hjc⟩ := hmc c hcb
      have hm0 : m ≠ 0 := by rintro rfl; simp at hcb
      have hR2 : (ford (ahI I t tie) r (mclr m c)).foldl (fd I t n tie f) (fd I t n tie f st c) = R := by
        rw [← hR]; simp [ford, hp]
      have hst2 : KI n (fd I t n tie f st c) := fdl_KI hF.2 (fun p => kI_lt hF.2) (kI_c hv hF.2) f st c hcn hst
      have hmc2 : ∀ x, (mclr m c).testBit x = true → x < n ∧ j < x := fun x hx => by
        by_cases hx7 : x < 7
        · rw [mclr_bit m hm c hc7 x hx7] at hx
          simp only [Bool.and_eq_true] at hx
          exact hmc x hx.1
        · rw [m_hi (mclr_lt m hm c hc7) (by omega)] at hx; cases hx
      have hn7 := hF.2
      refine w_iload dX5_addChildren_10 rfl ?_
      refine w_bipush (v := 7) dX5_addChildren_12 (by decide) ?_
      refine w_icmp_ge (tgt := 58) dX5_addChildren_14 (by decide) (fun c_14 => absurd c_14 (nI_ge (b := 7) hi7 (by decide))) (fun c_14 => ?_)
      refine w_iload dX5_addChildren_17 rfl ?_
      refine w_if_eq (tgt := 58) dX5_addChildren_19 (by decide) (fun c_19 => absurd c_19 (nI_ne0 (by omega) (by omega))) (fun c_19 => ?_)
      refine w_aload_n dX5_addChildren_22 rfl ?_
      refine w_iload dX5_addChildren_23 rfl ?_
      refine w_iload_n dX5_addChildren_25 rfl ?_
      refine w_callVi dX5_addChildren_26 k_X5_45 (by first | assumption | rfl) rfl (ck_firstChild ht hq hF hm (fun x hx => (hmc x hx).1)) rfl rfl rfl (Nat.le_of_ble_eq_true rfl) (by first | decide | omega) ?_
      rw [hp]
      refine w_istore dX5_addChildren_29 (by decide) rfl ?_
      refine w_iload dX5_addChildren_31 rfl ?_
      refine w_iconst (v := 1) dX5_addChildren_33 (by decide) ?_
      refine w_iload dX5_addChildren_34 rfl ?_
      refine w_ishl dX5_addChildren_36 ?_
      refine w_iconst (v := (-1)) dX5_addChildren_37 (by decide) ?_
      refine w_ixor dX5_addChildren_38 ?_
      refine w_iand dX5_addChildren_39 ?_
      refine w_istore dX5_addChildren_40 (by decide) rfl ?_
      rw [show oI (some c) = nI c from rfl, mI_clr m hm c hc7]
      refine w_aload_n dX5_addChildren_42 rfl ?_
      refine w_aload_n dX5_addChildren_43 rfl ?_
      refine w_iload dX5_addChildren_44 rfl ?_
      refine w_iload_n dX5_addChildren_46 rfl ?_
      refine w_iload dX5_addChildren_47 rfl ?_
      refine w_callVv dX5_addChildren_49 k_X5_22 (by first | assumption | rfl) rfl (hA c dd st hcn (by omega) (by omega) hst) rfl rfl rfl (Nat.le_of_ble_eq_true rfl) (by first | decide | omega) ?_
      refine w_iincv (c := 1) dX5_addChildren_52 (by decide) rfl (by decide) rfl ?_
      refine w_goto (tgt := 10) dX5_addChildren_55 (by decide) ?_
      rw [nI_1]
      exact ih (i + 1) (mclr m c) _ _ (by omega) (by omega) (mclr_lt m hm c hc7) hmc2 hst2 hR2
set_option maxHeartbeats 4000000 in
set_option maxRecDepth 100000 in
theorem c_kin {I : Mem} {J : Lng} {q t n : Nat} {tie : Int32} (hq : q ∈ q_kins) (ht : t ∈ q_lands) (hF : FM I t n) (hv : FV n (I (t + 1))) : ∀ f, cAL I J q t n tie f ∧ cAC I J q t n tie f := by
  obtain ⟨ht0, ht1, ht2⟩ := SH_land ht
  obtain ⟨hq0, hq1⟩ := SH_kin hq
  have hn7 := hF.2
  have hAC : ∀ f, cAL I J q t n tie f → cAC I J q t n tie f := by
    intro f hA j dd st hj hdd hf hst
    refine q_Ev me_X5_addChildren rfl (Nat.le_of_ble_eq_true rfl) ?_
    show q_w _ _ _ _ _ _ _ 0 [some (.ref q), some (.ref t), some (.int (nI j)), some (.int tie), some (.int (nI dd)), none, none, none] [] _ _
    refine w_aload_n dX5_addChildren_0 rfl ?_
    refine w_iload_n dX5_addChildren_1 rfl ?_
    refine w_callVi dX5_addChildren_2 k_X5_42 (by first | assumption | rfl) rfl (ck_childrenOf ht hq hF) rfl rfl rfl (Nat.le_of_ble_eq_true rfl) (by first | decide | omega) ?_
    refine w_istore dX5_addChildren_5 (by decide) rfl ?_
    refine w_iconst (v := 0) dX5_addChildren_7 (by decide) ?_
    refine w_istore dX5_addChildren_8 (by decide) rfl ?_
    exact l_X5_addChildren hq ht hF hv hA hj hdd hf _ 7 0 (kI I t n j) st _ rfl (by decide) (kI_lt hn7) (fun c hc => kI_in hv (by omega) hc) hst rfl
  intro f
  induction f with
  | zero =>
    have hA : cAL I J q t n tie 0 := fun j dd st hj hdd hf => absurd hf (by omega)
    exact ⟨hA, hAC 0 hA⟩
  | succ f ih =>
    have hC := ih.2
    have hA : cAL I J q t n tie (f + 1) := by
      intro j dd st hj hdd hf hst
      refine q_Ev me_X5_addLine rfl (Nat.le_of_ble_eq_true rfl) ?_
      show q_w _ _ _ _ _ _ _ 0 [some (.ref q), some (.ref t), some (.int (nI j)), some (.int tie), some (.int (nI dd))] [] _ _
      refine w_iload dX5_addLine_0 rfl ?_
      refine w_bipush (v := 7) dX5_addLine_2 (by decide) ?_
      refine w_icmp_ge (tgt := 24) dX5_addLine_4 (by decide) (fun c_4 => absurd c_4 (nI_ge (b := 7) (by omega) (by decide))) (fun c_4 => ?_)
      refine w_aload_n dX5_addLine_7 rfl ?_
      refine w_getI dX5_addLine_8 f_X5_15 (by first | assumption | rfl) rfl ?_
      refine w_bipush (v := 7) dX5_addLine_11 (by decide) ?_
      refine w_icmp_ge (tgt := 24) dX5_addLine_13 (by decide) (fun c_13 => ?_) (fun c_13 => ?_)
      · refine w_ret dX5_addLine_24 ⟨rfl, ?_, rfl⟩
        have hsb : st.2.testBit j = true := by
          cases hb : st.2.testBit j with
          | true => rfl
          | false => exact absurd c_13 (by rw [kput_1]; exact nI_ge (b := 7) (hst.len hn7 hj hb) (by decide))
        rw [show fd I t n tie (f + 1) st j = st from if_pos (by rw [hsb]; rfl)]
      · refine w_aload_n dX5_addLine_16 rfl ?_
        refine w_iload_n dX5_addLine_17 rfl ?_
        refine w_callVi dX5_addLine_18 k_X5_26 (by first | assumption | rfl) rfl (cn_has ht (hF.k ht hq) hj) rfl rfl rfl (Nat.le_of_ble_eq_true rfl) (by first | decide | omega) ?_
        refine w_if_ne (tgt := 25) dX5_addLine_21 (by decide) (fun c_21 => ?_) (fun c_21 => absurd c_21 (show ¬ (1 : Int32) = 0 by decide))
        refine w_aload_n dX5_addLine_25 rfl ?_
        refine w_getI dX5_addLine_26 f_X5_19 (by first | assumption | rfl) rfl ?_
        refine w_iload_n dX5_addLine_29 rfl ?_
        refine w_ishr dX5_addLine_30 ?_
        refine w_iconst (v := 1) dX5_addLine_31 (by decide) ?_
        refine w_iand dX5_addLine_32 ?_
        refine w_iconst (v := 1) dX5_addLine_33 (by decide) ?_
        refine w_icmp_eq (tgt := 49) dX5_addLine_34 (by decide) (fun c_34 => ?_) (fun c_34 => ?_)
        · refine w_ret dX5_addLine_49 ⟨rfl, ?_, rfl⟩
          have hsb : st.2.testBit j = true := zbit_t hst.1 (by omega) (by rw [← kput_2 I q st.1 st.2]; exact c_34)
          rw [show fd I t n tie (f + 1) st j = st from if_pos (by rw [hsb]; rfl)]
        · refine w_iload_n dX5_addLine_37 rfl ?_
          refine w_if_ne (tgt := 50) dX5_addLine_38 (by decide) (fun c_38 => ?_) (fun c_38 => ?_)
          · have hsb : st.2.testBit j = false := zbit_f hst.1 (by omega) (by rw [← kput_2 I q st.1 st.2]; exact c_34)
            have hno : noI I t tie j = false := by first | (simp [noI, c_38]; done) | (have := zB_eq0.mp c_46; simp [noI, this])
            have hfd : fd I t n tie (f + 1) st j = (ford (ahI I t tie) 7 (kI I t n j)).foldl (fd I t n tie f) (st.1 ++ [j], mset st.2 j) := by
              show (if (st.2.testBit j || noI I t tie j) = true then _ else _) = _
              rw [hsb, hno]; rfl
            refine w_aload_n dX5_addLine_50 rfl ?_
            refine w_dup dX5_addLine_51 rfl ?_
            refine w_getI dX5_addLine_52 f_X5_19 (by first | assumption | rfl) rfl ?_
            refine w_iconst (v := 1) dX5_addLine_55 (by decide) ?_
            refine w_iload_n dX5_addLine_56 rfl ?_
            refine w_ishl dX5_addLine_57 ?_
            refine w_ior dX5_addLine_58 ?_
            refine w_putI dX5_addLine_59 f_X5_19 (by first | assumption | rfl) rfl ?_
            refine w_aload_n dX5_addLine_62 rfl ?_
            refine w_getR dX5_addLine_63 f_X5_9 (by first | assumption | rfl) rfl rfl ?_
            refine w_aload_n dX5_addLine_66 rfl ?_
            refine w_getI dX5_addLine_67 f_X5_15 (by first | assumption | rfl) rfl ?_
            refine w_iload_n dX5_addLine_70 rfl ?_
            refine w_iast (j := st.1.length) dX5_addLine_71 (by first | assumption | rfl) rfl (by simp [upI, kput_1]) (by have := hst.len hn7 hj hsb; dsimp only; omega) (by decide) ?_
            refine w_aload_n dX5_addLine_72 rfl ?_
            refine w_dup dX5_addLine_73 rfl ?_
            refine w_getI dX5_addLine_74 f_X5_15 (by first | assumption | rfl) rfl ?_
            refine w_iconst (v := 1) dX5_addLine_77 (by decide) ?_
            refine w_iadd dX5_addLine_78 ?_
            refine w_putI dX5_addLine_79 f_X5_15 (by first | assumption | rfl) rfl ?_
            refine w_mem (I2 := kput I q (st.1 ++ [j]) (mset st.2 j)) (kput_add' (by rw [kput_2, mI_set _ hst.1 _ (by omega)]) (by simp [upI, kput_1, nI_1])) ?_
            refine w_aload_n dX5_addLine_82 rfl ?_
            refine w_aload_n dX5_addLine_83 rfl ?_
            refine w_iload_n dX5_addLine_84 rfl ?_
            refine w_iload_n dX5_addLine_85 rfl ?_
            refine w_iload dX5_addLine_86 rfl ?_
            refine w_iconst (v := 1) dX5_addLine_88 (by decide) ?_
            refine w_iadd dX5_addLine_89 ?_
            rw [nI_1]
            refine w_callVv dX5_addLine_90 k_X5_32 (by first | assumption | rfl) rfl (hC j (dd + 1) (st.1 ++ [j], mset st.2 j) hj (by omega) (by omega) (hst.add hn7 hj hsb)) rfl rfl rfl (Nat.le_of_ble_eq_true rfl) (by first | decide | omega) ?_
            exact w_ret dX5_addLine_93 ⟨rfl, by rw [hfd], rfl⟩
          · refine w_aload_n dX5_addLine_41 rfl ?_
            refine w_iload_n dX5_addLine_42 rfl ?_
            refine w_callVi dX5_addLine_43 k_X5_39 (by first | assumption | rfl) rfl (ck_isWoman ht hq hF hj) rfl rfl rfl (Nat.le_of_ble_eq_true rfl) (by first | decide | omega) ?_
            refine w_if_eq (tgt := 50) dX5_addLine_46 (by decide) (fun c_46 => ?_) (fun c_46 => ?_)
            · have hsb : st.2.testBit j = false := zbit_f hst.1 (by omega) (by rw [← kput_2 I q st.1 st.2]; exact c_34)
              have hno : noI I t tie j = false := by first | (simp [noI, c_38]; done) | (have := zB_eq0.mp c_46; simp [noI, this])
              have hfd : fd I t n tie (f + 1) st j = (ford (ahI I t tie) 7 (kI I t n j)).foldl (fd I t n tie f) (st.1 ++ [j], mset st.2 j) := by
                show (if (st.2.testBit j || noI I t tie j) = true then _ else _) = _
                rw [hsb, hno]; rfl
              refine w_aload_n dX5_addLine_50 rfl ?_
              refine w_dup dX5_addLine_51 rfl ?_
              refine w_getI dX5_addLine_52 f_X5_19 (by first | assumption | rfl) rfl ?_
              refine w_iconst (v := 1) dX5_addLine_55 (by decide) ?_
              refine w_iload_n dX5_addLine_56 rfl ?_
              refine w_ishl dX5_addLine_57 ?_
              refine w_ior dX5_addLine_58 ?_
              refine w_putI dX5_addLine_59 f_X5_19 (by first | assumption | rfl) rfl ?_
              refine w_aload_n dX5_addLine_62 rfl ?_
              refine w_getR dX5_addLine_63 f_X5_9 (by first | assumption | rfl) rfl rfl ?_
              refine w_aload_n dX5_addLine_66 rfl ?_
              refine w_getI dX5_addLine_67 f_X5_15 (by first | assumption | rfl) rfl ?_
              refine w_iload_n dX5_addLine_70 rfl ?_
              refine w_iast (j := st.1.length) dX5_addLine_71 (by first | assumption | rfl) rfl (by simp [upI, kput_1]) (by have := hst.len hn7 hj hsb; dsimp only; omega) (by decide) ?_
              refine w_aload_n dX5_addLine_72 rfl ?_
              refine w_dup dX5_addLine_73 rfl ?_
              refine w_getI dX5_addLine_74 f_X5_15 (by first | assumption | rfl) rfl ?_
              refine w_iconst (v := 1) dX5_addLine_77 (by decide) ?_
              refine w_iadd dX5_addLine_78 ?_
              refine w_putI dX5_addLine_79 f_X5_15 (by first | assumption | rfl) rfl ?_
              refine w_mem (I2 := kput I q (st.1 ++ [j]) (mset st.2 j)) (kput_add' (by rw [kput_2, mI_set _ hst.1 _ (by omega)]) (by simp [upI, kput_1, nI_1])) ?_
              refine w_aload_n dX5_addLine_82 rfl ?_
              refine w_aload_n dX5_addLine_83 rfl ?_
              refine w_iload_n dX5_addLine_84 rfl ?_
              refine w_iload_n dX5_addLine_85 rfl ?_
              refine w_iload dX5_addLine_86 rfl ?_
              refine w_iconst (v := 1) dX5_addLine_88 (by decide) ?_
              refine w_iadd dX5_addLine_89 ?_
              rw [nI_1]
              refine w_callVv dX5_addLine_90 k_X5_32 (by first | assumption | rfl) rfl (hC j (dd + 1) (st.1 ++ [j], mset st.2 j) hj (by omega) (by omega) (hst.add hn7 hj hsb)) rfl rfl rfl (Nat.le_of_ble_eq_true rfl) (by first | decide | omega) ?_
              exact w_ret dX5_addLine_93 ⟨rfl, by rw [hfd], rfl⟩
            · refine w_ret dX5_addLine_49 ⟨rfl, ?_, rfl⟩
              have hw : wI I t j = true := by simpa [zB_eq0] using c_46
              rw [show fd I t n tie (f + 1) st j = st from if_pos (by simp [noI, hw, c_38])]
    exact ⟨hA, hAC (f + 1) hA⟩
