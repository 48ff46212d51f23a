theorem rem10 {a : Nat} (h : a < 2 ^ 31) : nI a - nI a / 10 * 10 = nI (a % 10) := pk_rem (d := 10) h (by decide) (by decide)
theorem div10 {a : Nat} (h : a < 2 ^ 31) : nI a / 10 = nI (a / 10) := pk_div (d := 10) h (by decide) (by decide)
/-- a told figure: one that lives -/
def dal (m x : Nat) : Bool := decide (0 < x) && m.testBit (x - 1)
def dok (m : Nat) : Nat → Nat → Nat → Bool
  | 0, rest, _ => decide (rest = 0)
  | r + 1, rest, s => if dal m (rest % 10) && !s.testBit (rest % 10 - 1) then dok m r (rest / 10) (mset s (rest % 10 - 1)) else false
/-- who dies, the first one first -/
def dpl : Nat → Nat → List Nat
  | 0, _ => []
  | r + 1, rest => dpl r (rest / 10) ++ [rest % 10 - 1]
theorem dpl_len : ∀ r d, (dpl r d).length = r
  | 0, d => rfl
  | r + 1, d => by simp [dpl, dpl_len r]
def DO (I I' : Mem) : Prop := ∀ p, p ≠ 64 → p ≠ 65 → I' p = I p
theorem DO.rf {I : Mem} : DO I I := fun _ _ _ => rfl
theorem DO.land {I I' : Mem} (h : DO I I') {t : Nat} (ht : t ∈ q_lands) : lnd I' t = lnd I t := by
  have : ∀ t ∈ q_lands, t ≠ 64 ∧ t ≠ 65 ∧ t + 1 ≠ 64 ∧ t + 1 ≠ 65 ∧ t + 2 ≠ 64 ∧ t + 2 ≠ 65 := by decide
  obtain ⟨a, b, c, d, e, f⟩ := this t ht
  exact lnd_ne (h _ a b) (h _ c d) (h _ e f)
theorem DO.u65 {I I' : Mem} {k : Nat} {v : Int32} (h : DO I I') : DO I (upI I' 65 k v) := fun p a b => by rw [upI_ne b]; exact h p a b
theorem DO.u64 {I I' : Mem} {k : Nat} {v : Int32} (h : DO I I') : DO I (upI I' 64 k v) := fun p a b => by rw [upI_ne a]; exact h p a b
theorem m1_lt : (nI 0 : Int32) - 1 < 0 := by decide
theorem zl_fig {I : Mem} {t n m x : Nat} (h : PW (lnd I t) n m) (hx : x < 10) : zlives I t (nI x - 1) = dal m x := by
  have hm := h.2.2.2.1
  have hn := h.2.1
  have hl : I t 4 = nI m := h.2.2.1
  unfold dal
  cases x with
  | zero =>
    have : zhas I t (nI 0 - 1) = false := by
      unfold zhas
      rw [show decide (nI 0 - 1 < 0) = true from by decide]; rfl
    unfold zlives; rw [this]; rfl
  | succ x =>
    rw [nI_pred]
    show _ = (decide (0 < x + 1) && m.testBit (x + 1 - 1))
    rw [show x + 1 - 1 = x by omega, show decide (0 < x + 1) = true by simp, Bool.true_and]
    cases hz : zhas I t (nI x) with
    | true =>
      obtain ⟨j, hj, e⟩ := h.FM.inv hz
      have : x = j := nI_inj (by omega) (by omega) e
      subst this
      unfold zlives; rw [hz, hl, mI_bit m (p2_128 hn hm) x (by omega)]; rfl
    | false =>
      unfold zlives; rw [hz, Bool.false_and]
      cases hb : m.testBit x with
      | false => rfl
      | true =>
        have := p2_bit hm hb
        rw [h.FM.has this] at hz; cases hz
set_option maxHeartbeats 4000000 in
set_option maxRecDepth 100000 in
theorem l_X2_read {I : Mem} {J : Lng} {N m n d : Nat} (hP : PW (lnd I 3) N m) (hn : n < 5) : ∀ (r rest s : Nat) (I1 : Mem) (x7 : Option Value) (suf : List Nat), r + suf.length = n → rest < 2 ^ 31 → s < 128 → DO I I1 → (∀ i, i < suf.length → I1 65 (r + i) = nI (suf.getD i 0)) → dpl r rest ++ suf = dpl n d → dok m r rest s = dok m n d 0 → q_w yX2_read.cls yX2_read.name cX2_read 8 .ireturn 2 (fun st I1 J1 => ∃ v : Int32, (v = 0 ∨ v = 1) ∧ st = [.int v] ∧ (J1 = J ∧ DO I I1 ∧ some (Value.int v) = some (.int (zB (dok m n d 0))) ∧ (dok m n d 0 = true → I1 64 1 = nI n ∧ ∀ k, k < n → I1 65 k = nI ((dpl n d).getD k 0)))) 32 [some (.ref 64), some (.int (nI n)), some (.int (nI d)), some (.ref 3), some (.int (nI rest)), some (.int (nI s)), some (.int (nI r - 1)), x7] [] (I1) (J) := by
  obtain ⟨ht0, ht1, ht2⟩ := SH_land l3
  intro r
  induction r with
  | zero =>
    intro rest s I1 x7 suf hr hrest hs hO hR hD hZ
    have hz : decide (rest = 0) = dok m n d 0 := hZ
    refine w_iload dX2_read_32 rfl ?_
    refine w_if_lt (tgt := 99) dX2_read_34 (by decide) (fun c_34 => ?_) (fun c_34 => absurd m1_lt c_34)
    refine w_aload_n dX2_read_99 rfl ?_
    refine w_iload_n dX2_read_100 rfl ?_
    refine w_putI dX2_read_101 f_X2_15 (by first | assumption | rfl) rfl ?_
    refine w_iload dX2_read_104 rfl ?_
    refine w_if_ne (tgt := 113) dX2_read_106 (by decide) (fun c_106 => ?_) (fun c_106 => ?_)
    · refine w_iconst (v := 0) dX2_read_113 (by decide) ?_
      have hr0 : rest ≠ 0 := fun e => c_106 (by rw [e]; rfl)
      have hf : dok m n d 0 = false := by rw [← hz]; simpa using hr0
      exact w_ret dX2_read_114 ⟨0, Or.inl rfl, rfl, rfl, hO.u64, by rw [hf]; rfl, fun h => by rw [hf] at h; cases h⟩
    · refine w_iconst (v := 1) dX2_read_109 (by decide) ?_
      refine w_goto (tgt := 114) dX2_read_110 (by decide) ?_
      have hr0 : rest = 0 := nI_inj (by omega) (by decide) c_106
      have hf : dok m n d 0 = true := by rw [← hz]; simpa using hr0
      refine w_ret dX2_read_114 ⟨1, Or.inr rfl, rfl, rfl, hO.u64, by rw [hf]; rfl, fun _ => ⟨upI_tt, fun k hk => ?_⟩⟩
      rw [upI_ne (by decide), ← hD]
      have := hR k (by omega)
      rw [Nat.zero_add] at this
      rw [this]; rfl
  | succ r ih =>
    intro rest s I1 x7 suf hr hrest hs hO hR hD hZ
    have hx : rest % 10 < 10 := Nat.mod_lt _ (by decide)
    have hP1 : PW (lnd I1 3) N m := by rw [hO.land l3]; exact hP
    have hlv := c_X6_lives l3 (I := I1) (J := J) (p := nI (rest % 10) - 1)
    rw [zl_fig hP1 hx] at hlv
    have hstep : dok m (r + 1) rest s = if (dal m (rest % 10) && !s.testBit (rest % 10 - 1)) = true then dok m r (rest / 10) (mset s (rest % 10 - 1)) else false := rfl
    rw [hstep] at hZ
    refine w_iload dX2_read_32 rfl ?_
    refine w_if_lt (tgt := 99) dX2_read_34 (by decide) (fun c_34 => absurd c_34 (by rw [nI_pred]; exact nI_pos (by omega))) (fun c_34 => ?_)
    refine w_iload dX2_read_37 rfl ?_
    refine w_bipush (v := 10) dX2_read_39 (by decide) ?_
    refine w_irem dX2_read_41 (by decide) ?_
    refine w_iconst (v := 1) dX2_read_42 (by decide) ?_
    refine w_isub dX2_read_43 ?_
    rw [rem10 hrest]
    refine w_istore dX2_read_44 (by decide) rfl ?_
    refine w_aload_n dX2_read_46 rfl ?_
    refine w_iload dX2_read_47 rfl ?_
    refine w_callVi dX2_read_49 k_X2_19 (by first | assumption | rfl) rfl (hlv) rfl rfl rfl (Nat.le_of_ble_eq_true rfl) (by first | decide | omega) ?_
    refine w_if_eq (tgt := 66) dX2_read_52 (by decide) (fun c_52 => ?_) (fun c_52 => ?_)
    · refine w_iconst (v := 0) dX2_read_66 (by decide) ?_
      exact w_ret dX2_read_67 ⟨0, Or.inl rfl, rfl, rfl, hO, by rw [← hZ, zB_eq0.mp c_52]; rfl, fun h => by rw [← hZ, zB_eq0.mp c_52] at h; cases h⟩
    · have ha : dal m (rest % 10) = true := by simpa [zB_eq0] using c_52
      have ha2 : 0 < rest % 10 ∧ m.testBit (rest % 10 - 1) = true := by simpa [dal] using ha
      have hx7 : rest % 10 - 1 < 7 := Nat.lt_of_lt_of_le (p2_bit hP.2.2.2.1 ha2.2) hP.2.1
      have ex : nI (rest % 10) - 1 = nI (rest % 10 - 1) := by
        rw [show rest % 10 = (rest % 10 - 1) + 1 by omega, nI_pred]; rfl
      rw [ex]
      refine w_iload dX2_read_55 rfl ?_
      refine w_iload dX2_read_57 rfl ?_
      refine w_ishr dX2_read_59 ?_
      refine w_iconst (v := 1) dX2_read_60 (by decide) ?_
      refine w_iand dX2_read_61 ?_
      refine w_iconst (v := 1) dX2_read_62 (by decide) ?_
      refine w_icmp_ne (tgt := 68) dX2_read_63 (by decide) (fun c_63 => ?_) (fun c_63 => ?_)
      · refine w_iload dX2_read_68 rfl ?_
        refine w_iconst (v := 1) dX2_read_70 (by decide) ?_
        refine w_iload dX2_read_71 rfl ?_
        refine w_ishl dX2_read_73 ?_
        refine w_ior dX2_read_74 ?_
        rw [mI_set s hs _ hx7]
        refine w_istore dX2_read_75 (by decide) rfl ?_
        refine w_aload_n dX2_read_77 rfl ?_
        refine w_getR dX2_read_78 f_X2_9 (by first | assumption | rfl) rfl rfl ?_
        refine w_iload dX2_read_81 rfl ?_
        refine w_iload dX2_read_83 rfl ?_
        refine w_iast (j := r) dX2_read_85 (by first | assumption | rfl) rfl (nI_pred r) (show r < 4 by omega) (by decide) ?_
        refine w_iload dX2_read_86 rfl ?_
        refine w_bipush (v := 10) dX2_read_88 (by decide) ?_
        refine w_idiv dX2_read_90 (by decide) ?_
        rw [div10 hrest]
        refine w_istore dX2_read_91 (by decide) rfl ?_
        refine w_iincv (c := (-1)) dX2_read_93 (by decide) rfl (by decide) rfl ?_
        refine w_goto (tgt := 32) dX2_read_96 (by decide) ?_
        have hsb := zbit_f hs hx7 c_63
        rw [ha, hsb] at hZ
        rw [show nI (r + 1) - 1 + (-1) = nI r - 1 by rw [nI_pred]; exact (Int32.sub_eq_add_neg _ _).symm]
        refine ih (rest / 10) _ _ _ ((rest % 10 - 1) :: suf) (by simp; omega) (by omega) (mset_lt s hs _ hx7) hO.u65 (fun i hi => ?_) (by rw [← hD]; simp [dpl]) hZ
        cases i with
        | zero => rw [Nat.add_zero, upI_tt]; rfl
        | succ i =>
          have := hR i (by simpa using hi)
          rw [upI_tf (by omega), show r + (i + 1) = r + 1 + i by omega, this]; rfl
      · refine w_iconst (v := 0) dX2_read_66 (by decide) ?_
        exact w_ret dX2_read_67 ⟨0, Or.inl rfl, rfl, rfl, hO, by rw [← hZ, zbit_t hs hx7 c_63, ha]; rfl, fun h => by rw [← hZ, zbit_t hs hx7 c_63, ha] at h; cases h⟩
set_option maxHeartbeats 4000000 in
set_option maxRecDepth 100000 in
theorem c_X2_read {I : Mem} {J : Lng} {N m n d : Nat} (hP : PW (lnd I 3) N m) (h1 : 1 ≤ n) (hn : n < 5) (hd : d < 2 ^ 31) : q_F yX2_read cX2_read 8 (some .boolean) 2 [.ref 64, .int (nI n), .int (nI d), .ref 3] I J (fun r I1 J1 => J1 = J ∧ DO I I1 ∧ r = some (.int (zB (dok m n d 0))) ∧ (dok m n d 0 = true → I1 64 1 = nI n ∧ ∀ k, k < n → I1 65 k = nI ((dpl n d).getD k 0))) := by
  refine q_Fz me_X2_read rfl (Nat.le_of_ble_eq_true rfl) ?_
  show q_w _ _ _ _ _ _ _ 0 [some (.ref 64), some (.int (nI n)), some (.int (nI d)), some (.ref 3), none, none, none, none] [] I J
  refine w_aload_n dX2_read_0 rfl ?_
  refine w_iconst (v := 0) dX2_read_1 (by decide) ?_
  refine w_putI dX2_read_2 f_X2_15 (by first | assumption | rfl) rfl ?_
  refine w_iload_n dX2_read_5 rfl ?_
  refine w_iconst (v := 1) dX2_read_6 (by decide) ?_
  refine w_icmp_lt (tgt := 19) dX2_read_7 (by decide) (fun c_7 => absurd c_7 (nI_nlt (a := n) (b := 1) h1 (by omega))) (fun c_7 => ?_)
  refine w_iload_n dX2_read_10 rfl ?_
  refine w_iconst (v := 4) dX2_read_11 (by decide) ?_
  refine w_icmp_gt (tgt := 19) dX2_read_12 (by decide) (fun c_12 => absurd c_12 (nI_nlt (a := 4) (b := n) (by omega) (by decide))) (fun c_12 => ?_)
  refine w_iload_n dX2_read_15 rfl ?_
  refine w_if_ge (tgt := 21) dX2_read_16 (by decide) (fun c_16 => ?_) (fun c_16 => absurd (nI_pos' hd) c_16)
  refine w_iload_n dX2_read_21 rfl ?_
  refine w_istore dX2_read_22 (by decide) rfl ?_
  refine w_iconst (v := 0) dX2_read_24 (by decide) ?_
  refine w_istore dX2_read_25 (by decide) rfl ?_
  refine w_iload_n dX2_read_27 rfl ?_
  refine w_iconst (v := 1) dX2_read_28 (by decide) ?_
  refine w_isub dX2_read_29 ?_
  refine w_istore dX2_read_30 (by decide) rfl ?_
  exact l_X2_read hP hn n d 0 _ _ [] rfl hd (by decide) DO.rf.u64 (fun i hi => absurd hi (Nat.not_lt_zero i)) (by simp) rfl
set_option maxHeartbeats 4000000 in
set_option maxRecDepth 100000 in
theorem c_X2_read_neg {I : Mem} {J : Lng} {n : Nat} {d : Int32} (h1 : 1 ≤ n) (hn : n < 5) (hd : d < 0) : q_F yX2_read cX2_read 8 (some .boolean) 2 [.ref 64, .int (nI n), .int d, .ref 3] I J (fun r I1 J1 => J1 = J ∧ DO I I1 ∧ r = some (.int 0)) := by
  refine q_Fz me_X2_read rfl (Nat.le_of_ble_eq_true rfl) ?_
  show q_w _ _ _ _ _ _ _ 0 [some (.ref 64), some (.int (nI n)), some (.int d), some (.ref 3), none, none, none, none] [] I J
  refine w_aload_n dX2_read_0 rfl ?_
  refine w_iconst (v := 0) dX2_read_1 (by decide) ?_
  refine w_putI dX2_read_2 f_X2_15 (by first | assumption | rfl) rfl ?_
  refine w_iload_n dX2_read_5 rfl ?_
  refine w_iconst (v := 1) dX2_read_6 (by decide) ?_
  refine w_icmp_lt (tgt := 19) dX2_read_7 (by decide) (fun c_7 => absurd c_7 (nI_nlt (a := n) (b := 1) h1 (by omega))) (fun c_7 => ?_)
  refine w_iload_n dX2_read_10 rfl ?_
  refine w_iconst (v := 4) dX2_read_11 (by decide) ?_
  refine w_icmp_gt (tgt := 19) dX2_read_12 (by decide) (fun c_12 => absurd c_12 (nI_nlt (a := 4) (b := n) (by omega) (by decide))) (fun c_12 => ?_)
  refine w_iload_n dX2_read_15 rfl ?_
  refine w_if_ge (tgt := 21) dX2_read_16 (by decide) (fun c_16 => absurd c_16 (Int32.not_le.mpr hd)) (fun c_16 => ?_)
  refine w_iconst (v := 0) dX2_read_19 (by decide) ?_
  exact w_ret dX2_read_20 ⟨0, Or.inl rfl, rfl, rfl, DO.rf.u64, rfl⟩
/-- so they die, one behind the other -/
def pdies (n : Nat) : (Nat → Int32) → Nat → List Nat → (Nat → Int32)
  | a, _, [] => a
  | a, m, j :: l => pdies n (pdie a n m j) (mclr m j) l
/-- each lives then -/
def pcan : Nat → List Nat → Bool
  | _, [] => true
  | m, j :: l => m.testBit j && pcan (mclr m j) l
theorem k55 : 55 ∈ q_kins := by decide
theorem LK.rf {t q : Nat} {I : Mem} : LK t q I I := fun _ _ _ _ _ _ => rfl
theorem LK.tr {t q : Nat} {I I1 I2 : Mem} (h : LK t q I I1) (h2 : LK t q I1 I2) : LK t q I I2 := fun p a b c d e => (h2 p a b c d e).trans (h p a b c d e)
set_option maxHeartbeats 4000000 in
set_option maxRecDepth 100000 in
theorem l_X2_befall {I : Mem} {J : Lng} {N k : Nat} {ps : List Nat} {R : Nat → Int32} (hs : I 64 1 = nI k) (hk : k < 5) (hps : ps.length = k) (hrow : ∀ i, i < k → I 65 i = nI (ps.getD i 0)) : ∀ (l pre : List Nat) (I1 : Mem) (m : Nat), ps = pre ++ l → LK 6 55 I I1 → PW (lnd I1 6) N m → pcan m l = true → pdies N (lnd I1 6) m l = R → q_w yX2_befall.cls yX2_befall.name cX2_befall 4 .return_ 33 (fun st I2 J1 => st = [] ∧ ((none : Option Value) = none ∧ J1 = J ∧ LK 6 55 I I2 ∧ lnd I2 6 = R)) 2 [some (.ref 64), some (.ref 6), some (.ref 55), some (.int (nI pre.length))] [] (I1) (J) := by
  obtain ⟨ht0, ht1, ht2⟩ := SH_land l6
  intro l
  induction l with
  | nil =>
    intro pre I1 m e hO hP hc hR
    have hl : pre.length = k := by rw [← hps, e]; simp
    have h64 : I1 64 = I 64 := hO 64 (by decide) (by decide) (by decide) (by decide) (by decide)
    refine w_iload_n dX2_befall_2 rfl ?_
    refine w_aload_n dX2_befall_3 rfl ?_
    refine w_getI dX2_befall_4 f_X2_15 (by first | assumption | rfl) rfl ?_
    refine w_icmp_ge (tgt := 32) dX2_befall_7 (by decide) (fun c_7 => ?_) (fun c_7 => absurd (by rw [h64, hs, hl]; exact Int32.le_refl _) c_7)
    exact w_ret dX2_befall_32 ⟨rfl, rfl, rfl, hO, hR⟩
  | cons j l ih =>
    intro pre I1 m e hO hP hc hR
    have hl : pre.length < k := by rw [← hps, e]; simp
    have h64 : I1 64 = I 64 := hO 64 (by decide) (by decide) (by decide) (by decide) (by decide)
    have h65 : I1 65 pre.length = nI j := by
      rw [hO 65 (by decide) (by decide) (by decide) (by decide) (by decide), hrow _ hl, e]; simp [List.getD]
    have hc2 : m.testBit j = true ∧ pcan (mclr m j) l = true := by simpa [pcan] using hc
    have hm := hP.2.2.2.1
    have hn := hP.2.1
    have hjn := p2_bit hm hc2.1
    have hlo := c_X6_loses k55 l6 (J := J) hP.FM hP.FP hjn (p2_128 hn hm) hP.2.2.1 hc2.1
    refine w_iload_n dX2_befall_2 rfl ?_
    refine w_aload_n dX2_befall_3 rfl ?_
    refine w_getI dX2_befall_4 f_X2_15 (by first | assumption | rfl) rfl ?_
    refine w_icmp_ge (tgt := 32) dX2_befall_7 (by decide) (fun c_7 => absurd c_7 (by rw [h64, hs]; exact nI_ge hl (by omega))) (fun c_7 => ?_)
    refine w_iload_n dX2_befall_10 rfl ?_
    refine w_iconst (v := 4) dX2_befall_11 (by decide) ?_
    refine w_icmp_ge (tgt := 32) dX2_befall_12 (by decide) (fun c_12 => absurd c_12 (nI_ge (b := 4) (by omega) (by decide))) (fun c_12 => ?_)
    refine w_aload_n dX2_befall_15 rfl ?_
    refine w_aload_n dX2_befall_16 rfl ?_
    refine w_getR dX2_befall_17 f_X2_9 (by first | assumption | rfl) rfl rfl ?_
    refine w_iload_n dX2_befall_20 rfl ?_
    refine w_iald (j := pre.length) dX2_befall_21 (by first | assumption | rfl) rfl rfl (show pre.length < 4 by omega) (by decide) ?_
    rw [h65]
    refine w_aload_n dX2_befall_22 rfl ?_
    refine w_callVv dX2_befall_23 k_X2_25 (by first | assumption | rfl) rfl (hlo) rfl rfl rfl (Nat.le_of_ble_eq_true rfl) (by first | decide | omega) ?_
    refine w_iincv (c := 1) dX2_befall_26 (by decide) rfl (by decide) rfl ?_
    refine w_goto (tgt := 2) dX2_befall_29 (by decide) ?_
    rw [nI_1, show pre.length + 1 = (pre ++ [j]).length by simp]
    have hl6 := zlose_l (I := I1) (m := m) k55 l6 hn hP.FP hjn
    exact ih (pre ++ [j]) _ (mclr m j) (by rw [e]; simp) (hO.tr (zlose_o _ _ _ _ _ _)) (by rw [hl6]; exact hP.die hc2.1) hc2.2 (by rw [hl6]; exact hR)
set_option maxHeartbeats 4000000 in
set_option maxRecDepth 100000 in
theorem c_X2_befall {I : Mem} {J : Lng} {N k m : Nat} {ps : List Nat} (hs : I 64 1 = nI k) (hk : k < 5) (hps : ps.length = k) (hrow : ∀ i, i < k → I 65 i = nI (ps.getD i 0)) (hP : PW (lnd I 6) N m) (hc : pcan m ps = true) : q_F yX2_befall cX2_befall 4 none 33 [.ref 64, .ref 6, .ref 55] I J (fun r I2 J1 => r = none ∧ J1 = J ∧ LK 6 55 I I2 ∧ lnd I2 6 = pdies N (lnd I 6) m ps) := by
  refine q_Fv me_X2_befall rfl (Nat.le_of_ble_eq_true rfl) ?_
  show q_w _ _ _ _ _ _ _ 0 [some (.ref 64), some (.ref 6), some (.ref 55), none] [] I J
  refine w_iconst (v := 0) dX2_befall_0 (by decide) ?_
  refine w_istore_n dX2_befall_1 (by decide) rfl ?_
  exact l_X2_befall hs hk hps hrow ps [] I m rfl LK.rf hP hc rfl
