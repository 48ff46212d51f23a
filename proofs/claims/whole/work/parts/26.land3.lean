theorem upI_tf {I : Mem} {t f g : Nat} {v : Int32} (h : g ≠ f) : upI I t f v t g = I t g := by simp [upI, h]
theorem upI_tt {I : Mem} {t f : Nat} {v : Int32} : upI I t f v t f = v := by simp [upI]
/-- one more person -/
def zgain (I : Mem) (t n : Nat) (par : Int32) (b : Bool) (age : Int32) : Mem := upI (cond b (upI (upI (upI (upI I (t + 1) n par) (t + 2) n age) t 4 (I t 4 ||| (1 <<< (nI n &&& 31)))) t 2 (I t 2 ||| (1 <<< (nI n &&& 31)))) (upI (upI (upI I (t + 1) n par) (t + 2) n age) t 4 (I t 4 ||| (1 <<< (nI n &&& 31))))) t 3 (nI (n + 1))
def pgain (a : Nat → Int32) (n : Nat) (par : Int32) (b : Bool) (age : Int32) : Nat → Int32 := upd (upd (upd (upd (upd a (7 + n) par) (15 + n) age) 0 (a 0 ||| (1 <<< (nI n &&& 31)))) 14 (cond b (a 14 ||| (1 <<< (nI n &&& 31))) (a 14))) 6 (nI (n + 1))
theorem upd_id {a : Nat → Int32} {k : Nat} {v : Int32} (h : a k = v) : upd a k v = a := by
  funext j; unfold upd; split
  · rename_i e; rw [e, h]
  · rfl
theorem zgain_l {I : Mem} {t n : Nat} {par age : Int32} {b : Bool} (hn : n < 7) : lnd (zgain I t n par b age) t = pgain (lnd I t) n par b age := by
  have h0 : lnd I t 0 = I t 4 := rfl
  have h14 : lnd I t 14 = I t 2 := rfl
  unfold zgain pgain
  rw [lnd_f (f := 3) (k := 6) (by omega), h0, h14]
  congr 1
  cases b with
  | true =>
    dsimp only [cond]
    rw [lnd_f (f := 2) (k := 14) (by omega), lnd_f (f := 4) (k := 0) (by omega), lnd_a hn, lnd_p hn]
  | false =>
    dsimp only [cond]
    rw [lnd_f (f := 4) (k := 0) (by omega), lnd_a hn, lnd_p hn]
    refine (upd_id ?_).symm
    simp only [upd]
    rw [if_neg (by decide), if_neg (by omega), if_neg (by omega), h14]
theorem zgain_o (I : Mem) (t n : Nat) (par : Int32) (b : Bool) (age : Int32) : LO t I (zgain I t n par b age) := fun p h1 h2 h3 => by
  unfold zgain
  cases b <;> simp only [cond, upI_ne h1, upI_ne h2, upI_ne h3]
set_option maxHeartbeats 4000000 in
set_option maxRecDepth 100000 in
theorem c_X6_gains {t : Nat} (ht : t ∈ q_lands) {I : Mem} {J : Lng} {n : Nat} {par age : Int32} {b : Bool} (hF : FM I t n) (hn : n < 7) : q_E yX6_gains cX6_gains 4 none 0 [.ref t, .int par, .int (zB b), .int age] I J none (zgain I t n par b age) (J) := by
  obtain ⟨ht0, ht1, ht2⟩ := SH_land ht
  refine q_Ev me_X6_gains rfl (Nat.le_of_ble_eq_true rfl) ?_
  show q_w _ _ _ _ _ _ _ 0 [some (.ref t), some (.int par), some (.int (zB b)), some (.int age)] [] I J
  refine w_aload_n dX6_gains_0 rfl ?_
  refine w_getI dX6_gains_1 f_X6_25 (by first | assumption | rfl) rfl ?_
  refine w_if_lt (tgt := 16) dX6_gains_4 (by decide) (fun c_4 => absurd c_4 (by rw [hF.1]; exact nI_pos (by omega))) (fun c_4 => ?_)
  refine w_aload_n dX6_gains_7 rfl ?_
  refine w_getI dX6_gains_8 f_X6_25 (by first | assumption | rfl) rfl ?_
  refine w_bipush (v := 7) dX6_gains_11 (by decide) ?_
  refine w_icmp_lt (tgt := 17) dX6_gains_13 (by decide) (fun c_13 => ?_) (fun c_13 => absurd (by rw [hF.1]; exact nI_lt (b := 7) hn (by decide)) c_13)
  refine w_aload_n dX6_gains_17 rfl ?_
  refine w_getR dX6_gains_18 f_X6_9 (by first | assumption | rfl) rfl rfl ?_
  refine w_aload_n dX6_gains_21 rfl ?_
  refine w_getI dX6_gains_22 f_X6_25 (by first | assumption | rfl) rfl ?_
  refine w_iload_n dX6_gains_25 rfl ?_
  refine w_iast (j := n) dX6_gains_26 (by first | assumption | rfl) rfl hF.1 hn (by decide) ?_
  refine w_aload_n dX6_gains_27 rfl ?_
  refine w_getR dX6_gains_28 f_X6_15 (by first | assumption | rfl) rfl rfl ?_
  refine w_aload_n dX6_gains_31 rfl ?_
  refine w_getI dX6_gains_32 f_X6_25 (by first | assumption | rfl) rfl ?_
  refine w_iload_n dX6_gains_35 rfl ?_
  refine w_iast (j := n) dX6_gains_36 (by first | assumption | rfl) rfl (by rw [upI_ne (by omega)]; exact hF.1) hn (by decide) ?_
  refine w_aload_n dX6_gains_37 rfl ?_
  refine w_dup dX6_gains_38 rfl ?_
  refine w_getI dX6_gains_39 f_X6_28 (by first | assumption | rfl) rfl ?_
  refine w_iconst (v := 1) dX6_gains_42 (by decide) ?_
  refine w_aload_n dX6_gains_43 rfl ?_
  refine w_getI dX6_gains_44 f_X6_25 (by first | assumption | rfl) rfl ?_
  refine w_ishl dX6_gains_47 ?_
  refine w_ior dX6_gains_48 ?_
  refine w_putI dX6_gains_49 f_X6_28 (by first | assumption | rfl) rfl ?_
  refine w_iload_n dX6_gains_52 rfl ?_
  refine w_if_eq (tgt := 71) dX6_gains_53 (by decide) (fun c_53 => ?_) (fun c_53 => ?_)
  · refine w_aload_n dX6_gains_71 rfl ?_
    refine w_dup dX6_gains_72 rfl ?_
    refine w_getI dX6_gains_73 f_X6_25 (by first | assumption | rfl) rfl ?_
    refine w_iconst (v := 1) dX6_gains_76 (by decide) ?_
    refine w_iadd dX6_gains_77 ?_
    refine w_putI dX6_gains_78 f_X6_25 (by first | assumption | rfl) rfl ?_
    have hM : upI (upI I (t + 1) n par) (t + 2) n age t = I t := by rw [upI_ne (by omega), upI_ne (by omega)]
    have h23 : (3 : Nat) ≠ 2 := by decide
    have h43 : (3 : Nat) ≠ 4 := by decide
    have h42 : (2 : Nat) ≠ 4 := by decide
    have hb := zB_eq0.mp c_53
    subst hb
    exact w_ret dX6_gains_81 ⟨rfl, by simp only [hM, upI_tf h23, upI_tf h43, upI_tf h42, hF.1, nI_1, zgain, cond], rfl⟩
  · refine w_aload_n dX6_gains_56 rfl ?_
    refine w_dup dX6_gains_57 rfl ?_
    refine w_getI dX6_gains_58 f_X6_22 (by first | assumption | rfl) rfl ?_
    refine w_iconst (v := 1) dX6_gains_61 (by decide) ?_
    refine w_aload_n dX6_gains_62 rfl ?_
    refine w_getI dX6_gains_63 f_X6_25 (by first | assumption | rfl) rfl ?_
    refine w_ishl dX6_gains_66 ?_
    refine w_ior dX6_gains_67 ?_
    refine w_putI dX6_gains_68 f_X6_22 (by first | assumption | rfl) rfl ?_
    refine w_aload_n dX6_gains_71 rfl ?_
    refine w_dup dX6_gains_72 rfl ?_
    refine w_getI dX6_gains_73 f_X6_25 (by first | assumption | rfl) rfl ?_
    refine w_iconst (v := 1) dX6_gains_76 (by decide) ?_
    refine w_iadd dX6_gains_77 ?_
    refine w_putI dX6_gains_78 f_X6_25 (by first | assumption | rfl) rfl ?_
    have hM : upI (upI I (t + 1) n par) (t + 2) n age t = I t := by rw [upI_ne (by omega), upI_ne (by omega)]
    have h23 : (3 : Nat) ≠ 2 := by decide
    have h43 : (3 : Nat) ≠ 4 := by decide
    have h42 : (2 : Nat) ≠ 4 := by decide
    have hb : b = true := by simpa [zB_eq0] using c_53
    subst hb
    exact w_ret dX6_gains_81 ⟨rfl, by simp only [hM, upI_tf h23, upI_tf h43, upI_tf h42, hF.1, nI_1, zgain, cond], rfl⟩
/-- a year of ten: the ages of the first k -/
def zold (I : Mem) (t k : Nat) : Mem := fun p i => if p = t + 2 then (if i < k then I p i + 1 else I p i) else I p i
theorem zold_0 (I : Mem) (t : Nat) : zold I t 0 = I := by funext p i; simp [zold]
theorem zold_s (I : Mem) (t k : Nat) : upI (zold I t k) (t + 2) k (zold I t k (t + 2) k + 1) = zold I t (k + 1) := by
  funext p i
  by_cases hp : p = t + 2
  · subst hp
    by_cases hi : i = k
    · subst hi; simp [zold, upI]
    · by_cases hk : i < k
      · simp [zold, upI, hi, hk, show i < k + 1 by omega]
      · simp [zold, upI, hi, hk, show ¬ i < k + 1 by omega]
  · simp [zold, upI, hp]
theorem zold_t (I : Mem) (t k : Nat) : zold I t k t = I t := by funext i; simp [zold]
def zgrow (I : Mem) (t n : Nat) : Mem := upI (upI (zold I t n) t 7 (if I t 7 + 1 < 9 then I t 7 + 1 else 9)) t 9 (I t 9 + 1)
def pold (a : Nat → Int32) (n : Nat) : Nat → Int32 := fun k => if 15 ≤ k ∧ k < 15 + n then a k + 1 else a k
def pgrow (a : Nat → Int32) (n : Nat) : Nat → Int32 := upd (upd (pold a n) 3 (if a 3 + 1 < 9 then a 3 + 1 else 9)) 5 (a 5 + 1)
theorem zgrow_l {I : Mem} {t n : Nat} (hn : n ≤ 7) : lnd (zgrow I t n) t = pgrow (lnd I t) n := by
  have h3 : lnd I t 3 = I t 7 := rfl
  have h5 : lnd I t 5 = I t 9 := rfl
  unfold zgrow pgrow
  rw [lnd_f (f := 9) (k := 5) (by omega), lnd_f (f := 7) (k := 3) (by omega), h3, h5]
  congr 2
  funext k
  unfold pold
  by_cases hk : 15 ≤ k ∧ k < 15 + n
  · rw [if_pos hk]
    obtain ⟨p, rfl⟩ : ∃ p, k = 15 + p := ⟨k - 15, by omega⟩
    rw [lnd_age _ _ (by omega), lnd_age _ _ (by omega)]
    simp [zold, show p < n by omega]
  · rw [if_neg hk]
    unfold lnd
    by_cases h15 : 15 ≤ k
    · by_cases h22 : k < 22
      · have : ¬ k - 15 < n := by omega
        simp [zold, this]
      · simp [h22, show ¬ k = 6 by omega, show ¬ k < 6 by omega, show ¬ k < 14 by omega, show ¬ k = 14 by omega]
    · have : ¬ 15 ≤ k := h15
      by_cases h14 : k = 14
      · simp [h14, zold]
      · simp [zold, show k < 14 by omega]
theorem zgrow_o (I : Mem) (t n : Nat) : LO t I (zgrow I t n) := fun p h1 h2 h3 => by
  unfold zgrow
  rw [upI_ne h1, upI_ne h1]
  funext i; simp [zold, h3]
set_option maxHeartbeats 4000000 in
set_option maxRecDepth 100000 in
theorem l_X6_grows {t : Nat} (ht : t ∈ q_lands) {I : Mem} {J : Lng} {n : Nat} (hF : FM I t n) : ∀ (r k : Nat), n - k = r → k ≤ n → q_w yX6_grows.cls yX6_grows.name cX6_grows 2 .return_ 1 (fun st I1 J1 => st = [] ∧ I1 = zgrow I t n ∧ J1 = J) 2 [some (.ref t), some (.int (nI k))] [] (zold I t k) (J) := by
  obtain ⟨ht0, ht1, ht2⟩ := SH_land ht
  have hn7 := hF.2
  intro r
  induction r with
  | zero =>
    intro k hr hk
    obtain rfl : k = n := by omega
    have hc : zold I t k t 3 ≤ nI k := by rw [zold_t, hF.1]; exact Int32.le_refl _
    refine w_iload_n dX6_grows_2 rfl ?_
    refine w_aload_n dX6_grows_3 rfl ?_
    refine w_getI dX6_grows_4 f_X6_25 (by first | assumption | rfl) rfl ?_
    refine w_icmp_ge (tgt := 32) dX6_grows_7 (by decide) (fun c_7 => ?_) (fun c_7 => absurd hc c_7)
    refine w_aload_n dX6_grows_32 rfl ?_
    refine w_bipush (v := 9) dX6_grows_33 (by decide) ?_
    refine w_aload_n dX6_grows_35 rfl ?_
    refine w_getI dX6_grows_36 f_X6_34 (by first | assumption | rfl) rfl ?_
    refine w_iconst (v := 1) dX6_grows_39 (by decide) ?_
    refine w_iadd dX6_grows_40 ?_
    refine w_min dX6_grows_41 k_X6_70 kM_min_s kM_i kM_min_c (Nat.le_of_ble_eq_true rfl) (by decide) ?_
    refine w_putI dX6_grows_44 f_X6_34 (by first | assumption | rfl) rfl ?_
    refine w_aload_n dX6_grows_47 rfl ?_
    refine w_dup dX6_grows_48 rfl ?_
    refine w_getI dX6_grows_49 f_X6_40 (by first | assumption | rfl) rfl ?_
    refine w_iconst (v := 1) dX6_grows_52 (by decide) ?_
    refine w_iadd dX6_grows_53 ?_
    refine w_putI dX6_grows_54 f_X6_40 (by first | assumption | rfl) rfl ?_
    refine w_ret dX6_grows_57 ⟨rfl, ?_, rfl⟩
    simp only [zold_t, upI_tf (show (9 : Nat) ≠ 7 by decide), zgrow]
  | succ r ih =>
    intro k hr hk
    have hkn : k < n := by omega
    refine w_iload_n dX6_grows_2 rfl ?_
    refine w_aload_n dX6_grows_3 rfl ?_
    refine w_getI dX6_grows_4 f_X6_25 (by first | assumption | rfl) rfl ?_
    refine w_icmp_ge (tgt := 32) dX6_grows_7 (by decide) (fun c_7 => absurd c_7 (by rw [zold_t, hF.1]; exact nI_ge hkn (by omega))) (fun c_7 => ?_)
    refine w_iload_n dX6_grows_10 rfl ?_
    refine w_bipush (v := 7) dX6_grows_11 (by decide) ?_
    refine w_icmp_ge (tgt := 32) dX6_grows_13 (by decide) (fun c_13 => absurd c_13 (nI_ge (b := 7) (by omega) (by decide))) (fun c_13 => ?_)
    refine w_aload_n dX6_grows_16 rfl ?_
    refine w_getR dX6_grows_17 f_X6_15 (by first | assumption | rfl) rfl rfl ?_
    refine w_iload_n dX6_grows_20 rfl ?_
    refine w_dup2 dX6_grows_21 rfl rfl ?_
    refine w_iald (j := k) dX6_grows_22 (by first | assumption | rfl) rfl rfl (show k < 7 by omega) (by decide) ?_
    refine w_iconst (v := 1) dX6_grows_23 (by decide) ?_
    refine w_iadd dX6_grows_24 ?_
    refine w_iast (j := k) dX6_grows_25 (by first | assumption | rfl) rfl rfl (show k < 7 by omega) (by decide) ?_
    refine w_iincv (c := 1) dX6_grows_26 (by decide) rfl (by decide) rfl ?_
    refine w_goto (tgt := 2) dX6_grows_29 (by decide) ?_
    rw [nI_1, zold_s]
    exact ih (k + 1) (by omega) (by omega)
set_option maxHeartbeats 4000000 in
set_option maxRecDepth 100000 in
theorem c_X6_grows {t : Nat} (ht : t ∈ q_lands) {I : Mem} {J : Lng} {n : Nat} (hF : FM I t n) : q_E yX6_grows cX6_grows 2 none 1 [.ref t] I J none (zgrow I t n) (J) := by
  refine q_Ev me_X6_grows rfl (Nat.le_of_ble_eq_true rfl) ?_
  show q_w _ _ _ _ _ _ _ 0 [some (.ref t), none] [] I J
  refine w_iconst (v := 0) dX6_grows_0 (by decide) ?_
  refine w_istore_n dX6_grows_1 (by decide) rfl ?_
  refine w_mem (zold_0 I t).symm ?_
  exact l_X6_grows ht hF n 0 (by omega) (Nat.zero_le _)
/-- j dies -/
def zlose (I : Mem) (q t n m j : Nat) : Mem := if I t 5 = nI j then upI (upI (kput (upI I t 4 (nI (mclr m j))) q (fhe I t n (I t 6) j).1 (fhe I t n (I t 6) j).2) t 5 (oI ((fhe I t n (I t 6) j).1.find? (fun x => (mclr m j).testBit x)))) t 8 0 else upI I t 4 (nI (mclr m j))
theorem fhe_u {I : Mem} {t f : Nat} {v : Int32} (hf : f ≠ 2) : fhe (upI I t f v) t = fhe I t := by
  have h1 : upI I t f v (t + 1) = I (t + 1) := upI_ne (by omega)
  have h2 : upI I t f v (t + 2) = I (t + 2) := upI_ne (by omega)
  have h3 : wI (upI I t f v) t = wI I t := by funext k; unfold wI; rw [upI_tf (fun e => hf e.symm)]
  funext n tie j
  unfold fhe fd ahI noI kI
  rw [h1, h2, h3]
theorem fhe_KI {I : Mem} {t n : Nat} {tie : Int32} (hn : n ≤ 7) (hv : FP n (I (t + 1))) {j : Nat} (hj : j < n) : KI n (fhe I t n tie j) := by
  have hd : ∀ st x, x < n → KI n st → KI n (fd I t n tie 7 st x) := fun st x hx h => fdl_KI hn (fun p => kI_lt hn) (kI_c (hv.v hn) hn) 7 st x hx h
  have up : ∀ (r : Nat) (st : List Nat × Nat) (a : Int32), (a = -9 ∨ ∃ u, u < n ∧ a = nI u) → KI n st → KI n (fup (I (t + 1)) (fd I t n tie 7) r st a) := by
    intro r
    induction r with
    | zero => intro st a _ h; exact h
    | succ r ih =>
      intro st a ha h
      unfold fup
      rcases ha with rfl | ⟨u, hu, rfl⟩
      · rw [if_pos rfl]; exact h
      · rw [if_neg (nI_ne9 (by omega)), nI_clamp (by omega)]
        refine ih _ _ ?_ (hd _ _ hu h)
        rcases hv u hu with e | ⟨z, hz, e⟩
        · exact Or.inl e
        · exact Or.inr ⟨z, by omega, e⟩
  unfold fhe
  refine up 7 _ _ ?_ (foldl_KI hd _ _ (fun x hx => kI_c (hv.v hn) hn j hj x (ford_in (kI_lt hn) hx).2) (KI.nil (by omega)))
  rcases hv j hj with e | ⟨z, hz, e⟩
  · exact Or.inl e
  · exact Or.inr ⟨z, by omega, e⟩
theorem cn_lives {t : Nat} (ht : t ∈ q_lands) {I : Mem} {J : Lng} {n j m : Nat} (hF : FM I t n) (hj : j < n) (hm : m < 128) (hl : I t 4 = nI m) : q_E yX6_lives cX6_lives 2 (some .boolean) 1 [.ref t, .int (nI j)] I J (some (.int (zB (m.testBit j)))) I J := by
  have := c_X6_lives ht (I := I) (J := J) (p := nI j)
  have hn := hF.2
  rwa [show zlives I t (nI j) = m.testBit j by unfold zlives; rw [hF.has hj, hl, mI_bit m hm j (by omega)]; rfl] at this
set_option maxHeartbeats 4000000 in
set_option maxRecDepth 100000 in
theorem c_X6_loses_no {q t : Nat} (hq : q ∈ q_kins) (ht : t ∈ q_lands) {I : Mem} {J : Lng} {p : Int32} (hno : zlives I t p = false) : q_E yX6_loses cX6_loses 3 none 32 [.ref t, .int p, .ref q] I J none (I) (J) := by
  obtain ⟨ht0, ht1, ht2⟩ := SH_land ht
  have hLv := c_X6_lives ht (I := I) (J := J) (p := p)
  rw [hno] at hLv
  refine q_Ev me_X6_loses rfl (Nat.le_of_ble_eq_true rfl) ?_
  show q_w _ _ _ _ _ _ _ 0 [some (.ref t), some (.int p), some (.ref q)] [] I J
  refine w_aload_n dX6_loses_0 rfl ?_
  refine w_iload_n dX6_loses_1 rfl ?_
  refine w_callVi dX6_loses_2 k_X6_57 (by first | assumption | rfl) rfl (hLv) rfl rfl rfl (Nat.le_of_ble_eq_true rfl) (by first | decide | omega) ?_
  refine w_if_ne (tgt := 9) dX6_loses_5 (by decide) (fun c_5 => ?_) (fun c_5 => ?_)
  · exact absurd rfl c_5
  · exact w_ret dX6_loses_8 ⟨rfl, rfl, rfl⟩
set_option maxHeartbeats 4000000 in
set_option maxRecDepth 100000 in
theorem c_X6_loses {q t : Nat} (hq : q ∈ q_kins) (ht : t ∈ q_lands) {I : Mem} {J : Lng} {n m j : Nat} (hF : FM I t n) (hv : FP n (I (t + 1))) (hj : j < n) (hm : m < 128) (hl : I t 4 = nI m) (hb : m.testBit j = true) : q_E yX6_loses cX6_loses 3 none 32 [.ref t, .int (nI j), .ref q] I J none (zlose I q t n m j) (J) := by
  obtain ⟨ht0, ht1, ht2⟩ := SH_land ht
  obtain ⟨hq0, hq1⟩ := SH_kin hq
  have hn7 := hF.2
  have hLv := cn_lives ht hF hj hm hl (J := J)
  rw [hb] at hLv
  have hFu : FM (upI I t 4 (nI (mclr m j))) t n := ⟨by rw [upI_tf (by decide)]; exact hF.1, hF.2⟩
  have hvu : FP n (upI I t 4 (nI (mclr m j)) (t + 1)) := by rw [upI_ne (by omega)]; exact hv
  refine q_Ev me_X6_loses rfl (Nat.le_of_ble_eq_true rfl) ?_
  show q_w _ _ _ _ _ _ _ 0 [some (.ref t), some (.int (nI j)), some (.ref q)] [] I J
  refine w_aload_n dX6_loses_0 rfl ?_
  refine w_iload_n dX6_loses_1 rfl ?_
  refine w_callVi dX6_loses_2 k_X6_57 (by first | assumption | rfl) rfl (hLv) rfl rfl rfl (Nat.le_of_ble_eq_true rfl) (by first | decide | omega) ?_
  refine w_if_ne (tgt := 9) dX6_loses_5 (by decide) (fun c_5 => ?_) (fun c_5 => absurd c_5 (by decide))
  refine w_aload_n dX6_loses_9 rfl ?_
  refine w_dup dX6_loses_10 rfl ?_
  refine w_getI dX6_loses_11 f_X6_28 (by first | assumption | rfl) rfl ?_
  refine w_iconst (v := 1) dX6_loses_14 (by decide) ?_
  refine w_iload_n dX6_loses_15 rfl ?_
  refine w_ishl dX6_loses_16 ?_
  refine w_iconst (v := (-1)) dX6_loses_17 (by decide) ?_
  refine w_ixor dX6_loses_18 ?_
  refine w_iand dX6_loses_19 ?_
  refine w_putI dX6_loses_20 f_X6_28 (by first | assumption | rfl) rfl ?_
  rw [hl, mI_clr m hm j (by omega)]
  refine w_iload_n dX6_loses_23 rfl ?_
  refine w_aload_n dX6_loses_24 rfl ?_
  refine w_getI dX6_loses_25 f_X6_18 (by first | assumption | rfl) rfl ?_
  refine w_icmp_ne (tgt := 58) dX6_loses_28 (by decide) (fun c_28 => ?_) (fun c_28 => ?_)
  · refine w_ret dX6_loses_58 ⟨rfl, ?_, rfl⟩
    rw [upI_tf (by decide)] at c_28
    unfold zlose
    rw [if_neg (fun h => c_28 h.symm)]
  · refine w_aload_n dX6_loses_31 rfl ?_
    refine w_aload_n dX6_loses_32 rfl ?_
    refine w_iload_n dX6_loses_33 rfl ?_
    refine w_aload_n dX6_loses_34 rfl ?_
    refine w_getI dX6_loses_35 f_X6_31 (by first | assumption | rfl) rfl ?_
    refine w_callVv dX6_loses_38 k_X6_60 (by first | assumption | rfl) rfl (c_X5_listHeirs hq ht hFu hvu hj) rfl rfl rfl (Nat.le_of_ble_eq_true rfl) (by first | decide | omega) ?_
    refine w_aload_n dX6_loses_41 rfl ?_
    refine w_aload_n dX6_loses_42 rfl ?_
    refine w_aload_n dX6_loses_43 rfl ?_
    refine w_getI dX6_loses_44 f_X6_28 (by first | assumption | rfl) rfl ?_
    rw [kput_t ht hq, upI_tt]
    refine w_callVi dX6_loses_47 k_X6_66 (by first | assumption | rfl) rfl (c_X5_firstOf hq (KR.k hn7 (fhe_KI hn7 hvu hj)) (mclr_lt m hm j (by omega))) rfl rfl rfl (Nat.le_of_ble_eq_true rfl) (by first | decide | omega) ?_
    refine w_putI dX6_loses_50 f_X6_18 (by first | assumption | rfl) rfl ?_
    refine w_aload_n dX6_loses_53 rfl ?_
    refine w_iconst (v := 0) dX6_loses_54 (by decide) ?_
    refine w_putI dX6_loses_55 f_X6_37 (by first | assumption | rfl) rfl ?_
    refine w_ret dX6_loses_58 ⟨rfl, ?_, rfl⟩
    rw [upI_tf (by decide)] at c_28
    unfold zlose
    rw [if_pos c_28.symm, fhe_u (by decide), upI_tf (by decide)]
