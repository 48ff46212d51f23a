def zbc (x : Int32) : Int32 :=
  let a := x - ((x.toUInt32 >>> ((1 : Int32).toUInt32 &&& Int32.toUInt32 31)).toInt32 &&& 1431655765)
  let b := (a &&& 858993459) + ((a.toUInt32 >>> ((2 : Int32).toUInt32 &&& Int32.toUInt32 31)).toInt32 &&& 858993459)
  let c := (b + (b.toUInt32 >>> ((4 : Int32).toUInt32 &&& Int32.toUInt32 31)).toInt32) &&& 252645135
  let d := c + (c.toUInt32 >>> ((8 : Int32).toUInt32 &&& Int32.toUInt32 31)).toInt32
  let e := d + (d.toUInt32 >>> ((16 : Int32).toUInt32 &&& Int32.toUInt32 31)).toInt32
  e &&& 63
/-- how many -/
def pop (m : Nat) : Nat := ((List.range 7).filter (fun j => m.testBit j)).length
theorem zbc_pop : ∀ m, m < 128 → zbc (nI m) = nI (pop m) := by decide +kernel
theorem pop_7 (m : Nat) : pop m ≤ 7 := by
  have := List.length_filter_le (fun j => m.testBit j) (List.range 7)
  simpa [pop] using this
def fac : Nat → Nat
  | 0 => 1
  | k + 1 => (k + 1) * fac k
set_option maxHeartbeats 4000000 in
set_option maxRecDepth 100000 in
theorem c_J6_bitCount_0f7a4 {I : Mem} {J : Lng} {x : Int32} : q_E yJ6_bitCount_0f7a4 cJ6_bitCount_0f7a4 1 (some .int) 0 [.int x] I J (some (.int (zbc x))) (I) (J) := by
  refine q_Ei me_J6_bitCount_0f7a4 rfl (Nat.le_of_ble_eq_true rfl) ?_
  show q_w _ _ _ _ _ _ _ 0 [some (.int x)] [] I J
  refine w_iload_n dJ6_bitCount_0f7a4_0 rfl ?_
  refine w_iload_n dJ6_bitCount_0f7a4_1 rfl ?_
  refine w_iconst (v := 1) dJ6_bitCount_0f7a4_2 (by decide) ?_
  refine w_iushr dJ6_bitCount_0f7a4_3 ?_
  refine w_ldcw dJ6_bitCount_0f7a4_4 c_J6_265 ?_
  refine w_iand dJ6_bitCount_0f7a4_7 ?_
  refine w_isub dJ6_bitCount_0f7a4_8 ?_
  refine w_istore_n dJ6_bitCount_0f7a4_9 (by decide) rfl ?_
  refine w_iload_n dJ6_bitCount_0f7a4_10 rfl ?_
  refine w_ldcw dJ6_bitCount_0f7a4_11 c_J6_266 ?_
  refine w_iand dJ6_bitCount_0f7a4_14 ?_
  refine w_iload_n dJ6_bitCount_0f7a4_15 rfl ?_
  refine w_iconst (v := 2) dJ6_bitCount_0f7a4_16 (by decide) ?_
  refine w_iushr dJ6_bitCount_0f7a4_17 ?_
  refine w_ldcw dJ6_bitCount_0f7a4_18 c_J6_266 ?_
  refine w_iand dJ6_bitCount_0f7a4_21 ?_
  refine w_iadd dJ6_bitCount_0f7a4_22 ?_
  refine w_istore_n dJ6_bitCount_0f7a4_23 (by decide) rfl ?_
  refine w_iload_n dJ6_bitCount_0f7a4_24 rfl ?_
  refine w_iload_n dJ6_bitCount_0f7a4_25 rfl ?_
  refine w_iconst (v := 4) dJ6_bitCount_0f7a4_26 (by decide) ?_
  refine w_iushr dJ6_bitCount_0f7a4_27 ?_
  refine w_iadd dJ6_bitCount_0f7a4_28 ?_
  refine w_ldcw dJ6_bitCount_0f7a4_29 c_J6_267 ?_
  refine w_iand dJ6_bitCount_0f7a4_32 ?_
  refine w_istore_n dJ6_bitCount_0f7a4_33 (by decide) rfl ?_
  refine w_iload_n dJ6_bitCount_0f7a4_34 rfl ?_
  refine w_iload_n dJ6_bitCount_0f7a4_35 rfl ?_
  refine w_bipush (v := 8) dJ6_bitCount_0f7a4_36 (by decide) ?_
  refine w_iushr dJ6_bitCount_0f7a4_38 ?_
  refine w_iadd dJ6_bitCount_0f7a4_39 ?_
  refine w_istore_n dJ6_bitCount_0f7a4_40 (by decide) rfl ?_
  refine w_iload_n dJ6_bitCount_0f7a4_41 rfl ?_
  refine w_iload_n dJ6_bitCount_0f7a4_42 rfl ?_
  refine w_bipush (v := 16) dJ6_bitCount_0f7a4_43 (by decide) ?_
  refine w_iushr dJ6_bitCount_0f7a4_45 ?_
  refine w_iadd dJ6_bitCount_0f7a4_46 ?_
  refine w_istore_n dJ6_bitCount_0f7a4_47 (by decide) rfl ?_
  refine w_iload_n dJ6_bitCount_0f7a4_48 rfl ?_
  refine w_bipush (v := 63) dJ6_bitCount_0f7a4_49 (by decide) ?_
  refine w_iand dJ6_bitCount_0f7a4_51 ?_
  exact w_ret dJ6_bitCount_0f7a4_52 ⟨rfl, rfl, rfl⟩
set_option maxHeartbeats 4000000 in
set_option maxRecDepth 100000 in
theorem l_X7_ofSoMany {I : Mem} {J : Lng} {k : Nat} (hk : k ≤ 7) : ∀ (r i : Nat), k - i = r → 1 ≤ i → (i ≤ k ∨ i = 1) → q_w yX7_ofSoMany.cls yX7_ofSoMany.name cX7_ofSoMany 3 .ireturn 0 (fun st I1 J1 => st = [.int (nI (fac k))] ∧ I1 = I ∧ J1 = J) 4 [some (.int (nI k)), some (.int (nI (fac i))), some (.int (nI (i + 1)))] [] (I) (J) := by
  intro r
  induction r with
  | zero =>
    intro i hr h1 hi
    have e : fac i = fac k := by
      rcases Nat.lt_or_ge i k with q | q
      · omega
      · rcases hi with hi | hi
        · rw [show i = k by omega]
        · subst hi
          rcases (show k = 0 ∨ k = 1 by omega) with rfl | rfl <;> rfl
    refine w_iload_n dX7_ofSoMany_4 rfl ?_
    refine w_iload_n dX7_ofSoMany_5 rfl ?_
    refine w_icmp_gt (tgt := 25) dX7_ofSoMany_6 (by decide) (fun c_6 => ?_) (fun c_6 => absurd (nI_lt (by omega) (by omega)) c_6)
    refine w_iload_n dX7_ofSoMany_25 rfl ?_
    exact w_ret dX7_ofSoMany_26 ⟨by rw [e], rfl, rfl⟩
  | succ r ih =>
    intro i hr h1 hi
    have hik : i < k := by omega
    refine w_iload_n dX7_ofSoMany_4 rfl ?_
    refine w_iload_n dX7_ofSoMany_5 rfl ?_
    refine w_icmp_gt (tgt := 25) dX7_ofSoMany_6 (by decide) (fun c_6 => absurd c_6 (nI_nlt (by omega) (by omega))) (fun c_6 => ?_)
    refine w_iload_n dX7_ofSoMany_9 rfl ?_
    refine w_bipush (v := 7) dX7_ofSoMany_10 (by decide) ?_
    refine w_icmp_gt (tgt := 25) dX7_ofSoMany_12 (by decide) (fun c_12 => absurd c_12 (nI_nlt (b := i + 1) (a := 7) (by omega) (by decide))) (fun c_12 => ?_)
    refine w_iload_n dX7_ofSoMany_15 rfl ?_
    refine w_iload_n dX7_ofSoMany_16 rfl ?_
    refine w_imul dX7_ofSoMany_17 ?_
    refine w_istore_n dX7_ofSoMany_18 (by decide) rfl ?_
    refine w_iincv (c := 1) dX7_ofSoMany_19 (by decide) rfl (by decide) rfl ?_
    refine w_goto (tgt := 4) dX7_ofSoMany_22 (by decide) ?_
    rw [nI_1, pk_mul, Nat.mul_comm]
    exact ih (i + 1) (by omega) (by omega) (by omega)
set_option maxHeartbeats 4000000 in
set_option maxRecDepth 100000 in
theorem c_X7_ofSoMany {I : Mem} {J : Lng} {k : Nat} (hk : k ≤ 7) : q_E yX7_ofSoMany cX7_ofSoMany 3 (some .int) 0 [.int (nI k)] I J (some (.int (nI (fac k)))) (I) (J) := by
  refine q_Ei me_X7_ofSoMany rfl (Nat.le_of_ble_eq_true rfl) ?_
  show q_w _ _ _ _ _ _ _ 0 [some (.int (nI k)), none, none] [] I J
  refine w_iconst (v := 1) dX7_ofSoMany_0 (by decide) ?_
  refine w_istore_n dX7_ofSoMany_1 (by decide) rfl ?_
  refine w_iconst (v := 2) dX7_ofSoMany_2 (by decide) ?_
  refine w_istore_n dX7_ofSoMany_3 (by decide) rfl ?_
  exact l_X7_ofSoMany hk _ 1 rfl (by decide) (Or.inr rfl)
def fil (g : Nat → Int32) (v : Int32) (k : Nat) : Nat → Int32 := fun i => if i < k then v else g i
theorem fil_0 (g : Nat → Int32) (v : Int32) : fil g v 0 = g := by funext i; simp [fil]
theorem upR_id (I : Mem) (t : Nat) : upR I t (I t) = I := by funext p q; unfold upR; split <;> simp_all
theorem upR_t {I : Mem} {t : Nat} {g : Nat → Int32} : upR I t g t = g := by funext q; simp [upR]
theorem upR_ne {I : Mem} {t p : Nat} {g : Nat → Int32} (h : p ≠ t) : upR I t g p = I p := by funext q; simp [upR, h]
theorem fil_s {I : Mem} {t k : Nat} {g : Nat → Int32} {v : Int32} : upI (upR I t (fil g v k)) t k v = upR I t (fil g v (k + 1)) := by
  funext p i
  by_cases hp : p = t
  · subst hp
    by_cases hi : i = k
    · subst hi; simp [upI, upR, fil]
    · by_cases hk : i < k
      · simp [upI, upR, fil, hi, hk, show i < k + 1 by omega]
      · simp [upI, upR, fil, hi, hk, show ¬ i < k + 1 by omega]
  · simp [upI, upR, hp]
theorem upI_upR {I : Mem} {t k : Nat} {g : Nat → Int32} {v : Int32} : upI (upR I t g) t k v = upR I t (upd g k v) := by
  funext p i
  by_cases hp : p = t
  · subst hp
    by_cases hi : i = k
    · subst hi; simp [upI, upR, upd]
    · simp [upI, upR, upd, hi]
  · simp [upI, upR, hp]
theorem upR_upR {I : Mem} {t : Nat} {g h : Nat → Int32} : upR (upR I t g) t h = upR I t h := by
  funext p i; by_cases hp : p = t <;> simp [upR, hp]
set_option maxHeartbeats 4000000 in
set_option maxRecDepth 100000 in
theorem l_fill {I : Mem} {J : Lng} {v : Int32} : ∀ (r k : Nat), 896 - k = r → k ≤ 896 → q_w yJ7_fill_53178.cls yJ7_fill_53178.name cJ7_fill_53178 4 .return_ 0 (fun st I1 J1 => st = [] ∧ I1 = upR I 68 (fil (I 68) v 896) ∧ J1 = J) 5 [some (.ref 68), some (.int v), some (.int (nI k)), some (.int (nI 896))] [] (upR I 68 (fil (I 68) v k)) (J) := by
  intro r
  induction r with
  | zero =>
    intro k hr hk
    obtain rfl : k = 896 := by omega
    refine w_iload_n dJ7_fill_53178_5 rfl ?_
    refine w_iload_n dJ7_fill_53178_6 rfl ?_
    refine w_icmp_ge (tgt := 20) dJ7_fill_53178_7 (by decide) (fun c_7 => ?_) (fun c_7 => absurd (Int32.le_refl _) c_7)
    exact w_ret dJ7_fill_53178_20 ⟨rfl, rfl, rfl⟩
  | succ r ih =>
    intro k hr hk
    have hk8 : k < 896 := by omega
    refine w_iload_n dJ7_fill_53178_5 rfl ?_
    refine w_iload_n dJ7_fill_53178_6 rfl ?_
    refine w_icmp_ge (tgt := 20) dJ7_fill_53178_7 (by decide) (fun c_7 => absurd c_7 (nI_ge hk8 (by decide))) (fun c_7 => ?_)
    refine w_aload_n dJ7_fill_53178_10 rfl ?_
    refine w_iload_n dJ7_fill_53178_11 rfl ?_
    refine w_iload_n dJ7_fill_53178_12 rfl ?_
    refine w_iast (j := k) dJ7_fill_53178_13 (by first | assumption | rfl) rfl rfl hk8 (by decide) ?_
    refine w_iincv (c := 1) dJ7_fill_53178_14 (by decide) rfl (by decide) rfl ?_
    refine w_goto (tgt := 5) dJ7_fill_53178_17 (by decide) ?_
    rw [nI_1, fil_s]
    exact ih (k + 1) (by omega) (by omega)
set_option maxHeartbeats 4000000 in
set_option maxRecDepth 100000 in
theorem c_J7_fill_53178 {I : Mem} {J : Lng} {v : Int32} : q_E yJ7_fill_53178 cJ7_fill_53178 4 none 0 [.ref 68, .int v] I J none (upR I 68 (fil (I 68) v 896)) (J) := by
  refine q_Ev me_J7_fill_53178 rfl (Nat.le_of_ble_eq_true rfl) ?_
  show q_w _ _ _ _ _ _ _ 0 [some (.ref 68), some (.int v), none, none] [] I J
  refine w_iconst (v := 0) dJ7_fill_53178_0 (by decide) ?_
  refine w_istore_n dJ7_fill_53178_1 (by decide) rfl ?_
  refine w_aload_n dJ7_fill_53178_2 rfl ?_
  refine w_alen dJ7_fill_53178_3 (by first | assumption | rfl) rfl ?_
  refine w_istore_n dJ7_fill_53178_4 (by decide) rfl ?_
  refine w_mem (I2 := upR I 68 (fil (I 68) v 0)) (by rw [fil_0, upR_id]) ?_
  exact l_fill 896 0 rfl (by decide)
/-- one more way to a set with a holder -/
def oadd (R : Nat → Int32) (S : Nat) (o : Option Nat) (v : Int32) : Nat → Int32 := match o with
  | none => R
  | some h => upd R (S * 7 + h) (R (S * 7 + h) + v)
theorem i128 {S : Nat} (h : S < 128) : ¬ (128 : Int32) ≤ nI S := nI_ge (b := 128) h (by decide)
set_option maxHeartbeats 4000000 in
set_option maxRecDepth 100000 in
theorem c_X7_add {I : Mem} {J : Lng} {S : Nat} {v : Int32} (hS : S < 128) {o : Option Nat} (ho : ∀ h, o = some h → h < 7) : q_E yX7_add cX7_add 4 none 0 [.ref 66, .int (nI S), .int (oI o), .int v] I J none (upR I 68 (oadd (I 68) S o v)) (J) := by
  rcases o with _ | h
  · refine q_Ev me_X7_add rfl (Nat.le_of_ble_eq_true rfl) ?_
    show q_w _ _ _ _ _ _ _ 0 [some (.ref 66), some (.int (nI S)), some (.int (oI none)), some (.int v)] [] I J
    refine w_iload_n dX7_add_0 rfl ?_
    refine w_if_lt (tgt := 36) dX7_add_1 (by decide) (fun c_1 => absurd c_1 (nI_pos (by omega))) (fun c_1 => ?_)
    refine w_iload_n dX7_add_4 rfl ?_
    refine w_sipush (v := 128) dX7_add_5 (by decide) ?_
    refine w_icmp_ge (tgt := 36) dX7_add_8 (by decide) (fun c_8 => absurd c_8 (i128 hS)) (fun c_8 => ?_)
    refine w_iload_n dX7_add_11 rfl ?_
    refine w_if_lt (tgt := 36) dX7_add_12 (by decide) (fun c_12 => ?_) (fun c_12 => absurd (show oI none < 0 by decide) c_12)
    exact w_ret dX7_add_36 ⟨rfl, (upR_id I 68).symm, rfl⟩
  have hh := ho h rfl
  have hix : nI S * 7 + nI h = nI (S * 7 + h) := by rw [show nI S * 7 = nI (S * 7) from pk_mul S 7, nI_add]
  refine q_Ev me_X7_add rfl (Nat.le_of_ble_eq_true rfl) ?_
  show q_w _ _ _ _ _ _ _ 0 [some (.ref 66), some (.int (nI S)), some (.int (nI h)), some (.int v)] [] I J
  refine w_iload_n dX7_add_0 rfl ?_
  refine w_if_lt (tgt := 36) dX7_add_1 (by decide) (fun c_1 => absurd c_1 (nI_pos (by omega))) (fun c_1 => ?_)
  refine w_iload_n dX7_add_4 rfl ?_
  refine w_sipush (v := 128) dX7_add_5 (by decide) ?_
  refine w_icmp_ge (tgt := 36) dX7_add_8 (by decide) (fun c_8 => absurd c_8 (i128 hS)) (fun c_8 => ?_)
  refine w_iload_n dX7_add_11 rfl ?_
  refine w_if_lt (tgt := 36) dX7_add_12 (by decide) (fun c_12 => absurd c_12 (nI_pos (n := h) (by omega))) (fun c_12 => ?_)
  refine w_iload_n dX7_add_15 rfl ?_
  refine w_bipush (v := 7) dX7_add_16 (by decide) ?_
  refine w_icmp_ge (tgt := 36) dX7_add_18 (by decide) (fun c_18 => absurd c_18 (nI_ge (a := h) (b := 7) hh (by decide))) (fun c_18 => ?_)
  refine w_aload_n dX7_add_21 rfl ?_
  refine w_getR dX7_add_22 f_X7_17 (by first | assumption | rfl) rfl rfl ?_
  refine w_iload_n dX7_add_25 rfl ?_
  refine w_bipush (v := 7) dX7_add_26 (by decide) ?_
  refine w_imul dX7_add_28 ?_
  refine w_iload_n dX7_add_29 rfl ?_
  refine w_iadd dX7_add_30 ?_
  refine w_dup2 dX7_add_31 rfl rfl ?_
  refine w_iald (j := (S * 7 + h)) dX7_add_32 (by first | assumption | rfl) rfl hix (show S * 7 + h < 896 by omega) (by decide) ?_
  refine w_iload_n dX7_add_33 rfl ?_
  refine w_iadd dX7_add_34 ?_
  refine w_iast (j := (S * 7 + h)) dX7_add_35 (by first | assumption | rfl) rfl hix (show S * 7 + h < 896 by omega) (by decide) ?_
  refine w_ret dX7_add_36 ⟨rfl, ?_, rfl⟩
  have e := upI_upR (I := I) (t := 68) (g := I 68) (k := S * 7 + h) (v := I 68 (S * 7 + h) + v)
  rw [upR_id] at e
  exact e
