section
variable {own nm : String} {cc : ByteArray} {nL : Nat} {rop : Instr} {d mc ms : Nat} {X : Option (Nat × (Nat → Int32))} {Q : List Value → Shp → Mem → Lng → Nat → Nat → Prop} {k n pc : Nat} {L : List (Option Value)} {st : List Value} {σ : Shp} {I : Mem} {J : Lng}
theorem s_sh {st2 : List Value} {σ2 : Shp} (h1 : st = st2) (h2 : σ = σ2) (K : q_WP own nm cc nL rop d mc ms X Q k n pc L st2 σ2 I J) : q_WP own nm cc nL rop d mc ms X Q k n pc L st σ I J := by subst h1; subst h2; exact K
theorem s_shL {st2 : List Value} {σ2 : Shp} {L2 : List (Option Value)} (h1 : st = st2) (h2 : σ = σ2) (h3 : L = L2) (K : q_WP own nm cc nL rop d mc ms X Q k n pc L2 st2 σ2 I J) : q_WP own nm cc nL rop d mc ms X Q k n pc L st σ I J := by subst h1; subst h2; subst h3; exact K
theorem s_mem {I2 : Mem} (h : I = I2) (K : q_WP own nm cc nL rop d mc ms X Q k n pc L st σ I2 J) : q_WP own nm cc nL rop d mc ms X Q k n pc L st σ I J := by subst h; exact K
theorem s_iincn {a : Nat} {i : Int} {x y : Int32} (hd : decode cc pc = .ok (.iinc a i, 3)) (hv : L[a]? = some (some (.int x))) (hy : x + Int32.ofInt i = y) (hn : a < nL) (ho : q_ok L a = true) (K : q_WP own nm cc nL rop d mc ms X Q k n (pc + 3) (L.set a (some (.int y))) st σ I J) : q_WP own nm cc nL rop d mc ms X Q k n pc L st σ I J := by
  subst hy
  exact s_iinc hd hv hn ho K
end
theorem ap_get {τ r : Shp} {e : Ent} : (τ ++ e :: r)[τ.length]? = some e := by simp
theorem ap_set {τ r : Shp} {e e' : Ent} : (τ ++ e :: r).set τ.length e' = τ ++ e' :: r := by simp
theorem vin {i : Int32} {n j : Nat} (h : i = nI j) (hj : j < n) (hn : n < 2 ^ 31) : vp_in i n := by rw [h]; exact vp_in_nI hj hn
set_option maxHeartbeats 4000000 in
set_option maxRecDepth 100000 in
theorem i_X8 {τ : Shp} {I : Mem} {J : Lng} (hz : ∀ p, τ.length < p → I p = fun _ => 0) : q_C yX8_init cX8_init 1 none 1 1 40 [.ref τ.length] (τ ++ [(16, 2, List.replicate 2 none)]) I J (fun r σ1 I1 J1 => r = none ∧ σ1 = τ ++ [(16, 2, [some (τ.length + 1), none]), (0, 40, [])] ∧ I1 = I ∧ J1 = J) := by
  refine q_C.of (rop := .return_) me_X8_init rfl (Nat.le_of_ble_eq_true rfl) ?_
  show q_WP _ _ _ _ _ _ _ _ _ _ _ _ 0 [some (.ref τ.length)] [] _ I J
  refine s_aload_n dX8_init_0 rfl ?_
  refine s_objInit dX8_init_1 oi_X8 oi_i oi_c (Nat.le_of_ble_eq_true rfl) (by decide) ?_
  refine s_aload_n dX8_init_4 rfl ?_
  refine s_bipush (v := 40) dX8_init_5 (by decide) ?_
  refine s_newarr (a := 0) (N := 40) dX8_init_7 (by decide) rfl ar_i (by decide) rfl (by decide) (hz _ (by simp)) (by decide) (by decide) ?_
  refine s_sh (st2 := [.ref (τ.length + 1), .ref τ.length]) (σ2 := τ ++ (16, 2, [none, none]) :: [(0, 40, [])]) (by simp) (by simp [List.replicate]) ?_
  refine s_putF (e' := (16, 2, [some (τ.length + 1), none])) dX8_init_9 f_X8_9 rfl ap_get rfl (Nat.le_of_ble_eq_true rfl) rfl ?_
  rw [ap_set]
  exact s_ret dX8_init_12 ⟨none, Or.inr (Or.inr (Or.inr ⟨rfl, rfl, rfl, rfl⟩)), ⟨rfl, rfl, rfl, rfl⟩, rfl, rfl⟩
set_option maxHeartbeats 4000000 in
set_option maxRecDepth 100000 in
theorem i_X6 {τ : Shp} {I : Mem} {J : Lng} (hz : ∀ p, τ.length < p → I p = fun _ => 0) : q_C yX6_init cX6_init 1 none 1 2 14 [.ref τ.length] (τ ++ [(14, 10, List.replicate 10 none)]) I J (fun r σ1 I1 J1 => r = none ∧ σ1 = τ ++ [(14, 10, [some (τ.length + 1), some (τ.length + 2), none, none, none, none, none, none, none, none]), (0, 7, []), (0, 7, [])] ∧ I1 = upI I τ.length 5 (-9) ∧ J1 = J) := by
  refine q_C.of (rop := .return_) me_X6_init rfl (Nat.le_of_ble_eq_true rfl) ?_
  show q_WP _ _ _ _ _ _ _ _ _ _ _ _ 0 [some (.ref τ.length)] [] _ I J
  refine s_aload_n dX6_init_0 rfl ?_
  refine s_objInit dX6_init_1 oi_X6 oi_i oi_c (Nat.le_of_ble_eq_true rfl) (by decide) ?_
  refine s_aload_n dX6_init_4 rfl ?_
  refine s_bipush (v := 7) dX6_init_5 (by decide) ?_
  refine s_newarr (a := 0) (N := 7) dX6_init_7 (by decide) rfl ar_i (by decide) rfl (by decide) (hz _ (by simp)) (by decide) (by decide) ?_
  refine s_sh (st2 := [.ref (τ.length + 1), .ref τ.length]) (σ2 := τ ++ (14, 10, [none, none, none, none, none, none, none, none, none, none]) :: [(0, 7, [])]) (by simp) (by simp [List.replicate]) ?_
  refine s_putF (e' := (14, 10, [some (τ.length + 1), none, none, none, none, none, none, none, none, none])) dX6_init_9 f_X6_9 rfl ap_get rfl (Nat.le_of_ble_eq_true rfl) rfl ?_
  rw [ap_set]
  refine s_aload_n dX6_init_12 rfl ?_
  refine s_bipush (v := 7) dX6_init_13 (by decide) ?_
  refine s_newarr (a := 0) (N := 7) dX6_init_15 (by decide) rfl ar_i (by decide) rfl (by decide) (hz _ (by simp)) (by decide) (by decide) ?_
  refine s_sh (st2 := [.ref (τ.length + 2), .ref τ.length]) (σ2 := τ ++ (14, 10, [some (τ.length + 1), none, none, none, none, none, none, none, none, none]) :: [(0, 7, []), (0, 7, [])]) (by simp) (by simp [List.replicate]) ?_
  refine s_putF (e' := (14, 10, [some (τ.length + 1), some (τ.length + 2), none, none, none, none, none, none, none, none])) dX6_init_17 f_X6_15 rfl ap_get rfl (Nat.le_of_ble_eq_true rfl) rfl ?_
  rw [ap_set]
  refine s_aload_n dX6_init_20 rfl ?_
  refine s_bipush (v := (-9)) dX6_init_21 (by decide) ?_
  refine s_putI dX6_init_23 f_X6_18 ap_get rfl ?_
  exact s_ret dX6_init_26 ⟨none, Or.inr (Or.inr (Or.inr ⟨rfl, rfl, rfl, rfl⟩)), ⟨rfl, rfl, rfl, rfl⟩, rfl, rfl⟩
set_option maxHeartbeats 4000000 in
set_option maxRecDepth 100000 in
theorem i_X5 {τ : Shp} {I : Mem} {J : Lng} (hz : ∀ p, τ.length < p → I p = fun _ => 0) : q_C yX5_init cX5_init 1 none 1 1 7 [.ref τ.length] (τ ++ [(13, 3, List.replicate 3 none)]) I J (fun r σ1 I1 J1 => r = none ∧ σ1 = τ ++ [(13, 3, [some (τ.length + 1), none, none]), (0, 7, [])] ∧ I1 = I ∧ J1 = J) := by
  refine q_C.of (rop := .return_) me_X5_init rfl (Nat.le_of_ble_eq_true rfl) ?_
  show q_WP _ _ _ _ _ _ _ _ _ _ _ _ 0 [some (.ref τ.length)] [] _ I J
  refine s_aload_n dX5_init_0 rfl ?_
  refine s_objInit dX5_init_1 oi_X5 oi_i oi_c (Nat.le_of_ble_eq_true rfl) (by decide) ?_
  refine s_aload_n dX5_init_4 rfl ?_
  refine s_bipush (v := 7) dX5_init_5 (by decide) ?_
  refine s_newarr (a := 0) (N := 7) dX5_init_7 (by decide) rfl ar_i (by decide) rfl (by decide) (hz _ (by simp)) (by decide) (by decide) ?_
  refine s_sh (st2 := [.ref (τ.length + 1), .ref τ.length]) (σ2 := τ ++ (13, 3, [none, none, none]) :: [(0, 7, [])]) (by simp) (by simp [List.replicate]) ?_
  refine s_putF (e' := (13, 3, [some (τ.length + 1), none, none])) dX5_init_9 f_X5_9 rfl ap_get rfl (Nat.le_of_ble_eq_true rfl) rfl ?_
  rw [ap_set]
  exact s_ret dX5_init_12 ⟨none, Or.inr (Or.inr (Or.inr ⟨rfl, rfl, rfl, rfl⟩)), ⟨rfl, rfl, rfl, rfl⟩, rfl, rfl⟩
set_option maxHeartbeats 4000000 in
set_option maxRecDepth 100000 in
theorem i_X2 {τ : Shp} {I : Mem} {J : Lng} (hz : ∀ p, τ.length < p → I p = fun _ => 0) : q_C yX2_init cX2_init 1 none 1 1 4 [.ref τ.length] (τ ++ [(11, 2, List.replicate 2 none)]) I J (fun r σ1 I1 J1 => r = none ∧ σ1 = τ ++ [(11, 2, [some (τ.length + 1), none]), (0, 4, [])] ∧ I1 = I ∧ J1 = J) := by
  refine q_C.of (rop := .return_) me_X2_init rfl (Nat.le_of_ble_eq_true rfl) ?_
  show q_WP _ _ _ _ _ _ _ _ _ _ _ _ 0 [some (.ref τ.length)] [] _ I J
  refine s_aload_n dX2_init_0 rfl ?_
  refine s_objInit dX2_init_1 oi_X2 oi_i oi_c (Nat.le_of_ble_eq_true rfl) (by decide) ?_
  refine s_aload_n dX2_init_4 rfl ?_
  refine s_iconst (v := 4) dX2_init_5 (by decide) ?_
  refine s_newarr (a := 0) (N := 4) dX2_init_6 (by decide) rfl ar_i (by decide) rfl (by decide) (hz _ (by simp)) (by decide) (by decide) ?_
  refine s_sh (st2 := [.ref (τ.length + 1), .ref τ.length]) (σ2 := τ ++ (11, 2, [none, none]) :: [(0, 4, [])]) (by simp) (by simp [List.replicate]) ?_
  refine s_putF (e' := (11, 2, [some (τ.length + 1), none])) dX2_init_8 f_X2_9 rfl ap_get rfl (Nat.le_of_ble_eq_true rfl) rfl ?_
  rw [ap_set]
  exact s_ret dX2_init_11 ⟨none, Or.inr (Or.inr (Or.inr ⟨rfl, rfl, rfl, rfl⟩)), ⟨rfl, rfl, rfl, rfl⟩, rfl, rfl⟩
set_option maxHeartbeats 4000000 in
set_option maxRecDepth 100000 in
theorem i_X3 {τ : Shp} {I : Mem} {J : Lng} (hz : ∀ p, τ.length < p → I p = fun _ => 0) : q_C yX3_init cX3_init 1 none 1 6 55 [.ref τ.length] (τ ++ [(12, 1, List.replicate 1 none)]) I J (fun r σ1 I1 J1 => r = none ∧ σ1 = τ ++ [(12, 1, [some (τ.length + 1)]), (4, 5, [some (τ.length + 2), some (τ.length + 3), some (τ.length + 4), some (τ.length + 5), some (τ.length + 6)]), (0, 10, []), (0, 10, []), (0, 10, []), (0, 10, []), (0, 10, [])] ∧ I1 = I ∧ J1 = J) := by
  refine q_C.of (rop := .return_) me_X3_init rfl (Nat.le_of_ble_eq_true rfl) ?_
  show q_WP _ _ _ _ _ _ _ _ _ _ _ _ 0 [some (.ref τ.length)] [] _ I J
  refine s_aload_n dX3_init_0 rfl ?_
  refine s_objInit dX3_init_1 oi_X3 oi_i oi_c (Nat.le_of_ble_eq_true rfl) (by decide) ?_
  refine s_aload_n dX3_init_4 rfl ?_
  refine s_iconst (v := 5) dX3_init_5 (by decide) ?_
  refine s_bipush (v := 10) dX3_init_6 (by decide) ?_
  refine s_mna (N := 5) (M := 10) dX3_init_8 cl_X3_9 ar_i2 (by decide) (by decide) rfl rfl (by decide) (by decide) (fun j => hz _ (by simp; omega)) (by decide) (by decide) ?_
  refine s_sh (st2 := [.ref (τ.length + 1), .ref τ.length]) (σ2 := τ ++ (12, 1, [none]) :: [(4, 5, [some (τ.length + 2), some (τ.length + 3), some (τ.length + 4), some (τ.length + 5), some (τ.length + 6)]), (0, 10, []), (0, 10, []), (0, 10, []), (0, 10, []), (0, 10, [])]) (by simp) ?_ ?_
  · rw [List.length_append]
    simp only [List.length_cons, List.length_nil, List.range, List.range.loop, List.map, List.replicate, List.append_assoc, List.cons_append, List.nil_append]
  refine s_putF (e' := (12, 1, [some (τ.length + 1)])) dX3_init_12 f_X3_11 rfl ap_get rfl (Nat.le_of_ble_eq_true rfl) rfl ?_
  rw [ap_set]
  exact s_ret dX3_init_15 ⟨none, Or.inr (Or.inr (Or.inr ⟨rfl, rfl, rfl, rfl⟩)), ⟨rfl, rfl, rfl, rfl⟩, rfl, rfl⟩
