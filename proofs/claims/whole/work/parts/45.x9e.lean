theorem PW.tie {a : Nat → Int32} {n m k : Nat} (h : PW a n m) (hk : k < 4) : PW (upd a 2 (nI k)) n m := by
  obtain ⟨h1, h2, h3, h4, h5, h6, h7, h8, h9, h10⟩ := h
  refine ⟨h1, h2, h3, h4, fun p hp => ?_, h6, ⟨k, hk, rfl⟩, h8, h9, h10⟩
  dsimp only
  rw [upd_n (by omega)]; exact h5 p hp
theorem cp_tie {I : Mem} {t : Int32} : lnd (upI (zcopy I 6 3) 6 6 t) 6 = upd (lnd I 3) 2 t := by rw [lnd_f (f := 6) (k := 2) (by omega), zcopy_l]
theorem cp_fr {I : Mem} {k : Nat} {t : Int32} : Fr scr I (upI (zcopy I 6 3) 6 k t) := scr_cp.up (by decide)
/-- the holders that follow, as figures -/
def pnx (n : Nat) : Nat → (Nat → Int32) → Nat → Int32 → Int32
  | 0, _, _, f => f
  | r + 1, a, m, f => match phd a with
    | none => f
    | some h => pnx n r (pdie a n m h) (mclr m h) (f * 10 + nI h + 1)
theorem zlose_fr {I I1 : Mem} {n m j : Nat} (h : Fr scr I I1) : Fr scr I (zlose I1 55 6 n m j) := h.tr (scr_LK (zlose_o _ _ _ _ _ _))
set_option maxHeartbeats 4000000 in
set_option maxRecDepth 100000 in
theorem c_X9_next_b {I : Mem} {J : Lng} {t : Int32} (ht : pin t 4 = none) : q_E yX9_next cX9_next 4 (some .int) 33 [.ref 0, .int t] I J (some (.int (-2))) (I) (J) := by
  have hti := c_X9_isTie (I := I) (J := J) (t := t)
  rw [ht] at hti
  refine q_Ei me_X9_next rfl (Nat.le_of_ble_eq_true rfl) ?_
  show q_w _ _ _ _ _ _ _ 0 [some (.ref 0), some (.int t), none, none] [] I J
  refine w_iload_n dX9_next_0 rfl ?_
  refine w_callSi dX9_next_1 k_X9_142 (hti) rfl rfl rfl (Nat.le_of_ble_eq_true rfl) (by first | decide | omega) ?_
  refine w_if_ne (tgt := 10) dX9_next_4 (by decide) (fun c_4 => absurd c_4 (fun q => q rfl)) (fun c_4 => ?_)
  refine w_bipush (v := (-2)) dX9_next_7 (by decide) ?_
  exact w_ret dX9_next_9 ⟨rfl, rfl, rfl⟩
set_option maxHeartbeats 4000000 in
set_option maxRecDepth 100000 in
theorem l_X9_next {I : Mem} {J : Lng} {N : Nat} {t R : Int32} : ∀ (r k : Nat) (f : Int32) (I1 : Mem) (m : Nat), 7 - k = r → k ≤ 7 → Fr scr I I1 → PW (lnd I1 6) N m → pnx N r (lnd I1 6) m f = R → q_w yX9_next.cls yX9_next.name cX9_next 4 .ireturn 33 (fun st I2 J1 => ∃ v : Int32, st = [.int v] ∧ (some (Value.int v) = some (.int R) ∧ J1 = J ∧ Fr scr I I2)) 33 [some (.ref 0), some (.int t), some (.int f), some (.int (nI k))] [] (I1) (J) := by
  obtain ⟨ht0, ht1, ht2⟩ := SH_land l6
  obtain ⟨hq0, hq1⟩ := SH_kin k55
  intro r
  induction r with
  | zero =>
    intro k f I1 m hr hk hO hP hR
    obtain rfl : k = 7 := by omega
    have hR2 : f = R := hR
    refine w_iload_n dX9_next_33 rfl ?_
    refine w_bipush (v := 7) dX9_next_34 (by decide) ?_
    refine w_icmp_ge (tgt := 90) dX9_next_36 (by decide) (fun c_36 => ?_) (fun c_36 => absurd (show (7 : Int32) ≤ nI 7 by decide) c_36)
    refine w_iload_n dX9_next_90 rfl ?_
    exact w_ret dX9_next_91 ⟨_, rfl, by rw [hR2], rfl, hO⟩
  | succ r ih =>
    intro k f I1 m hr hk hO hP hR
    have hk7 : k < 7 := by omega
    have hm := hP.2.2.2.1
    have hn := hP.2.1
    unfold pnx at hR
    rcases hP.2.2.2.2.2.1 with e | ⟨h, hh, hb, e⟩
    · have e5 : I1 6 5 = -9 := e
      rw [phd_none e] at hR
      have hR2 : f = R := hR
      refine w_iload_n dX9_next_33 rfl ?_
      refine w_bipush (v := 7) dX9_next_34 (by decide) ?_
      refine w_icmp_ge (tgt := 90) dX9_next_36 (by decide) (fun c_36 => absurd c_36 (nI_ge (b := 7) hk7 (by decide))) (fun c_36 => ?_)
      refine w_aload_n dX9_next_39 rfl ?_
      refine w_getR dX9_next_40 f_X9_23 (by first | assumption | rfl) rfl rfl ?_
      refine w_getI dX9_next_43 f_X9_94 (by first | assumption | rfl) rfl ?_
      refine w_bipush (v := (-9)) dX9_next_46 (by decide) ?_
      refine w_icmp_eq (tgt := 90) dX9_next_48 (by decide) (fun c_48 => ?_) (fun c_48 => absurd e5 c_48)
      refine w_iload_n dX9_next_90 rfl ?_
      exact w_ret dX9_next_91 ⟨_, rfl, by rw [hR2], rfl, hO⟩
    · have e5 : I1 6 5 = nI h := e
      rw [phd_some (by omega) e] at hR
      have hR2 : pnx N r (pdie (lnd I1 6) N m h) (mclr m h) (f * 10 + nI h + 1) = R := hR
      have hlo := c_X6_loses k55 l6 (J := J) hP.FM hP.FP hh (p2_128 hn hm) hP.2.2.1 hb
      refine w_iload_n dX9_next_33 rfl ?_
      refine w_bipush (v := 7) dX9_next_34 (by decide) ?_
      refine w_icmp_ge (tgt := 90) dX9_next_36 (by decide) (fun c_36 => absurd c_36 (nI_ge (b := 7) hk7 (by decide))) (fun c_36 => ?_)
      refine w_aload_n dX9_next_39 rfl ?_
      refine w_getR dX9_next_40 f_X9_23 (by first | assumption | rfl) rfl rfl ?_
      refine w_getI dX9_next_43 f_X9_94 (by first | assumption | rfl) rfl ?_
      refine w_bipush (v := (-9)) dX9_next_46 (by decide) ?_
      refine w_icmp_eq (tgt := 90) dX9_next_48 (by decide) (fun c_48 => absurd c_48 (by rw [e5]; exact nI_ne9 (by omega))) (fun c_48 => ?_)
      refine w_iload_n dX9_next_51 rfl ?_
      refine w_bipush (v := 10) dX9_next_52 (by decide) ?_
      refine w_imul dX9_next_54 ?_
      refine w_aload_n dX9_next_55 rfl ?_
      refine w_getR dX9_next_56 f_X9_23 (by first | assumption | rfl) rfl rfl ?_
      refine w_getI dX9_next_59 f_X9_94 (by first | assumption | rfl) rfl ?_
      rw [e5]
      refine w_iadd dX9_next_62 ?_
      refine w_iconst (v := 1) dX9_next_63 (by decide) ?_
      refine w_iadd dX9_next_64 ?_
      refine w_istore_n dX9_next_65 (by decide) rfl ?_
      refine w_aload_n dX9_next_66 rfl ?_
      refine w_getR dX9_next_67 f_X9_23 (by first | assumption | rfl) rfl rfl ?_
      refine w_aload_n dX9_next_70 rfl ?_
      refine w_getR dX9_next_71 f_X9_23 (by first | assumption | rfl) rfl rfl ?_
      refine w_getI dX9_next_74 f_X9_94 (by first | assumption | rfl) rfl ?_
      rw [e5]
      refine w_aload_n dX9_next_77 rfl ?_
      refine w_getR dX9_next_78 f_X9_44 (by first | assumption | rfl) rfl rfl ?_
      refine w_callVv dX9_next_81 k_X9_134 (by first | assumption | rfl) rfl (hlo) rfl rfl rfl (Nat.le_of_ble_eq_true rfl) (by first | decide | omega) ?_
      refine w_iincv (c := 1) dX9_next_84 (by decide) rfl (by decide) rfl ?_
      refine w_goto (tgt := 33) dX9_next_87 (by decide) ?_
      rw [nI_1]
      have hl6 := zlose_l (I := I1) (m := m) k55 l6 hn hP.FP hh
      exact ih (k + 1) _ _ (mclr m h) (by omega) (by omega) (zlose_fr hO) (by rw [hl6]; exact hP.die hb) (by rw [hl6]; exact hR2)
set_option maxHeartbeats 4000000 in
set_option maxRecDepth 100000 in
theorem c_X9_next {I : Mem} {J : Lng} {N m : Nat} (hP : PW (lnd I 3) N m) {t : Int32} {k : Nat} (ht : pin t 4 = some k) : q_F yX9_next cX9_next 4 (some .int) 33 [.ref 0, .int t] I J (fun r I1 J1 => r = some (.int (pnx N 7 (upd (lnd I 3) 2 t) m 0)) ∧ J1 = J ∧ Fr scr I I1) := by
  have hti := c_X9_isTie (I := I) (J := J) (t := t)
  rw [ht, Option.isSome_some, zB_t] at hti
  obtain ⟨hk4, htk⟩ := pin_some (by decide) ht
  obtain ⟨ht0, ht1, ht2⟩ := SH_land l6
  refine q_Fi me_X9_next rfl (Nat.le_of_ble_eq_true rfl) ?_
  show q_w _ _ _ _ _ _ _ 0 [some (.ref 0), some (.int t), none, none] [] I J
  refine w_iload_n dX9_next_0 rfl ?_
  refine w_callSi dX9_next_1 k_X9_142 (hti) rfl rfl rfl (Nat.le_of_ble_eq_true rfl) (by first | decide | omega) ?_
  refine w_if_ne (tgt := 10) dX9_next_4 (by decide) (fun c_4 => ?_) (fun c_4 => absurd c_4 (by decide))
  refine w_aload_n dX9_next_10 rfl ?_
  refine w_getR dX9_next_11 f_X9_23 (by first | assumption | rfl) rfl rfl ?_
  refine w_aload_n dX9_next_14 rfl ?_
  refine w_getR dX9_next_15 f_X9_19 (by first | assumption | rfl) rfl rfl ?_
  refine w_callVv dX9_next_18 k_X9_169 (by first | assumption | rfl) rfl (c_X6_copy l6 l3 (by decide)) rfl rfl rfl (Nat.le_of_ble_eq_true rfl) (by first | decide | omega) ?_
  refine w_aload_n dX9_next_21 rfl ?_
  refine w_getR dX9_next_22 f_X9_23 (by first | assumption | rfl) rfl rfl ?_
  refine w_iload_n dX9_next_25 rfl ?_
  refine w_putI dX9_next_26 f_X9_97 (by first | assumption | rfl) rfl ?_
  refine w_iconst (v := 0) dX9_next_29 (by decide) ?_
  refine w_istore_n dX9_next_30 (by decide) rfl ?_
  refine w_iconst (v := 0) dX9_next_31 (by decide) ?_
  refine w_istore_n dX9_next_32 (by decide) rfl ?_
  exact l_X9_next 7 0 0 _ m rfl (by decide) cp_fr (by rw [cp_tie, htk]; exact hP.tie hk4) (by rw [cp_tie])
theorem dok_all {m : Nat} : ∀ (r rest s : Nat), m < 128 → s < 128 → dok m r rest s = true → (∀ x, x ∈ dpl r rest → x < 7 ∧ m.testBit x = true ∧ s.testBit x = false) ∧ (dpl r rest).Nodup
  | 0, rest, s, _, _, _ => ⟨fun x hx => absurd hx (List.not_mem_nil), List.nodup_nil⟩
  | r + 1, rest, s, hm, hs, h => by
    unfold dok at h
    split at h
    · rename_i hh
      have hh2 : (0 < rest % 10 ∧ m.testBit (rest % 10 - 1) = true) ∧ s.testBit (rest % 10 - 1) = false := by simpa [dal] using hh
      have h7 : rest % 10 - 1 < 7 := p2_bit (n := 7) hm hh2.1.2
      obtain ⟨h1, h2⟩ := dok_all r (rest / 10) _ hm (mset_lt s hs _ h7) h
      unfold dpl
      refine ⟨fun x hx => ?_, ?_⟩
      · rcases List.mem_append.mp hx with q | q
        · obtain ⟨a, b, c⟩ := h1 x q
          rw [mset_bit s hs _ h7 x a] at c
          exact ⟨a, b, by cases hq : s.testBit x <;> simp [hq] at c ⊢⟩
        · obtain rfl := List.mem_singleton.mp q
          exact ⟨h7, hh2.1.2, hh2.2⟩
      · rw [List.nodup_append]
        refine ⟨h2, by simp, fun a ha b hb e => ?_⟩
        obtain rfl := List.mem_singleton.mp hb
        subst e
        obtain ⟨a1, _, c⟩ := h1 _ ha
        rw [mset_bit s hs _ h7 _ a1] at c
        simp at c
    · cases h
theorem pcan_of : ∀ (l : List Nat) (m : Nat), m < 128 → (∀ x, x ∈ l → x < 7 ∧ m.testBit x = true) → l.Nodup → pcan m l = true
  | [], _, _, _, _ => rfl
  | j :: l, m, hm, h, hd => by
    obtain ⟨h7, hb⟩ := h j List.mem_cons_self
    rw [List.nodup_cons] at hd
    unfold pcan
    rw [hb, Bool.true_and]
    refine pcan_of l _ (mclr_lt m hm j h7) (fun x hx => ?_) hd.2
    obtain ⟨x7, xb⟩ := h x (List.mem_cons_of_mem _ hx)
    refine ⟨x7, ?_⟩
    rw [mclr_bit m hm j h7 x x7, xb]
    have : x ≠ j := fun e => hd.1 (e ▸ hx)
    simp [this]
theorem dok_pcan {m n d : Nat} (hm : m < 128) (h : dok m n d 0 = true) : pcan m (dpl n d) = true := by
  obtain ⟨h1, h2⟩ := dok_all n d 0 hm (by decide) h
  exact pcan_of _ _ hm (fun x hx => ⟨(h1 x hx).1, (h1 x hx).2.1⟩) h2
/-- under which ties the one holds after those deaths -/
def pts (a : Nat → Int32) (n m : Nat) (ps : List Nat) (p : Int32) : Nat → Nat → Nat → Nat
  | 0, _, b => b
  | r + 1, k, b => pts a n m ps p r (k + 1) (if pdies n (upd a 2 (nI k)) m ps 1 = p then mset b k else b)
set_option maxHeartbeats 4000000 in
set_option maxRecDepth 100000 in
theorem c_X9_ties_b {I : Mem} {J : Lng} {n d p : Int32} (hx : pin1 n 4 = none) : q_E yX9_ties cX9_ties 6 (some .int) 34 [.ref 0, .int n, .int d, .int p] I J (some (.int (-2))) (I) (J) := by
  refine q_Ei me_X9_ties rfl (Nat.le_of_ble_eq_true rfl) ?_
  show q_w _ _ _ _ _ _ _ 0 [some (.ref 0), some (.int n), some (.int d), some (.int p), none, none] [] I J
  refine w_iload_n dX9_ties_0 rfl ?_
  refine w_iconst (v := 1) dX9_ties_1 (by decide) ?_
  refine w_icmp_lt (tgt := 26) dX9_ties_2 (by decide) (fun c_2 => ?_) (fun c_2 => ?_)
  · refine w_bipush (v := (-2)) dX9_ties_26 (by decide) ?_
    exact w_ret dX9_ties_28 ⟨rfl, rfl, rfl⟩
  · refine w_iload_n dX9_ties_5 rfl ?_
    refine w_iconst (v := 4) dX9_ties_6 (by decide) ?_
    refine w_icmp_gt (tgt := 26) dX9_ties_7 (by decide) (fun c_7 => ?_) (fun c_7 => absurd (p1_gt hx c_2 (by decide)) c_7)
    refine w_bipush (v := (-2)) dX9_ties_26 (by decide) ?_
    exact w_ret dX9_ties_28 ⟨rfl, rfl, rfl⟩
set_option maxHeartbeats 4000000 in
set_option maxRecDepth 100000 in
theorem c_X9_ties_n {I : Mem} {J : Lng} {N m : Nat} (hP : PW (lnd I 3) N m) {n d p : Int32} {k : Nat} (hx : pin1 n 4 = some k) (hd : d < 0) : q_F yX9_ties cX9_ties 6 (some .int) 34 [.ref 0, .int n, .int d, .int p] I J (fun r I1 J1 => r = some (.int (-2)) ∧ J1 = J ∧ Fr scr I I1) := by
  obtain ⟨h1, h2, rfl⟩ := pin1_some (by decide) hx
  refine q_Fi me_X9_ties rfl (Nat.le_of_ble_eq_true rfl) ?_
  show q_w _ _ _ _ _ _ _ 0 [some (.ref 0), some (.int (nI k)), some (.int d), some (.int p), none, none] [] I J
  have hrd := c_X2_read_neg (I := I) (J := J) h1 (show k < 5 by omega) hd
  refine w_iload_n dX9_ties_0 rfl ?_
  refine w_iconst (v := 1) dX9_ties_1 (by decide) ?_
  refine w_icmp_lt (tgt := 26) dX9_ties_2 (by decide) (fun c_2 => absurd c_2 (nI_1le h1 (by omega))) (fun c_2 => ?_)
  refine w_iload_n dX9_ties_5 rfl ?_
  refine w_iconst (v := 4) dX9_ties_6 (by decide) ?_
  refine w_icmp_gt (tgt := 26) dX9_ties_7 (by decide) (fun c_7 => absurd c_7 (nI_nlt (a := 4) (b := k) h2 (by decide))) (fun c_7 => ?_)
  refine w_aload_n dX9_ties_10 rfl ?_
  refine w_getR dX9_ties_11 f_X9_58 (by first | assumption | rfl) rfl rfl ?_
  refine w_iload_n dX9_ties_14 rfl ?_
  refine w_iload_n dX9_ties_15 rfl ?_
  refine w_aload_n dX9_ties_16 rfl ?_
  refine w_getR dX9_ties_17 f_X9_19 (by first | assumption | rfl) rfl rfl ?_
  refine w_callVF dX9_ties_20 k_X9_186 (by first | assumption | rfl) rfl (hrd) rfl rfl rfl (Nat.le_of_ble_eq_true rfl) (by first | decide | omega) (fun r_20 I_20 J_20 h_20 => ?_)
  obtain ⟨rfl, hDO, rfl⟩ := h_20
  refine w_if_ne (tgt := 29) dX9_ties_23 (by decide) (fun c_23 => absurd c_23 (fun q => q rfl)) (fun c_23 => ?_)
  refine w_bipush (v := (-2)) dX9_ties_26 (by decide) ?_
  exact w_ret dX9_ties_28 ⟨_, rfl, rfl, rfl, scr_DO hDO⟩
set_option maxHeartbeats 4000000 in
set_option maxRecDepth 100000 in
theorem c_X9_ties_d {I : Mem} {J : Lng} {N m : Nat} (hP : PW (lnd I 3) N m) {n p : Int32} {k e : Nat} (hx : pin1 n 4 = some k) (he : e < 2 ^ 31) (hk : dok m k e 0 = false) : q_F yX9_ties cX9_ties 6 (some .int) 34 [.ref 0, .int n, .int (nI e), .int p] I J (fun r I1 J1 => r = some (.int (-2)) ∧ J1 = J ∧ Fr scr I I1) := by
  obtain ⟨h1, h2, rfl⟩ := pin1_some (by decide) hx
  refine q_Fi me_X9_ties rfl (Nat.le_of_ble_eq_true rfl) ?_
  show q_w _ _ _ _ _ _ _ 0 [some (.ref 0), some (.int (nI k)), some (.int (nI e)), some (.int p), none, none] [] I J
  have hrd := c_X2_read (J := J) hP h1 (show k < 5 by omega) he
  refine w_iload_n dX9_ties_0 rfl ?_
  refine w_iconst (v := 1) dX9_ties_1 (by decide) ?_
  refine w_icmp_lt (tgt := 26) dX9_ties_2 (by decide) (fun c_2 => absurd c_2 (nI_1le h1 (by omega))) (fun c_2 => ?_)
  refine w_iload_n dX9_ties_5 rfl ?_
  refine w_iconst (v := 4) dX9_ties_6 (by decide) ?_
  refine w_icmp_gt (tgt := 26) dX9_ties_7 (by decide) (fun c_7 => absurd c_7 (nI_nlt (a := 4) (b := k) h2 (by decide))) (fun c_7 => ?_)
  refine w_aload_n dX9_ties_10 rfl ?_
  refine w_getR dX9_ties_11 f_X9_58 (by first | assumption | rfl) rfl rfl ?_
  refine w_iload_n dX9_ties_14 rfl ?_
  refine w_iload_n dX9_ties_15 rfl ?_
  refine w_aload_n dX9_ties_16 rfl ?_
  refine w_getR dX9_ties_17 f_X9_19 (by first | assumption | rfl) rfl rfl ?_
  refine w_callVF dX9_ties_20 k_X9_186 (by first | assumption | rfl) rfl (hrd) rfl rfl rfl (Nat.le_of_ble_eq_true rfl) (by first | decide | omega) (fun r_20 I_20 J_20 h_20 => ?_)
  obtain ⟨rfl, hDO, rfl, hrow⟩ := h_20
  refine w_if_ne (tgt := 29) dX9_ties_23 (by decide) (fun c_23 => absurd c_23 (by rw [hk]; exact fun q => q rfl)) (fun c_23 => ?_)
  refine w_bipush (v := (-2)) dX9_ties_26 (by decide) ?_
  exact w_ret dX9_ties_28 ⟨_, rfl, rfl, rfl, scr_DO hDO⟩
set_option maxHeartbeats 4000000 in
set_option maxRecDepth 100000 in
theorem c_X9_ties_u {I : Mem} {J : Lng} {N m : Nat} (hP : PW (lnd I 3) N m) {n p : Int32} {k e : Nat} (hx : pin1 n 4 = some k) (he : e < 2 ^ 31) (hk : dok m k e 0 = true) (hp : pin p N = none) : q_F yX9_ties cX9_ties 6 (some .int) 34 [.ref 0, .int n, .int (nI e), .int p] I J (fun r I1 J1 => r = some (.int (-1)) ∧ J1 = J ∧ Fr scr I I1) := by
  obtain ⟨h1, h2, rfl⟩ := pin1_some (by decide) hx
  refine q_Fi me_X9_ties rfl (Nat.le_of_ble_eq_true rfl) ?_
  show q_w _ _ _ _ _ _ _ 0 [some (.ref 0), some (.int (nI k)), some (.int (nI e)), some (.int p), none, none] [] I J
  have hrd := c_X2_read (J := J) hP h1 (show k < 5 by omega) he
  refine w_iload_n dX9_ties_0 rfl ?_
  refine w_iconst (v := 1) dX9_ties_1 (by decide) ?_
  refine w_icmp_lt (tgt := 26) dX9_ties_2 (by decide) (fun c_2 => absurd c_2 (nI_1le h1 (by omega))) (fun c_2 => ?_)
  refine w_iload_n dX9_ties_5 rfl ?_
  refine w_iconst (v := 4) dX9_ties_6 (by decide) ?_
  refine w_icmp_gt (tgt := 26) dX9_ties_7 (by decide) (fun c_7 => absurd c_7 (nI_nlt (a := 4) (b := k) h2 (by decide))) (fun c_7 => ?_)
  refine w_aload_n dX9_ties_10 rfl ?_
  refine w_getR dX9_ties_11 f_X9_58 (by first | assumption | rfl) rfl rfl ?_
  refine w_iload_n dX9_ties_14 rfl ?_
  refine w_iload_n dX9_ties_15 rfl ?_
  refine w_aload_n dX9_ties_16 rfl ?_
  refine w_getR dX9_ties_17 f_X9_19 (by first | assumption | rfl) rfl rfl ?_
  refine w_callVF dX9_ties_20 k_X9_186 (by first | assumption | rfl) rfl (hrd) rfl rfl rfl (Nat.le_of_ble_eq_true rfl) (by first | decide | omega) (fun r_20 I_20 J_20 h_20 => ?_)
  obtain ⟨rfl, hDO, rfl, hrow⟩ := h_20
  have hP2 : PW (lnd I_20 3) N m := by rw [hDO.land l3]; exact hP
  have hh := c_X6_has l3 (I := I_20) (J := J_20) (p := p)
  rw [zhas_pin hP2.FM, hp] at hh
  refine w_if_ne (tgt := 29) dX9_ties_23 (by decide) (fun c_23 => ?_) (fun c_23 => absurd c_23 (by rw [hk]; decide))
  refine w_aload_n dX9_ties_29 rfl ?_
  refine w_getR dX9_ties_30 f_X9_19 (by first | assumption | rfl) rfl rfl ?_
  refine w_iload_n dX9_ties_33 rfl ?_
  refine w_callVi dX9_ties_34 k_X9_112 (by first | assumption | rfl) rfl (hh) rfl rfl rfl (Nat.le_of_ble_eq_true rfl) (by first | decide | omega) ?_
  refine w_if_ne (tgt := 42) dX9_ties_37 (by decide) (fun c_37 => absurd c_37 (fun q => q rfl)) (fun c_37 => ?_)
  refine w_iconst (v := (-1)) dX9_ties_40 (by decide) ?_
  exact w_ret dX9_ties_41 ⟨_, rfl, rfl, rfl, scr_DO hDO⟩
set_option maxHeartbeats 4000000 in
set_option maxRecDepth 100000 in
theorem l_X9_ties {I : Mem} {J : Lng} {N m z : Nat} {ps : List Nat} {nn d p : Int32} {R : Nat} (hP : PW (lnd I 3) N m) (hk : z < 5) (hps : ps.length = z) (hc : pcan m ps = true) : ∀ (r k b : Nat) (I1 : Mem), 4 - k = r → k ≤ 4 → b < 128 → Fr scr I I1 → I1 64 1 = nI z → (∀ i, i < z → I1 65 i = nI (ps.getD i 0)) → pts (lnd I 3) N m ps p r k b = R → q_w yX9_ties.cls yX9_ties.name cX9_ties 6 .ireturn 34 (fun st I2 J1 => ∃ v : Int32, st = [.int v] ∧ (some (Value.int v) = some (.int (nI R)) ∧ J1 = J ∧ Fr scr I I2)) 48 [some (.ref 0), some (.int nn), some (.int d), some (.int p), some (.int (nI b)), some (.int (nI k))] [] (I1) (J) := by
  obtain ⟨ht0, ht1, ht2⟩ := SH_land l6
  intro r
  induction r with
  | zero =>
    intro k b I1 hr hk4 hb hO h64 h65 hR
    obtain rfl : k = 4 := by omega
    have hR2 : b = R := hR
    refine w_iload dX9_ties_48 rfl ?_
    refine w_iconst (v := 4) dX9_ties_50 (by decide) ?_
    refine w_icmp_ge (tgt := 115) dX9_ties_51 (by decide) (fun c_51 => ?_) (fun c_51 => absurd (show (4 : Int32) ≤ nI 4 by decide) c_51)
    refine w_iload dX9_ties_115 rfl ?_
    exact w_ret dX9_ties_117 ⟨_, rfl, by rw [hR2], rfl, hO⟩
  | succ r ih =>
    intro k b I1 hr hk4 hb hO h64 h65 hR
    have hk3 : k < 4 := by omega
    have hl3 : lnd I1 3 = lnd I 3 := hO.land (by decide) (by decide) (by decide)
    have h6 : lnd (upI (zcopy I1 6 3) 6 6 (nI k)) 6 = upd (lnd I 3) 2 (nI k) := by rw [cp_tie, hl3]
    have o64 : (upI (zcopy I1 6 3) 6 6 (nI k)) 64 = I1 64 := by rw [upI_ne (by decide), zcopy_o _ _ _ 64 (by decide) (by decide) (by decide)]
    have o65 : (upI (zcopy I1 6 3) 6 6 (nI k)) 65 = I1 65 := by rw [upI_ne (by decide), zcopy_o _ _ _ 65 (by decide) (by decide) (by decide)]
    have hbe := c_X2_befall (I := upI (zcopy I1 6 3) 6 6 (nI k)) (J := J) (N := N) (m := m) (ps := ps) (by rw [o64]; exact h64) hk hps (fun i hi => by rw [o65]; exact h65 i hi) (by rw [h6]; exact hP.tie hk3) hc
    rw [h6] at hbe
    unfold pts at hR
    refine w_iload dX9_ties_48 rfl ?_
    refine w_iconst (v := 4) dX9_ties_50 (by decide) ?_
    refine w_icmp_ge (tgt := 115) dX9_ties_51 (by decide) (fun c_51 => absurd c_51 (nI_ge (b := 4) hk3 (by decide))) (fun c_51 => ?_)
    refine w_aload_n dX9_ties_54 rfl ?_
    refine w_getR dX9_ties_55 f_X9_23 (by first | assumption | rfl) rfl rfl ?_
    refine w_aload_n dX9_ties_58 rfl ?_
    refine w_getR dX9_ties_59 f_X9_19 (by first | assumption | rfl) rfl rfl ?_
    refine w_callVv dX9_ties_62 k_X9_169 (by first | assumption | rfl) rfl (c_X6_copy l6 l3 (by decide)) rfl rfl rfl (Nat.le_of_ble_eq_true rfl) (by first | decide | omega) ?_
    refine w_aload_n dX9_ties_65 rfl ?_
    refine w_getR dX9_ties_66 f_X9_23 (by first | assumption | rfl) rfl rfl ?_
    refine w_iload dX9_ties_69 rfl ?_
    refine w_putI dX9_ties_71 f_X9_97 (by first | assumption | rfl) rfl ?_
    refine w_aload_n dX9_ties_74 rfl ?_
    refine w_getR dX9_ties_75 f_X9_58 (by first | assumption | rfl) rfl rfl ?_
    refine w_aload_n dX9_ties_78 rfl ?_
    refine w_getR dX9_ties_79 f_X9_23 (by first | assumption | rfl) rfl rfl ?_
    refine w_aload_n dX9_ties_82 rfl ?_
    refine w_getR dX9_ties_83 f_X9_44 (by first | assumption | rfl) rfl rfl ?_
    refine w_callVF dX9_ties_86 k_X9_190 (by first | assumption | rfl) rfl (hbe) rfl rfl rfl (Nat.le_of_ble_eq_true rfl) (by first | decide | omega) (fun r_86 I_86 J_86 h_86 => ?_)
    obtain ⟨rfl, rfl, hLK, h6b⟩ := h_86
    have e5 : I_86 6 5 = pdies N (upd (lnd I 3) 2 (nI k)) m ps 1 := by rw [← h6b]; rfl
    have hO2 : Fr scr I I_86 := (hO.tr cp_fr).tr (scr_LK hLK)
    have g64 : I_86 64 1 = nI z := by rw [hLK 64 (by decide) (by decide) (by decide) (by decide) (by decide), o64]; exact h64
    have g65 : ∀ i, i < z → I_86 65 i = nI (ps.getD i 0) := fun i hi => by rw [hLK 65 (by decide) (by decide) (by decide) (by decide) (by decide), o65]; exact h65 i hi
    refine w_aload_n dX9_ties_89 rfl ?_
    refine w_getR dX9_ties_90 f_X9_23 (by first | assumption | rfl) rfl rfl ?_
    refine w_getI dX9_ties_93 f_X9_94 (by first | assumption | rfl) rfl ?_
    rw [e5]
    refine w_iload_n dX9_ties_96 rfl ?_
    refine w_icmp_ne (tgt := 109) dX9_ties_97 (by decide) (fun c_97 => ?_) (fun c_97 => ?_)
    · refine w_iincv (c := 1) dX9_ties_109 (by decide) rfl (by decide) rfl ?_
      refine w_goto (tgt := 48) dX9_ties_112 (by decide) ?_
      rw [nI_1]
      rw [if_neg c_97] at hR
      exact ih (k + 1) b _ (by omega) (by omega) hb hO2 g64 g65 hR
    · refine w_iload dX9_ties_100 rfl ?_
      refine w_iconst (v := 1) dX9_ties_102 (by decide) ?_
      refine w_iload dX9_ties_103 rfl ?_
      refine w_ishl dX9_ties_105 ?_
      refine w_ior dX9_ties_106 ?_
      rw [mI_set b hb k (by omega)]
      refine w_istore dX9_ties_107 (by decide) rfl ?_
      refine w_iincv (c := 1) dX9_ties_109 (by decide) rfl (by decide) rfl ?_
      refine w_goto (tgt := 48) dX9_ties_112 (by decide) ?_
      rw [nI_1]
      rw [if_pos c_97] at hR
      exact ih (k + 1) _ _ (by omega) (by omega) (mset_lt b hb k (by omega)) hO2 g64 g65 hR
set_option maxHeartbeats 4000000 in
set_option maxRecDepth 100000 in
theorem c_X9_ties {I : Mem} {J : Lng} {N m : Nat} (hP : PW (lnd I 3) N m) {n p : Int32} {k e j : Nat} (hx : pin1 n 4 = some k) (he : e < 2 ^ 31) (hk : dok m k e 0 = true) (hp : pin p N = some j) : q_F yX9_ties cX9_ties 6 (some .int) 34 [.ref 0, .int n, .int (nI e), .int p] I J (fun r I1 J1 => r = some (.int (nI (pts (lnd I 3) N m (dpl k e) p 4 0 0))) ∧ J1 = J ∧ Fr scr I I1) := by
  obtain ⟨h1, h2, rfl⟩ := pin1_some (by decide) hx
  have hm := p2_128 hP.2.1 hP.2.2.2.1
  refine q_Fi me_X9_ties rfl (Nat.le_of_ble_eq_true rfl) ?_
  show q_w _ _ _ _ _ _ _ 0 [some (.ref 0), some (.int (nI k)), some (.int (nI e)), some (.int p), none, none] [] I J
  have hrd := c_X2_read (J := J) hP h1 (show k < 5 by omega) he
  refine w_iload_n dX9_ties_0 rfl ?_
  refine w_iconst (v := 1) dX9_ties_1 (by decide) ?_
  refine w_icmp_lt (tgt := 26) dX9_ties_2 (by decide) (fun c_2 => absurd c_2 (nI_1le h1 (by omega))) (fun c_2 => ?_)
  refine w_iload_n dX9_ties_5 rfl ?_
  refine w_iconst (v := 4) dX9_ties_6 (by decide) ?_
  refine w_icmp_gt (tgt := 26) dX9_ties_7 (by decide) (fun c_7 => absurd c_7 (nI_nlt (a := 4) (b := k) h2 (by decide))) (fun c_7 => ?_)
  refine w_aload_n dX9_ties_10 rfl ?_
  refine w_getR dX9_ties_11 f_X9_58 (by first | assumption | rfl) rfl rfl ?_
  refine w_iload_n dX9_ties_14 rfl ?_
  refine w_iload_n dX9_ties_15 rfl ?_
  refine w_aload_n dX9_ties_16 rfl ?_
  refine w_getR dX9_ties_17 f_X9_19 (by first | assumption | rfl) rfl rfl ?_
  refine w_callVF dX9_ties_20 k_X9_186 (by first | assumption | rfl) rfl (hrd) rfl rfl rfl (Nat.le_of_ble_eq_true rfl) (by first | decide | omega) (fun r_20 I_20 J_20 h_20 => ?_)
  obtain ⟨rfl, hDO, rfl, hrow⟩ := h_20
  have hP2 : PW (lnd I_20 3) N m := by rw [hDO.land l3]; exact hP
  have hh := c_X6_has l3 (I := I_20) (J := J_20) (p := p)
  rw [zhas_pin hP2.FM, hp, Option.isSome_some, zB_t] at hh
  refine w_if_ne (tgt := 29) dX9_ties_23 (by decide) (fun c_23 => ?_) (fun c_23 => absurd c_23 (by rw [hk]; decide))
  refine w_aload_n dX9_ties_29 rfl ?_
  refine w_getR dX9_ties_30 f_X9_19 (by first | assumption | rfl) rfl rfl ?_
  refine w_iload_n dX9_ties_33 rfl ?_
  refine w_callVi dX9_ties_34 k_X9_112 (by first | assumption | rfl) rfl (hh) rfl rfl rfl (Nat.le_of_ble_eq_true rfl) (by first | decide | omega) ?_
  refine w_if_ne (tgt := 42) dX9_ties_37 (by decide) (fun c_37 => ?_) (fun c_37 => absurd c_37 (by decide))
  refine w_iconst (v := 0) dX9_ties_42 (by decide) ?_
  refine w_istore dX9_ties_43 (by decide) rfl ?_
  refine w_iconst (v := 0) dX9_ties_45 (by decide) ?_
  refine w_istore dX9_ties_46 (by decide) rfl ?_
  obtain ⟨r1, r2⟩ := hrow hk
  exact l_X9_ties hP (show k < 5 by omega) (dpl_len k e) (dok_pcan hm hk) 4 0 0 _ rfl (by decide) (by decide) (scr_DO hDO) r1 r2 rfl
set_option maxHeartbeats 4000000 in
set_option maxRecDepth 100000 in
theorem c_X9_odds_u {I : Mem} {J : Lng} {N m : Nat} (hP : PW (lnd I 3) N m) {p : Int32} {u : Bool} (hp : pin p N = none) : q_E yX9_odds cX9_odds 4 (some .int) 34 [.ref 0, .int p, .int (zB u)] I J (some (.int (-1))) (I) (J) := by
  have hh := c_X6_has l3 (I := I) (J := J) (p := p)
  rw [zhas_pin hP.FM, hp] at hh
  refine q_Ei me_X9_odds rfl (Nat.le_of_ble_eq_true rfl) ?_
  show q_w _ _ _ _ _ _ _ 0 [some (.ref 0), some (.int p), some (.int (zB u)), none] [] I J
  refine w_aload_n dX9_odds_0 rfl ?_
  refine w_getR dX9_odds_1 f_X9_19 (by first | assumption | rfl) rfl rfl ?_
  refine w_iload_n dX9_odds_4 rfl ?_
  refine w_callVi dX9_odds_5 k_X9_112 (by first | assumption | rfl) rfl (hh) rfl rfl rfl (Nat.le_of_ble_eq_true rfl) (by first | decide | omega) ?_
  refine w_if_ne (tgt := 13) dX9_odds_8 (by decide) (fun c_8 => ?_) (fun c_8 => ?_)
  · exact absurd rfl c_8
  · refine w_iconst (v := (-1)) dX9_odds_11 (by decide) ?_
    exact w_ret dX9_odds_12 ⟨rfl, rfl, rfl⟩
set_option maxHeartbeats 4000000 in
set_option maxRecDepth 100000 in
theorem c_X9_odds_l {I : Mem} {J : Lng} {N m : Nat} (hP : PW (lnd I 3) N m) {p : Int32} {u : Bool} {j : Nat} (hp : pin p N = some j) (hl : m.testBit j = false ∨ lnd I 3 1 = -9) : q_E yX9_odds cX9_odds 4 (some .int) 34 [.ref 0, .int p, .int (zB u)] I J (some (.int (zpart 0 1 u))) (I) (J) := by
  have hn7 := hP.2.1
  obtain ⟨hj, rfl⟩ := pin_some (by omega) hp
  have hm := p2_128 hn7 hP.2.2.2.1
  have hlv := cn_lives l3 (J := J) hP.FM hj hm hP.2.2.1
  have hhs := cn_has l3 (J := J) hP.FM hj
  refine q_Ei me_X9_odds rfl (Nat.le_of_ble_eq_true rfl) ?_
  show q_w _ _ _ _ _ _ _ 0 [some (.ref 0), some (.int (nI j)), some (.int (zB u)), none] [] I J
  refine w_aload_n dX9_odds_0 rfl ?_
  refine w_getR dX9_odds_1 f_X9_19 (by first | assumption | rfl) rfl rfl ?_
  refine w_iload_n dX9_odds_4 rfl ?_
  refine w_callVi dX9_odds_5 k_X9_112 (by first | assumption | rfl) rfl (hhs) rfl rfl rfl (Nat.le_of_ble_eq_true rfl) (by first | decide | omega) ?_
  refine w_if_ne (tgt := 13) dX9_odds_8 (by decide) (fun c_8 => ?_) (fun c_8 => absurd c_8 (by decide))
  refine w_aload_n dX9_odds_13 rfl ?_
  refine w_getR dX9_odds_14 f_X9_19 (by first | assumption | rfl) rfl rfl ?_
  refine w_iload_n dX9_odds_17 rfl ?_
  refine w_callVi dX9_odds_18 k_X9_125 (by first | assumption | rfl) rfl (hlv) rfl rfl rfl (Nat.le_of_ble_eq_true rfl) (by first | decide | omega) ?_
  refine w_if_eq (tgt := 36) dX9_odds_21 (by decide) (fun c_21 => ?_) (fun c_21 => ?_)
  · refine w_iconst (v := 0) dX9_odds_36 (by decide) ?_
    refine w_iconst (v := 1) dX9_odds_37 (by decide) ?_
    refine w_iload_n dX9_odds_38 rfl ?_
    refine w_callSi dX9_odds_39 k_X9_202 (c_X4_part) rfl rfl rfl (Nat.le_of_ble_eq_true rfl) (by first | decide | omega) ?_
    exact w_ret dX9_odds_42 ⟨rfl, rfl, rfl⟩
  · refine w_aload_n dX9_odds_24 rfl ?_
    refine w_getR dX9_odds_25 f_X9_19 (by first | assumption | rfl) rfl rfl ?_
    refine w_getI dX9_odds_28 f_X9_94 (by first | assumption | rfl) rfl ?_
    refine w_bipush (v := (-9)) dX9_odds_31 (by decide) ?_
    refine w_icmp_ne (tgt := 43) dX9_odds_33 (by decide) (fun c_33 => ?_) (fun c_33 => ?_)
    · exfalso
      rcases hl with hl | hl
      · exact c_21 (by rw [hl]; rfl)
      · exact c_33 hl
    · refine w_iconst (v := 0) dX9_odds_36 (by decide) ?_
      refine w_iconst (v := 1) dX9_odds_37 (by decide) ?_
      refine w_iload_n dX9_odds_38 rfl ?_
      refine w_callSi dX9_odds_39 k_X9_202 (c_X4_part) rfl rfl rfl (Nat.le_of_ble_eq_true rfl) (by first | decide | omega) ?_
      exact w_ret dX9_odds_42 ⟨rfl, rfl, rfl⟩
set_option maxHeartbeats 4000000 in
set_option maxRecDepth 100000 in
theorem c_X9_odds {I : Mem} {J : Lng} {N m : Nat} (hP : PW (lnd I 3) N m) {p : Int32} {u : Bool} {j : Nat} (hp : pin p N = some j) (hl : m.testBit j = true) (hh : ¬ lnd I 3 1 = -9) : q_F yX9_odds cX9_odds 4 (some .int) 34 [.ref 0, .int p, .int (zB u)] I J (fun r I1 J1 => r = some (.int (zpart (oout (ohl (lnd I 3) N) j m (oadd (fil (I 68) 0 896) m (phd (lnd I 3)) 1, 0)).2 (nI (fac (pop m))) u)) ∧ J1 = J ∧ Fr scr I I1) := by
  have hn7 := hP.2.1
  obtain ⟨hj, rfl⟩ := pin_some (by omega) hp
  have hm := p2_128 hn7 hP.2.2.2.1
  have hlv := cn_lives l3 (J := J) hP.FM hj hm hP.2.2.1
  have hhs := cn_has l3 (J := J) hP.FM hj
  have e4 : I 3 4 = nI m := hP.2.2.1
  have hbc := c_J6_bitCount_0f7a4 (I := I) (J := J) (x := nI m)
  rw [zbc_pop m hm] at hbc
  refine q_Fi me_X9_odds rfl (Nat.le_of_ble_eq_true rfl) ?_
  show q_w _ _ _ _ _ _ _ 0 [some (.ref 0), some (.int (nI j)), some (.int (zB u)), none] [] I J
  refine w_aload_n dX9_odds_0 rfl ?_
  refine w_getR dX9_odds_1 f_X9_19 (by first | assumption | rfl) rfl rfl ?_
  refine w_iload_n dX9_odds_4 rfl ?_
  refine w_callVi dX9_odds_5 k_X9_112 (by first | assumption | rfl) rfl (hhs) rfl rfl rfl (Nat.le_of_ble_eq_true rfl) (by first | decide | omega) ?_
  refine w_if_ne (tgt := 13) dX9_odds_8 (by decide) (fun c_8 => ?_) (fun c_8 => absurd c_8 (by decide))
  refine w_aload_n dX9_odds_13 rfl ?_
  refine w_getR dX9_odds_14 f_X9_19 (by first | assumption | rfl) rfl rfl ?_
  refine w_iload_n dX9_odds_17 rfl ?_
  refine w_callVi dX9_odds_18 k_X9_125 (by first | assumption | rfl) rfl (hlv) rfl rfl rfl (Nat.le_of_ble_eq_true rfl) (by first | decide | omega) ?_
  refine w_if_eq (tgt := 36) dX9_odds_21 (by decide) (fun c_21 => absurd c_21 (by rw [hl]; decide)) (fun c_21 => ?_)
  refine w_aload_n dX9_odds_24 rfl ?_
  refine w_getR dX9_odds_25 f_X9_19 (by first | assumption | rfl) rfl rfl ?_
  refine w_getI dX9_odds_28 f_X9_94 (by first | assumption | rfl) rfl ?_
  refine w_bipush (v := (-9)) dX9_odds_31 (by decide) ?_
  refine w_icmp_ne (tgt := 43) dX9_odds_33 (by decide) (fun c_33 => ?_) (fun c_33 => absurd c_33 hh)
  refine w_aload_n dX9_odds_43 rfl ?_
  refine w_getR dX9_odds_44 f_X9_19 (by first | assumption | rfl) rfl rfl ?_
  refine w_getI dX9_odds_47 f_X9_91 (by first | assumption | rfl) rfl ?_
  rw [e4]
  refine w_callSi dX9_odds_50 k_X9_208 (hbc) rfl rfl rfl (Nat.le_of_ble_eq_true rfl) (by first | decide | omega) ?_
  refine w_callSi dX9_odds_53 k_X9_213 (c_X7_ofSoMany (pop_7 m)) rfl rfl rfl (Nat.le_of_ble_eq_true rfl) (by first | decide | omega) ?_
  refine w_istore_n dX9_odds_56 (by decide) rfl ?_
  refine w_aload_n dX9_odds_57 rfl ?_
  refine w_getR dX9_odds_58 f_X9_65 (by first | assumption | rfl) rfl rfl ?_
  refine w_aload_n dX9_odds_61 rfl ?_
  refine w_getR dX9_odds_62 f_X9_19 (by first | assumption | rfl) rfl rfl ?_
  refine w_iload_n dX9_odds_65 rfl ?_
  refine w_callVF dX9_odds_66 k_X9_216 (by first | assumption | rfl) rfl (c_X7_inWhichHolds hP hj) rfl rfl rfl (Nat.le_of_ble_eq_true rfl) (by first | decide | omega) (fun r_66 I_66 J_66 h_66 => ?_)
  obtain ⟨rfl, hOO, rfl⟩ := h_66
  refine w_iload_n dX9_odds_69 rfl ?_
  refine w_iload_n dX9_odds_70 rfl ?_
  refine w_callSi dX9_odds_71 k_X9_202 (c_X4_part) rfl rfl rfl (Nat.le_of_ble_eq_true rfl) (by first | decide | omega) ?_
  exact w_ret dX9_odds_74 ⟨_, rfl, rfl, rfl, scr_OO hOO⟩
def zln (t : Int32) : Nat → Nat → Int32 → Int32 → Int32 × Int32
  | 0, _, a, b => (a, b)
  | r + 1, k, a, b => zln t r (k + 1) (a * (10 - (if t + nI k < 10 then t + nI k else 10))) (b * 10)
set_option maxHeartbeats 4000000 in
set_option maxRecDepth 100000 in
theorem c_X9_lender_b {I : Mem} {J : Lng} {n x : Int32} {u : Bool} (hb : pin1 n 5 = none ∨ pin x 10 = none) : q_E yX9_lender cX9_lender 8 (some .int) 2 [.ref 0, .int n, .int x, .int (zB u)] I J (some (.int (-2))) (I) (J) := by
  refine q_Ei me_X9_lender rfl (Nat.le_of_ble_eq_true rfl) ?_
  show q_w _ _ _ _ _ _ _ 0 [some (.ref 0), some (.int n), some (.int x), some (.int (zB u)), none, none, none, none] [] I J
  refine w_iload_n dX9_lender_0 rfl ?_
  refine w_iconst (v := 1) dX9_lender_1 (by decide) ?_
  refine w_icmp_lt (tgt := 20) dX9_lender_2 (by decide) (fun c_2 => ?_) (fun c_2 => ?_)
  · refine w_bipush (v := (-2)) dX9_lender_20 (by decide) ?_
    exact w_ret dX9_lender_22 ⟨rfl, rfl, rfl⟩
  · refine w_iload_n dX9_lender_5 rfl ?_
    refine w_iconst (v := 5) dX9_lender_6 (by decide) ?_
    refine w_icmp_gt (tgt := 20) dX9_lender_7 (by decide) (fun c_7 => ?_) (fun c_7 => ?_)
    · refine w_bipush (v := (-2)) dX9_lender_20 (by decide) ?_
      exact w_ret dX9_lender_22 ⟨rfl, rfl, rfl⟩
    · refine w_iload_n dX9_lender_10 rfl ?_
      refine w_if_lt (tgt := 20) dX9_lender_11 (by decide) (fun c_11 => ?_) (fun c_11 => ?_)
      · refine w_bipush (v := (-2)) dX9_lender_20 (by decide) ?_
        exact w_ret dX9_lender_22 ⟨rfl, rfl, rfl⟩
      · refine w_iload_n dX9_lender_14 rfl ?_
        refine w_bipush (v := 9) dX9_lender_15 (by decide) ?_
        refine w_icmp_le (tgt := 23) dX9_lender_17 (by decide) (fun c_17 => ?_) (fun c_17 => ?_)
        · exfalso
          rcases hb with hb | hb
          · exact p1_le hb c_2 (K := 5) (by decide) (Int32.not_lt.mp c_7)
          · exact pn_le hb c_11 (K := 9) (by decide) c_17
        · refine w_bipush (v := (-2)) dX9_lender_20 (by decide) ?_
          exact w_ret dX9_lender_22 ⟨rfl, rfl, rfl⟩
set_option maxHeartbeats 4000000 in
set_option maxRecDepth 100000 in
theorem c_X9_lender_l {I : Mem} {J : Lng} {n x : Int32} {u : Bool} {k y : Nat} (hn : pin1 n 5 = some k) (hx : pin x 10 = some y) (hh : lnd I 3 1 = -9) : q_E yX9_lender cX9_lender 8 (some .int) 2 [.ref 0, .int n, .int x, .int (zB u)] I J (some (.int (zpart 0 1 u))) (I) (J) := by
  obtain ⟨h1, h2, rfl⟩ := pin1_some (by decide) hn
  obtain ⟨hy, rfl⟩ := pin_some (by decide) hx
  refine q_Ei me_X9_lender rfl (Nat.le_of_ble_eq_true rfl) ?_
  show q_w _ _ _ _ _ _ _ 0 [some (.ref 0), some (.int (nI k)), some (.int (nI y)), some (.int (zB u)), none, none, none, none] [] I J
  refine w_iload_n dX9_lender_0 rfl ?_
  refine w_iconst (v := 1) dX9_lender_1 (by decide) ?_
  refine w_icmp_lt (tgt := 20) dX9_lender_2 (by decide) (fun c_2 => absurd c_2 (nI_1le h1 (by omega))) (fun c_2 => ?_)
  refine w_iload_n dX9_lender_5 rfl ?_
  refine w_iconst (v := 5) dX9_lender_6 (by decide) ?_
  refine w_icmp_gt (tgt := 20) dX9_lender_7 (by decide) (fun c_7 => absurd c_7 (nI_nlt (a := 5) (b := k) h2 (by decide))) (fun c_7 => ?_)
  refine w_iload_n dX9_lender_10 rfl ?_
  refine w_if_lt (tgt := 20) dX9_lender_11 (by decide) (fun c_11 => absurd c_11 (nI_pos (by omega))) (fun c_11 => ?_)
  refine w_iload_n dX9_lender_14 rfl ?_
  refine w_bipush (v := 9) dX9_lender_15 (by decide) ?_
  refine w_icmp_le (tgt := 23) dX9_lender_17 (by decide) (fun c_17 => ?_) (fun c_17 => absurd (nI_le (b := 9) (by omega) (by decide)) c_17)
  refine w_aload_n dX9_lender_23 rfl ?_
  refine w_getR dX9_lender_24 f_X9_19 (by first | assumption | rfl) rfl rfl ?_
  refine w_getI dX9_lender_27 f_X9_94 (by first | assumption | rfl) rfl ?_
  refine w_bipush (v := (-9)) dX9_lender_30 (by decide) ?_
  refine w_icmp_ne (tgt := 42) dX9_lender_32 (by decide) (fun c_32 => absurd c_32 (fun q => q hh)) (fun c_32 => ?_)
  refine w_iconst (v := 0) dX9_lender_35 (by decide) ?_
  refine w_iconst (v := 1) dX9_lender_36 (by decide) ?_
  refine w_iload_n dX9_lender_37 rfl ?_
  refine w_callSi dX9_lender_38 k_X9_202 (c_X4_part) rfl rfl rfl (Nat.le_of_ble_eq_true rfl) (by first | decide | omega) ?_
  exact w_ret dX9_lender_41 ⟨rfl, rfl, rfl⟩
set_option maxHeartbeats 4000000 in
set_option maxRecDepth 100000 in
theorem l_X9_lender {I : Mem} {J : Lng} {n y : Nat} {u : Bool} {t : Int32} {Z : Int32 × Int32} (hn : n ≤ 5) : ∀ (r k : Nat) (a b : Int32), n - k = r → k ≤ n → zln t r k a b = Z → q_w yX9_lender.cls yX9_lender.name cX9_lender 8 .ireturn 2 (fun st I1 J1 => st = [.int (zpart Z.1 Z.2 u)] ∧ I1 = I ∧ J1 = J) 69 [some (.ref 0), some (.int (nI n)), some (.int (nI y)), some (.int (zB u)), some (.int a), some (.int b), some (.int t), some (.int (nI k))] [] (I) (J) := by
  intro r
  induction r with
  | zero =>
    intro k a b hr hk hZ
    obtain rfl : k = n := by omega
    have hZ2 : (a, b) = Z := hZ
    refine w_iload dX9_lender_69 rfl ?_
    refine w_iload_n dX9_lender_71 rfl ?_
    refine w_icmp_ge (tgt := 106) dX9_lender_72 (by decide) (fun c_72 => ?_) (fun c_72 => absurd (Int32.le_refl _) c_72)
    refine w_iload dX9_lender_106 rfl ?_
    refine w_iload dX9_lender_108 rfl ?_
    refine w_iload_n dX9_lender_110 rfl ?_
    refine w_callSi dX9_lender_111 k_X9_202 (c_X4_part) rfl rfl rfl (Nat.le_of_ble_eq_true rfl) (by first | decide | omega) ?_
    exact w_ret dX9_lender_114 ⟨by rw [← hZ2], rfl, rfl⟩
  | succ r ih =>
    intro k a b hr hk hZ
    refine w_iload dX9_lender_69 rfl ?_
    refine w_iload_n dX9_lender_71 rfl ?_
    refine w_icmp_ge (tgt := 106) dX9_lender_72 (by decide) (fun c_72 => absurd c_72 (nI_ge (b := n) (by omega) (by omega))) (fun c_72 => ?_)
    refine w_iload dX9_lender_75 rfl ?_
    refine w_bipush (v := 10) dX9_lender_77 (by decide) ?_
    refine w_bipush (v := 10) dX9_lender_79 (by decide) ?_
    refine w_iload dX9_lender_81 rfl ?_
    refine w_iload dX9_lender_83 rfl ?_
    refine w_iadd dX9_lender_85 ?_
    refine w_min dX9_lender_86 k_X9_220 kM_min_s kM_i kM_min_c (Nat.le_of_ble_eq_true rfl) (by decide) ?_
    refine w_isub dX9_lender_89 ?_
    refine w_imul dX9_lender_90 ?_
    refine w_istore dX9_lender_91 (by decide) rfl ?_
    refine w_iload dX9_lender_93 rfl ?_
    refine w_bipush (v := 10) dX9_lender_95 (by decide) ?_
    refine w_imul dX9_lender_97 ?_
    refine w_istore dX9_lender_98 (by decide) rfl ?_
    refine w_iincv (c := 1) dX9_lender_100 (by decide) rfl (by decide) rfl ?_
    refine w_goto (tgt := 69) dX9_lender_103 (by decide) ?_
    rw [nI_1]
    exact ih (k + 1) _ _ (by omega) (by omega) hZ
set_option maxHeartbeats 4000000 in
set_option maxRecDepth 100000 in
theorem c_X9_lender {I : Mem} {J : Lng} {N m : Nat} (hP : PW (lnd I 3) N m) {n x : Int32} {u : Bool} {k y h : Nat} (hn : pin1 n 5 = some k) (hx : pin x 10 = some y) (hh : h < N) (he : lnd I 3 1 = nI h) : q_E yX9_lender cX9_lender 8 (some .int) 2 [.ref 0, .int n, .int x, .int (zB u)] I J (some (.int (zpart (zln (nI y + lnd I 3 (15 + h)) k 0 1 1).1 (zln (nI y + lnd I 3 (15 + h)) k 0 1 1).2 u))) (I) (J) := by
  obtain ⟨h1, h2, rfl⟩ := pin1_some (by decide) hn
  obtain ⟨hy, rfl⟩ := pin_some (by decide) hx
  have hn7 := hP.2.1
  have e5 : I 3 5 = nI h := he
  have hag := cn_ageOf l3 (J := J) hP.FM hh
  rw [← lnd_age I 3 (show h < 7 by omega)] at hag
  refine q_Ei me_X9_lender rfl (Nat.le_of_ble_eq_true rfl) ?_
  show q_w _ _ _ _ _ _ _ 0 [some (.ref 0), some (.int (nI k)), some (.int (nI y)), some (.int (zB u)), none, none, none, none] [] I J
  refine w_iload_n dX9_lender_0 rfl ?_
  refine w_iconst (v := 1) dX9_lender_1 (by decide) ?_
  refine w_icmp_lt (tgt := 20) dX9_lender_2 (by decide) (fun c_2 => absurd c_2 (nI_1le h1 (by omega))) (fun c_2 => ?_)
  refine w_iload_n dX9_lender_5 rfl ?_
  refine w_iconst (v := 5) dX9_lender_6 (by decide) ?_
  refine w_icmp_gt (tgt := 20) dX9_lender_7 (by decide) (fun c_7 => absurd c_7 (nI_nlt (a := 5) (b := k) h2 (by decide))) (fun c_7 => ?_)
  refine w_iload_n dX9_lender_10 rfl ?_
  refine w_if_lt (tgt := 20) dX9_lender_11 (by decide) (fun c_11 => absurd c_11 (nI_pos (by omega))) (fun c_11 => ?_)
  refine w_iload_n dX9_lender_14 rfl ?_
  refine w_bipush (v := 9) dX9_lender_15 (by decide) ?_
  refine w_icmp_le (tgt := 23) dX9_lender_17 (by decide) (fun c_17 => ?_) (fun c_17 => absurd (nI_le (b := 9) (by omega) (by decide)) c_17)
  refine w_aload_n dX9_lender_23 rfl ?_
  refine w_getR dX9_lender_24 f_X9_19 (by first | assumption | rfl) rfl rfl ?_
  refine w_getI dX9_lender_27 f_X9_94 (by first | assumption | rfl) rfl ?_
  refine w_bipush (v := (-9)) dX9_lender_30 (by decide) ?_
  refine w_icmp_ne (tgt := 42) dX9_lender_32 (by decide) (fun c_32 => ?_) (fun c_32 => absurd c_32 (by rw [e5]; exact nI_ne9 (by omega)))
  refine w_iconst (v := 1) dX9_lender_42 (by decide) ?_
  refine w_istore dX9_lender_43 (by decide) rfl ?_
  refine w_iconst (v := 1) dX9_lender_45 (by decide) ?_
  refine w_istore dX9_lender_46 (by decide) rfl ?_
  refine w_iload_n dX9_lender_48 rfl ?_
  refine w_aload_n dX9_lender_49 rfl ?_
  refine w_getR dX9_lender_50 f_X9_19 (by first | assumption | rfl) rfl rfl ?_
  refine w_aload_n dX9_lender_53 rfl ?_
  refine w_getR dX9_lender_54 f_X9_19 (by first | assumption | rfl) rfl rfl ?_
  refine w_getI dX9_lender_57 f_X9_94 (by first | assumption | rfl) rfl ?_
  rw [e5]
  refine w_callVi dX9_lender_60 k_X9_122 (by first | assumption | rfl) rfl (hag) rfl rfl rfl (Nat.le_of_ble_eq_true rfl) (by first | decide | omega) ?_
  refine w_iadd dX9_lender_63 ?_
  refine w_istore dX9_lender_64 (by decide) rfl ?_
  refine w_iconst (v := 0) dX9_lender_66 (by decide) ?_
  refine w_istore dX9_lender_67 (by decide) rfl ?_
  exact l_X9_lender h2 k 0 1 1 rfl (Nat.zero_le _) rfl
def sstep (s : Int64) : Int64 := s * 6364136223846793005 + 1442695040888963407
def sshr (s : Int64) : Int64 := (s.toUInt64 >>> ((33 : Int32).toInt64.toUInt64 &&& Int64.toUInt64 63)).toInt64
def sdraw (s : Int64) : Int32 := (sshr s - sshr s / 10 * 10).toInt32
/-- one that lives, of that number -/
def plv (n m : Nat) (p : Int32) : Option Nat := match pin p n with
  | none => none
  | some j => if m.testBit j = true then some j else none
theorem plv_some {n m j : Nat} {p : Int32} (hn : n ≤ 7) (h : plv n m p = some j) : j < n ∧ p = nI j ∧ m.testBit j = true := by
  unfold plv at h
  cases hp : pin p n with
  | none => rw [hp] at h; cases h
  | some i =>
    rw [hp] at h
    dsimp only at h
    split at h
    · cases h
      obtain ⟨a, b⟩ := pin_some (by omega) hp
      exact ⟨a, b, by assumption⟩
    · cases h
theorem zlives_plv {I : Mem} {t n m : Nat} {p : Int32} (h : PW (lnd I t) n m) : zlives I t p = (plv n m p).isSome := by
  have hn := h.2.1
  have hm := p2_128 hn h.2.2.2.1
  have hl : I t 4 = nI m := h.2.2.1
  unfold zlives plv
  rw [zhas_pin h.FM]
  cases hp : pin p n with
  | none => rfl
  | some i =>
    obtain ⟨a, rfl⟩ := pin_some (by omega) hp
    rw [hl, mI_bit m hm i (by omega)]
    dsimp only
    cases hb : m.testBit i with
    | true => rw [if_pos rfl]; rfl
    | false => rw [if_neg (by decide)]; rfl
def pfm (st : Int64 → Int64) (dr : Int64 → Int32) (n : Nat) : Nat → (Nat → Int32) → Nat → Int64 → Int32 → Int32 × Int64
  | 0, _, _, s, c => (c, s)
  | r + 1, a, m, s, c => match plv n m (dr (st s)) with
    | none => pfm st dr n r a m (st s) c
    | some j => pfm st dr n r (pdie a n m j) (mclr m j) (st s) (if pdie a n m j 1 = a 1 then c else c + 1)
theorem pfm_none {st : Int64 → Int64} {dr : Int64 → Int32} {n r m : Nat} {a : Nat → Int32} {s : Int64} {c : Int32} (h : plv n m (dr (st s)) = none) : pfm st dr n (r + 1) a m s c = pfm st dr n r a m (st s) c := by
  show (match plv n m (dr (st s)) with
    | none => pfm st dr n r a m (st s) c
    | some j => pfm st dr n r (pdie a n m j) (mclr m j) (st s) (if pdie a n m j 1 = a 1 then c else c + 1)) = _
  rw [h]
theorem pfm_some {st : Int64 → Int64} {dr : Int64 → Int32} {n r m j : Nat} {a : Nat → Int32} {s : Int64} {c : Int32} (h : plv n m (dr (st s)) = some j) : pfm st dr n (r + 1) a m s c = pfm st dr n r (pdie a n m j) (mclr m j) (st s) (if pdie a n m j 1 = a 1 then c else c + 1) := by
  show (match plv n m (dr (st s)) with
    | none => pfm st dr n r a m (st s) c
    | some j => pfm st dr n r (pdie a n m j) (mclr m j) (st s) (if pdie a n m j 1 = a 1 then c else c + 1)) = _
  rw [h]
theorem upJ_tt {J : Lng} {t : Nat} {x : Int64} : upJ J t x t = x := if_pos rfl
theorem upJ_upJ {J : Lng} {t : Nat} {x y : Int64} : upJ (upJ J t x) t y = upJ J t y := by
  funext k; unfold upJ; split <;> rfl
theorem upJ_id {J : Lng} {t : Nat} : upJ J t (J t) = J := by
  funext k; unfold upJ; split
  · rename_i h; rw [h]
  · rfl
set_option maxHeartbeats 4000000 in
set_option maxRecDepth 100000 in
theorem c_X9_families_b {I : Mem} {J : Lng} {x : Int32} (hx : pin1 x 20 = none) : q_E yX9_families cX9_families 6 (some .int) 33 [.ref 0, .int x] I J (some (.int (-2))) (I) (J) := by
  refine q_Ei me_X9_families rfl (Nat.le_of_ble_eq_true rfl) ?_
  show q_w _ _ _ _ _ _ _ 0 [some (.ref 0), some (.int x), none, none, none, none] [] I J
  refine w_iload_n dX9_families_0 rfl ?_
  refine w_iconst (v := 1) dX9_families_1 (by decide) ?_
  refine w_icmp_lt (tgt := 11) dX9_families_2 (by decide) (fun c_2 => ?_) (fun c_2 => ?_)
  · refine w_bipush (v := (-2)) dX9_families_11 (by decide) ?_
    exact w_ret dX9_families_13 ⟨rfl, rfl, rfl⟩
  · refine w_iload_n dX9_families_5 rfl ?_
    refine w_bipush (v := 20) dX9_families_6 (by decide) ?_
    refine w_icmp_le (tgt := 14) dX9_families_8 (by decide) (fun c_8 => absurd c_8 (p1_le hx c_2 (by decide))) (fun c_8 => ?_)
    refine w_bipush (v := (-2)) dX9_families_11 (by decide) ?_
    exact w_ret dX9_families_13 ⟨rfl, rfl, rfl⟩
set_option maxHeartbeats 4000000 in
set_option maxRecDepth 100000 in
theorem l_X9_families {I : Mem} {J : Lng} {N n : Nat} {Z : Int32 × Int64} {st : Int64 → Int64} {dr : Int64 → Int32} (hst : ∀ s : Int64, s * 6364136223846793005 + 1442695040888963407 = st s) (hdr : ∀ s : Int64, ((s.toUInt64 >>> ((33 : Int32).toInt64.toUInt64 &&& Int64.toUInt64 63)).toInt64 - (s.toUInt64 >>> ((33 : Int32).toInt64.toUInt64 &&& Int64.toUInt64 63)).toInt64 / 10 * 10).toInt32 = dr s) (hn20 : n ≤ 20) : ∀ (r k : Nat) (c : Int32) (s : Int64) (x4 x5 : Option Value) (I1 : Mem) (m : Nat), n - k = r → k ≤ n → Fr scr I I1 → PW (lnd I1 6) N m → pfm st dr N r (lnd I1 6) m s c = Z → q_w yX9_families.cls yX9_families.name cX9_families 6 .ireturn 33 (fun st I2 J1 => ∃ v : Int32, st = [.int v] ∧ (some (Value.int v) = some (.int Z.1) ∧ J1 = upJ J 0 Z.2 ∧ Fr scr I I2)) 29 [some (.ref 0), some (.int (nI n)), some (.int c), some (.int (nI k)), x4, x5] [] (I1) (upJ J 0 s) := by
  obtain ⟨ht0, ht1, ht2⟩ := SH_land l6
  obtain ⟨hq0, hq1⟩ := SH_kin k55
  intro r
  induction r with
  | zero =>
    intro k c s x4 x5 I1 m hr hk hO hP hR
    obtain rfl : k = n := by omega
    have hR2 : (c, s) = Z := hR
    refine w_iload_n dX9_families_29 rfl ?_
    refine w_iload_n dX9_families_30 rfl ?_
    refine w_icmp_ge (tgt := 119) dX9_families_31 (by decide) (fun c_31 => ?_) (fun c_31 => absurd (Int32.le_refl _) c_31)
    refine w_iload_n dX9_families_119 rfl ?_
    exact w_ret dX9_families_120 ⟨_, rfl, by rw [← hR2], by rw [← hR2], hO⟩
  | succ r ih =>
    intro k c s x4 x5 I1 m hr hk hO hP hR
    have hm := hP.2.2.2.1
    have hn := hP.2.1
    have hlv := c_X6_lives l6 (I := I1) (J := upJ J 0 (st s)) (p := dr (st s))
    rw [zlives_plv hP] at hlv
    cases hpl : plv N m (dr (st s)) with
    | none =>
      rw [pfm_none hpl] at hR
      rw [hpl] at hlv
      refine w_iload_n dX9_families_29 rfl ?_
      refine w_iload_n dX9_families_30 rfl ?_
      refine w_icmp_ge (tgt := 119) dX9_families_31 (by decide) (fun c_31 => absurd c_31 (nI_ge (b := n) (by omega) (by omega))) (fun c_31 => ?_)
      refine w_aload_n dX9_families_34 rfl ?_
      refine w_aload_n dX9_families_35 rfl ?_
      refine w_getJ dX9_families_36 f_X9_225 (by first | assumption | rfl) rfl ?_
      refine w_ldc2 dX9_families_39 c_X9_229 ?_
      refine w_lmul dX9_families_42 ?_
      refine w_ldc2 dX9_families_43 c_X9_231 ?_
      refine w_ladd dX9_families_46 ?_
      refine w_putJ dX9_families_47 f_X9_225 (by first | assumption | rfl) rfl ?_
      refine w_show (L2 := [some (.ref 0), some (.int (nI n)), some (.int c), some (.int (nI k)), x4, x5]) (st2 := []) (I2 := I1) (J2 := upJ J 0 (st s)) ?_ rfl rfl rfl (by rw [upJ_upJ, upJ_tt, hst])
      refine w_aload_n dX9_families_50 rfl ?_
      refine w_getJ dX9_families_51 f_X9_225 (by first | assumption | rfl) rfl ?_
      refine w_bipush (v := 33) dX9_families_54 (by decide) ?_
      refine w_lushr dX9_families_56 ?_
      refine w_ldc2 dX9_families_57 c_X9_233 ?_
      refine w_lrem dX9_families_60 (by decide) ?_
      refine w_l2i dX9_families_61 ?_
      refine w_show (L2 := [some (.ref 0), some (.int (nI n)), some (.int c), some (.int (nI k)), x4, x5]) (st2 := [.int (dr (st s))]) (I2 := I1) (J2 := upJ J 0 (st s)) ?_ rfl (by rw [upJ_tt, hdr]) rfl rfl
      refine w_istore dX9_families_62 (by decide) rfl ?_
      refine w_aload_n dX9_families_64 rfl ?_
      refine w_getR dX9_families_65 f_X9_23 (by first | assumption | rfl) rfl rfl ?_
      refine w_getI dX9_families_68 f_X9_94 (by first | assumption | rfl) rfl ?_
      refine w_istore dX9_families_71 (by decide) rfl ?_
      refine w_aload_n dX9_families_73 rfl ?_
      refine w_getR dX9_families_74 f_X9_23 (by first | assumption | rfl) rfl rfl ?_
      refine w_iload dX9_families_77 rfl ?_
      refine w_callVi dX9_families_79 k_X9_125 (by first | assumption | rfl) rfl (hlv) rfl rfl rfl (Nat.le_of_ble_eq_true rfl) (by first | decide | omega) ?_
      refine w_if_eq (tgt := 98) dX9_families_82 (by decide) (fun c_82 => ?_) (fun c_82 => absurd (rfl : zB false = 0) c_82)
      refine w_aload_n dX9_families_98 rfl ?_
      refine w_getR dX9_families_99 f_X9_23 (by first | assumption | rfl) rfl rfl ?_
      refine w_getI dX9_families_102 f_X9_94 (by first | assumption | rfl) rfl ?_
      refine w_iload dX9_families_105 rfl ?_
      refine w_icmp_eq (tgt := 113) dX9_families_107 (by decide) (fun c_107 => ?_) (fun c_107 => absurd rfl c_107)
      refine w_iincv (c := 1) dX9_families_113 (by decide) rfl (by decide) rfl ?_
      refine w_goto (tgt := 29) dX9_families_116 (by decide) ?_
      rw [nI_1]
      exact ih (k + 1) _ _ _ _ _ m (by omega) (by omega) hO hP hR
    | some j =>
      rw [pfm_some hpl] at hR
      rw [hpl] at hlv
      obtain ⟨hj, ej, hb⟩ := plv_some hn hpl
      have hlo := c_X6_loses k55 l6 (J := upJ J 0 (st s)) hP.FM hP.FP hj (p2_128 hn hm) hP.2.2.1 hb
      rw [← ej] at hlo
      have hl6 := zlose_l (I := I1) (m := m) k55 l6 hn hP.FP hj
      have e5 : (zlose I1 55 6 N m j) 6 5 = pdie (lnd I1 6) N m j 1 := by rw [← hl6]; rfl
      refine w_iload_n dX9_families_29 rfl ?_
      refine w_iload_n dX9_families_30 rfl ?_
      refine w_icmp_ge (tgt := 119) dX9_families_31 (by decide) (fun c_31 => absurd c_31 (nI_ge (b := n) (by omega) (by omega))) (fun c_31 => ?_)
      refine w_aload_n dX9_families_34 rfl ?_
      refine w_aload_n dX9_families_35 rfl ?_
      refine w_getJ dX9_families_36 f_X9_225 (by first | assumption | rfl) rfl ?_
      refine w_ldc2 dX9_families_39 c_X9_229 ?_
      refine w_lmul dX9_families_42 ?_
      refine w_ldc2 dX9_families_43 c_X9_231 ?_
      refine w_ladd dX9_families_46 ?_
      refine w_putJ dX9_families_47 f_X9_225 (by first | assumption | rfl) rfl ?_
      refine w_show (L2 := [some (.ref 0), some (.int (nI n)), some (.int c), some (.int (nI k)), x4, x5]) (st2 := []) (I2 := I1) (J2 := upJ J 0 (st s)) ?_ rfl rfl rfl (by rw [upJ_upJ, upJ_tt, hst])
      refine w_aload_n dX9_families_50 rfl ?_
      refine w_getJ dX9_families_51 f_X9_225 (by first | assumption | rfl) rfl ?_
      refine w_bipush (v := 33) dX9_families_54 (by decide) ?_
      refine w_lushr dX9_families_56 ?_
      refine w_ldc2 dX9_families_57 c_X9_233 ?_
      refine w_lrem dX9_families_60 (by decide) ?_
      refine w_l2i dX9_families_61 ?_
      refine w_show (L2 := [some (.ref 0), some (.int (nI n)), some (.int c), some (.int (nI k)), x4, x5]) (st2 := [.int (dr (st s))]) (I2 := I1) (J2 := upJ J 0 (st s)) ?_ rfl (by rw [upJ_tt, hdr]) rfl rfl
      refine w_istore dX9_families_62 (by decide) rfl ?_
      refine w_aload_n dX9_families_64 rfl ?_
      refine w_getR dX9_families_65 f_X9_23 (by first | assumption | rfl) rfl rfl ?_
      refine w_getI dX9_families_68 f_X9_94 (by first | assumption | rfl) rfl ?_
      refine w_istore dX9_families_71 (by decide) rfl ?_
      refine w_aload_n dX9_families_73 rfl ?_
      refine w_getR dX9_families_74 f_X9_23 (by first | assumption | rfl) rfl rfl ?_
      refine w_iload dX9_families_77 rfl ?_
      refine w_callVi dX9_families_79 k_X9_125 (by first | assumption | rfl) rfl (hlv) rfl rfl rfl (Nat.le_of_ble_eq_true rfl) (by first | decide | omega) ?_
      refine w_if_eq (tgt := 98) dX9_families_82 (by decide) (fun c_82 => absurd c_82 (show ¬ zB true = 0 by decide)) (fun c_82 => ?_)
      refine w_aload_n dX9_families_85 rfl ?_
      refine w_getR dX9_families_86 f_X9_23 (by first | assumption | rfl) rfl rfl ?_
      refine w_iload dX9_families_89 rfl ?_
      refine w_aload_n dX9_families_91 rfl ?_
      refine w_getR dX9_families_92 f_X9_44 (by first | assumption | rfl) rfl rfl ?_
      refine w_callVv dX9_families_95 k_X9_134 (by first | assumption | rfl) rfl (hlo) rfl rfl rfl (Nat.le_of_ble_eq_true rfl) (by first | decide | omega) ?_
      refine w_aload_n dX9_families_98 rfl ?_
      refine w_getR dX9_families_99 f_X9_23 (by first | assumption | rfl) rfl rfl ?_
      refine w_getI dX9_families_102 f_X9_94 (by first | assumption | rfl) rfl ?_
      rw [e5]
      refine w_iload dX9_families_105 rfl ?_
      refine w_icmp_eq (tgt := 113) dX9_families_107 (by decide) (fun c_107 => ?_) (fun c_107 => ?_)
      · refine w_iincv (c := 1) dX9_families_113 (by decide) rfl (by decide) rfl ?_
        refine w_goto (tgt := 29) dX9_families_116 (by decide) ?_
        rw [if_pos (show pdie (lnd I1 6) N m j 1 = lnd I1 6 1 from c_107)] at hR
        rw [nI_1]
        exact ih (k + 1) _ _ _ _ _ (mclr m j) (by omega) (by omega) (zlose_fr hO) (by rw [hl6]; exact hP.die hb) (by rw [hl6]; exact hR)
      · refine w_iincv (c := 1) dX9_families_110 (by decide) rfl (by decide) rfl ?_
        refine w_iincv (c := 1) dX9_families_113 (by decide) rfl (by decide) rfl ?_
        refine w_goto (tgt := 29) dX9_families_116 (by decide) ?_
        rw [if_neg (show ¬ pdie (lnd I1 6) N m j 1 = lnd I1 6 1 from c_107)] at hR
        rw [nI_1]
        exact ih (k + 1) _ _ _ _ _ (mclr m j) (by omega) (by omega) (zlose_fr hO) (by rw [hl6]; exact hP.die hb) (by rw [hl6]; exact hR)
set_option maxHeartbeats 4000000 in
set_option maxRecDepth 100000 in
theorem c_X9_families {I : Mem} {J : Lng} {N m : Nat} (hP : PW (lnd I 3) N m) {x : Int32} {k : Nat} (hx : pin1 x 20 = some k) : q_F yX9_families cX9_families 6 (some .int) 33 [.ref 0, .int x] I J (fun r I1 J1 => r = some (.int (pfm sstep sdraw N k (lnd I 3) m (J 0) 0).1) ∧ J1 = upJ J 0 (pfm sstep sdraw N k (lnd I 3) m (J 0) 0).2 ∧ Fr scr I I1) := by
  obtain ⟨h1, h2, rfl⟩ := pin1_some (by decide) hx
  obtain ⟨ht0, ht1, ht2⟩ := SH_land l6
  refine q_Fi me_X9_families rfl (Nat.le_of_ble_eq_true rfl) ?_
  show q_w _ _ _ _ _ _ _ 0 [some (.ref 0), some (.int (nI k)), none, none, none, none] [] I J
  refine w_iload_n dX9_families_0 rfl ?_
  refine w_iconst (v := 1) dX9_families_1 (by decide) ?_
  refine w_icmp_lt (tgt := 11) dX9_families_2 (by decide) (fun c_2 => absurd c_2 (nI_1le h1 (by omega))) (fun c_2 => ?_)
  refine w_iload_n dX9_families_5 rfl ?_
  refine w_bipush (v := 20) dX9_families_6 (by decide) ?_
  refine w_icmp_le (tgt := 14) dX9_families_8 (by decide) (fun c_8 => ?_) (fun c_8 => absurd (nI_le (b := 20) h2 (by decide)) c_8)
  refine w_aload_n dX9_families_14 rfl ?_
  refine w_getR dX9_families_15 f_X9_23 (by first | assumption | rfl) rfl rfl ?_
  refine w_aload_n dX9_families_18 rfl ?_
  refine w_getR dX9_families_19 f_X9_19 (by first | assumption | rfl) rfl rfl ?_
  refine w_callVv dX9_families_22 k_X9_169 (by first | assumption | rfl) rfl (c_X6_copy l6 l3 (by decide)) rfl rfl rfl (Nat.le_of_ble_eq_true rfl) (by first | decide | omega) ?_
  refine w_iconst (v := 0) dX9_families_25 (by decide) ?_
  refine w_istore_n dX9_families_26 (by decide) rfl ?_
  refine w_iconst (v := 0) dX9_families_27 (by decide) ?_
  refine w_istore_n dX9_families_28 (by decide) rfl ?_
  refine w_show (L2 := _) (st2 := _) (I2 := _) (J2 := upJ J 0 (J 0)) ?_ rfl rfl rfl upJ_id
  exact l_X9_families (st := sstep) (dr := sdraw) (fun _ => rfl) (fun _ => rfl) h2 k 0 0 (J 0) _ _ _ m rfl (Nat.zero_le _) scr_cp (by rw [zcopy_l]; exact hP) (by rw [zcopy_l])
theorem kep_r : ∀ j, j < 2 → ([some 83, some 86] : List (Option Nat)).getD j none = some (83 + 3 * j) := by decide
theorem kep_l : ∀ j, j < 2 → 83 + 3 * j ∈ q_lands := by decide
set_option maxHeartbeats 4000000 in
set_option maxRecDepth 100000 in
theorem c_X9_keep_u {I : Mem} {J : Lng} {t : Int32} (ht : pin t 2 = none) : q_E yX9_keep cX9_keep 2 (some .int) 2 [.ref 0, .int t] I J (some (.int (-1))) (I) (J) := by
  have hsl := c_X9_isSlot (I := I) (J := J) (t := t)
  rw [ht] at hsl
  refine q_Ei me_X9_keep rfl (Nat.le_of_ble_eq_true rfl) ?_
  show q_w _ _ _ _ _ _ _ 0 [some (.ref 0), some (.int t)] [] I J
  refine w_iload_n dX9_keep_0 rfl ?_
  refine w_callSi dX9_keep_1 k_X9_235 (hsl) rfl rfl rfl (Nat.le_of_ble_eq_true rfl) (by first | decide | omega) ?_
  refine w_if_ne (tgt := 9) dX9_keep_4 (by decide) (fun c_4 => absurd c_4 (fun q => q rfl)) (fun c_4 => ?_)
  refine w_iconst (v := (-1)) dX9_keep_7 (by decide) ?_
  exact w_ret dX9_keep_8 ⟨rfl, rfl, rfl⟩
set_option maxHeartbeats 4000000 in
set_option maxRecDepth 100000 in
theorem c_X9_again_u {I : Mem} {J : Lng} {t : Int32} (ht : pin t 2 = none) : q_E yX9_again cX9_again 2 (some .int) 2 [.ref 0, .int t] I J (some (.int (-1))) (I) (J) := by
  have hsl := c_X9_isSlot (I := I) (J := J) (t := t)
  rw [ht] at hsl
  refine q_Ei me_X9_again rfl (Nat.le_of_ble_eq_true rfl) ?_
  show q_w _ _ _ _ _ _ _ 0 [some (.ref 0), some (.int t)] [] I J
  refine w_iload_n dX9_again_0 rfl ?_
  refine w_callSi dX9_again_1 k_X9_235 (hsl) rfl rfl rfl (Nat.le_of_ble_eq_true rfl) (by first | decide | omega) ?_
  refine w_if_ne (tgt := 9) dX9_again_4 (by decide) (fun c_4 => absurd c_4 (fun q => q rfl)) (fun c_4 => ?_)
  refine w_iconst (v := (-1)) dX9_again_7 (by decide) ?_
  exact w_ret dX9_again_8 ⟨rfl, rfl, rfl⟩
set_option maxHeartbeats 4000000 in
set_option maxRecDepth 100000 in
theorem c_X9_keep {I : Mem} {J : Lng} {t : Int32} {s : Nat} (ht : pin t 2 = some s) : q_E yX9_keep cX9_keep 2 (some .int) 2 [.ref 0, .int t] I J (some (.int (lnd I 3 5))) (upI (zcopy I (83 + 3 * s) 3) 54 s 1) (J) := by
  have hsl := c_X9_isSlot (I := I) (J := J) (t := t)
  rw [ht, Option.isSome_some, zB_t] at hsl
  obtain ⟨hs, rfl⟩ := pin_some (by decide) ht
  obtain ⟨hk0, hk1, hk2⟩ := SH_land (kep_l s hs)
  refine q_Ei me_X9_keep rfl (Nat.le_of_ble_eq_true rfl) ?_
  show q_w _ _ _ _ _ _ _ 0 [some (.ref 0), some (.int (nI s))] [] I J
  refine w_iload_n dX9_keep_0 rfl ?_
  refine w_callSi dX9_keep_1 k_X9_235 (hsl) rfl rfl rfl (Nat.le_of_ble_eq_true rfl) (by first | decide | omega) ?_
  refine w_if_ne (tgt := 9) dX9_keep_4 (by decide) (fun c_4 => ?_) (fun c_4 => absurd c_4 (by decide))
  refine w_aload_n dX9_keep_9 rfl ?_
  refine w_getR dX9_keep_10 f_X9_33 (by first | assumption | rfl) rfl rfl ?_
  refine w_iload_n dX9_keep_13 rfl ?_
  refine w_aald (j := s) dX9_keep_14 (by first | assumption | rfl) rfl (by decide) rfl hs (by decide) (kep_r s hs) ?_
  refine w_aload_n dX9_keep_15 rfl ?_
  refine w_getR dX9_keep_16 f_X9_19 (by first | assumption | rfl) rfl rfl ?_
  refine w_callVv dX9_keep_19 k_X9_169 (by first | assumption | rfl) rfl (c_X6_copy (kep_l s hs) l3 (by omega)) rfl rfl rfl (Nat.le_of_ble_eq_true rfl) (by first | decide | omega) ?_
  refine w_aload_n dX9_keep_22 rfl ?_
  refine w_getR dX9_keep_23 f_X9_37 (by first | assumption | rfl) rfl rfl ?_
  refine w_iload_n dX9_keep_26 rfl ?_
  refine w_iconst (v := 1) dX9_keep_27 (by decide) ?_
  refine w_zast (j := s) dX9_keep_28 (by first | assumption | rfl) rfl rfl hs (by decide) (by first | rfl | decide | assumption) ?_
  refine w_aload_n dX9_keep_29 rfl ?_
  refine w_getR dX9_keep_30 f_X9_19 (by first | assumption | rfl) rfl rfl ?_
  refine w_getI dX9_keep_33 f_X9_106 (by first | assumption | rfl) rfl ?_
  refine w_ret dX9_keep_36 ⟨?_, rfl, rfl⟩
  rw [upI_ne (by decide), zcopy_o _ _ _ 3 (by omega) (by omega) (by omega)]; rfl
set_option maxHeartbeats 4000000 in
set_option maxRecDepth 100000 in
theorem c_X9_again_l {I : Mem} {J : Lng} {t : Int32} {s : Nat} (ht : pin t 2 = some s) (hk : I 54 s = 0) : q_E yX9_again cX9_again 2 (some .int) 2 [.ref 0, .int t] I J (some (.int (-3))) (I) (J) := by
  have hsl := c_X9_isSlot (I := I) (J := J) (t := t)
  rw [ht, Option.isSome_some, zB_t] at hsl
  obtain ⟨hs, rfl⟩ := pin_some (by decide) ht
  obtain ⟨hk0, hk1, hk2⟩ := SH_land (kep_l s hs)
  refine q_Ei me_X9_again rfl (Nat.le_of_ble_eq_true rfl) ?_
  show q_w _ _ _ _ _ _ _ 0 [some (.ref 0), some (.int (nI s))] [] I J
  refine w_iload_n dX9_again_0 rfl ?_
  refine w_callSi dX9_again_1 k_X9_235 (hsl) rfl rfl rfl (Nat.le_of_ble_eq_true rfl) (by first | decide | omega) ?_
  refine w_if_ne (tgt := 9) dX9_again_4 (by decide) (fun c_4 => ?_) (fun c_4 => absurd c_4 (by decide))
  refine w_aload_n dX9_again_9 rfl ?_
  refine w_getR dX9_again_10 f_X9_37 (by first | assumption | rfl) rfl rfl ?_
  refine w_iload_n dX9_again_13 rfl ?_
  refine w_zald (j := s) dX9_again_14 (by first | assumption | rfl) rfl rfl hs (by decide) ?_
  refine w_if_ne (tgt := 21) dX9_again_15 (by decide) (fun c_15 => absurd c_15 (fun q => q hk)) (fun c_15 => ?_)
  refine w_bipush (v := (-3)) dX9_again_18 (by decide) ?_
  exact w_ret dX9_again_20 ⟨rfl, rfl, rfl⟩
set_option maxHeartbeats 4000000 in
set_option maxRecDepth 100000 in
theorem c_X9_again {I : Mem} {J : Lng} {t : Int32} {s : Nat} (ht : pin t 2 = some s) (hk : ¬ I 54 s = 0) : q_E yX9_again cX9_again 2 (some .int) 2 [.ref 0, .int t] I J (some (.int (lnd I (83 + 3 * s) 5))) (upI (upI (zcopy I 3 (83 + 3 * s)) 9 1 0) 9 2 0) (J) := by
  have hsl := c_X9_isSlot (I := I) (J := J) (t := t)
  rw [ht, Option.isSome_some, zB_t] at hsl
  obtain ⟨hs, rfl⟩ := pin_some (by decide) ht
  obtain ⟨hk0, hk1, hk2⟩ := SH_land (kep_l s hs)
  refine q_Ei me_X9_again rfl (Nat.le_of_ble_eq_true rfl) ?_
  show q_w _ _ _ _ _ _ _ 0 [some (.ref 0), some (.int (nI s))] [] I J
  refine w_iload_n dX9_again_0 rfl ?_
  refine w_callSi dX9_again_1 k_X9_235 (hsl) rfl rfl rfl (Nat.le_of_ble_eq_true rfl) (by first | decide | omega) ?_
  refine w_if_ne (tgt := 9) dX9_again_4 (by decide) (fun c_4 => ?_) (fun c_4 => absurd c_4 (by decide))
  refine w_aload_n dX9_again_9 rfl ?_
  refine w_getR dX9_again_10 f_X9_37 (by first | assumption | rfl) rfl rfl ?_
  refine w_iload_n dX9_again_13 rfl ?_
  refine w_zald (j := s) dX9_again_14 (by first | assumption | rfl) rfl rfl hs (by decide) ?_
  refine w_if_ne (tgt := 21) dX9_again_15 (by decide) (fun c_15 => ?_) (fun c_15 => absurd c_15 hk)
  refine w_aload_n dX9_again_21 rfl ?_
  refine w_getR dX9_again_22 f_X9_19 (by first | assumption | rfl) rfl rfl ?_
  refine w_aload_n dX9_again_25 rfl ?_
  refine w_getR dX9_again_26 f_X9_33 (by first | assumption | rfl) rfl rfl ?_
  refine w_iload_n dX9_again_29 rfl ?_
  refine w_aald (j := s) dX9_again_30 (by first | assumption | rfl) rfl (by decide) rfl hs (by decide) (kep_r s hs) ?_
  refine w_callVv dX9_again_31 k_X9_169 (by first | assumption | rfl) rfl (c_X6_copy l3 (kep_l s hs) (by omega)) rfl rfl rfl (Nat.le_of_ble_eq_true rfl) (by first | decide | omega) ?_
  refine w_aload_n dX9_again_34 rfl ?_
  refine w_getR dX9_again_35 f_X9_29 (by first | assumption | rfl) rfl rfl ?_
  refine w_callVv dX9_again_38 k_X9_85 (by first | assumption | rfl) rfl (c_X0_forgetAll) rfl rfl rfl (Nat.le_of_ble_eq_true rfl) (by first | decide | omega) ?_
  refine w_aload_n dX9_again_41 rfl ?_
  refine w_getR dX9_again_42 f_X9_19 (by first | assumption | rfl) rfl rfl ?_
  refine w_getI dX9_again_45 f_X9_106 (by first | assumption | rfl) rfl ?_
  refine w_ret dX9_again_48 ⟨?_, rfl, rfl⟩
  rw [upI_ne (by decide), upI_ne (by decide)]
  exact congrArg (fun r : List Value => r) (by rw [← zcopy_l I 3 (83 + 3 * s)]; rfl)
