/-- the first fault, from p on -/
def zf (tx : Nat → Int32) (n p : Nat) : Int32 := zff tx n (n - p) p
theorem zf_n {tx : Nat → Int32} {n : Nat} : zf tx n n = if 3 ≤ n ∧ (n - 3) % 4 = 0 then -9 else nI n := by unfold zf; rw [Nat.sub_self]; rfl
theorem zf_s {tx : Nat → Int32} {n p : Nat} (h : p < n) : zf tx n p = if zms p (tx p) = true then zf tx n (p + 1) else nI p := by
  unfold zf; rw [show n - p = (n - (p + 1)) + 1 by omega]; rfl
def TX (tx : Nat → Int32) (n : Nat) : Prop := ∀ k, k < n → ∃ b, b < 256 ∧ tx k = nI b
theorem fig_eq : ∀ b, b < 256 → ∀ g, g < 10 → zfig (nI b) (nI g) = (pin (nI b - 48) (g + 1)).isSome := by decide +kernel
theorem i0_64 : (0 : Int32).toInt64 = 0 := by decide
theorem g_64 : ∀ g, g < 10 → (nI g).toInt64.toInt + 1 = ((g + 1 : Nat) : Int) := by decide
theorem fig_cases {tx : Nat → Int32} {n p g : Nat} (hT : TX tx n) (hpn : p ≤ n) (hg : g < 10) (hz : zms p (tx p) = zfig (tx p) (nI g)) (he : ¬ (3 ≤ p ∧ (p - 3) % 4 = 0)) :
    ((p = n ∨ pin (tx p - 48) (g + 1) = none) ∧ zf tx n p = nI p) ∨ (p < n ∧ ∃ d, d ≤ g ∧ pin (tx p - 48) (g + 1) = some d ∧ tx p - 48 = nI d ∧ zf tx n p = zf tx n (p + 1)) := by
  rcases Nat.lt_or_ge p n with hlt | hge
  · obtain ⟨b, hb, e⟩ := hT p hlt
    have hf := fig_eq b hb g hg
    rw [← e] at hf
    cases hp : pin (tx p - 48) (g + 1) with
    | none =>
      refine Or.inl ⟨Or.inr rfl, ?_⟩
      rw [zf_s hlt, hz, hf, hp]; rfl
    | some d =>
      obtain ⟨h1, h2⟩ := pin_some (by omega) hp
      refine Or.inr ⟨hlt, d, by omega, rfl, h2, ?_⟩
      rw [zf_s hlt, hz, hf, hp]; rfl
  · obtain rfl : p = n := by omega
    exact Or.inl ⟨Or.inl rfl, by rw [zf_n, if_neg he]⟩
theorem zms_1 {k : Nat} {l : Int32} (hk : k < 7) : zms (4 * k + 4) l = zfig l (nI (k - 1)) := by
  unfold zms
  rw [if_neg (by omega), if_neg (by omega), show (4 * k + 4 - 3) / 4 = k by omega, show (4 * k + 4 - 3) % 4 = 1 by omega, if_neg (by omega), if_neg (by decide), if_pos rfl]
theorem zms_2 {k : Nat} {l : Int32} (hk : k < 7) : zms (4 * k + 5) l = zfig l (nI 1) := by
  unfold zms
  rw [if_neg (by omega), if_neg (by omega), show (4 * k + 5 - 3) / 4 = k by omega, show (4 * k + 5 - 3) % 4 = 2 by omega, if_neg (by omega), if_neg (by decide), if_neg (by decide), if_pos rfl]; rfl
theorem zms_3 {k : Nat} {l : Int32} (hk : k < 7) : zms (4 * k + 6) l = zfig l (nI 9) := by
  unfold zms
  rw [if_neg (by omega), if_neg (by omega), show (4 * k + 6 - 3) / 4 = k by omega, show (4 * k + 6 - 3) % 4 = 3 by omega, if_neg (by omega), if_neg (by decide), if_neg (by decide), if_neg (by decide)]; rfl
theorem zms_0 {k : Nat} {l : Int32} (hk : k < 7) : zms (4 * k + 3) l = decide (l = 80) := by
  unfold zms
  rw [if_neg (by omega), if_neg (by omega), show (4 * k + 3 - 3) / 4 = k by omega, show (4 * k + 3 - 3) % 4 = 0 by omega, if_neg (by omega), if_pos rfl]
theorem zms_7 {k : Nat} {l : Int32} (hk : 7 ≤ k) : zms (4 * k + 3) l = false := by
  unfold zms
  rw [if_neg (by omega), if_neg (by omega), show (4 * k + 3 - 3) / 4 = k by omega, if_pos hk]
set_option maxHeartbeats 4000000 in
set_option maxRecDepth 100000 in
theorem c_X10_figure_n {I : Mem} {J : Lng} {tx : Nat → Int32} {p n g : Nat} (htx : I 90 = tx) (h3 : I 89 3 = nI p) (h2 : I 89 2 = nI n) (hpn : p ≤ n) (hn : n ≤ 40) (hg : g < 10) (hf : p = n ∨ pin (tx p - 48) (g + 1) = none) : q_E yX10_figure cX10_figure 3 (some .int) 1 [.ref 89, .int 0, .int (nI g)] I J (some (.int (-9))) (I) (J) := by
  refine q_Ei me_X10_figure rfl (Nat.le_of_ble_eq_true rfl) ?_
  show q_w _ _ _ _ _ _ _ 0 [some (.ref 89), some (.int 0), some (.int (nI g))] [] I J
  refine w_aload_n dX10_figure_0 rfl ?_
  refine w_getI dX10_figure_1 f_X10_56 (by first | assumption | rfl) rfl ?_
  refine w_aload_n dX10_figure_4 rfl ?_
  refine w_getI dX10_figure_5 f_X10_53 (by first | assumption | rfl) rfl ?_
  refine w_icmp_eq (tgt := 34) dX10_figure_8 (by decide) (fun c_8 => ?_) (fun c_8 => ?_)
  · refine w_bipush (v := (-9)) dX10_figure_34 (by decide) ?_
    exact w_ret dX10_figure_36 ⟨rfl, rfl, rfl⟩
  · have hne : p ≠ n := fun e => c_8 (by rw [h3, h2, e])
    have hf2 : pin (tx p - 48) (g + 1) = none := hf.resolve_left hne
    have hin := c_X10_in (I := I) (J := J) (v := (tx p - 48).toInt64) (a := (0 : Int32).toInt64) (b := (nI g).toInt64)
    have hz : zin (tx p - 48).toInt64 (0 : Int32).toInt64 (nI g).toInt64 = false := by rw [i0_64, zin_pin (g_64 g hg), hf2]; rfl
    rw [hz] at hin
    refine w_aload_n dX10_figure_11 rfl ?_
    refine w_getR dX10_figure_12 f_X10_7 (by first | assumption | rfl) rfl rfl ?_
    refine w_aload_n dX10_figure_15 rfl ?_
    refine w_getI dX10_figure_16 f_X10_56 (by first | assumption | rfl) rfl ?_
    refine w_iald (j := p) dX10_figure_19 (by first | assumption | rfl) rfl h3 (show p < 40 by omega) (by decide) ?_
    rw [htx]
    refine w_bipush (v := 48) dX10_figure_20 (by decide) ?_
    refine w_isub dX10_figure_22 ?_
    refine w_i2l dX10_figure_23 ?_
    refine w_iload_n dX10_figure_24 rfl ?_
    refine w_i2l dX10_figure_25 ?_
    refine w_iload_n dX10_figure_26 rfl ?_
    refine w_i2l dX10_figure_27 ?_
    refine w_callSi dX10_figure_28 k_X10_45 (hin) rfl rfl rfl (Nat.le_of_ble_eq_true rfl) (by first | decide | omega) ?_
    refine w_if_ne (tgt := 37) dX10_figure_31 (by decide) (fun c_31 => absurd c_31 (fun q => q rfl)) (fun c_31 => ?_)
    refine w_bipush (v := (-9)) dX10_figure_34 (by decide) ?_
    exact w_ret dX10_figure_36 ⟨rfl, rfl, rfl⟩
set_option maxHeartbeats 4000000 in
set_option maxRecDepth 100000 in
theorem c_X10_figure_y {I : Mem} {J : Lng} {tx : Nat → Int32} {p n g : Nat} (htx : I 90 = tx) (h3 : I 89 3 = nI p) (h2 : I 89 2 = nI n) (hpn : p ≤ n) (hn : n ≤ 40) (hg : g < 10) (hlt : p < n) {d : Nat} (hd : pin (tx p - 48) (g + 1) = some d) : q_E yX10_figure cX10_figure 3 (some .int) 1 [.ref 89, .int 0, .int (nI g)] I J (some (.int (nI d))) (upI I 89 3 (nI (p + 1))) (J) := by
  refine q_Ei me_X10_figure rfl (Nat.le_of_ble_eq_true rfl) ?_
  show q_w _ _ _ _ _ _ _ 0 [some (.ref 89), some (.int 0), some (.int (nI g))] [] I J
  refine w_aload_n dX10_figure_0 rfl ?_
  refine w_getI dX10_figure_1 f_X10_56 (by first | assumption | rfl) rfl ?_
  refine w_aload_n dX10_figure_4 rfl ?_
  refine w_getI dX10_figure_5 f_X10_53 (by first | assumption | rfl) rfl ?_
  refine w_icmp_eq (tgt := 34) dX10_figure_8 (by decide) (fun c_8 => absurd c_8 (fun q => absurd (nI_inj (by omega) (by omega) (by rw [← h3, ← h2]; exact q)) (show ¬ p = n by omega))) (fun c_8 => ?_)
  have hin := c_X10_in (I := I) (J := J) (v := (tx p - 48).toInt64) (a := (0 : Int32).toInt64) (b := (nI g).toInt64)
  have hz : zin (tx p - 48).toInt64 (0 : Int32).toInt64 (nI g).toInt64 = true := by rw [i0_64, zin_pin (g_64 g hg), hd]; rfl
  rw [hz] at hin
  have hd2 := (pin_some (by omega) hd).2
  refine w_aload_n dX10_figure_11 rfl ?_
  refine w_getR dX10_figure_12 f_X10_7 (by first | assumption | rfl) rfl rfl ?_
  refine w_aload_n dX10_figure_15 rfl ?_
  refine w_getI dX10_figure_16 f_X10_56 (by first | assumption | rfl) rfl ?_
  refine w_iald (j := p) dX10_figure_19 (by first | assumption | rfl) rfl h3 (show p < 40 by omega) (by decide) ?_
  rw [htx]
  refine w_bipush (v := 48) dX10_figure_20 (by decide) ?_
  refine w_isub dX10_figure_22 ?_
  refine w_i2l dX10_figure_23 ?_
  refine w_iload_n dX10_figure_24 rfl ?_
  refine w_i2l dX10_figure_25 ?_
  refine w_iload_n dX10_figure_26 rfl ?_
  refine w_i2l dX10_figure_27 ?_
  refine w_callSi dX10_figure_28 k_X10_45 (hin) rfl rfl rfl (Nat.le_of_ble_eq_true rfl) (by first | decide | omega) ?_
  refine w_if_ne (tgt := 37) dX10_figure_31 (by decide) (fun c_31 => ?_) (fun c_31 => absurd c_31 (show ¬ zB true = 0 by decide))
  refine w_aload_n dX10_figure_37 rfl ?_
  refine w_dup dX10_figure_38 rfl ?_
  refine w_getI dX10_figure_39 f_X10_56 (by first | assumption | rfl) rfl ?_
  refine w_iconst (v := 1) dX10_figure_42 (by decide) ?_
  refine w_iadd dX10_figure_43 ?_
  rw [h3, nI_1]
  refine w_putI dX10_figure_44 f_X10_56 (by first | assumption | rfl) rfl ?_
  refine w_aload_n dX10_figure_47 rfl ?_
  refine w_getR dX10_figure_48 f_X10_7 (by first | assumption | rfl) rfl rfl ?_
  refine w_aload_n dX10_figure_51 rfl ?_
  refine w_getI dX10_figure_52 f_X10_56 (by first | assumption | rfl) rfl ?_
  refine w_iconst (v := 1) dX10_figure_55 (by decide) ?_
  refine w_isub dX10_figure_56 ?_
  refine w_iald (j := p) dX10_figure_57 (by first | assumption | rfl) rfl (by rw [upI_tt, nI_pred]) (show p < 40 by omega) (by decide) ?_
  rw [upI_ne (show (90 : Nat) ≠ 89 by decide), htx]
  refine w_bipush (v := 48) dX10_figure_58 (by decide) ?_
  refine w_isub dX10_figure_60 ?_
  exact w_ret dX10_figure_61 ⟨by rw [hd2], rfl, rfl⟩
def RQ (I : Mem) (J : Lng) (tx : Nat → Int32) (n k : Nat) (r : Option Value) (I1 : Mem) (J1 : Lng) : Prop := J1 = J ∧ Mr MSS I I1 ∧ I1 89 4 = I 89 4 ∧ I1 89 5 = I 89 5 ∧ ((r = some (.int 0) ∧ ∃ q, q < 2 ^ 31 ∧ I1 89 3 = nI q ∧ zf tx n (4 * k + 4) = nI q) ∨ (r = some (.int 1) ∧ 4 * k + 7 ≤ n ∧ zf tx n (4 * k + 4) = zf tx n (4 * k + 7) ∧ I1 89 3 = nI (4 * k + 7) ∧ I1 89 6 = nI (k + 1) ∧ (∀ i, i < 3 * k → I1 91 i = I 91 i) ∧ I1 91 (3 * k) = (if k = 0 then -9 else tx (4 * k + 4) - 48) ∧ I1 91 (3 * k + 1) = tx (4 * k + 5) - 48 ∧ I1 91 (3 * k + 2) = tx (4 * k + 6) - 48))
theorem nI_2 {a : Nat} : nI a + 2 = nI (a + 2) := nI_add (a := a) (b := 2)
set_option maxHeartbeats 4000000 in
set_option maxRecDepth 100000 in
theorem l_rp_68 {I M : Mem} {J : Lng} {tx : Nat → Int32} {n k d1 d2 d3 : Nat} (hk : k < 7) (hMr : Mr MSS I M) (h4 : M 89 4 = I 89 4) (h5 : M 89 5 = I 89 5) (hM6 : M 89 6 = nI k) (hM3 : M 89 3 = nI (4 * k + 7)) (h91 : M 91 = I 91) (hle : 4 * k + 7 ≤ n) (hzz : zf tx n (4 * k + 4) = zf tx n (4 * k + 7)) (e1 : tx (4 * k + 4) - 48 = nI d1) (e2 : tx (4 * k + 5) - 48 = nI d2) (e3 : tx (4 * k + 6) - 48 = nI d3) : q_w yX10_readPerson.cls yX10_readPerson.name cX10_readPerson 4 .ireturn 2 (fun st I1 J1 => ∃ v : Int32, (v = 0 ∨ v = 1) ∧ st = [.int v] ∧ RQ I J tx n k (some (.int v)) I1 J1) 68 [some (.ref 89), some (.int (nI d1)), some (.int (nI d2)), some (.int (nI d3))] [] (M) (J) := by
  refine w_aload_n dX10_readPerson_68 rfl ?_
  refine w_getR dX10_readPerson_69 f_X10_13 (by first | assumption | rfl) rfl rfl ?_
  refine w_iconst (v := 3) dX10_readPerson_72 (by decide) ?_
  refine w_aload_n dX10_readPerson_73 rfl ?_
  refine w_getI dX10_readPerson_74 f_X10_59 (by first | assumption | rfl) rfl ?_
  refine w_imul dX10_readPerson_77 ?_
  rw [hM6, show (3 : Int32) * nI k = nI (3 * k) from pk_mul 3 k]
  refine w_aload_n dX10_readPerson_78 rfl ?_
  refine w_getI dX10_readPerson_79 f_X10_59 (by first | assumption | rfl) rfl ?_
  rw [hM6]
  refine w_if_ne (tgt := 90) dX10_readPerson_82 (by decide) (fun c_82 => ?_) (fun c_82 => ?_)
  · refine w_iload_n dX10_readPerson_90 rfl ?_
    refine w_iast (j := 3 * k) dX10_readPerson_91 (by first | assumption | rfl) rfl rfl (show 3 * k < 21 by omega) (by decide) ?_
    refine w_aload_n dX10_readPerson_92 rfl ?_
    refine w_getR dX10_readPerson_93 f_X10_13 (by first | assumption | rfl) rfl rfl ?_
    refine w_iconst (v := 3) dX10_readPerson_96 (by decide) ?_
    refine w_aload_n dX10_readPerson_97 rfl ?_
    refine w_getI dX10_readPerson_98 f_X10_59 (by first | assumption | rfl) rfl ?_
    refine w_imul dX10_readPerson_101 ?_
    rw [upI_ne (show (89 : Nat) ≠ 91 by decide), hM6, show (3 : Int32) * nI k = nI (3 * k) from pk_mul 3 k]
    refine w_iconst (v := 1) dX10_readPerson_102 (by decide) ?_
    refine w_iadd dX10_readPerson_103 ?_
    rw [nI_1]
    refine w_iload_n dX10_readPerson_104 rfl ?_
    refine w_iast (j := 3 * k + 1) dX10_readPerson_105 (by first | assumption | rfl) rfl rfl (show 3 * k + 1 < 21 by omega) (by decide) ?_
    refine w_aload_n dX10_readPerson_106 rfl ?_
    refine w_getR dX10_readPerson_107 f_X10_13 (by first | assumption | rfl) rfl rfl ?_
    refine w_iconst (v := 3) dX10_readPerson_110 (by decide) ?_
    refine w_aload_n dX10_readPerson_111 rfl ?_
    refine w_getI dX10_readPerson_112 f_X10_59 (by first | assumption | rfl) rfl ?_
    refine w_imul dX10_readPerson_115 ?_
    rw [upI_ne (show (89 : Nat) ≠ 91 by decide), upI_ne (show (89 : Nat) ≠ 91 by decide), hM6, show (3 : Int32) * nI k = nI (3 * k) from pk_mul 3 k]
    refine w_iconst (v := 2) dX10_readPerson_116 (by decide) ?_
    refine w_iadd dX10_readPerson_117 ?_
    rw [nI_2]
    refine w_iload_n dX10_readPerson_118 rfl ?_
    refine w_iast (j := 3 * k + 2) dX10_readPerson_119 (by first | assumption | rfl) rfl rfl (show 3 * k + 2 < 21 by omega) (by decide) ?_
    refine w_aload_n dX10_readPerson_120 rfl ?_
    refine w_dup dX10_readPerson_121 rfl ?_
    refine w_getI dX10_readPerson_122 f_X10_59 (by first | assumption | rfl) rfl ?_
    rw [upI_ne (show (89 : Nat) ≠ 91 by decide), upI_ne (show (89 : Nat) ≠ 91 by decide), upI_ne (show (89 : Nat) ≠ 91 by decide), hM6]
    refine w_iconst (v := 1) dX10_readPerson_125 (by decide) ?_
    refine w_iadd dX10_readPerson_126 ?_
    rw [nI_1]
    refine w_putI dX10_readPerson_127 f_X10_59 (by first | assumption | rfl) rfl ?_
    refine w_iconst (v := 1) dX10_readPerson_130 (by decide) ?_
    refine w_ret dX10_readPerson_131 ⟨_, Or.inr rfl, rfl, rfl, (((hMr.up (by decide) (by decide)).up (by decide) (by decide)).up (by decide) (by decide)).f (by decide), ?_, ?_, Or.inr ⟨rfl, hle, hzz, ?_, upI_tt, fun i hi => ?_, ?_, ?_, ?_⟩⟩
    · rw [upI_tf (by decide), upI_ne (by decide), upI_ne (by decide), upI_ne (by decide), h4]
    · rw [upI_tf (by decide), upI_ne (by decide), upI_ne (by decide), upI_ne (by decide), h5]
    · rw [upI_tf (by decide), upI_ne (by decide), upI_ne (by decide), upI_ne (by decide), hM3]
    · rw [upI_ne (by decide), upI_tf (by omega), upI_tf (by omega), upI_tf (by omega), h91]
    · rw [upI_ne (by decide), upI_tf (by omega), upI_tf (by omega), upI_tt]; rw [if_neg (fun e => c_82 (by rw [e]; rfl)), e1]
    · rw [upI_ne (by decide), upI_tf (by omega), upI_tt, e2]
    · rw [upI_ne (by decide), upI_tt, e3]
  · refine w_bipush (v := (-9)) dX10_readPerson_85 (by decide) ?_
    refine w_goto (tgt := 91) dX10_readPerson_87 (by decide) ?_
    refine w_iast (j := 3 * k) dX10_readPerson_91 (by first | assumption | rfl) rfl rfl (show 3 * k < 21 by omega) (by decide) ?_
    refine w_aload_n dX10_readPerson_92 rfl ?_
    refine w_getR dX10_readPerson_93 f_X10_13 (by first | assumption | rfl) rfl rfl ?_
    refine w_iconst (v := 3) dX10_readPerson_96 (by decide) ?_
    refine w_aload_n dX10_readPerson_97 rfl ?_
    refine w_getI dX10_readPerson_98 f_X10_59 (by first | assumption | rfl) rfl ?_
    refine w_imul dX10_readPerson_101 ?_
    rw [upI_ne (show (89 : Nat) ≠ 91 by decide), hM6, show (3 : Int32) * nI k = nI (3 * k) from pk_mul 3 k]
    refine w_iconst (v := 1) dX10_readPerson_102 (by decide) ?_
    refine w_iadd dX10_readPerson_103 ?_
    rw [nI_1]
    refine w_iload_n dX10_readPerson_104 rfl ?_
    refine w_iast (j := 3 * k + 1) dX10_readPerson_105 (by first | assumption | rfl) rfl rfl (show 3 * k + 1 < 21 by omega) (by decide) ?_
    refine w_aload_n dX10_readPerson_106 rfl ?_
    refine w_getR dX10_readPerson_107 f_X10_13 (by first | assumption | rfl) rfl rfl ?_
    refine w_iconst (v := 3) dX10_readPerson_110 (by decide) ?_
    refine w_aload_n dX10_readPerson_111 rfl ?_
    refine w_getI dX10_readPerson_112 f_X10_59 (by first | assumption | rfl) rfl ?_
    refine w_imul dX10_readPerson_115 ?_
    rw [upI_ne (show (89 : Nat) ≠ 91 by decide), upI_ne (show (89 : Nat) ≠ 91 by decide), hM6, show (3 : Int32) * nI k = nI (3 * k) from pk_mul 3 k]
    refine w_iconst (v := 2) dX10_readPerson_116 (by decide) ?_
    refine w_iadd dX10_readPerson_117 ?_
    rw [nI_2]
    refine w_iload_n dX10_readPerson_118 rfl ?_
    refine w_iast (j := 3 * k + 2) dX10_readPerson_119 (by first | assumption | rfl) rfl rfl (show 3 * k + 2 < 21 by omega) (by decide) ?_
    refine w_aload_n dX10_readPerson_120 rfl ?_
    refine w_dup dX10_readPerson_121 rfl ?_
    refine w_getI dX10_readPerson_122 f_X10_59 (by first | assumption | rfl) rfl ?_
    rw [upI_ne (show (89 : Nat) ≠ 91 by decide), upI_ne (show (89 : Nat) ≠ 91 by decide), upI_ne (show (89 : Nat) ≠ 91 by decide), hM6]
    refine w_iconst (v := 1) dX10_readPerson_125 (by decide) ?_
    refine w_iadd dX10_readPerson_126 ?_
    rw [nI_1]
    refine w_putI dX10_readPerson_127 f_X10_59 (by first | assumption | rfl) rfl ?_
    refine w_iconst (v := 1) dX10_readPerson_130 (by decide) ?_
    refine w_ret dX10_readPerson_131 ⟨_, Or.inr rfl, rfl, rfl, (((hMr.up (by decide) (by decide)).up (by decide) (by decide)).up (by decide) (by decide)).f (by decide), ?_, ?_, Or.inr ⟨rfl, hle, hzz, ?_, upI_tt, fun i hi => ?_, ?_, ?_, ?_⟩⟩
    · rw [upI_tf (by decide), upI_ne (by decide), upI_ne (by decide), upI_ne (by decide), h4]
    · rw [upI_tf (by decide), upI_ne (by decide), upI_ne (by decide), upI_ne (by decide), h5]
    · rw [upI_tf (by decide), upI_ne (by decide), upI_ne (by decide), upI_ne (by decide), hM3]
    · rw [upI_ne (by decide), upI_tf (by omega), upI_tf (by omega), upI_tf (by omega), h91]
    · rw [upI_ne (by decide), upI_tf (by omega), upI_tf (by omega), upI_tt]; rw [if_pos (nI_inj (by omega) (by decide) c_82)]
    · rw [upI_ne (by decide), upI_tf (by omega), upI_tt, e2]
    · rw [upI_ne (by decide), upI_tt, e3]
set_option maxHeartbeats 4000000 in
set_option maxRecDepth 100000 in
theorem l_rp_19 {I : Mem} {J : Lng} {tx : Nat → Int32} {n k : Nat} (htx : I 90 = tx) (hT : TX tx n) (h3 : I 89 3 = nI (4 * k + 4)) (h2 : I 89 2 = nI n) (h6 : I 89 6 = nI k) (hk : k < 7) (hpn : 4 * k + 4 ≤ n) (hn : n ≤ 40) : q_w yX10_readPerson.cls yX10_readPerson.name cX10_readPerson 4 .ireturn 2 (fun st I1 J1 => ∃ v : Int32, (v = 0 ∨ v = 1) ∧ st = [.int v] ∧ RQ I J tx n k (some (.int v)) I1 J1) 19 [some (.ref 89), none, none, none] [.int (nI (k - 1)), .int 0, .ref 89] (I) (J) := by
  have h63 : k - 1 < 10 := by omega
  rcases fig_cases hT hpn h63 (zms_1 hk) (by omega) with ⟨hno, z1⟩ | ⟨hl1, d1, g1, f1, e1, z1⟩
  · have hf := c_X10_figure_n (J := J) htx h3 h2 hpn hn h63 hno
    have hMr : Mr MSS I I := Mr.rf
    have h4 : I 89 4 = I 89 4 := rfl
    have h5 : I 89 5 = I 89 5 := rfl
    refine w_callVi dX10_readPerson_19 k_X10_62 (by first | assumption | rfl) rfl (hf) rfl rfl rfl (Nat.le_of_ble_eq_true rfl) (by first | decide | omega) ?_
    refine w_istore_n dX10_readPerson_22 (by decide) rfl ?_
    refine w_iload_n dX10_readPerson_23 rfl ?_
    refine w_bipush (v := (-9)) dX10_readPerson_24 (by decide) ?_
    refine w_icmp_ne (tgt := 34) dX10_readPerson_26 (by decide) (fun c_26 => absurd c_26 (fun q => q rfl)) (fun c_26 => ?_)
    refine w_bipush (v := (-9)) dX10_readPerson_29 (by decide) ?_
    refine w_goto (tgt := 40) dX10_readPerson_31 (by decide) ?_
    refine w_istore_n dX10_readPerson_40 (by decide) rfl ?_
    refine w_iload_n dX10_readPerson_41 rfl ?_
    refine w_bipush (v := (-9)) dX10_readPerson_42 (by decide) ?_
    refine w_icmp_ne (tgt := 52) dX10_readPerson_44 (by decide) (fun c_44 => absurd c_44 (fun q => q rfl)) (fun c_44 => ?_)
    refine w_bipush (v := (-9)) dX10_readPerson_47 (by decide) ?_
    refine w_goto (tgt := 59) dX10_readPerson_49 (by decide) ?_
    refine w_istore_n dX10_readPerson_59 (by decide) rfl ?_
    refine w_iload_n dX10_readPerson_60 rfl ?_
    refine w_bipush (v := (-9)) dX10_readPerson_61 (by decide) ?_
    refine w_icmp_ne (tgt := 68) dX10_readPerson_63 (by decide) (fun c_63 => absurd c_63 (fun q => q rfl)) (fun c_63 => ?_)
    refine w_iconst (v := 0) dX10_readPerson_66 (by decide) ?_
    exact w_ret dX10_readPerson_67 ⟨_, Or.inl rfl, rfl, rfl, hMr, h4, h5, Or.inl ⟨rfl, 4 * k + 4, by omega, h3, z1⟩⟩
  · have hf := c_X10_figure_y (J := J) htx h3 h2 hpn hn h63 hl1 f1
    have hA90 : (upI I 89 3 (nI (4 * k + 4 + 1))) 90 = tx := by rw [upI_ne (by decide)]; exact htx
    have hA3 : (upI I 89 3 (nI (4 * k + 4 + 1))) 89 3 = nI (4 * k + 5) := upI_tt
    have hA2 : (upI I 89 3 (nI (4 * k + 4 + 1))) 89 2 = nI n := by rw [upI_tf (by decide)]; exact h2
    rcases fig_cases (p := 4 * k + 5) (g := 1) hT (by omega) (by decide) (zms_2 hk) (by omega) with ⟨hno, z2⟩ | ⟨hl2, d2, g2, f2, e2, z2⟩
    · have hf2 := c_X10_figure_n (J := J) (g := 1) hA90 hA3 hA2 (by omega) hn (by decide) hno
      have hMr : Mr MSS I (upI I 89 3 (nI (4 * k + 4 + 1))) := Mr.rf.f (by decide)
      have h4 : (upI I 89 3 (nI (4 * k + 4 + 1))) 89 4 = I 89 4 := upI_tf (by decide)
      have h5 : (upI I 89 3 (nI (4 * k + 4 + 1))) 89 5 = I 89 5 := upI_tf (by decide)
      refine w_callVi dX10_readPerson_19 k_X10_62 (by first | assumption | rfl) rfl (hf) rfl rfl rfl (Nat.le_of_ble_eq_true rfl) (by first | decide | omega) ?_
      refine w_istore_n dX10_readPerson_22 (by decide) rfl ?_
      refine w_iload_n dX10_readPerson_23 rfl ?_
      refine w_bipush (v := (-9)) dX10_readPerson_24 (by decide) ?_
      refine w_icmp_ne (tgt := 34) dX10_readPerson_26 (by decide) (fun c_26 => ?_) (fun c_26 => absurd c_26 (nI_ne9 (by omega)))
      refine w_aload_n dX10_readPerson_34 rfl ?_
      refine w_iconst (v := 0) dX10_readPerson_35 (by decide) ?_
      refine w_iconst (v := 1) dX10_readPerson_36 (by decide) ?_
      refine w_callVi dX10_readPerson_37 k_X10_62 (by first | assumption | rfl) rfl (hf2) rfl rfl rfl (Nat.le_of_ble_eq_true rfl) (by first | decide | omega) ?_
      refine w_istore_n dX10_readPerson_40 (by decide) rfl ?_
      refine w_iload_n dX10_readPerson_41 rfl ?_
      refine w_bipush (v := (-9)) dX10_readPerson_42 (by decide) ?_
      refine w_icmp_ne (tgt := 52) dX10_readPerson_44 (by decide) (fun c_44 => absurd c_44 (fun q => q rfl)) (fun c_44 => ?_)
      refine w_bipush (v := (-9)) dX10_readPerson_47 (by decide) ?_
      refine w_goto (tgt := 59) dX10_readPerson_49 (by decide) ?_
      refine w_istore_n dX10_readPerson_59 (by decide) rfl ?_
      refine w_iload_n dX10_readPerson_60 rfl ?_
      refine w_bipush (v := (-9)) dX10_readPerson_61 (by decide) ?_
      refine w_icmp_ne (tgt := 68) dX10_readPerson_63 (by decide) (fun c_63 => absurd c_63 (fun q => q rfl)) (fun c_63 => ?_)
      refine w_iconst (v := 0) dX10_readPerson_66 (by decide) ?_
      exact w_ret dX10_readPerson_67 ⟨_, Or.inl rfl, rfl, rfl, hMr, h4, h5, Or.inl ⟨rfl, 4 * k + 5, by omega, hA3, by rw [z1, z2]⟩⟩
    · have hf2 := c_X10_figure_y (J := J) (g := 1) hA90 hA3 hA2 (by omega) hn (by decide) hl2 f2
      have hB90 : (upI (upI I 89 3 (nI (4 * k + 4 + 1))) 89 3 (nI (4 * k + 5 + 1))) 90 = tx := by rw [upI_ne (by decide)]; exact hA90
      have hB3 : (upI (upI I 89 3 (nI (4 * k + 4 + 1))) 89 3 (nI (4 * k + 5 + 1))) 89 3 = nI (4 * k + 6) := upI_tt
      have hB2 : (upI (upI I 89 3 (nI (4 * k + 4 + 1))) 89 3 (nI (4 * k + 5 + 1))) 89 2 = nI n := by rw [upI_tf (by decide)]; exact hA2
      rcases fig_cases (p := 4 * k + 6) (g := 9) hT (by omega) (by decide) (zms_3 hk) (by omega) with ⟨hno, z3⟩ | ⟨hl3, d3, g3, f3, e3, z3⟩
      · have hf3 := c_X10_figure_n (J := J) (g := 9) hB90 hB3 hB2 (by omega) hn (by decide) hno
        have hMr : Mr MSS I (upI (upI I 89 3 (nI (4 * k + 4 + 1))) 89 3 (nI (4 * k + 5 + 1))) := (Mr.rf.f (by decide)).f (by decide)
        have h4 : (upI (upI I 89 3 (nI (4 * k + 4 + 1))) 89 3 (nI (4 * k + 5 + 1))) 89 4 = I 89 4 := by rw [upI_tf (by decide), upI_tf (by decide)]
        have h5 : (upI (upI I 89 3 (nI (4 * k + 4 + 1))) 89 3 (nI (4 * k + 5 + 1))) 89 5 = I 89 5 := by rw [upI_tf (by decide), upI_tf (by decide)]
        refine w_callVi dX10_readPerson_19 k_X10_62 (by first | assumption | rfl) rfl (hf) rfl rfl rfl (Nat.le_of_ble_eq_true rfl) (by first | decide | omega) ?_
        refine w_istore_n dX10_readPerson_22 (by decide) rfl ?_
        refine w_iload_n dX10_readPerson_23 rfl ?_
        refine w_bipush (v := (-9)) dX10_readPerson_24 (by decide) ?_
        refine w_icmp_ne (tgt := 34) dX10_readPerson_26 (by decide) (fun c_26 => ?_) (fun c_26 => absurd c_26 (nI_ne9 (by omega)))
        refine w_aload_n dX10_readPerson_34 rfl ?_
        refine w_iconst (v := 0) dX10_readPerson_35 (by decide) ?_
        refine w_iconst (v := 1) dX10_readPerson_36 (by decide) ?_
        refine w_callVi dX10_readPerson_37 k_X10_62 (by first | assumption | rfl) rfl (hf2) rfl rfl rfl (Nat.le_of_ble_eq_true rfl) (by first | decide | omega) ?_
        refine w_istore_n dX10_readPerson_40 (by decide) rfl ?_
        refine w_iload_n dX10_readPerson_41 rfl ?_
        refine w_bipush (v := (-9)) dX10_readPerson_42 (by decide) ?_
        refine w_icmp_ne (tgt := 52) dX10_readPerson_44 (by decide) (fun c_44 => ?_) (fun c_44 => absurd c_44 (nI_ne9 (by omega)))
        refine w_aload_n dX10_readPerson_52 rfl ?_
        refine w_iconst (v := 0) dX10_readPerson_53 (by decide) ?_
        refine w_bipush (v := 9) dX10_readPerson_54 (by decide) ?_
        refine w_callVi dX10_readPerson_56 k_X10_62 (by first | assumption | rfl) rfl (hf3) rfl rfl rfl (Nat.le_of_ble_eq_true rfl) (by first | decide | omega) ?_
        refine w_istore_n dX10_readPerson_59 (by decide) rfl ?_
        refine w_iload_n dX10_readPerson_60 rfl ?_
        refine w_bipush (v := (-9)) dX10_readPerson_61 (by decide) ?_
        refine w_icmp_ne (tgt := 68) dX10_readPerson_63 (by decide) (fun c_63 => absurd c_63 (fun q => q rfl)) (fun c_63 => ?_)
        refine w_iconst (v := 0) dX10_readPerson_66 (by decide) ?_
        exact w_ret dX10_readPerson_67 ⟨_, Or.inl rfl, rfl, rfl, hMr, h4, h5, Or.inl ⟨rfl, 4 * k + 6, by omega, hB3, by rw [z1, z2, z3]⟩⟩
      · have hf3 := c_X10_figure_y (J := J) (g := 9) hB90 hB3 hB2 (by omega) hn (by decide) hl3 f3
        have hMr : Mr MSS I (upI (upI (upI I 89 3 (nI (4 * k + 4 + 1))) 89 3 (nI (4 * k + 5 + 1))) 89 3 (nI (4 * k + 6 + 1))) := ((Mr.rf.f (by decide)).f (by decide)).f (by decide)
        have h4 : (upI (upI (upI I 89 3 (nI (4 * k + 4 + 1))) 89 3 (nI (4 * k + 5 + 1))) 89 3 (nI (4 * k + 6 + 1))) 89 4 = I 89 4 := by rw [upI_tf (by decide), upI_tf (by decide), upI_tf (by decide)]
        have h5 : (upI (upI (upI I 89 3 (nI (4 * k + 4 + 1))) 89 3 (nI (4 * k + 5 + 1))) 89 3 (nI (4 * k + 6 + 1))) 89 5 = I 89 5 := by rw [upI_tf (by decide), upI_tf (by decide), upI_tf (by decide)]
        have hC6 : (upI (upI (upI I 89 3 (nI (4 * k + 4 + 1))) 89 3 (nI (4 * k + 5 + 1))) 89 3 (nI (4 * k + 6 + 1))) 89 6 = nI k := by rw [upI_tf (by decide), upI_tf (by decide), upI_tf (by decide)]; exact h6
        have hC3 : (upI (upI (upI I 89 3 (nI (4 * k + 4 + 1))) 89 3 (nI (4 * k + 5 + 1))) 89 3 (nI (4 * k + 6 + 1))) 89 3 = nI (4 * k + 7) := upI_tt
        have hC91 : (upI (upI (upI I 89 3 (nI (4 * k + 4 + 1))) 89 3 (nI (4 * k + 5 + 1))) 89 3 (nI (4 * k + 6 + 1))) 91 = I 91 := by rw [upI_ne (by decide), upI_ne (by decide), upI_ne (by decide)]
        refine w_callVi dX10_readPerson_19 k_X10_62 (by first | assumption | rfl) rfl (hf) rfl rfl rfl (Nat.le_of_ble_eq_true rfl) (by first | decide | omega) ?_
        refine w_istore_n dX10_readPerson_22 (by decide) rfl ?_
        refine w_iload_n dX10_readPerson_23 rfl ?_
        refine w_bipush (v := (-9)) dX10_readPerson_24 (by decide) ?_
        refine w_icmp_ne (tgt := 34) dX10_readPerson_26 (by decide) (fun c_26 => ?_) (fun c_26 => absurd c_26 (nI_ne9 (by omega)))
        refine w_aload_n dX10_readPerson_34 rfl ?_
        refine w_iconst (v := 0) dX10_readPerson_35 (by decide) ?_
        refine w_iconst (v := 1) dX10_readPerson_36 (by decide) ?_
        refine w_callVi dX10_readPerson_37 k_X10_62 (by first | assumption | rfl) rfl (hf2) rfl rfl rfl (Nat.le_of_ble_eq_true rfl) (by first | decide | omega) ?_
        refine w_istore_n dX10_readPerson_40 (by decide) rfl ?_
        refine w_iload_n dX10_readPerson_41 rfl ?_
        refine w_bipush (v := (-9)) dX10_readPerson_42 (by decide) ?_
        refine w_icmp_ne (tgt := 52) dX10_readPerson_44 (by decide) (fun c_44 => ?_) (fun c_44 => absurd c_44 (nI_ne9 (by omega)))
        refine w_aload_n dX10_readPerson_52 rfl ?_
        refine w_iconst (v := 0) dX10_readPerson_53 (by decide) ?_
        refine w_bipush (v := 9) dX10_readPerson_54 (by decide) ?_
        refine w_callVi dX10_readPerson_56 k_X10_62 (by first | assumption | rfl) rfl (hf3) rfl rfl rfl (Nat.le_of_ble_eq_true rfl) (by first | decide | omega) ?_
        refine w_istore_n dX10_readPerson_59 (by decide) rfl ?_
        refine w_iload_n dX10_readPerson_60 rfl ?_
        refine w_bipush (v := (-9)) dX10_readPerson_61 (by decide) ?_
        refine w_icmp_ne (tgt := 68) dX10_readPerson_63 (by decide) (fun c_63 => ?_) (fun c_63 => absurd c_63 (nI_ne9 (by omega)))
        exact l_rp_68 hk hMr h4 h5 hC6 hC3 hC91 (by omega) (by rw [z1, z2, z3]) e1 e2 e3
set_option maxHeartbeats 4000000 in
set_option maxRecDepth 100000 in
theorem c_X10_readPerson {I : Mem} {J : Lng} {tx : Nat → Int32} {n k : Nat} (htx : I 90 = tx) (hT : TX tx n) (h3 : I 89 3 = nI (4 * k + 4)) (h2 : I 89 2 = nI n) (h6 : I 89 6 = nI k) (hk : k < 7) (hpn : 4 * k + 4 ≤ n) (hn : n ≤ 40) : q_F yX10_readPerson cX10_readPerson 4 (some .boolean) 2 [.ref 89] I J (fun r I1 J1 => RQ I J tx n k r I1 J1) := by
  refine q_Fz me_X10_readPerson rfl (Nat.le_of_ble_eq_true rfl) ?_
  show q_w _ _ _ _ _ _ _ 0 [some (.ref 89), none, none, none] [] I J
  refine w_aload_n dX10_readPerson_0 rfl ?_
  refine w_iconst (v := 0) dX10_readPerson_1 (by decide) ?_
  refine w_aload_n dX10_readPerson_2 rfl ?_
  refine w_getI dX10_readPerson_3 f_X10_59 (by first | assumption | rfl) rfl ?_
  rw [h6]
  refine w_if_ne (tgt := 13) dX10_readPerson_6 (by decide) (fun c_6 => ?_) (fun c_6 => ?_)
  · refine w_aload_n dX10_readPerson_13 rfl ?_
    refine w_getI dX10_readPerson_14 f_X10_59 (by first | assumption | rfl) rfl ?_
    refine w_iconst (v := 1) dX10_readPerson_17 (by decide) ?_
    refine w_isub dX10_readPerson_18 ?_
    have hk0 : k ≠ 0 := fun e => c_6 (by rw [e]; rfl)
    rw [h6, show nI k - 1 = nI (k - 1) by rw [show k = (k - 1) + 1 by omega, nI_pred]; rfl]
    exact l_rp_19 htx hT h3 h2 h6 hk hpn hn
  · refine w_iconst (v := 0) dX10_readPerson_9 (by decide) ?_
    refine w_goto (tgt := 19) dX10_readPerson_10 (by decide) ?_
    have hk0 : k = 0 := nI_inj (by omega) (by decide) c_6
    have hl := l_rp_19 (J := J) htx hT h3 h2 h6 hk hpn hn
    rw [show nI (k - 1) = 0 by rw [hk0]; rfl] at hl
    exact hl
