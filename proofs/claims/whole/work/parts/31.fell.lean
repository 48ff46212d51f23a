def gr (t : Nat) : Nat := min 9 (t + 1)
/-- the first best cut, from c on -/
def bcg (g : Nat → Nat) (t : Nat) : Nat → Nat → Nat → Nat
  | 0, _, f => f
  | r + 1, c, f => if c ≤ t then bcg g t r (c + 1) (if f + g (gr (t - f)) < c + g (gr (t - c)) then c else f) else f
def bcut (g : Nat → Nat) (t : Nat) : Nat := bcg g t 3 1 0
def bm (own : Bool) : Nat → Nat → Nat
  | 0, t => cond own (2 * t) 0
  | k + 1, t => bcut (bm own k) t + bm own k (gr (t - bcut (bm own k) t))
def brow (own : Bool) : Nat → Nat → Nat → Nat
  | 0, f, _ => f
  | l + 1, f, s => brow own l (f * 10 + bcut (bm own l) s) (gr (s - bcut (bm own l) s))
def TB (I : Mem) (own : Bool) (k : Nat) : Prop := ∀ l, l < k → ∀ t, t ≤ 9 → I (59 + l) t = nI (bm own l t)
theorem gr_9 (t : Nat) : gr t ≤ 9 := Nat.min_le_left _ _
theorem bcg_le (g : Nat → Nat) (t : Nat) : ∀ r c f, f ≤ t → bcg g t r c f ≤ t
  | 0, c, f, h => h
  | r + 1, c, f, h => by
    unfold bcg
    split
    · rename_i hc
      refine bcg_le g t r (c + 1) _ ?_
      split
      · exact hc
      · exact h
    · exact h
theorem bcg_3 (g : Nat → Nat) (t : Nat) : ∀ r c f, f < c → bcg g t r c f < c + r
  | 0, c, f, h => h
  | r + 1, c, f, h => by
    unfold bcg
    split
    · have := bcg_3 g t r (c + 1) (if f + g (gr (t - f)) < c + g (gr (t - c)) then c else f) (by split <;> omega)
      omega
    · omega
theorem bcut_le (g : Nat → Nat) (t : Nat) : bcut g t ≤ t ∧ bcut g t ≤ 3 := ⟨bcg_le g t 3 1 0 (Nat.zero_le _), by have := bcg_3 g t 3 1 0 (by decide); unfold bcut; omega⟩
theorem bm_le (own : Bool) : ∀ k t, t ≤ 9 → bm own k t ≤ 18 + 3 * k
  | 0, t, h => by unfold bm; cases own <;> simp [cond]; omega
  | k + 1, t, h => by
    unfold bm
    have h1 := (bcut_le (bm own k) t).2
    have h2 := bm_le own k (gr (t - bcut (bm own k) t)) (gr_9 _)
    omega
theorem mo_r : ∀ l, l < 5 → ([some 59, some 60, some 61, some 62, some 63] : List (Option Nat)).getD l none = some (59 + l) := by decide
theorem mo_s : ∀ l, l < 5 → SH[59 + l]? = some (0, 10, []) := by decide
theorem grI : ∀ t, t < 10 → (if nI t + 1 < 9 then nI t + 1 else 9) = nI (gr t) := by decide
set_option maxHeartbeats 4000000 in
set_option maxRecDepth 100000 in
theorem c_X3_grown {I : Mem} {J : Lng} {t : Nat} (ht : t < 10) : q_E yX3_grown cX3_grown 1 (some .int) 1 [.int (nI t)] I J (some (.int (nI (gr t)))) (I) (J) := by
  refine q_Ei me_X3_grown rfl (Nat.le_of_ble_eq_true rfl) ?_
  show q_w _ _ _ _ _ _ _ 0 [some (.int (nI t))] [] I J
  refine w_bipush (v := 9) dX3_grown_0 (by decide) ?_
  refine w_iload_n dX3_grown_2 rfl ?_
  refine w_iconst (v := 1) dX3_grown_3 (by decide) ?_
  refine w_iadd dX3_grown_4 ?_
  refine w_min dX3_grown_5 k_X3_24 kM_min_s kM_i kM_min_c (Nat.le_of_ble_eq_true rfl) (by decide) ?_
  rw [grI t ht]
  exact w_ret dX3_grown_8 ⟨rfl, rfl, rfl⟩
set_option maxHeartbeats 4000000 in
set_option maxRecDepth 100000 in
theorem c_X3_mostFor {I : Mem} {J : Lng} {l t : Nat} (hl : l < 5) (ht : t < 10) : q_E yX3_mostFor cX3_mostFor 3 (some .int) 0 [.ref 57, .int (nI l), .int (nI t)] I J (some (.int (I (59 + l) t))) (I) (J) := by
  refine q_Ei me_X3_mostFor rfl (Nat.le_of_ble_eq_true rfl) ?_
  show q_w _ _ _ _ _ _ _ 0 [some (.ref 57), some (.int (nI l)), some (.int (nI t))] [] I J
  refine w_iload_n dX3_mostFor_0 rfl ?_
  refine w_if_lt (tgt := 19) dX3_mostFor_1 (by decide) (fun c_1 => absurd c_1 (nI_pos (by omega))) (fun c_1 => ?_)
  refine w_iload_n dX3_mostFor_4 rfl ?_
  refine w_iconst (v := 4) dX3_mostFor_5 (by decide) ?_
  refine w_icmp_gt (tgt := 19) dX3_mostFor_6 (by decide) (fun c_6 => absurd c_6 (nI_nlt (b := l) (a := 4) (by omega) (by decide))) (fun c_6 => ?_)
  refine w_iload_n dX3_mostFor_9 rfl ?_
  refine w_if_lt (tgt := 19) dX3_mostFor_10 (by decide) (fun c_10 => absurd c_10 (nI_pos (by omega))) (fun c_10 => ?_)
  refine w_iload_n dX3_mostFor_13 rfl ?_
  refine w_bipush (v := 9) dX3_mostFor_14 (by decide) ?_
  refine w_icmp_le (tgt := 21) dX3_mostFor_16 (by decide) (fun c_16 => ?_) (fun c_16 => absurd (nI_le (b := 9) (by omega) (by decide)) c_16)
  refine w_aload_n dX3_mostFor_21 rfl ?_
  refine w_getR dX3_mostFor_22 f_X3_11 (by first | assumption | rfl) rfl rfl ?_
  refine w_iload_n dX3_mostFor_25 rfl ?_
  refine w_aald (j := l) dX3_mostFor_26 (by first | assumption | rfl) rfl (by decide) rfl hl (by decide) (mo_r l hl) ?_
  refine w_iload_n dX3_mostFor_27 rfl ?_
  refine w_iald (j := t) dX3_mostFor_28 (mo_s l hl) rfl rfl ht (by decide) ?_
  exact w_ret dX3_mostFor_29 ⟨rfl, rfl, rfl⟩
set_option maxHeartbeats 4000000 in
set_option maxRecDepth 100000 in
theorem c_X3_worth {I : Mem} {J : Lng} {own : Bool} {l t c : Nat} (hT : TB I own (l + 1)) (hl : l < 5) (ht : t < 10) (hc : c ≤ t) : q_E yX3_worth cX3_worth 4 (some .int) 2 [.ref 57, .int (nI (l + 1)), .int (nI t), .int (nI c)] I J (some (.int (nI (c + bm own l (gr (t - c)))))) (I) (J) := by
  have hg := gr_9 (t - c)
  have hm := c_X3_mostFor (I := I) (J := J) (l := l) (t := gr (t - c)) hl (by omega)
  rw [hT l (by omega) _ hg] at hm
  refine q_Ei me_X3_worth rfl (Nat.le_of_ble_eq_true rfl) ?_
  show q_w _ _ _ _ _ _ _ 0 [some (.ref 57), some (.int (nI (l + 1))), some (.int (nI t)), some (.int (nI c))] [] I J
  refine w_iload_n dX3_worth_0 rfl ?_
  refine w_aload_n dX3_worth_1 rfl ?_
  refine w_iload_n dX3_worth_2 rfl ?_
  refine w_iconst (v := 1) dX3_worth_3 (by decide) ?_
  refine w_isub dX3_worth_4 ?_
  rw [nI_pred]
  refine w_iload_n dX3_worth_5 rfl ?_
  refine w_iload_n dX3_worth_6 rfl ?_
  refine w_isub dX3_worth_7 ?_
  rw [pk_sub hc]
  refine w_callSi dX3_worth_8 k_X3_29 (c_X3_grown (by omega)) rfl rfl rfl (Nat.le_of_ble_eq_true rfl) (by first | decide | omega) ?_
  refine w_callVi dX3_worth_11 k_X3_33 (by first | assumption | rfl) rfl (hm) rfl rfl rfl (Nat.le_of_ble_eq_true rfl) (by first | decide | omega) ?_
  refine w_iadd dX3_worth_14 ?_
  rw [nI_add]
  exact w_ret dX3_worth_15 ⟨rfl, rfl, rfl⟩
set_option maxHeartbeats 4000000 in
set_option maxRecDepth 100000 in
theorem l_X3_firstBestCut {I : Mem} {J : Lng} {own : Bool} {l t : Nat} (hT : TB I own (l + 1)) (hl : l < 5) (ht : t < 10) : ∀ (r c f : Nat), 4 - c = r → c ≤ 4 → 1 ≤ c → f ≤ t → bcg (bm own l) t r c f = bcut (bm own l) t → q_w yX3_firstBestCut.cls yX3_firstBestCut.name cX3_firstBestCut 5 .ireturn 3 (fun st I1 J1 => st = [.int (nI (bcut (bm own l) t))] ∧ I1 = I ∧ J1 = J) 5 [some (.ref 57), some (.int (nI (l + 1))), some (.int (nI t)), some (.int (nI f)), some (.int (nI c))] [] (I) (J) := by
  intro r
  induction r with
  | zero =>
    intro c f hr hc h1 hf hZ
    obtain rfl : c = 4 := by omega
    refine w_iload dX3_firstBestCut_5 rfl ?_
    refine w_iconst (v := 3) dX3_firstBestCut_7 (by decide) ?_
    refine w_icmp_gt (tgt := 44) dX3_firstBestCut_8 (by decide) (fun c_8 => ?_) (fun c_8 => absurd (show (3 : Int32) < nI 4 by decide) c_8)
    refine w_iload_n dX3_firstBestCut_44 rfl ?_
    exact w_ret dX3_firstBestCut_45 ⟨by rw [← hZ]; rfl, rfl, rfl⟩
  | succ r ih =>
    intro c f hr hc h1 hf hZ
    have hc4 : c < 4 := by omega
    have hZ2 : (if c ≤ t then bcg (bm own l) t r (c + 1) (if f + bm own l (gr (t - f)) < c + bm own l (gr (t - c)) then c else f) else f) = bcut (bm own l) t := hZ
    have b1 := bm_le own l (gr (t - f)) (gr_9 _)
    have b2 := bm_le own l (gr (t - c)) (gr_9 _)
    refine w_iload dX3_firstBestCut_5 rfl ?_
    refine w_iconst (v := 3) dX3_firstBestCut_7 (by decide) ?_
    refine w_icmp_gt (tgt := 44) dX3_firstBestCut_8 (by decide) (fun c_8 => absurd c_8 (nI_nlt (b := c) (a := 3) (by omega) (by decide))) (fun c_8 => ?_)
    refine w_iload dX3_firstBestCut_11 rfl ?_
    refine w_iload_n dX3_firstBestCut_13 rfl ?_
    refine w_icmp_gt (tgt := 44) dX3_firstBestCut_14 (by decide) (fun c_14 => ?_) (fun c_14 => ?_)
    · refine w_iload_n dX3_firstBestCut_44 rfl ?_
      have hct : t < c := (nI_ltI (by omega) (by omega)).mp c_14
      exact w_ret dX3_firstBestCut_45 ⟨by rw [← hZ2, if_neg (by omega)], rfl, rfl⟩
    · have hct : c ≤ t := Nat.le_of_not_lt fun q => c_14 (nI_lt q (by omega))
      rw [if_pos hct] at hZ2
      refine w_aload_n dX3_firstBestCut_17 rfl ?_
      refine w_iload_n dX3_firstBestCut_18 rfl ?_
      refine w_iload_n dX3_firstBestCut_19 rfl ?_
      refine w_iload dX3_firstBestCut_20 rfl ?_
      refine w_callVi dX3_firstBestCut_22 k_X3_20 (by first | assumption | rfl) rfl (c_X3_worth hT hl ht hct) rfl rfl rfl (Nat.le_of_ble_eq_true rfl) (by first | decide | omega) ?_
      refine w_aload_n dX3_firstBestCut_25 rfl ?_
      refine w_iload_n dX3_firstBestCut_26 rfl ?_
      refine w_iload_n dX3_firstBestCut_27 rfl ?_
      refine w_iload_n dX3_firstBestCut_28 rfl ?_
      refine w_callVi dX3_firstBestCut_29 k_X3_20 (by first | assumption | rfl) rfl (c_X3_worth hT hl ht hf) rfl rfl rfl (Nat.le_of_ble_eq_true rfl) (by first | decide | omega) ?_
      refine w_icmp_le (tgt := 38) dX3_firstBestCut_32 (by decide) (fun c_32 => ?_) (fun c_32 => ?_)
      · refine w_iincv (c := 1) dX3_firstBestCut_38 (by decide) rfl (by decide) rfl ?_
        refine w_goto (tgt := 5) dX3_firstBestCut_41 (by decide) ?_
        have h9 := (nI_leI (by omega) (by omega)).mp c_32
        rw [if_neg (by omega)] at hZ2
        rw [nI_1]
        exact ih (c + 1) f (by omega) (by omega) (by omega) hf hZ2
      · refine w_iload dX3_firstBestCut_35 rfl ?_
        refine w_istore_n dX3_firstBestCut_37 (by decide) rfl ?_
        refine w_iincv (c := 1) dX3_firstBestCut_38 (by decide) rfl (by decide) rfl ?_
        refine w_goto (tgt := 5) dX3_firstBestCut_41 (by decide) ?_
        have h9 : ¬ c + bm own l (gr (t - c)) ≤ f + bm own l (gr (t - f)) := fun q => c_32 (nI_le q (by omega))
        rw [if_pos (by omega)] at hZ2
        rw [nI_1]
        exact ih (c + 1) c (by omega) (by omega) (by omega) hct hZ2
set_option maxHeartbeats 4000000 in
set_option maxRecDepth 100000 in
theorem c_X3_firstBestCut {I : Mem} {J : Lng} {own : Bool} {l t : Nat} (hT : TB I own (l + 1)) (hl : l < 5) (ht : t < 10) : q_E yX3_firstBestCut cX3_firstBestCut 5 (some .int) 3 [.ref 57, .int (nI (l + 1)), .int (nI t)] I J (some (.int (nI (bcut (bm own l) t)))) (I) (J) := by
  refine q_Ei me_X3_firstBestCut rfl (Nat.le_of_ble_eq_true rfl) ?_
  show q_w _ _ _ _ _ _ _ 0 [some (.ref 57), some (.int (nI (l + 1))), some (.int (nI t)), none, none] [] I J
  refine w_iconst (v := 0) dX3_firstBestCut_0 (by decide) ?_
  refine w_istore_n dX3_firstBestCut_1 (by decide) rfl ?_
  refine w_iconst (v := 1) dX3_firstBestCut_2 (by decide) ?_
  refine w_istore dX3_firstBestCut_3 (by decide) rfl ?_
  exact l_X3_firstBestCut hT hl ht 3 1 0 rfl (by decide) (by decide) (Nat.zero_le _) rfl
/-- only the table has changed -/
def FO (I I' : Mem) : Prop := ∀ p, (p < 59 ∨ 64 ≤ p) → I' p = I p
theorem FO.rf {I : Mem} : FO I I := fun _ _ => rfl
theorem FO.up {I I' : Mem} {l t : Nat} {v : Int32} (h : FO I I') (hl : l < 5) : FO I (upI I' (59 + l) t v) := fun p hp => by rw [upI_ne (by omega)]; exact h p hp
set_option maxHeartbeats 4000000 in
set_option maxRecDepth 100000 in
theorem l_X3_reckon_c {I : Mem} {J : Lng} {own : Bool} {n : Nat} (hn : n < 5) {l : Nat} (hl : l + 1 ≤ n) (x5 : Option Value) (K : ∀ (I1 : Mem) (x4 x5 : Option Value), TB I1 own (l + 2) → FO I I1 → q_w yX3_reckon.cls yX3_reckon.name cX3_reckon 6 .return_ 4 (fun st I1 J1 => st = [] ∧ ((none : Option Value) = none ∧ J1 = J ∧ TB I1 own (n + 1) ∧ FO I I1)) 88 [some (.ref 57), some (.int (nI n)), some (.int (zB own)), some (.int (nI (l + 1))), x4, x5] [] (I1) (J)) : ∀ (r t : Nat) (I1 : Mem) (x5 : Option Value), 10 - t = r → t ≤ 10 → TB I1 own (l + 1) → (∀ s, s < t → I1 (59 + (l + 1)) s = nI (bm own (l + 1) s)) → FO I I1 → q_w yX3_reckon.cls yX3_reckon.name cX3_reckon 6 .return_ 4 (fun st I1 J1 => st = [] ∧ ((none : Option Value) = none ∧ J1 = J ∧ TB I1 own (n + 1) ∧ FO I I1)) 48 [some (.ref 57), some (.int (nI n)), some (.int (zB own)), some (.int (nI (l + 1))), some (.int (nI t)), x5] [] (I1) (J) := by
  intro r
  induction r with
  | zero =>
    intro t I1 x5 hr ht hT hR hO
    obtain rfl : t = 10 := by omega
    refine w_iload dX3_reckon_48 rfl ?_
    refine w_bipush (v := 9) dX3_reckon_50 (by decide) ?_
    refine w_icmp_gt (tgt := 88) dX3_reckon_52 (by decide) (fun c_52 => ?_) (fun c_52 => absurd (show (9 : Int32) < nI 10 by decide) c_52)
    refine K I1 _ _ (fun k hk s hs => ?_) hO
    rcases Nat.lt_or_ge k (l + 1) with q | q
    · exact hT k q s hs
    · rw [show k = l + 1 by omega]; exact hR s (by omega)
  | succ r ih =>
    intro t I1 x5 hr ht hT hR hO
    have ht10 : t < 10 := by omega
    have hb := bcut_le (bm own l) t
    have hfb := c_X3_firstBestCut (J := J) hT (by omega) ht10
    have hwo := c_X3_worth (J := J) hT (by omega) ht10 hb.1
    refine w_iload dX3_reckon_48 rfl ?_
    refine w_bipush (v := 9) dX3_reckon_50 (by decide) ?_
    refine w_icmp_gt (tgt := 88) dX3_reckon_52 (by decide) (fun c_52 => absurd c_52 (nI_nlt (b := t) (a := 9) (by omega) (by decide))) (fun c_52 => ?_)
    refine w_aload_n dX3_reckon_55 rfl ?_
    refine w_iload_n dX3_reckon_56 rfl ?_
    refine w_iload dX3_reckon_57 rfl ?_
    refine w_callVi dX3_reckon_59 k_X3_16 (by first | assumption | rfl) rfl (hfb) rfl rfl rfl (Nat.le_of_ble_eq_true rfl) (by first | decide | omega) ?_
    refine w_istore dX3_reckon_62 (by decide) rfl ?_
    refine w_aload_n dX3_reckon_64 rfl ?_
    refine w_getR dX3_reckon_65 f_X3_11 (by first | assumption | rfl) rfl rfl ?_
    refine w_iload_n dX3_reckon_68 rfl ?_
    refine w_aald (j := (l + 1)) dX3_reckon_69 (by first | assumption | rfl) rfl (by decide) rfl (show l + 1 < 5 by omega) (by decide) (mo_r (l + 1) (by omega)) ?_
    refine w_iload dX3_reckon_70 rfl ?_
    refine w_aload_n dX3_reckon_72 rfl ?_
    refine w_iload_n dX3_reckon_73 rfl ?_
    refine w_iload dX3_reckon_74 rfl ?_
    refine w_iload dX3_reckon_76 rfl ?_
    refine w_callVi dX3_reckon_78 k_X3_20 (by first | assumption | rfl) rfl (hwo) rfl rfl rfl (Nat.le_of_ble_eq_true rfl) (by first | decide | omega) ?_
    refine w_iast (j := t) dX3_reckon_81 (mo_s (l + 1) (by omega)) rfl rfl ht10 (by decide) ?_
    refine w_iincv (c := 1) dX3_reckon_82 (by decide) rfl (by decide) rfl ?_
    refine w_goto (tgt := 48) dX3_reckon_85 (by decide) ?_
    rw [nI_1]
    refine ih (t + 1) _ _ (by omega) (by omega) (fun k hk s hs => ?_) (fun s hs => ?_) (hO.up (by omega))
    · rw [upI_ne (by omega)]; exact hT k hk s hs
    · rcases Nat.lt_or_ge s t with q | q
      · rw [upI_tf (by omega)]; exact hR s q
      · rw [show s = t by omega, upI_tt]; rfl
set_option maxHeartbeats 4000000 in
set_option maxRecDepth 100000 in
theorem l_X3_reckon_b {I : Mem} {J : Lng} {own : Bool} {n : Nat} (hn : n < 5) : ∀ (r l : Nat) (I1 : Mem) (x4 x5 : Option Value), n - l = r → l ≤ n → TB I1 own (l + 1) → FO I I1 → q_w yX3_reckon.cls yX3_reckon.name cX3_reckon 6 .return_ 4 (fun st I1 J1 => st = [] ∧ ((none : Option Value) = none ∧ J1 = J ∧ TB I1 own (n + 1) ∧ FO I I1)) 35 [some (.ref 57), some (.int (nI n)), some (.int (zB own)), some (.int (nI (l + 1))), x4, x5] [] (I1) (J) := by
  intro r
  induction r with
  | zero =>
    intro l I1 x4 x5 hr hl hT hO
    obtain rfl : l = n := by omega
    refine w_iload_n dX3_reckon_35 rfl ?_
    refine w_iload_n dX3_reckon_36 rfl ?_
    refine w_icmp_gt (tgt := 94) dX3_reckon_37 (by decide) (fun c_37 => ?_) (fun c_37 => absurd (nI_lt (by omega) (by omega)) c_37)
    exact w_ret dX3_reckon_94 ⟨rfl, rfl, rfl, hT, hO⟩
  | succ r ih =>
    intro l I1 x4 x5 hr hl hT hO
    have hln : l < n := by omega
    refine w_iload_n dX3_reckon_35 rfl ?_
    refine w_iload_n dX3_reckon_36 rfl ?_
    refine w_icmp_gt (tgt := 94) dX3_reckon_37 (by decide) (fun c_37 => absurd c_37 (nI_nlt (by omega) (by omega))) (fun c_37 => ?_)
    refine w_iload_n dX3_reckon_40 rfl ?_
    refine w_iconst (v := 4) dX3_reckon_41 (by decide) ?_
    refine w_icmp_gt (tgt := 94) dX3_reckon_42 (by decide) (fun c_42 => absurd c_42 (nI_nlt (b := l + 1) (a := 4) (by omega) (by decide))) (fun c_42 => ?_)
    refine w_iconst (v := 0) dX3_reckon_45 (by decide) ?_
    refine w_istore dX3_reckon_46 (by decide) rfl ?_
    refine l_X3_reckon_c hn (l := l) (by omega) none (fun I1 x4 x5 hT hO => ?_) 10 0 I1 _ rfl (by decide) hT (fun s hs => absurd hs (Nat.not_lt_zero s)) hO
    refine w_iincv (c := 1) dX3_reckon_88 (by decide) rfl (by decide) rfl ?_
    refine w_goto (tgt := 35) dX3_reckon_91 (by decide) ?_
    rw [nI_1]
    exact ih (l + 1) I1 _ _ (by omega) (by omega) hT hO
set_option maxHeartbeats 4000000 in
set_option maxRecDepth 100000 in
theorem l_X3_reckon_a {I : Mem} {J : Lng} {own : Bool} {n : Nat} (hn : n < 5) : ∀ (r t : Nat) (I1 : Mem) (x4 x5 : Option Value), 10 - t = r → t ≤ 10 → (∀ s, s < t → I1 59 s = nI (bm own 0 s)) → FO I I1 → q_w yX3_reckon.cls yX3_reckon.name cX3_reckon 6 .return_ 4 (fun st I1 J1 => st = [] ∧ ((none : Option Value) = none ∧ J1 = J ∧ TB I1 own (n + 1) ∧ FO I I1)) 2 [some (.ref 57), some (.int (nI n)), some (.int (zB own)), some (.int (nI t)), x4, x5] [] (I1) (J) := by
  intro r
  induction r with
  | zero =>
    intro t I1 x4 x5 hr ht hR hO
    obtain rfl : t = 10 := by omega
    refine w_iload_n dX3_reckon_2 rfl ?_
    refine w_bipush (v := 9) dX3_reckon_3 (by decide) ?_
    refine w_icmp_gt (tgt := 33) dX3_reckon_5 (by decide) (fun c_5 => ?_) (fun c_5 => absurd (show (9 : Int32) < nI 10 by decide) c_5)
    refine w_iconst (v := 1) dX3_reckon_33 (by decide) ?_
    refine w_istore_n dX3_reckon_34 (by decide) rfl ?_
    refine l_X3_reckon_b hn n 0 I1 _ _ rfl (Nat.zero_le _) (fun k hk s hs => ?_) hO
    rw [show k = 0 by omega]; exact hR s (by omega)
  | succ r ih =>
    intro t I1 x4 x5 hr ht hR hO
    have ht10 : t < 10 := by omega
    refine w_iload_n dX3_reckon_2 rfl ?_
    refine w_bipush (v := 9) dX3_reckon_3 (by decide) ?_
    refine w_icmp_gt (tgt := 33) dX3_reckon_5 (by decide) (fun c_5 => absurd c_5 (nI_nlt (b := t) (a := 9) (by omega) (by decide))) (fun c_5 => ?_)
    refine w_aload_n dX3_reckon_8 rfl ?_
    refine w_getR dX3_reckon_9 f_X3_11 (by first | assumption | rfl) rfl rfl ?_
    refine w_iconst (v := 0) dX3_reckon_12 (by decide) ?_
    refine w_aald (j := 0) dX3_reckon_13 (by first | assumption | rfl) rfl (by decide) rfl (by decide) (by decide) rfl ?_
    refine w_iload_n dX3_reckon_14 rfl ?_
    refine w_iload_n dX3_reckon_15 rfl ?_
    refine w_if_eq (tgt := 25) dX3_reckon_16 (by decide) (fun c_16 => ?_) (fun c_16 => ?_)
    · refine w_iconst (v := 0) dX3_reckon_25 (by decide) ?_
      refine w_iast (j := t) dX3_reckon_26 (by first | assumption | rfl) rfl rfl ht10 (by decide) ?_
      refine w_iincv (c := 1) dX3_reckon_27 (by decide) rfl (by decide) rfl ?_
      refine w_goto (tgt := 2) dX3_reckon_30 (by decide) ?_
      rw [nI_1]
      refine ih (t + 1) _ _ _ (by omega) (by omega) (fun s hs => ?_) (FO.up (l := 0) hO (by decide))
      rcases Nat.lt_or_ge s t with q | q
      · rw [upI_tf (by omega)]; exact hR s q
      · rw [show s = t by omega, upI_tt]; rw [show own = false from zB_eq0.mp c_16]; rfl
    · refine w_iconst (v := 2) dX3_reckon_19 (by decide) ?_
      refine w_iload_n dX3_reckon_20 rfl ?_
      refine w_imul dX3_reckon_21 ?_
      refine w_goto (tgt := 26) dX3_reckon_22 (by decide) ?_
      refine w_iast (j := t) dX3_reckon_26 (by first | assumption | rfl) rfl rfl ht10 (by decide) ?_
      refine w_iincv (c := 1) dX3_reckon_27 (by decide) rfl (by decide) rfl ?_
      refine w_goto (tgt := 2) dX3_reckon_30 (by decide) ?_
      rw [nI_1]
      refine ih (t + 1) _ _ _ (by omega) (by omega) (fun s hs => ?_) (FO.up (l := 0) hO (by decide))
      rcases Nat.lt_or_ge s t with q | q
      · rw [upI_tf (by omega)]; exact hR s q
      · rw [show s = t by omega, upI_tt]; rw [show own = true by simpa [zB_eq0] using c_16]; exact pk_mul 2 t
set_option maxHeartbeats 4000000 in
set_option maxRecDepth 100000 in
theorem c_X3_reckon {I : Mem} {J : Lng} {own : Bool} {n : Nat} (hn : n < 5) : q_F yX3_reckon cX3_reckon 6 none 4 [.ref 57, .int (nI n), .int (zB own)] I J (fun r I1 J1 => r = none ∧ J1 = J ∧ TB I1 own (n + 1) ∧ FO I I1) := by
  refine q_Fv me_X3_reckon rfl (Nat.le_of_ble_eq_true rfl) ?_
  show q_w _ _ _ _ _ _ _ 0 [some (.ref 57), some (.int (nI n)), some (.int (zB own)), none, none, none] [] I J
  refine w_iconst (v := 0) dX3_reckon_0 (by decide) ?_
  refine w_istore_n dX3_reckon_1 (by decide) rfl ?_
  exact l_X3_reckon_a hn 10 0 I _ _ rfl (by decide) (fun s hs => absurd hs (Nat.not_lt_zero s)) FO.rf
set_option maxHeartbeats 4000000 in
set_option maxRecDepth 100000 in
theorem l_X3_firstRow {I : Mem} {J : Lng} {own : Bool} {n t R : Nat} (hT : TB I own (n + 1)) (hn : n < 5) : ∀ (l f s : Nat) (x6 : Option Value), l ≤ n → s < 10 → brow own l f s = R → q_w yX3_firstRow.cls yX3_firstRow.name cX3_firstRow 7 .ireturn 4 (fun st I1 J1 => st = [.int (nI R)] ∧ I1 = I ∧ J1 = J) 12 [some (.ref 57), some (.int (nI n)), some (.int (nI t)), some (.int (nI f)), some (.int (nI s)), some (.int (nI l)), x6] [] (I) (J) := by
  intro l
  induction l with
  | zero =>
    intro f s x6 hl hs hZ
    refine w_iload dX3_firstRow_12 rfl ?_
    refine w_if_le (tgt := 51) dX3_firstRow_14 (by decide) (fun c_14 => ?_) (fun c_14 => absurd (show nI 0 ≤ (0 : Int32) by decide) c_14)
    refine w_iload_n dX3_firstRow_51 rfl ?_
    exact w_ret dX3_firstRow_52 ⟨by rw [← hZ]; rfl, rfl, rfl⟩
  | succ l ih =>
    intro f s x6 hl hs hZ
    have hb := bcut_le (bm own l) s
    have hT2 : TB I own (l + 1) := fun k hk => hT k (by omega)
    refine w_iload dX3_firstRow_12 rfl ?_
    refine w_if_le (tgt := 51) dX3_firstRow_14 (by decide) (fun c_14 => absurd c_14 (nI_nle (by omega) (by omega))) (fun c_14 => ?_)
    refine w_aload_n dX3_firstRow_17 rfl ?_
    refine w_iload dX3_firstRow_18 rfl ?_
    refine w_iload dX3_firstRow_20 rfl ?_
    refine w_callVi dX3_firstRow_22 k_X3_16 (by first | assumption | rfl) rfl (c_X3_firstBestCut hT2 (by omega) hs) rfl rfl rfl (Nat.le_of_ble_eq_true rfl) (by first | decide | omega) ?_
    refine w_istore dX3_firstRow_25 (by decide) rfl ?_
    refine w_iload_n dX3_firstRow_27 rfl ?_
    refine w_bipush (v := 10) dX3_firstRow_28 (by decide) ?_
    refine w_imul dX3_firstRow_30 ?_
    refine w_iload dX3_firstRow_31 rfl ?_
    refine w_iadd dX3_firstRow_33 ?_
    rw [show nI f * 10 = nI (f * 10) from pk_mul f 10, nI_add]
    refine w_istore_n dX3_firstRow_34 (by decide) rfl ?_
    refine w_iload dX3_firstRow_35 rfl ?_
    refine w_iload dX3_firstRow_37 rfl ?_
    refine w_isub dX3_firstRow_39 ?_
    rw [pk_sub hb.1]
    refine w_callSi dX3_firstRow_40 k_X3_29 (c_X3_grown (by omega)) rfl rfl rfl (Nat.le_of_ble_eq_true rfl) (by first | decide | omega) ?_
    refine w_istore dX3_firstRow_43 (by decide) rfl ?_
    refine w_iincv (c := (-1)) dX3_firstRow_45 (by decide) rfl (by decide) rfl ?_
    refine w_goto (tgt := 12) dX3_firstRow_48 (by decide) ?_
    rw [pk_m1]
    exact ih _ _ _ (by omega) (by have := gr_9 (s - bcut (bm own l) s); omega) hZ
set_option maxHeartbeats 4000000 in
set_option maxRecDepth 100000 in
theorem c_X3_firstRow {I : Mem} {J : Lng} {own : Bool} {n t : Nat} (hT : TB I own (n + 1)) (hn : n < 5) (ht : t < 10) : q_E yX3_firstRow cX3_firstRow 7 (some .int) 4 [.ref 57, .int (nI n), .int (nI t)] I J (some (.int (nI (brow own n 1 t)))) (I) (J) := by
  refine q_Ei me_X3_firstRow rfl (Nat.le_of_ble_eq_true rfl) ?_
  show q_w _ _ _ _ _ _ _ 0 [some (.ref 57), some (.int (nI n)), some (.int (nI t)), none, none, none, none] [] I J
  refine w_iconst (v := 1) dX3_firstRow_0 (by decide) ?_
  refine w_istore_n dX3_firstRow_1 (by decide) rfl ?_
  refine w_iload_n dX3_firstRow_2 rfl ?_
  refine w_istore dX3_firstRow_3 (by decide) rfl ?_
  refine w_iload_n dX3_firstRow_5 rfl ?_
  refine w_iconst (v := 4) dX3_firstRow_6 (by decide) ?_
  refine w_min dX3_firstRow_7 k_X3_24 kM_min_s kM_i kM_min_c (Nat.le_of_ble_eq_true rfl) (by decide) ?_
  rw [if_neg (show ¬ (4 : Int32) < nI n from nI_nlt (b := n) (a := 4) (by omega) (by decide))]
  refine w_istore dX3_firstRow_10 (by decide) rfl ?_
  exact l_X3_firstRow hT hn n 1 t _ (Nat.le_refl _) ht rfl
