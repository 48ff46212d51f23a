/-! the land that is made anew -/
theorem zff_congr {tx tx' : Nat → Int32} {n : Nat} : ∀ r k, (∀ j, k ≤ j → j < k + r → tx' j = tx j) → zff tx' n r k = zff tx n r k
  | 0, _, _ => rfl
  | r + 1, k, h => by
    unfold zff
    rw [h k (Nat.le_refl _) (by omega), zff_congr r (k + 1) (fun j h1 h2 => h j (by omega) (by omega))]
theorem zf_0 {tx : Nat → Int32} {n : Nat} : zf tx n 0 = zff tx n n 0 := rfl
theorem zff_all {tx : Nat → Int32} {n : Nat} (hn : n ≤ 40) : ∀ r k, k + r = n → zff tx n r k = -9 → (3 ≤ n ∧ (n - 3) % 4 = 0) ∧ ∀ j, k ≤ j → j < n → zms j (tx j) = true
  | 0, k, hk, h => by
    unfold zff at h
    split at h
    · rename_i hh
      exact ⟨hh, fun j h1 h2 => by omega⟩
    · exact absurd h (nI_ne9 (by omega))
  | r + 1, k, hk, h => by
    unfold zff at h
    split at h
    · rename_i hh
      obtain ⟨h1, h2⟩ := zff_all hn r (k + 1) (by omega) h
      refine ⟨h1, fun j q1 q2 => ?_⟩
      rcases (show j = k ∨ k + 1 ≤ j by omega) with e | e
      · rw [e]; exact hh
      · exact h2 j e q2
    · exact absurd h (nI_ne9 (by omega))
theorem zff_k {tx : Nat → Int32} {n : Nat} (hn : n ≤ 40) (h : zff tx n n 0 = -9) : ∃ k, k ≤ 7 ∧ n = 4 * k + 3 ∧ ∀ j, j < n → zms j (tx j) = true := by
  obtain ⟨⟨h1, h2⟩, h3⟩ := zff_all hn n 0 (by omega) h
  refine ⟨(n - 3) / 4, ?_, by omega, fun j hj => h3 j (Nat.zero_le _) hj⟩
  rcases Nat.lt_or_ge 7 ((n - 3) / 4) with q | q
  · have := h3 31 (by omega) (by omega)
    rw [show (31 : Nat) = 4 * 7 + 3 from rfl, zms_7 (Nat.le_refl _)] at this
    cases this
  · exact q
theorem dig {tx : Nat → Int32} {n p g : Nat} (hT : TX tx n) (hp : p < n) (hg : g < 10) (hz : zfig (tx p) (nI g) = true) : ∃ d, d ≤ g ∧ tx p - 48 = nI d := by
  obtain ⟨b, hb, e⟩ := hT p hp
  have hf := fig_eq b hb g hg
  rw [← e, hz] at hf
  cases hq : pin (tx p - 48) (g + 1) with
  | none => rw [hq] at hf; cases hf
  | some d =>
    obtain ⟨h1, h2⟩ := pin_some (by omega) hq
    exact ⟨d, by omega, h2⟩
/-- the class's page, after p people -/
def cpg (tx f : Nat → Int32) : Nat → (Nat → Int32)
  | 0 => upd (upd (pclr f) 2 (tx 1 - 48)) 3 (tx 2 - 48)
  | p + 1 => pgain (cpg tx f p) p (if p = 0 then -9 else tx (4 * p + 4) - 48) (decide (tx (4 * p + 5) - 48 = 1)) (tx (4 * p + 6) - 48)
theorem zmk_cpg (I : Mem) : ∀ k, k ≤ 7 → lnd (zmk I k) 3 = cpg (I 2) (lnd I 3) k
  | 0, _ => by
    unfold zmk cpg
    rw [lnd_f (f := 7) (k := 3) (by omega), lnd_f (f := 6) (k := 2) (by omega), zclr_l]
  | k + 1, hk => by
    unfold zmk cpg
    rw [zgain_l (by omega), zmk_cpg I k (by omega)]
theorem zland_3 (I : Mem) {k : Nat} (hk : k ≤ 7) : lnd (zland I k) 3 = upd (cpg (I 2) (lnd I 3) k) 1 (if k = 0 then -9 else 0) := by
  unfold zland
  rw [lnd_ne (I' := upI _ 54 1 0) (upI_ne (by decide)) (upI_ne (by decide)) (upI_ne (by decide)), lnd_ne (I' := upI _ 54 0 0) (upI_ne (by decide)) (upI_ne (by decide)) (upI_ne (by decide)), lnd_ne (I' := upI _ 9 2 0) (upI_ne (by decide)) (upI_ne (by decide)) (upI_ne (by decide)), lnd_ne (I' := upI _ 9 1 0) (upI_ne (by decide)) (upI_ne (by decide)) (upI_ne (by decide))]
  unfold zmkF
  rw [lnd_f (f := 5) (k := 1) (by omega), zmk_cpg I k hk]
theorem zland_o (I : Mem) (k : Nat) {p : Nat} (h : p ≠ 3 ∧ p ≠ 4 ∧ p ≠ 5 ∧ p ≠ 9 ∧ p ≠ 54) : zland I k p = I p := by
  unfold zland
  rw [upI_ne h.2.2.2.2, upI_ne h.2.2.2.2, upI_ne h.2.2.2.1, upI_ne h.2.2.2.1]
  unfold zmkF
  rw [upI_ne h.1]
  exact zmk_o I k p h.1 h.2.1 h.2.2.1
section
variable {tx : Nat → Int32} {k : Nat}
theorem m_top : ∀ p, p < 7 → mset (2 ^ p - 1) p = 2 ^ (p + 1) - 1 := by decide
theorem cpg_ok {f : Nat → Int32} (hk : k ≤ 7) (hT : TX tx (4 * k + 3)) (hz : ∀ j, j < 4 * k + 3 → zms j (tx j) = true) : ∀ p, p ≤ k → PW (cpg tx f p) p (2 ^ p - 1) ∧ PA 0 (cpg tx f p) p ∧ cpg tx f p 1 = -9
  | 0, _ => by
    obtain ⟨d1, g1, e1⟩ := dig (g := 3) hT (show 1 < 4 * k + 3 by omega) (by decide) (by rw [← zms_b]; exact hz 1 (by omega))
    obtain ⟨d2, g2, e2⟩ := dig (g := 9) hT (show 2 < 4 * k + 3 by omega) (by decide) (by rw [← zms_c]; exact hz 2 (by omega))
    refine ⟨⟨rfl, by decide, rfl, by decide, fun j hj => absurd hj (by omega), Or.inl rfl, ⟨d1, by omega, e1⟩, ⟨d2, by omega, e2⟩, ⟨0, by decide, rfl⟩, ⟨0, by decide, rfl⟩⟩, fun j hj => absurd hj (by omega), rfl⟩
  | p + 1, hp => by
    obtain ⟨h1, h2, h3⟩ := cpg_ok hk hT hz p (by omega)
    have hp7 : p < 7 := by omega
    obtain ⟨d1, g1, e1⟩ := dig (g := p - 1) hT (show 4 * p + 4 < 4 * k + 3 by omega) (by omega) (by rw [← zms_1 hp7]; exact hz _ (by omega))
    obtain ⟨d3, g3, e3⟩ := dig (g := 9) hT (show 4 * p + 6 < 4 * k + 3 by omega) (by decide) (by rw [← zms_3 hp7]; exact hz _ (by omega))
    unfold cpg
    refine ⟨?_, h2.gain hp7 (by omega) e3, by rw [pgain_lo (by decide) (by decide)]; exact h3⟩
    rw [← m_top p hp7]
    refine h1.gain hp7 ?_
    by_cases e : p = 0
    · exact Or.inl (if_pos e)
    · rw [if_neg e]; exact Or.inr ⟨d1, by omega, e1⟩
theorem cpg_lo {f : Nat → Int32} {i : Nat} (h0 : i ≠ 0) (h6 : i < 6) : ∀ p, cpg tx f p i = cpg tx f 0 i
  | 0 => rfl
  | p + 1 => by
    show pgain _ _ _ _ _ i = _
    rw [pgain_lo h0 h6, cpg_lo h0 h6 p]
theorem cpg_p {f : Nat → Int32} : ∀ p, p ≤ 7 → ∀ i, i < p → cpg tx f p (7 + i) = (if i = 0 then -9 else tx (4 * i + 4) - 48) ∧ cpg tx f p (15 + i) = tx (4 * i + 6) - 48
  | 0, _, i, hi => by omega
  | p + 1, hp, i, hi => by
    unfold cpg
    rw [pgain_p (by omega) (by omega), pgain_a (by omega) (by omega)]
    by_cases e : i = p
    · rw [if_pos e, if_pos e, e]; exact ⟨rfl, rfl⟩
    · rw [if_neg e, if_neg e]; exact cpg_p p (by omega) i (by omega)
theorem mlp_p {g : Nat → Int32} : ∀ p, p ≤ 7 → ∀ i, i < p → mlp tx g p (7 + i) = (if i = 0 then -9 else tx (4 * i + 4) - 48) ∧ mlp tx g p (15 + i) = tx (4 * i + 6) - 48
  | 0, _, i, hi => by omega
  | p + 1, hp, i, hi => by
    unfold mlp
    by_cases e : i = p
    · subst e
      rw [upd_n (show 7 + i ≠ 15 + i by omega), upd_n (show 7 + i ≠ 14 by omega), upd_s, upd_s]; exact ⟨rfl, rfl⟩
    · rw [upd_n (show 7 + i ≠ 15 + p by omega), upd_n (show 7 + i ≠ 14 by omega), upd_n (show 7 + i ≠ 7 + p by omega), upd_n (show 15 + i ≠ 15 + p by omega), upd_n (show 15 + i ≠ 14 by omega), upd_n (show 15 + i ≠ 7 + p by omega)]
      exact mlp_p p (by omega) i (by omega)
theorem women_eq {f g : Nat → Int32} (hk : k ≤ 7) (hT : TX tx (4 * k + 3)) (hz : ∀ j, j < 4 * k + 3 → zms j (tx j) = true) (h0 : g 14 = 0) : ∀ p, p ≤ k → mlp tx g p 14 = cpg tx f p 14
  | 0, _ => h0.trans rfl
  | p + 1, hp => by
    have hp7 : p < 7 := by omega
    obtain ⟨d, hd, e⟩ := dig (g := 1) hT (show 4 * p + 5 < 4 * k + 3 by omega) (by decide) (by rw [← zms_2 hp7]; exact hz _ (by omega))
    have ih := women_eq (f := f) hk hT hz h0 p (by omega)
    unfold mlp cpg
    rw [upd_n (show 14 ≠ 15 + p by omega), upd_s, pgain_14, ih, e, shl_b d (by omega) p hp7]
    have : decide (nI d = 1) = decide (d = 1) := by
      rcases (show d = 0 ∨ d = 1 by omega) with rfl | rfl <;> decide
    rw [this]
theorem cpg_0 {f : Nat → Int32} : cpg tx f 0 2 = tx 1 - 48 ∧ cpg tx f 0 3 = tx 2 - 48 ∧ cpg tx f 0 4 = 0 ∧ cpg tx f 0 5 = 0 := ⟨rfl, rfl, rfl, rfl⟩
theorem land_rel {tx' f f' : Nat → Int32} (T : Nat) (hk : k ≤ 7) (hT : TX tx (4 * k + 3)) (hz : ∀ j, j < 4 * k + 3 → zms j (tx j) = true) (ht : ∀ j, j < 4 * k + 3 → tx' j = tx j) : PgR T (upd (cpg tx f k) 1 (if k = 0 then -9 else 0)) (mlp tx' (mg0 tx' k f') k) := by
  obtain ⟨h1, h2, h3⟩ := cpg_ok (f := f) hk hT hz k (Nat.le_refl _)
  have hm : ∀ p, p ≤ k → mlp tx' (mg0 tx' k f') p = mlp tx (mg0 tx k f') p := by
    intro p
    induction p with
    | zero =>
      intro _
      show mg0 tx' k f' = mg0 tx k f'
      unfold mg0
      rw [ht 1 (by omega), ht 2 (by omega)]
    | succ p ih =>
      intro hp
      unfold mlp
      rw [ih (by omega), ht (4 * p + 4) (by omega), ht (4 * p + 5) (by omega), ht (4 * p + 6) (by omega)]
  rw [hm k (Nat.le_refl _)]
  have hb0 : ∀ k, 0 < k → k ≤ 7 → (2 ^ k - 1).testBit 0 = true := by
    intro k q1 q2
    rcases (show k = 1 ∨ k = 2 ∨ k = 3 ∨ k = 4 ∨ k = 5 ∨ k = 6 ∨ k = 7 by omega) with rfl | rfl | rfl | rfl | rfl | rfl | rfl <;> decide
  refine ⟨k, 2 ^ k - 1, ?_, (h2.mono (Nat.zero_le _)).up (by decide), ⟨fun i hi => ?_, ?_, fun p hp => ?_⟩⟩
  · by_cases e : k = 0
    · rw [if_pos e]
      rw [show upd (cpg tx f k) 1 (-9) = cpg tx f k from upd_id h3]; exact h1
    · rw [if_neg e]; exact h1.holder0 (by omega) (hb0 k (by omega) hk)
  · rw [mlp_lo (by omega)]
    have g : ∀ i, mg0 tx k f' i = if i = 6 then nI k else if i = 3 then tx 2 - 48 else if i = 2 then tx 1 - 48 else if i = 1 then (if k = 0 then -9 else 0) else if i = 0 then nI (2 ^ k - 1) else fil f' 0 22 i := fun i => rfl
    rw [g]
    obtain ⟨c2, c3, c4, c5⟩ := cpg_0 (tx := tx) (f := f)
    rcases (show i = 0 ∨ i = 1 ∨ i = 2 ∨ i = 3 ∨ i = 4 ∨ i = 5 ∨ i = 6 by omega) with rfl | rfl | rfl | rfl | rfl | rfl | rfl
    · exact h1.2.2.1.symm
    · rfl
    · show tx 1 - 48 = cpg tx f k 2
      rw [cpg_lo (by decide) (by decide)]; exact c2.symm
    · show tx 2 - 48 = cpg tx f k 3
      rw [cpg_lo (by decide) (by decide)]; exact c3.symm
    · show (0 : Int32) = cpg tx f k 4
      rw [cpg_lo (by decide) (by decide)]; exact c4.symm
    · show (0 : Int32) = cpg tx f k 5
      rw [cpg_lo (by decide) (by decide)]; exact c5.symm
    · exact h1.1.symm
  · rw [upd_n (by decide)]
    exact women_eq hk hT hz rfl k (Nat.le_refl _)
  · rw [upd_n (by omega), upd_n (by omega), (mlp_p k hk p hp).1, (mlp_p k hk p hp).2, (cpg_p k hk p hp).1, (cpg_p k hk p hp).2]
    exact ⟨rfl, rfl⟩
end
