/-! heirs over a family as functions; they depend on the people that are there alone -/
abbrev sfd (n : Nat) (pr : Nat → Int32) (w : Nat → Bool) (ag : Nat → Int32) (tie : Int32) := fdl (fun q => fkm pr (nI q) n) (fun p => decide (tie = 0) && w p) (fah w ag tie)
def she (n : Nat) (pr : Nat → Int32) (w : Nat → Bool) (ag : Nat → Int32) (tie : Int32) (j : Nat) : List Nat × Nat := fup pr (sfd n pr w ag tie 7) 7 ((ford (fah w ag tie) 7 (fkm pr (nI j) n)).foldl (sfd n pr w ag tie 7) ([], 2 ^ j)) (pr j)
theorem fhe_she (I : Mem) (t n : Nat) (tie : Int32) (j : Nat) : fhe I t n tie j = she n (I (t + 1)) (wI I t) (I (t + 2)) tie j := rfl
theorem fkm_congr {pr pr' : Nat → Int32} {q : Int32} : ∀ {n : Nat}, (∀ k, k < n → pr k = pr' k) → fkm pr q n = fkm pr' q n
  | 0, _ => rfl
  | n + 1, h => by
    unfold fkm
    rw [fkm_congr (fun k hk => h k (by omega)), h n (by omega)]
theorem fah_congr {w w' : Nat → Bool} {ag ag' : Nat → Int32} {tie : Int32} {k j : Nat} (h1 : w k = w' k) (h2 : w j = w' j) (h3 : ag k = ag' k) (h4 : ag j = ag' j) : fah w ag tie k j = fah w' ag' tie k j := by
  unfold fah; rw [h1, h2, h3, h4]
theorem fpick_congr {ah ah' : Nat → Nat → Bool} {m : Nat} : ∀ {k : Nat}, (∀ i j, i < k → j < k → m.testBit i = true → m.testBit j = true → ah i j = ah' i j) → fpick ah m k = fpick ah' m k
  | 0, _ => rfl
  | k + 1, h => by
    have ih := fpick_congr (ah := ah) (ah' := ah') (m := m) (k := k) (fun i j hi hj => h i j (by omega) (by omega))
    unfold fpick
    rw [ih]
    cases hf : fpick ah' m k with
    | none => rfl
    | some f =>
      obtain ⟨h1, h2⟩ := fpick_in hf
      dsimp only
      cases hb : m.testBit k with
      | false => rfl
      | true => rw [h k f (by omega) (by omega) hb h2]
theorem ford_congr {ah ah' : Nat → Nat → Bool} : ∀ {f m : Nat}, m < 128 → (∀ i j, i < 7 → j < 7 → m.testBit i = true → m.testBit j = true → ah i j = ah' i j) → ford ah f m = ford ah' f m
  | 0, _, _, _ => rfl
  | f + 1, m, hm, h => by
    unfold ford
    rw [fpick_congr h]
    cases hp : fpick ah' m 7 with
    | none => rfl
    | some c =>
      dsimp only
      obtain ⟨hc, hcb⟩ := fpick_in hp
      have e := ford_congr (ah := ah) (ah' := ah') (f := f) (mclr_lt m hm c hc) (fun i j hi hj bi bj => by
        rw [mclr_bit m hm c hc i hi] at bi
        rw [mclr_bit m hm c hc j hj] at bj
        simp only [Bool.and_eq_true] at bi bj
        exact h i j hi hj bi.1 bj.1)
      rw [e]
theorem foldl_congr {α β : Type} {g g' : α → β → α} : ∀ {l : List β} {a : α}, (∀ a x, x ∈ l → g a x = g' a x) → l.foldl g a = l.foldl g' a
  | [], _, _ => rfl
  | x :: l, a, h => by
    rw [List.foldl_cons, List.foldl_cons, h a x List.mem_cons_self]
    exact foldl_congr (fun b y hy => h b y (List.mem_cons_of_mem _ hy))
section
variable {n : Nat} {pr pr' : Nat → Int32} {w w' : Nat → Bool} {ag ag' : Nat → Int32} {tie : Int32}
theorem fkm_lt' (hn : n ≤ 7) (q : Int32) : fkm pr q n < 128 := Nat.lt_of_lt_of_le (fkm_lt _ _ _) (by have := Nat.pow_le_pow_right (show 0 < 2 by decide) hn; omega)
theorem fkm_in {q : Int32} {c : Nat} (h : (fkm pr q n).testBit c = true) : c < n ∧ pr c = q := by
  rw [fkm_bit] at h
  simpa using h
theorem sord_congr (hn : n ≤ 7) (h2 : ∀ k, k < n → w k = w' k) (h3 : ∀ k, k < n → ag k = ag' k) (q : Int32) : ford (fah w ag tie) 7 (fkm pr q n) = ford (fah w' ag' tie) 7 (fkm pr q n) :=
  ford_congr (fkm_lt' hn q) (fun i j _ _ bi bj => fah_congr (h2 i (fkm_in bi).1) (h2 j (fkm_in bj).1) (h3 i (fkm_in bi).1) (h3 j (fkm_in bj).1))
theorem sfd_congr (hn : n ≤ 7) (h1 : ∀ k, k < n → pr k = pr' k) (h2 : ∀ k, k < n → w k = w' k) (h3 : ∀ k, k < n → ag k = ag' k) : ∀ (f : Nat) (st : List Nat × Nat) (j : Nat), j < n → sfd n pr w ag tie f st j = sfd n pr' w' ag' tie f st j
  | 0, _, _, _ => rfl
  | f + 1, st, j, hj => by
    show (if (st.2.testBit j || (decide (tie = 0) && w j)) = true then st else (ford (fah w ag tie) 7 (fkm pr (nI j) n)).foldl (sfd n pr w ag tie f) (st.1 ++ [j], mset st.2 j)) = (if (st.2.testBit j || (decide (tie = 0) && w' j)) = true then st else (ford (fah w' ag' tie) 7 (fkm pr' (nI j) n)).foldl (sfd n pr' w' ag' tie f) (st.1 ++ [j], mset st.2 j))
    rw [h2 j hj, ← fkm_congr (q := nI j) h1, sord_congr hn h2 h3]
    congr 1
    exact foldl_congr (fun a x hx => sfd_congr hn h1 h2 h3 f a x (fkm_in (ford_in (fkm_lt' hn _) hx).2).1)
theorem fup_congr {g g' : (List Nat × Nat) → Nat → (List Nat × Nat)} (hn : n ≤ 7) (hv : FP n pr) (h1 : ∀ k, k < n → pr k = pr' k) (hg : ∀ st j, j < n → g st j = g' st j) : ∀ (r : Nat) (st : List Nat × Nat) (a : Int32), (a = -9 ∨ ∃ u, u < n ∧ a = nI u) → fup pr g r st a = fup pr' g' r st a
  | 0, _, _, _ => rfl
  | r + 1, st, a, ha => by
    unfold fup
    rcases ha with rfl | ⟨u, hu, rfl⟩
    · rw [if_pos rfl, if_pos rfl]
    · rw [if_neg (nI_ne9 (by omega)), if_neg (nI_ne9 (by omega)), nI_clamp (by omega), hg st u hu, ← h1 u hu]
      refine fup_congr hn hv h1 hg r _ _ ?_
      rcases hv u hu with e | ⟨z, hz, e⟩
      · exact Or.inl e
      · exact Or.inr ⟨z, by omega, e⟩
theorem she_congr (hn : n ≤ 7) (hv : FP n pr) (h1 : ∀ k, k < n → pr k = pr' k) (h2 : ∀ k, k < n → w k = w' k) (h3 : ∀ k, k < n → ag k = ag' k) {j : Nat} (hj : j < n) : she n pr w ag tie j = she n pr' w' ag' tie j := by
  unfold she
  rw [← fkm_congr (q := nI j) h1, sord_congr hn h2 h3, ← h1 j hj, foldl_congr (fun a x hx => sfd_congr hn h1 h2 h3 7 a x (fkm_in (ford_in (fkm_lt' hn _) hx).2).1)]
  refine fup_congr hn hv h1 (fun st x hx => sfd_congr hn h1 h2 h3 7 st x hx) 7 _ _ ?_
  rcases hv j hj with e | ⟨z, hz, e⟩
  · exact Or.inl e
  · exact Or.inr ⟨z, by omega, e⟩
end
/-! a page -/
def pw (a : Nat → Int32) (k : Nat) : Bool := zbit (a 14) (nI k)
def phe (a : Nat → Int32) (n : Nat) (tie : Int32) (j : Nat) : List Nat × Nat := she n (fun p => a (7 + p)) (pw a) (fun p => a (15 + p)) tie j
/-- the line of j -/
def pln (a : Nat → Int32) (n : Nat) (tie : Int32) (j : Nat) : List Nat := (sfd n (fun p => a (7 + p)) (pw a) (fun p => a (15 + p)) tie 7 ([], 0) j).1
def phr (a : Nat → Int32) (n : Nat) (tie : Int32) (j m : Nat) : Option Nat := (phe a n tie j).1.find? (fun x => m.testBit x)
theorem fhe_phe {I : Mem} {t n : Nat} {tie : Int32} {j : Nat} (hn : n ≤ 7) (hv : FP n (I (t + 1))) (hj : j < n) : fhe I t n tie j = phe (lnd I t) n tie j := by
  rw [fhe_she]
  exact she_congr hn hv (fun k hk => (lnd_par I t (by omega)).symm) (fun k _ => rfl) (fun k hk => (lnd_age I t (by omega)).symm) hj
theorem fdl_pln {I : Mem} {t n : Nat} {tie : Int32} {j : Nat} (hn : n ≤ 7) (hj : j < n) : (fd I t n tie 7 ([], 0) j).1 = pln (lnd I t) n tie j := by
  unfold pln
  exact congrArg Prod.fst (sfd_congr (pr' := fun p => lnd I t (7 + p)) (w' := pw (lnd I t)) (ag' := fun p => lnd I t (15 + p)) hn (fun k hk => (lnd_par I t (by omega)).symm) (fun k _ => rfl) (fun k hk => (lnd_age I t (by omega)).symm) 7 _ j hj)
/-- j dies -/
def pdie (a : Nat → Int32) (n m j : Nat) : Nat → Int32 := if a 1 = nI j then upd (upd (upd a 0 (nI (mclr m j))) 1 (oI (phr a n (a 2) j (mclr m j)))) 4 0 else upd a 0 (nI (mclr m j))
theorem zlose_l {I : Mem} {q t n m j : Nat} (hq : q ∈ q_kins) (ht : t ∈ q_lands) (hn : n ≤ 7) (hv : FP n (I (t + 1))) (hj : j < n) : lnd (zlose I q t n m j) t = pdie (lnd I t) n m j := by
  have h1 : lnd I t 1 = I t 5 := rfl
  have h2 : lnd I t 2 = I t 6 := rfl
  unfold zlose pdie
  rw [h1, h2]
  split
  · rw [lnd_f (f := 8) (k := 4) (by omega), lnd_f (f := 5) (k := 1) (by omega), lnd_ne (I' := kput _ _ _ _) (kput_t ht hq) (kput_t1 ht hq) (kput_t2 ht hq), lnd_f (f := 4) (k := 0) (by omega), fhe_phe hn hv hj]
    rfl
  · exact lnd_f (f := 4) (k := 0) (by omega)
/-- only a land and a kin have changed -/
def LK (t q : Nat) (I I' : Mem) : Prop := ∀ p, p ≠ t → p ≠ t + 1 → p ≠ t + 2 → p ≠ q → p ≠ q + 1 → I' p = I p
theorem zlose_o (I : Mem) (q t n m j : Nat) : LK t q I (zlose I q t n m j) := fun p a _ _ b c => by
  unfold zlose
  split
  · rw [upI_ne a, upI_ne a, kput_ne b c, upI_ne a]
  · rw [upI_ne a]
theorem LK.land {t q o : Nat} {I I' : Mem} (h : LK t q I I') (ht : t ∈ q_lands) (hq : q ∈ q_kins) (ho : o ∈ q_lands) (hto : t ≠ o) : lnd I' o = lnd I o := by
  obtain ⟨a1, a2, a3, a4, a5, a6, a7, a8, a9⟩ := q_lapart ht ho hto
  obtain ⟨b1, b2, b3, b4, b5, b6⟩ := q_apart ho hq
  exact lnd_ne (h _ a1 a2 a3 b1 b2) (h _ a4 a5 a6 b3 b4) (h _ a7 a8 a9 b5 b6)
/-- a page that is a land: n people, m of them live -/
def PW (a : Nat → Int32) (n m : Nat) : Prop := a 6 = nI n ∧ n ≤ 7 ∧ a 0 = nI m ∧ m < 2 ^ n ∧ FP n (fun p => a (7 + p)) ∧ (a 1 = -9 ∨ ∃ h, h < n ∧ m.testBit h = true ∧ a 1 = nI h) ∧ (∃ t, t < 4 ∧ a 2 = nI t) ∧ (∃ t, t < 10 ∧ a 3 = nI t) ∧ (∃ t, t < 10 ∧ a 4 = nI t) ∧ (∃ w, w < 2 ^ n ∧ a 14 = nI w)
theorem p2_128 {n m : Nat} (hn : n ≤ 7) (hm : m < 2 ^ n) : m < 128 := Nat.lt_of_lt_of_le hm (by have := Nat.pow_le_pow_right (show 0 < 2 by decide) hn; omega)
theorem p2_bit {n m j : Nat} (hm : m < 2 ^ n) (h : m.testBit j = true) : j < n := by
  rcases Nat.lt_or_ge j n with q | q
  · exact q
  · rw [Nat.testBit_lt_two_pow (Nat.lt_of_lt_of_le hm (Nat.pow_le_pow_right (by decide) q))] at h; cases h
theorem mclr_le (m c : Nat) : mclr m c ≤ m := by
  unfold mclr
  split
  · exact Nat.sub_le _ _
  · exact Nat.le_refl _
theorem PW.FM {I : Mem} {t n m : Nat} (h : PW (lnd I t) n m) : FM I t n := ⟨h.1, h.2.1⟩
theorem PW.FP {I : Mem} {t n m : Nat} (h : PW (lnd I t) n m) : FP n (I (t + 1)) := fun k hk => by
  have := h.2.2.2.2.1 k hk
  have hn := h.2.1
  dsimp only at this
  rw [show lnd I t (7 + k) = I (t + 1) k from lnd_par I t (by omega)] at this
  exact this
theorem upd_s {a : Nat → Int32} {k : Nat} {v : Int32} : upd a k v k = v := if_pos rfl
theorem upd_n {a : Nat → Int32} {k j : Nat} {v : Int32} (h : j ≠ k) : upd a k v j = a j := if_neg h
theorem she_lt {n : Nat} {pr : Nat → Int32} {w : Nat → Bool} {ag : Nat → Int32} {tie : Int32} (hn : n ≤ 7) (hv : FP n pr) {j : Nat} (hj : j < n) : KI n (she n pr w ag tie j) := by
  have hc : ∀ p, p < n → ∀ c, (fkm pr (nI p) n).testBit c = true → c < n := fun p hp c h => (fkm_in h).1
  have hd : ∀ st x, x < n → KI n st → KI n (sfd n pr w ag tie 7 st x) := fun st x hx h => fdl_KI hn (fun p => fkm_lt' hn _) hc 7 st x hx h
  have up : ∀ (r : Nat) (st : List Nat × Nat) (a : Int32), (a = -9 ∨ ∃ u, u < n ∧ a = nI u) → KI n st → KI n (fup pr (sfd n pr w ag tie 7) r st a) := by
    intro r
    induction r with
    | zero => intro st a _ h; exact h
    | succ r ih =>
      intro st a ha h
      unfold fup
      rcases ha with rfl | ⟨u, hu, rfl⟩
      · rw [if_pos rfl]; exact h
      · rw [if_neg (nI_ne9 (by omega)), nI_clamp (by omega)]
        refine ih _ _ ?_ (hd _ _ hu h)
        rcases hv u hu with e | ⟨z, hz, e⟩
        · exact Or.inl e
        · exact Or.inr ⟨z, by omega, e⟩
  unfold she
  refine up 7 _ _ ?_ (foldl_KI hd _ _ (fun x hx => (fkm_in (ford_in (fkm_lt' hn _) hx).2).1) (KI.nil (by omega)))
  rcases hv j hj with e | ⟨z, hz, e⟩
  · exact Or.inl e
  · exact Or.inr ⟨z, by omega, e⟩
theorem PW.die {a : Nat → Int32} {n m j : Nat} (h : PW a n m) (hj : m.testBit j = true) : PW (pdie a n m j) n (mclr m j) := by
  obtain ⟨h1, h2, h3, h4, h5, h6, h7, h8, h9, h10⟩ := h
  have hjn := p2_bit h4 hj
  have hm := p2_128 h2 h4
  have hlt : mclr m j < 2 ^ n := Nat.lt_of_le_of_lt (mclr_le m j) h4
  unfold pdie
  split
  · refine ⟨h1, h2, rfl, hlt, fun k hk => ?_, ?_, h7, h8, ⟨0, by decide, rfl⟩, h10⟩
    · dsimp only
      rw [upd_n (by omega), upd_n (by omega), upd_n (by omega)]; exact h5 k hk
    show oI _ = -9 ∨ ∃ x, _ ∧ _ ∧ oI _ = nI x
    cases hf : phr a n (a 2) j (mclr m j) with
    | none => exact Or.inl rfl
    | some x => exact Or.inr ⟨x, p2_bit hlt (by have := List.find?_some hf; exact this), by have := List.find?_some hf; exact this, rfl⟩
  · rename_i hne
    refine ⟨h1, h2, rfl, hlt, fun k hk => ?_, ?_, h7, h8, h9, h10⟩
    · dsimp only
      rw [upd_n (by omega)]; exact h5 k hk
    rcases h6 with e | ⟨x, hx, hxb, e⟩
    · exact Or.inl e
    · refine Or.inr ⟨x, hx, ?_, e⟩
      rw [mclr_bit m hm j (by omega) x (by omega), hxb]
      have : x ≠ j := fun q => hne (by rw [e, q])
      simp [this]
