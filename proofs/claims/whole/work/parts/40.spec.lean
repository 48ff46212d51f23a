/-- an argument as a place below N -/
def pin (p : Int32) (N : Nat) : Option Nat := if 0 ≤ p.toInt ∧ p.toInt < N then some p.toInt.toNat else none
theorem pin_some {p : Int32} {N j : Nat} (hN : N < 2 ^ 31) (h : pin p N = some j) : j < N ∧ p = nI j := by
  unfold pin at h
  split at h
  · rename_i hh
    cases h
    refine ⟨by omega, ti_eq.mpr ?_⟩
    rw [nI_toInt (by omega)]; omega
  · cases h
theorem pin_none {p : Int32} {N : Nat} (h : pin p N = none) : ¬ (0 ≤ p.toInt ∧ p.toInt < N) := by
  unfold pin at h
  split at h
  · cases h
  · assumption
theorem pin_nI {N j : Nat} (hN : N < 2 ^ 31) (h : j < N) : pin (nI j) N = some j := by
  unfold pin
  rw [nI_toInt (by omega), if_pos (by omega)]; simp
theorem zhas_pin {I : Mem} {t N : Nat} {p : Int32} (hF : FM I t N) : zhas I t p = (pin p N).isSome := by
  have h7 := hF.2
  cases h : pin p N with
  | some j =>
    obtain ⟨hj, rfl⟩ := pin_some (by omega) h
    exact hF.has hj
  | none =>
    cases hz : zhas I t p with
    | false => rfl
    | true =>
      obtain ⟨j, hj, rfl⟩ := hF.inv hz
      rw [pin_nI (by omega) hj] at h; cases h
/-- only these places have changed -/
def Fr (S : List Nat) (I I1 : Mem) : Prop := ∀ p, p ∉ S → I1 p = I p
theorem Fr.rf {S : List Nat} {I : Mem} : Fr S I I := fun _ _ => rfl
theorem Fr.tr {S : List Nat} {I I1 I2 : Mem} (h : Fr S I I1) (h2 : Fr S I1 I2) : Fr S I I2 := fun p hp => (h2 p hp).trans (h p hp)
theorem Fr.up {S : List Nat} {I I1 : Mem} {t k : Nat} {v : Int32} (h : Fr S I I1) (ht : t ∈ S) : Fr S I (upI I1 t k v) := fun p hp => by
  have hne : p ≠ t := fun e => hp (by rw [e]; exact ht)
  rw [upI_ne hne]; exact h p hp
theorem Fr.mono {S S' : List Nat} {I I1 : Mem} (h : Fr S I I1) (hs : ∀ p, p ∈ S → p ∈ S') : Fr S' I I1 := fun p hp => h p (fun q => hp (hs p q))
theorem Fr.land {S : List Nat} {I I1 : Mem} {t : Nat} (h : Fr S I I1) (h0 : t ∉ S) (h1 : t + 1 ∉ S) (h2 : t + 2 ∉ S) : lnd I1 t = lnd I t := lnd_ne (h _ h0) (h _ h1) (h _ h2)
/-- the class's scratch -/
def scr : List Nat := [6, 7, 8, 55, 56, 57, 58, 59, 60, 61, 62, 63, 64, 65, 66, 67, 68, 69, 70, 71, 72, 73, 74, 75, 76, 77, 78, 79, 80, 81, 82]
theorem scr_k {I : Mem} {l : List Nat} {s : Nat} : Fr scr I (kput I 55 l s) := fun p hp => kput_ne (fun e => hp (e ▸ (by decide))) (fun e => hp (e ▸ (by decide)))
theorem scr_LK {I I1 : Mem} (h : LK 6 55 I I1) : Fr scr I I1 := fun p hp => h p (fun e => hp (e ▸ (by decide))) (fun e => hp (e ▸ (by decide))) (fun e => hp (e ▸ (by decide))) (fun e => hp (e ▸ (by decide))) (fun e => hp (e ▸ (by decide)))
theorem scr_in2 : ∀ p, 59 ≤ p → p < 64 → p ∈ scr := by
  intro p h1 h2
  rcases (show p = 59 ∨ p = 60 ∨ p = 61 ∨ p = 62 ∨ p = 63 by omega) with rfl | rfl | rfl | rfl | rfl <;> decide
theorem scr_FO {I I1 : Mem} (h : FO I I1) : Fr scr I I1 := fun p hp => h p (by
  rcases Nat.lt_or_ge p 59 with q | q
  · exact Or.inl q
  · rcases Nat.lt_or_ge p 64 with q2 | q2
    · exact absurd (scr_in2 p q q2) hp
    · exact Or.inr q2)
theorem scr_DO {I I1 : Mem} (h : DO I I1) : Fr scr I I1 := fun p hp => h p (fun e => hp (e ▸ (by decide))) (fun e => hp (e ▸ (by decide)))
theorem scr_in : ∀ p, 68 ≤ p → p < 83 → p ∈ scr := by
  intro p h1 h2
  rcases (show p = 68 ∨ p = 69 ∨ p = 70 ∨ p = 71 ∨ p = 72 ∨ p = 73 ∨ p = 74 ∨ p = 75 ∨ p = 76 ∨ p = 77 ∨ p = 78 ∨ p = 79 ∨ p = 80 ∨ p = 81 ∨ p = 82 by omega) with rfl | rfl | rfl | rfl | rfl | rfl | rfl | rfl | rfl | rfl | rfl | rfl | rfl | rfl | rfl <;> decide
theorem scr_OO {I I1 : Mem} (h : OO I I1) : Fr scr I I1 := fun p hp => h p (by
  rcases Nat.lt_or_ge p 68 with q | q
  · exact Or.inl q
  · rcases Nat.lt_or_ge p 83 with q2 | q2
    · exact absurd (scr_in p q q2) hp
    · exact Or.inr q2)
theorem scr_cp {I : Mem} {o : Nat} : Fr scr I (zcopy I 6 o) := fun p hp => zcopy_o I 6 o p (fun e => hp (e ▸ (by decide))) (fun e => hp (e ▸ (by decide))) (fun e => hp (e ▸ (by decide)))
/-- ages that are told or have grown -/
def PA (T : Nat) (a : Nat → Int32) (N : Nat) : Prop := ∀ p, p < N → ∃ g, g ≤ 9 + T ∧ a (15 + p) = nI g
/-- two pages that are the same land -/
def Peq (N : Nat) (a b : Nat → Int32) : Prop := (∀ k, k < 7 → b k = a k) ∧ b 14 = a 14 ∧ ∀ p, p < N → b (7 + p) = a (7 + p) ∧ b (15 + p) = a (15 + p)
def PgR (T : Nat) (a b : Nat → Int32) : Prop := ∃ N m, PW a N m ∧ PA T a N ∧ Peq N a b
/-- holder's heir is a child of age -/
def pchild (a : Nat → Int32) (N m : Nat) : Bool := match phd a with
  | none => false
  | some h => match phr a N (a 2) h m with
    | none => false
    | some x => decide (a (7 + x) = nI h) && !decide (a (15 + x) < 2)
