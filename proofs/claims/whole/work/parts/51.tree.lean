/-! families as trees -/
def dft (kl : Nat → List Nat) (no : Nat → Bool) : Nat → Nat → List Nat
  | 0, _ => []
  | f + 1, p => if no p = true then [] else p :: (kl p).flatMap (dft kl no f)
def TK (kl : Nat → List Nat) : Prop := (∀ p c, p < 7 → c ∈ kl p → p < c ∧ c < 7) ∧ (∀ p, p < 7 → (kl p).Nodup) ∧ ∀ p q c, p < 7 → q < 7 → c ∈ kl p → c ∈ kl q → p = q
section
variable {kl : Nat → List Nat} {no : Nat → Bool}
theorem fm_congr {α β : Type} {g g' : α → List β} : ∀ {l : List α}, (∀ x, x ∈ l → g x = g' x) → l.flatMap g = l.flatMap g'
  | [], _ => rfl
  | x :: l, h => by
    rw [List.flatMap_cons, List.flatMap_cons, h x List.mem_cons_self, fm_congr (fun y hy => h y (List.mem_cons_of_mem _ hy))]
theorem dft_st (hT : TK kl) : ∀ (f p : Nat), p < 7 → 7 ≤ f + p → dft kl no f p = dft kl no (f + 1) p
  | 0, p, h, h2 => by omega
  | f + 1, p, h, h2 => by
    unfold dft
    split
    · rfl
    · congr 1
      exact fm_congr (fun c hc => dft_st hT f c (hT.1 p c h hc).2 (by have := (hT.1 p c h hc).1; omega))
theorem dft_7 (hT : TK kl) {p : Nat} (h : p < 7) : dft kl no 7 p = if no p = true then [] else p :: (kl p).flatMap (dft kl no 7) := by
  show (if no p = true then [] else p :: (kl p).flatMap (dft kl no 6)) = _
  split
  · rfl
  · congr 1
    exact fm_congr (fun c hc => dft_st hT 6 c (hT.1 p c h hc).2 (by have := (hT.1 p c h hc).1; omega))
theorem dft_ge (hT : TK kl) : ∀ (f p y : Nat), p < 7 → y ∈ dft kl no f p → p ≤ y ∧ y < 7
  | 0, p, y, h, hy => absurd hy List.not_mem_nil
  | f + 1, p, y, h, hy => by
    unfold dft at hy
    split at hy
    · exact absurd hy List.not_mem_nil
    · rcases List.mem_cons.mp hy with rfl | hy
      · exact ⟨Nat.le_refl _, h⟩
      · obtain ⟨c, hc, hy⟩ := List.mem_flatMap.mp hy
        have h1 := hT.1 p c h hc
        have h2 := dft_ge hT f c y h1.2 hy
        omega
/-- who is below, himself aside, has his parent there -/
theorem dft_par (hT : TK kl) : ∀ (f p y : Nat), p < 7 → y ∈ dft kl no f p → y ≠ p → ∃ z, z < 7 ∧ z ∈ dft kl no f p ∧ y ∈ kl z
  | 0, p, y, h, hy, _ => absurd hy List.not_mem_nil
  | f + 1, p, y, h, hy, hne => by
    unfold dft at hy ⊢
    split at hy
    · exact absurd hy List.not_mem_nil
    · rename_i hno
      rw [if_neg hno]
      rcases List.mem_cons.mp hy with rfl | hy
      · exact absurd rfl hne
      · obtain ⟨c, hc, hy⟩ := List.mem_flatMap.mp hy
        by_cases hyc : y = c
        · exact ⟨p, h, List.mem_cons_self, hyc ▸ hc⟩
        · obtain ⟨z, hz, h1, h2⟩ := dft_par hT f c y (hT.1 p c h hc).2 hy hyc
          exact ⟨z, hz, List.mem_cons_of_mem _ (List.mem_flatMap.mpr ⟨c, hc, h1⟩), h2⟩
theorem dft_two (hT : TK kl) {f p q : Nat} (hp : p < 7) (hq : q < 7) : ∀ (b y : Nat), y < b → y ∈ dft kl no f p → y ∈ dft kl no f q → q ∈ dft kl no f p ∨ p ∈ dft kl no f q
  | 0, y, hb, _, _ => by omega
  | b + 1, y, hb, h1, h2 => by
    by_cases e1 : y = p
    · exact Or.inr (e1 ▸ h2)
    · by_cases e2 : y = q
      · exact Or.inl (e2 ▸ h1)
      · obtain ⟨z, hz, z1, z2⟩ := dft_par hT f p y hp h1 e1
        obtain ⟨x, hx, x1, x2⟩ := dft_par hT f q y hq h2 e2
        obtain rfl := hT.2.2 z x y hz hx z2 x2
        exact dft_two hT hp hq b z (by have := (hT.1 z y hz z2).1; omega) z1 x1
theorem dft_sib (hT : TK kl) {f p c d : Nat} (hp : p < 7) (hc : c ∈ kl p) (hd : d ∈ kl p) (hne : c ≠ d) {y : Nat} (h1 : y ∈ dft kl no f c) (h2 : y ∈ dft kl no f d) : False := by
  have c1 := hT.1 p c hp hc
  have d1 := hT.1 p d hp hd
  have key : ∀ c d, c ∈ kl p → d ∈ kl p → c ≠ d → d ∈ dft kl no f c → False := by
    intro c d hc hd hne h
    have c1 := hT.1 p c hp hc
    obtain ⟨z, hz, z1, z2⟩ := dft_par hT f c d c1.2 h (fun e => hne e.symm)
    obtain rfl := hT.2.2 z p d hz hp z2 hd
    have := dft_ge hT f c z c1.2 z1
    omega
  rcases dft_two hT c1.2 d1.2 (y + 1) y (by omega) h1 h2 with h | h
  · exact key c d hc hd hne h
  · exact key d c hd hc (fun e => hne e.symm) h
theorem dft_nodup (hT : TK kl) : ∀ (f p : Nat), p < 7 → (dft kl no f p).Nodup
  | 0, p, h => List.nodup_nil
  | f + 1, p, h => by
    unfold dft
    split
    · exact List.nodup_nil
    · rw [List.nodup_cons]
      refine ⟨fun hm => ?_, ?_⟩
      · obtain ⟨c, hc, hy⟩ := List.mem_flatMap.mp hm
        have h1 := hT.1 p c h hc
        have h2 := dft_ge hT f c p h1.2 hy
        omega
      · refine List.pairwise_flatMap.mpr ⟨fun c hc => dft_nodup hT f c (hT.1 p c h hc).2, ?_⟩
        refine List.Pairwise.imp_of_mem ?_ (hT.2.1 p h)
        intro c d hc hd hne x hx y hy e
        subst e
        exact dft_sib hT h hc hd hne hx hy
theorem dft_len (hT : TK kl) (f : Nat) {p : Nat} (h : p < 7) : (dft kl no f p).length ≤ 7 := nodup_len (dft_nodup hT f p h) (fun x hx => (dft_ge hT f p x h hx).2)
theorem dft_sub : ∀ (f p y : Nat), y ∈ dft kl no f p → y ∈ dft kl (fun _ => false) f p
  | 0, p, y, hy => hy
  | f + 1, p, y, hy => by
    unfold dft at hy ⊢
    split at hy
    · exact absurd hy List.not_mem_nil
    · rw [if_neg (by decide)]
      rcases List.mem_cons.mp hy with rfl | hy
      · exact List.mem_cons_self
      · obtain ⟨c, hc, hy⟩ := List.mem_flatMap.mp hy
        exact List.mem_cons_of_mem _ (List.mem_flatMap.mpr ⟨c, hc, dft_sub f c y hy⟩)
end
/-- how many there are below, all counted -/
def dsz (kl : Nat → List Nat) (p : Nat) : Nat := (dft kl (fun _ => false) 7 p).length
def dss (kl : Nat → List Nat) : List Nat → Nat
  | [] => 0
  | p :: l => dsz kl p + dss kl l
theorem dss_app (kl : Nat → List Nat) : ∀ (a b : List Nat), dss kl (a ++ b) = dss kl a + dss kl b
  | [], b => by simp [dss]
  | x :: a, b => by
    show dsz kl x + dss kl (a ++ b) = dsz kl x + dss kl a + dss kl b
    rw [dss_app kl a b]; omega
theorem fm_len (kl : Nat → List Nat) : ∀ l : List Nat, (l.flatMap (dft kl (fun _ => false) 7)).length = dss kl l
  | [] => rfl
  | x :: l => by
    rw [List.flatMap_cons, List.length_append, fm_len kl l]; rfl
theorem dsz_eq {kl : Nat → List Nat} (hT : TK kl) {p : Nat} (h : p < 7) : dsz kl p = 1 + dss kl (kl p) := by
  unfold dsz
  rw [dft_7 hT h, if_neg (by decide), List.length_cons, fm_len]; omega
theorem dss_ge {kl : Nat → List Nat} (hT : TK kl) : ∀ l : List Nat, (∀ x, x ∈ l → x < 7) → l.length ≤ dss kl l
  | [], _ => Nat.le_refl _
  | x :: l, h => by
    have h1 := dss_ge hT l (fun y hy => h y (List.mem_cons_of_mem _ hy))
    have h2 := dsz_eq hT (h x List.mem_cons_self)
    show l.length + 1 ≤ dsz kl x + dss kl l
    omega
theorem dsz_7 {kl : Nat → List Nat} (hT : TK kl) {p : Nat} (h : p < 7) : dsz kl p ≤ 7 := dft_len hT 7 h
