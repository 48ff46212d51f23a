/-! what is told of a page depends on its land alone -/
section
variable {N : Nat} {a b : Nat → Int32}
theorem Peq.rf : Peq N a a := ⟨fun _ _ => rfl, rfl, fun _ _ => ⟨rfl, rfl⟩⟩
theorem Peq.sym (h : Peq N a b) : Peq N b a := ⟨fun k hk => (h.1 k hk).symm, h.2.1.symm, fun p hp => ⟨(h.2.2 p hp).1.symm, (h.2.2 p hp).2.symm⟩⟩
theorem Peq.tr {c : Nat → Int32} (h : Peq N a b) (k : Peq N b c) : Peq N a c := ⟨fun q hq => (k.1 q hq).trans (h.1 q hq), k.2.1.trans h.2.1, fun p hp => ⟨(k.2.2 p hp).1.trans (h.2.2 p hp).1, (k.2.2 p hp).2.trans (h.2.2 p hp).2⟩⟩
theorem Peq.of22 (hN : N ≤ 7) (h : ∀ q, q < 22 → b q = a q) : Peq N a b := ⟨fun k hk => h k (by omega), h 14 (by decide), fun p hp => ⟨h _ (by omega), h _ (by omega)⟩⟩
theorem Peq.wf {m : Nat} (h : Peq N a b) (hP : PW a N m) : PW b N m := by
  obtain ⟨h1, h2, h3, h4, h5, h6, h7, h8, h9, h10⟩ := hP
  obtain ⟨e, e14, ep⟩ := h
  refine ⟨by rw [e 6 (by decide)]; exact h1, h2, by rw [e 0 (by decide)]; exact h3, h4, fun p hp => ?_, by rw [e 1 (by decide)]; exact h6, by rw [e 2 (by decide)]; exact h7, by rw [e 3 (by decide)]; exact h8, by rw [e 4 (by decide)]; exact h9, by rw [e14]; exact h10⟩
  have := h5 p hp
  dsimp only at this ⊢
  rw [(ep p hp).1]; exact this
theorem Peq.he {m : Nat} (h : Peq N a b) (hP : PW a N m) {tie : Int32} {j : Nat} (hj : j < N) : phe b N tie j = phe a N tie j := by
  refine (she_congr hP.2.1 hP.2.2.2.2.1 (fun k hk => (h.2.2 k hk).1.symm) (fun k hk => ?_) (fun k hk => (h.2.2 k hk).2.symm) hj).symm
  unfold pw; rw [h.2.1]
theorem Peq.hr {m : Nat} (h : Peq N a b) (hP : PW a N m) {tie : Int32} {j q : Nat} (hj : j < N) : phr b N tie j q = phr a N tie j q := by
  unfold phr; rw [h.he hP hj]
theorem Peq.ln {m : Nat} (h : Peq N a b) (hP : PW a N m) {tie : Int32} {j : Nat} (hj : j < N) : pln b N tie j = pln a N tie j := by
  unfold pln
  refine congrArg Prod.fst (sfd_congr hP.2.1 (fun k hk => (h.2.2 k hk).1) (fun k hk => ?_) (fun k hk => (h.2.2 k hk).2) 7 _ j hj)
  unfold pw; rw [h.2.1]
theorem Peq.up {k : Nat} {v : Int32} (h : Peq N a b) (hk : k < 7) : Peq N (upd a k v) (upd b k v) := by
  obtain ⟨e, e14, ep⟩ := h
  refine ⟨fun q hq => ?_, ?_, fun p hp => ?_⟩
  · unfold upd; rw [e q hq]
  · unfold upd; rw [e14]
  · rw [upd_n (by omega), upd_n (by omega), upd_n (by omega), upd_n (by omega)]; exact ep p hp
theorem Peq.die {m : Nat} (h : Peq N a b) (hP : PW a N m) {j : Nat} (hj : j < N) : Peq N (pdie a N m j) (pdie b N m j) := by
  unfold pdie
  rw [h.1 1 (by decide), h.1 2 (by decide), h.hr hP hj]
  split
  · exact ((h.up (by decide)).up (by decide)).up (by decide)
  · exact h.up (by decide)
theorem Peq.hd (h : Peq N a b) : phd b = phd a := by unfold phd; rw [h.1 1 (by decide)]
end
theorem pdies_peq {N : Nat} : ∀ (l : List Nat) {a b : Nat → Int32} {m : Nat}, Peq N a b → PW a N m → pcan m l = true → Peq N (pdies N a m l) (pdies N b m l)
  | [], _, _, _, h, _, _ => h
  | j :: l, a, b, m, h, hP, hc => by
    have hc2 : m.testBit j = true ∧ pcan (mclr m j) l = true := by simpa [pcan] using hc
    exact pdies_peq l (h.die hP (p2_bit hP.2.2.2.1 hc2.1)) (hP.die hc2.1) hc2.2
theorem pnx_peq {N : Nat} : ∀ (r : Nat) {a b : Nat → Int32} {m : Nat} {f : Int32}, Peq N a b → PW a N m → pnx N r b m f = pnx N r a m f
  | 0, _, _, _, _, _, _ => rfl
  | r + 1, a, b, m, f, h, hP => by
    unfold pnx
    rw [h.hd]
    cases hh : phd a with
    | none => rfl
    | some x =>
      obtain ⟨x1, x2⟩ := (phd_ok hP).2 x hh
      exact pnx_peq r (h.die hP x1) (hP.die x2)
theorem pts_peq {N m : Nat} {ps : List Nat} {p : Int32} {a b : Nat → Int32} (h : Peq N a b) (hP : PW a N m) (hc : pcan m ps = true) : ∀ (r k q : Nat), k + r ≤ 4 → pts b N m ps p r k q = pts a N m ps p r k q
  | 0, _, _, _ => rfl
  | r + 1, k, q, hk => by
    unfold pts
    rw [(pdies_peq ps (h.up (k := 2) (v := nI k) (by decide)) (hP.tie (by omega)) hc).1 1 (by decide)]
    exact pts_peq h hP hc r (k + 1) _ (by omega)
theorem pfm_peq {N : Nat} {st : Int64 → Int64} {dr : Int64 → Int32} : ∀ (r : Nat) {a b : Nat → Int32} {m : Nat} {s : Int64} {c : Int32}, Peq N a b → PW a N m → pfm st dr N r b m s c = pfm st dr N r a m s c
  | 0, _, _, _, _, _, _, _ => rfl
  | r + 1, a, b, m, s, c, h, hP => by
    cases hp : plv N m (dr (st s)) with
    | none => rw [pfm_none hp, pfm_none hp]; exact pfm_peq r h hP
    | some j =>
      obtain ⟨j1, _, j2⟩ := plv_some hP.2.1 hp
      have hd := h.die hP j1
      rw [pfm_some hp, pfm_some hp, hd.1 1 (by decide), h.1 1 (by decide)]
      exact pfm_peq r hd (hP.die j2)
theorem pchild_peq {N m : Nat} {a b : Nat → Int32} (h : Peq N a b) (hP : PW a N m) : pchild b N m = pchild a N m := by
  unfold pchild
  rw [h.hd]
  cases hh : phd a with
  | none => rfl
  | some x =>
    obtain ⟨x1, x2⟩ := (phd_ok hP).2 x hh
    dsimp only
    rw [h.1 2 (by decide), h.hr hP x1]
    cases hr : phr a N (a 2) x m with
    | none => rfl
    | some y =>
      have hy : y < N := p2_bit hP.2.2.2.1 (by have := List.find?_some hr; exact this)
      dsimp only
      rw [(h.2.2 y hy).1, (h.2.2 y hy).2]
