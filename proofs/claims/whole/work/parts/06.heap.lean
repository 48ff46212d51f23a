/-- there are just as many cells as the world has -/
theorem q_size {p : Program} {l : Launch} {e : Env} {R : Room} {s : State} {m : MethodId} {args : Array Value} {below : List Frame} {meth : Method} {c : Code} {T : State} {H : Heap} {locs : List Loc} {k n : Nat} {cy : Nat → ClassId} {D : va_G} {base : Nat} {σ : Shp} {I : Mem} {J : Lng}
    (hT : T.heap = H) (X : Stand p l e R s m args below meth c T locs k n) (hW : q_W cy D base (s.heap.size + k) σ I J H) (hb : base ≤ s.heap.size) (hS : s.heap.size ≤ H.size) : H.size = base + σ.length := by
  have h1 : (T.setVm s.vm).heap.size ≤ s.heap.size + k := X.same.2.2.1
  have h2 : T.heap.size ≤ s.heap.size + k := h1
  rw [hT, hW.2] at h2
  refine Nat.le_antisymm h2 ?_
  cases hn : σ.length with
  | zero => omega
  | succ j =>
    have hj : j < σ.length := by omega
    have h3 := (hW.1 j _ (q_ws_at (List.getElem?_eq_getElem hj))).lt
    have h4 : base + j < H.size := h3
    omega
def q_Cls (c : Nat) (C : String) (T : u_T) (N : Nat) (ty0 : Nat → FieldType) : Prop := vwCl[c]? = some (C, T, N) ∧ (∀ w ∈ u_ws C T N, w ∈ q_U) ∧ (∀ k, k < N → parseFieldDescriptor (T k).2.2.1 = some (ty0 k)) ∧ (∀ a, a < N → ∀ b, b < N → a ≠ b → (T a).2.1 ≠ (T b).2.1) ∧ (q_fk c).length = N
/-- a field's link: of the class own, entry idx, names the field f of class c, of kind kd -/
def q_Fld (own : String) (idx c f kd : Nat) (fin : Bool) : Prop := ∃ (C : String) (T : u_T) (N : Nat) (ty0 : Nat → FieldType), q_Cls c C T N ty0 ∧ f < N ∧ Cond.fieldLink own idx (T f).1 (T f).2.1 (T f).2.2.1 ∈ q_U ∧ (q_fk c)[f]? = some kd ∧ (T f).2.2.2 = fin ∧ (fin = true → (T f).1 = own) ∧ (kd = 0 → ty0 f = .int) ∧ (kd = 1 → ty0 f = .long ∧ ∀ i, (q_fk c)[i]? = some 1 → i = f) ∧ (kd = 2 → (∃ a, ty0 f = .object a) ∨ ∃ a, ty0 f = .array a)
section
variable {own nm : String} {cc : ByteArray} {nL : Nat} {rop : Instr} {d mc ms : Nat} {X : Option (Nat × (Nat → Int32))} {Q : List Value → Shp → Mem → Lng → Nat → Nat → Prop} {k n pc : Nat} {L : List (Option Value)} {st : List Value} {σ : Shp} {I : Mem} {J : Lng}
theorem s_getI {idx c f t : Nat} {fin : Bool} {e : Ent} (hd : decode cc pc = .ok (.getfield idx, 3)) (hf : q_Fld own idx c f 0 fin) (he : σ[t]? = some e) (hc : e.1 = 10 + c) (K : q_WP own nm cc nL rop d mc ms X Q k n (pc + 3) L (.int (I t f) :: st) σ I J) : q_WP own nm cc nL rop d mc ms X Q k n pc L (.ref t :: st) σ I J := by
  intro p l e0 R s m args below meth c0 Qm cy D base b C E H locs ls hW hS hL
  obtain ⟨C', T, N, ty0, ⟨h1, h2, h3, h4, h5⟩, hk, hl, hfk, -⟩ := hf
  exact va_get (D := D) (ci := c) (v := .int (I t f)) (C := C') (T := T) (N := N) C.1 C.2.1 C.2.2.2.2.1 h2 C.2.2.2.1 C.2.2.2.2.2.1.1 hW.1 t (by rw [q_ws_at he, q_cell_o hc]) h1 f hk (C.2.2.2.2.1 _ hl) (fun _ h9 => h9) (by rw [q_fs_get, hfk, Nat.zero_add]; rfl) hd (K p l e0 R s m args below meth c0 Qm cy D base b C E H locs ls hW hS hL)
theorem s_getJ {idx c f t : Nat} {fin : Bool} {e : Ent} (hd : decode cc pc = .ok (.getfield idx, 3)) (hf : q_Fld own idx c f 1 fin) (he : σ[t]? = some e) (hc : e.1 = 10 + c) (K : q_WP own nm cc nL rop d mc ms X Q k n (pc + 3) L (.long (J t) :: st) σ I J) : q_WP own nm cc nL rop d mc ms X Q k n pc L (.ref t :: st) σ I J := by
  intro p l e0 R s m args below meth c0 Qm cy D base b C E H locs ls hW hS hL
  obtain ⟨C', T, N, ty0, ⟨h1, h2, h3, h4, h5⟩, hk, hl, hfk, -⟩ := hf
  exact va_get (D := D) (ci := c) (v := .long (J t)) (C := C') (T := T) (N := N) C.1 C.2.1 C.2.2.2.2.1 h2 C.2.2.2.1 C.2.2.2.2.2.1.1 hW.1 t (by rw [q_ws_at he, q_cell_o hc]) h1 f hk (C.2.2.2.2.1 _ hl) (fun _ h9 => h9) (by rw [q_fs_get, hfk, Nat.zero_add]; rfl) hd (K p l e0 R s m args below meth c0 Qm cy D base b C E H locs ls hW hS hL)
theorem s_getR {idx c f t r : Nat} {fin : Bool} {e : Ent} (hd : decode cc pc = .ok (.getfield idx, 3)) (hf : q_Fld own idx c f 2 fin) (he : σ[t]? = some e) (hc : e.1 = 10 + c) (hr : e.2.2.getD f none = some r) (K : q_WP own nm cc nL rop d mc ms X Q k n (pc + 3) L (.ref r :: st) σ I J) : q_WP own nm cc nL rop d mc ms X Q k n pc L (.ref t :: st) σ I J := by
  intro p l e0 R s m args below meth c0 Qm cy D base b C E H locs ls hW hS hL
  obtain ⟨C', T, N, ty0, ⟨h1, h2, h3, h4, h5⟩, hk, hl, hfk, -⟩ := hf
  exact va_get (D := D) (ci := c) (v := .ref (base + r)) (C := C') (T := T) (N := N) C.1 C.2.1 C.2.2.2.2.1 h2 C.2.2.2.1 C.2.2.2.2.2.1.1 hW.1 t (by rw [q_ws_at he, q_cell_o hc]) h1 f hk (C.2.2.2.2.1 _ hl) (fun _ h9 => h9) (by rw [q_fs_get, hfk, Nat.zero_add]; simp only [Option.map_some, q_fd, hr]; rfl) hd (K p l e0 R s m args below meth c0 Qm cy D base b C E H locs ls hW hS hL)
theorem s_putI {idx c f t : Nat} {e : Ent} {v : Int32} (hd : decode cc pc = .ok (.putfield idx, 3)) (hf : q_Fld own idx c f 0 false) (he : σ[t]? = some e) (hc : e.1 = 10 + c) (K : q_WP own nm cc nL rop d mc ms X Q k n (pc + 3) L st σ (upI I t f v) J) : q_WP own nm cc nL rop d mc ms X Q k n pc L (.int v :: .ref t :: st) σ I J := by
  intro p l e0 R s m args below meth c0 Qm cy D base b C E H locs ls hW hS hL
  obtain ⟨C', T, N, ty0, ⟨h1, h2, h3, h4, h5⟩, hk, hl, hfk, hfin, -, hty, -⟩ := hf
  have hlt : t < σ.length := (List.getElem?_eq_some_iff.mp he).1
  refine va_put (D := D) (ci := c) (v := .int v) (ty := .int) (C := C') (T := T) (N := N) C.1 C.2.1 C.2.2.2.2.1 h2 ty0 h3 h4 C.2.2.2.1 C.2.2.2.2.2.1.1 hW.1 (q_ws_D cy base I J σ) hS t (by rw [q_ws_at he, q_cell_o hc]) h1 f hk (C.2.2.2.2.1 _ hl) (fun _ h9 => h9) hfin (by rw [h3 f hk, hty rfl]) rfl rfl (by rw [q_fs_len, h5]; exact hk) hd (fun H1 locs1 hP _ hS1 => ?_)
  refine K p l e0 R s m args below meth c0 Qm cy D base b C E H1 locs1 ls ⟨?_, hW.2⟩ hS1 hL
  rw [← q_ws_set (cy := cy) (base := base) (I := I) (I' := upI I t f v) (J := J) (J' := J) (σ := σ) (t := t) (fun _ _ => rfl) (fun i hi => upI_ne hi) (fun _ _ => rfl) he hlt, q_cell_o hc, upI_self, ← q_fs_int v hfk]
  exact hP
theorem s_putJ {idx c f t : Nat} {e : Ent} {v : Int64} (hd : decode cc pc = .ok (.putfield idx, 3)) (hf : q_Fld own idx c f 1 false) (he : σ[t]? = some e) (hc : e.1 = 10 + c) (K : q_WP own nm cc nL rop d mc ms X Q k n (pc + 3) L st σ I (upJ J t v)) : q_WP own nm cc nL rop d mc ms X Q k n pc L (.long v :: .ref t :: st) σ I J := by
  intro p l e0 R s m args below meth c0 Qm cy D base b C E H locs ls hW hS hL
  obtain ⟨C', T, N, ty0, ⟨h1, h2, h3, h4, h5⟩, hk, hl, hfk, hfin, -, -, hty, -⟩ := hf
  have hlt : t < σ.length := (List.getElem?_eq_some_iff.mp he).1
  refine va_put (D := D) (ci := c) (v := .long v) (ty := .long) (C := C') (T := T) (N := N) C.1 C.2.1 C.2.2.2.2.1 h2 ty0 h3 h4 C.2.2.2.1 C.2.2.2.2.2.1.1 hW.1 (q_ws_D cy base I J σ) hS t (by rw [q_ws_at he, q_cell_o hc]) h1 f hk (C.2.2.2.2.1 _ hl) (fun _ h9 => h9) hfin (by rw [h3 f hk, (hty rfl).1]) rfl rfl (by rw [q_fs_len, h5]; exact hk) hd (fun H1 locs1 hP _ hS1 => ?_)
  refine K p l e0 R s m args below meth c0 Qm cy D base b C E H1 locs1 ls ⟨?_, hW.2⟩ hS1 hL
  rw [← q_ws_set (cy := cy) (base := base) (I := I) (I' := I) (J := J) (J' := upJ J t v) (σ := σ) (t := t) (fun _ _ => rfl) (fun _ _ => rfl) (fun i hi => if_neg hi) he hlt, q_cell_o hc, show upJ J t v t = v from if_pos rfl, ← q_fs_long v hfk (hty rfl).2]
  exact hP
/-- a final reference field, in a constructor -/
theorem s_putF {idx c f t r : Nat} {e e' : Ent} (hd : decode cc pc = .ok (.putfield idx, 3)) (hf : q_Fld own idx c f 2 true) (hn : nm = "<init>") (he : σ[t]? = some e) (hc : e.1 = 10 + c) (hl : f < e.2.2.length) (he' : (e.1, e.2.1, e.2.2.set f (some r)) = e') (K : q_WP own nm cc nL rop d mc ms X Q k n (pc + 3) L st (σ.set t e') I J) : q_WP own nm cc nL rop d mc ms X Q k n pc L (.ref r :: .ref t :: st) σ I J := by
  intro p l e0 R s m args below meth c0 Qm cy D base b C E H locs ls hW hS hL
  subst he'
  obtain ⟨C', T, N, ty0, ⟨h1, h2, h3, h4, h5⟩, hk, hl2, hfk, hfin, hdc, -, -, hty⟩ := hf
  have hlt : t < σ.length := (List.getElem?_eq_some_iff.mp he).1
  have hfin2 : narrow (ty0 f) (Value.ref (base + r)) = Value.ref (base + r) ∧ fits (ty0 f) (Value.ref (base + r)) = true := by
    rcases hty rfl with ⟨a, h⟩ | ⟨a, h⟩ <;> rw [h] <;> exact ⟨rfl, rfl⟩
  refine va_putF (D := D) (ci := c) (v := .ref (base + r)) (ty := ty0 f) (C := C') (T := T) (N := N) C.1 C.2.1 C.2.2.2.2.1 h2 ty0 h3 h4 C.2.2.2.1 C.2.2.2.2.2.1.1 hW.1 (q_ws_D cy base I J σ) hS t (by rw [q_ws_at he, q_cell_o hc]) h1 f hk (C.2.2.2.2.1 _ hl2) (fun _ h9 => h9) hfin (by rw [C.2.2.2.2.2.2.2.2.1]; exact hn) (hdc rfl) (h3 f hk) hfin2.1 hfin2.2 (by rw [q_fs_len, h5]; exact hk) hd (fun H1 locs1 hP _ hS1 => ?_)
  refine K p l e0 R s m args below meth c0 Qm cy D base b C E H1 locs1 ls ⟨?_, by rw [List.length_set]; exact hW.2⟩ hS1 hL
  rw [← q_ws_set (cy := cy) (base := base) (I := I) (I' := I) (J := J) (J' := J) (σ := σ) (t := t) (e' := (e.1, e.2.1, e.2.2.set f (some r))) (fun i hi => List.getElem?_set_ne (fun q => hi q.symm)) (fun _ _ => rfl) (fun _ _ => rfl) (List.getElem?_set_self hlt) hlt, q_cell_o (e := (e.1, e.2.1, e.2.2.set f (some r))) hc, ← q_fs_ref hfk hl]
  exact hP
theorem s_iaload {t : Nat} {e : Ent} {i : Int32} (hd : decode cc pc = .ok (.iaload, 1)) (he : σ[t]? = some e) (hc : e.1 = 0) (hin : vp_in i e.2.1) (K : q_WP own nm cc nL rop d mc ms X Q k n (pc + 1) L (.int (I t i.toNatClampNeg) :: st) σ I J) : q_WP own nm cc nL rop d mc ms X Q k n pc L (.int i :: .ref t :: st) σ I J := by
  intro p l e0 R s m args below meth c0 Qm cy D base b C E H locs ls hW hS hL
  exact va_iald C.1 C.2.1 C.2.2.2.2.2.1.1 hW.1 t 0 (by rw [q_ws_at he, q_cell_i hc (by decide)]) rfl hin hd (K p l e0 R s m args below meth c0 Qm cy D base b C E H locs ls hW hS hL)
theorem s_baload {t : Nat} {e : Ent} {i : Int32} (hd : decode cc pc = .ok (.baload, 1)) (he : σ[t]? = some e) (hc : e.1 = 1) (hin : vp_in i e.2.1) (K : q_WP own nm cc nL rop d mc ms X Q k n (pc + 1) L (.int (I t i.toNatClampNeg) :: st) σ I J) : q_WP own nm cc nL rop d mc ms X Q k n pc L (.int i :: .ref t :: st) σ I J := by
  intro p l e0 R s m args below meth c0 Qm cy D base b C E H locs ls hW hS hL
  exact va_zald C.1 C.2.1 C.2.2.2.2.2.1.1 hW.1 t 1 (by rw [q_ws_at he, q_cell_i hc (by decide)]) rfl hin hd (K p l e0 R s m args below meth c0 Qm cy D base b C E H locs ls hW hS hL)
theorem s_alen {t : Nat} {e : Ent} (hd : decode cc pc = .ok (.arraylength, 1)) (he : σ[t]? = some e) (hc : e.1 = 0) (K : q_WP own nm cc nL rop d mc ms X Q k n (pc + 1) L (.int (Int32.ofNat e.2.1) :: st) σ I J) : q_WP own nm cc nL rop d mc ms X Q k n pc L (.ref t :: st) σ I J := by
  intro p l e0 R s m args below meth c0 Qm cy D base b C E H locs ls hW hS hL
  exact va_alen (x := (e.2.1, .inl (I t))) C.1 C.2.1 C.2.2.2.2.2.1.1 hW.1 t 0 (by rw [q_ws_at he, q_cell_i hc (by decide)]) rfl rfl hd (K p l e0 R s m args below meth c0 Qm cy D base b C E H locs ls hW hS hL)
theorem s_iastore {t : Nat} {e : Ent} {i v : Int32} (hd : decode cc pc = .ok (.iastore, 1)) (he : σ[t]? = some e) (hc : e.1 = 0) (hin : vp_in i e.2.1) (K : q_WP own nm cc nL rop d mc ms X Q k n (pc + 1) L st σ (upI I t i.toNatClampNeg v) J) : q_WP own nm cc nL rop d mc ms X Q k n pc L (.int v :: .int i :: .ref t :: st) σ I J := by
  intro p l e0 R s m args below meth c0 Qm cy D base b C E H locs ls hW hS hL
  have hlt : t < σ.length := (List.getElem?_eq_some_iff.mp he).1
  refine va_iast C.1 C.2.1 C.2.2.2.2.2.1.1 hW.1 (q_ws_D cy base I J σ) hS t 0 (by rw [q_ws_at he, q_cell_i hc (by decide)]) rfl hin hd (fun H1 locs1 hP _ hS1 => ?_)
  refine K p l e0 R s m args below meth c0 Qm cy D base b C E H1 locs1 ls ⟨?_, hW.2⟩ hS1 hL
  rw [← q_ws_set (cy := cy) (base := base) (I := I) (I' := upI I t i.toNatClampNeg v) (J := J) (J' := J) (σ := σ) (t := t) (fun _ _ => rfl) (fun i hi => upI_ne hi) (fun _ _ => rfl) he hlt, q_cell_i hc (by decide), upI_self]
  exact hP
theorem s_bastore {t : Nat} {e : Ent} {i v : Int32} (hd : decode cc pc = .ok (.bastore, 1)) (he : σ[t]? = some e) (hc : e.1 = 1) (hin : vp_in i e.2.1) (hv : vp_nar .boolean v = v) (K : q_WP own nm cc nL rop d mc ms X Q k n (pc + 1) L st σ (upI I t i.toNatClampNeg v) J) : q_WP own nm cc nL rop d mc ms X Q k n pc L (.int v :: .int i :: .ref t :: st) σ I J := by
  intro p l e0 R s m args below meth c0 Qm cy D base b C E H locs ls hW hS hL
  have hlt : t < σ.length := (List.getElem?_eq_some_iff.mp he).1
  refine va_zast C.1 C.2.1 C.2.2.2.2.2.1.1 hW.1 (q_ws_D cy base I J σ) hS t 1 (by rw [q_ws_at he, q_cell_i hc (by decide)]) rfl hin hd (fun H1 locs1 hP _ hS1 => ?_)
  rw [hv] at hP
  refine K p l e0 R s m args below meth c0 Qm cy D base b C E H1 locs1 ls ⟨?_, hW.2⟩ hS1 hL
  rw [← q_ws_set (cy := cy) (base := base) (I := I) (I' := upI I t i.toNatClampNeg v) (J := J) (J' := J) (σ := σ) (t := t) (fun _ _ => rfl) (fun i hi => upI_ne hi) (fun _ _ => rfl) he hlt, q_cell_i hc (by decide), upI_self]
  exact hP
/-- an array of objects: a = 2 Land, 3 Kin -/
theorem s_aaload {t r a : Nat} {e : Ent} {i : Int32} (hd : decode cc pc = .ok (.aaload, 1)) (he : σ[t]? = some e) (hc : e.1 = a) (ha : a = 2 ∨ a = 3 ∨ a = 4) (hin : vp_in i e.2.1) (hr : e.2.2.getD i.toNatClampNeg none = some r) (K : q_WP own nm cc nL rop d mc ms X Q k n (pc + 1) L (.ref r :: st) σ I J) : q_WP own nm cc nL rop d mc ms X Q k n pc L (.int i :: .ref t :: st) σ I J := by
  intro p l e0 R s m args below meth c0 Qm cy D base b C E H locs ls hW hS hL
  have hr2 : va_rf (q_rw base e.2.2 i.toNatClampNeg) = .ref (base + r) := by unfold q_rw; rw [hr]; rfl
  have hlt : i.toNatClampNeg < e.2.1 := Nat.not_le.mp fun q => hin (Or.inr q)
  have h2 : a < 10 := by omega
  have h3 : ¬ a < 2 := by omega
  have hP := hW.1 t _ (q_ws_at he)
  rw [q_cell_q hc h3 h2] at hP
  obtain ⟨ty, hty, ht⟩ : ∃ ty : FieldType, ty.isReference = true ∧ (q_ty cy)[a]? = some (cy a, ty) := by
    rcases ha with rfl | rfl | rfl
    · exact ⟨_, rfl, rfl⟩
    · exact ⟨_, rfl, rfl⟩
    · exact ⟨_, rfl, rfl⟩
  refine W.aald (v := va_rf (q_rw base e.2.2 i.toNatClampNeg)) (ty := ty) C.1 C.2.1 hP ((C.2.2.2.2.2.1.1.2 a _ ht).1 e.2.1 (fun j => va_rf (q_rw base e.2.2 j))) hty (fun q => by cases q) (by show ¬ (i < 0 ∨ (arrV _ _ _).slots.size ≤ _); rw [arrV_size]; exact hin) (by show (arrV _ _ _).slots[_]? = _; rw [arrV_read _ _ hlt]) rfl rfl hd ?_
  rw [hr2]
  exact K p l e0 R s m args below meth c0 Qm cy D base b C E H locs ls hW hS hL
end
