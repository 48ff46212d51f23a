/-- what is called, as the tables have it -/
def q_Me (y : MethodName) (cc : ByteArray) (nL : Nat) (ret : Option FieldType) (na : Nat) : Prop := Cond.code y cc nL ret ∈ q_U ∧ Cond.initialized y.cls ∈ q_U ∧ (y.cls ≠ "java/lang/invoke/MethodHandle" ∧ y.cls ≠ "java/lang/invoke/VarHandle") ∧ (parseMethodDescriptor y.desc).map (fun d => d.parameters.length) = some na ∧ nL ≤ 21 ∧ plainName y.cls = true
def q_Rm (d mc ms : Nat) : Room := { frames := d, cells := mc, slots := ms, locals := 40 * d }
def q_Pc (cy : Nat → ClassId) (D : va_G) (base : Nat) (av : List Value) (σ : Shp) (I : Mem) (J : Lng) : Array Value → State → Prop := va_Pc (av.map (q_tr base 0)) (fun U => q_W cy D base U.heap.size σ I J U.heap ∧ q_K cy D U)
def q_Qc (cy : Nat → ClassId) (D : va_G) (base mc : Nat) (Q : Option Value → Shp → Mem → Lng → Prop) : Array Value → State → Outcome → State → Prop := fun _ st o t => ∃ (r : Option Value) (σ' : Shp) (I' : Mem) (J' : Lng), o = .returned (r.map (q_tr base 0)) ∧ (∀ v, r = some v → v ≠ .null) ∧ Q r σ' I' J' ∧ q_W cy D base (st.heap.size + mc) σ' I' J' t.heap ∧ va_F (fun q => base ≤ q) st t
/-- the contract of a method at a depth: from this memory it returns, and Q holds of its answer and the memory then -/
def q_C (y : MethodName) (cc : ByteArray) (nL : Nat) (ret : Option FieldType) (d mc ms : Nat) (av : List Value) (σ : Shp) (I : Mem) (J : Lng) (Q : Option Value → Shp → Mem → Lng → Prop) : Prop :=
  ∀ (l : Launch) (cy : Nat → ClassId) (D : va_G) (base : Nat), Met l y (.code y cc nL ret :: q_U) (q_Rm d mc ms) (q_Pc cy D base av σ I J) (q_Qc cy D base mc Q) mc ms (fun q => base ≤ q)
/-- the locals at a method's entry -/
def q_args : List Value → List (Option Value)
  | [] => []
  | .long v :: r => some (.long v) :: none :: q_args r
  | v :: r => some v :: q_args r
def q_ent (nL : Nat) (av : List Value) : List (Option Value) := q_args av ++ List.replicate (nL - (q_args av).length) none
def q_one (v : Value) : Bool := match v with
  | .int _ => true
  | .long _ => true
  | .ref _ => true
  | _ => false
theorem q_args_mem (base b : Nat) : ∀ (av : List Value) (i0 : Nat), (av.all q_one = true) → ∀ (i : Nat) (v : Value), (q_args av)[i]? = some (some v) → (i0 + i, q_tr base b v) ∈ lv_args i0 (av.map (q_tr base b))
  | [], i0, _, i, v, h => by simp [q_args] at h
  | x :: r, i0, ha, i, v, h => by
    simp only [List.all_cons, Bool.and_eq_true] at ha
    cases x with
    | long a =>
      simp only [List.map_cons, lv_args, q_tr, Value.category]
      cases i with
      | zero => simp [q_args] at h; subst h; simp [q_tr]
      | succ i =>
        cases i with
        | zero => simp [q_args] at h
        | succ i =>
          have h2 : (q_args r)[i]? = some (some v) := by simpa [q_args] using h
          have := q_args_mem base b r (i0 + 2) ha.2 i v h2
          rw [show i0 + (i + 1 + 1) = i0 + 2 + i by omega]
          exact List.mem_cons_of_mem _ this
    | int a =>
      simp only [List.map_cons, lv_args, q_tr, Value.category]
      cases i with
      | zero => simp [q_args] at h; subst h; simp [q_tr]
      | succ i =>
        have h2 : (q_args r)[i]? = some (some v) := by simpa [q_args] using h
        have := q_args_mem base b r (i0 + 1) ha.2 i v h2
        rw [show i0 + (i + 1) = i0 + 1 + i by omega]
        exact List.mem_cons_of_mem _ this
    | ref a =>
      simp only [List.map_cons, lv_args, q_tr, Value.category]
      cases i with
      | zero => simp [q_args] at h; subst h; simp [q_tr]
      | succ i =>
        have h2 : (q_args r)[i]? = some (some v) := by simpa [q_args] using h
        have := q_args_mem base b r (i0 + 1) ha.2 i v h2
        rw [show i0 + (i + 1) = i0 + 1 + i by omega]
        exact List.mem_cons_of_mem _ this
    | _ => simp [q_one] at ha
theorem q_args_len (base b : Nat) : ∀ (av : List Value), (av.all q_one = true) → (lg_sl (av.map (q_tr base b))).length = (q_args av).length
  | [], _ => rfl
  | x :: r, ha => by
    simp only [List.all_cons, Bool.and_eq_true] at ha
    have ih := q_args_len base b r ha.2
    unfold lg_sl at ih ⊢
    cases x with
    | long a =>
      rw [List.map_cons, List.flatMap_cons, List.length_append, ih]
      show 2 + (q_args r).length = (q_args r).length + 1 + 1
      omega
    | int a =>
      rw [List.map_cons, List.flatMap_cons, List.length_append, ih]
      show 1 + (q_args r).length = (q_args r).length + 1
      omega
    | ref a =>
      rw [List.map_cons, List.flatMap_cons, List.length_append, ih]
      show 1 + (q_args r).length = (q_args r).length + 1
      omega
    | _ => simp [q_one] at ha
theorem q_one_tr {av : List Value} (ha : av.all q_one = true) (base b b' : Nat) : av.map (q_tr base b) = av.map (q_tr base b') := by
  apply List.map_congr_left
  intro v hv
  have h := List.all_eq_true.mp ha v hv
  cases v <;> first | rfl | (simp [q_one] at h)
theorem q_L.entry {base b : Nat} {nL : Nat} {av : List Value} (ha : av.all q_one = true) (hl : (q_args av).length ≤ nL) : q_L base b ((lg_sl (av.map (q_tr base b)) ++ List.replicate (nL - (lg_sl (av.map (q_tr base b))).length) Slot.unset).toArray) nL (q_ent nL av) := by
  have h := lv_entry (av.map (q_tr base b)) (n := nL) (by rw [q_args_len base b av ha]; exact hl)
  refine ⟨h.1, h.2.1, fun i v hv => ?_⟩
  have hv2 : (q_args av)[i]? = some (some v) := by
    unfold q_ent at hv
    by_cases hi : i < (q_args av).length
    · rwa [List.getElem?_append_left hi] at hv
    · rw [List.getElem?_append_right (by omega), List.getElem?_replicate] at hv
      split at hv <;> cases hv
  have := h.2.2 _ (q_args_mem base b av 0 ha i v hv2)
  simpa using this
/-- the answer of a method as its return has it -/
def q_Rt (ret : Option FieldType) (rop : Instr) (st : List Value) (r : Option Value) : Prop :=
  (ret = some .int ∧ rop = .ireturn ∧ ∃ v : Int32, st = [.int v] ∧ r = some (.int v)) ∨ (ret = some .boolean ∧ rop = .ireturn ∧ ∃ v : Int32, (v = 0 ∨ v = 1) ∧ st = [.int v] ∧ r = some (.int v)) ∨ (ret = some .long ∧ rop = .lreturn ∧ ∃ v : Int64, st = [.long v] ∧ r = some (.long v)) ∨ (ret = none ∧ rop = .return_ ∧ st = [] ∧ r = none)
theorem q_C.of {y : MethodName} {cc : ByteArray} {nL na : Nat} {ret : Option FieldType} {rop : Instr} {d mc ms : Nat} {av : List Value} {σ : Shp} {I : Mem} {J : Lng} {Q : Option Value → Shp → Mem → Lng → Prop} (hM : q_Me y cc nL ret na) (ha : av.all q_one = true) (hl : (q_args av).length ≤ nL)
    (K : q_WP y.cls y.name cc nL rop d mc ms none (fun st σ' I' J' k n => ∃ r, q_Rt ret rop st r ∧ Q r σ' I' J' ∧ k = mc ∧ n = ms) 0 0 0 (q_ent nL av) [] σ I J) : q_C y cc nL ret d mc ms av σ I J Q := by
  intro l cy D base
  refine Met.ofW (cc := cc) (maxL := nL) (ret := ret) hM.2.2.2.2.2 rfl ?_
  intro p e s m args below meth c s₁ B hml hv
  obtain ⟨rfl, hW, hK⟩ := hv
  have hx := B.exec
  have hb := B.bytes
  have hr := B.returns
  have hts := atoms_spec (ws := .code y cc nL ret :: q_U) B.pre
  have hown : s.vm.findClass y.cls = some m.cls := findClass_of_methodNamed B.named
  have hlocks := B.notSynchronized
  have hin : meth.name = y.name := (name_of_methodNamed B.named B.method).1
  have hbs : base ≤ s.heap.size := by rw [hW.2]; exact Nat.le_add_right _ _
  rw [lg_entry_eq]
  refine K p l e _ s m _ below meth c _ cy D base 0 ⟨hx, hb, hml, hown, fun w hw => hts w (List.mem_cons_of_mem _ hw), hK, ⟨Nat.le_refl _, Nat.le_refl _, Nat.le_refl _, Nat.le_refl _⟩, hbs, hin, fun x hx => by cases hx⟩ ?_ s.heap [] _ hW va_S.rf (q_L.entry ha hl)
  intro pc' ls' st' σ' I' J' k' n' H' locs' hd hQ hW' hS'
  obtain ⟨r, hrt, hq, rfl, rfl⟩ := hQ
  rcases hrt with ⟨e1, e2, v, rfl, rfl⟩ | ⟨e1, e2, v, hv, rfl, rfl⟩ | ⟨e1, e2, v, rfl, rfl⟩ | ⟨e1, e2, rfl, rfl⟩
  · subst e1; subst e2
    exact W.iret (v := v) hx hb hr (fun t ht hWt => ⟨_, σ', I', J', rfl, (fun w h => by cases h; exact fun q => by cases q), hq, by rw [ht]; exact hW', hS'.F ht⟩) hS'.2.2 hd
  · subst e1; subst e2
    exact W.zret (v := v) (ty := .boolean) hx hb hr (by rcases hv with rfl | rfl <;> rfl) (fun t ht hWt => ⟨_, σ', I', J', rfl, (fun w h => by cases h; exact fun q => by cases q), hq, by rw [ht]; exact hW', hS'.F ht⟩) hS'.2.2 hd
  · subst e1; subst e2
    exact W.lret (v := v) hx hb hr (fun t ht hWt => ⟨_, σ', I', J', rfl, (fun w h => by cases h; exact fun q => by cases q), hq, by rw [ht]; exact hW', hS'.F ht⟩) hS'.2.2 hd
  · subst e1; subst e2
    exact W.vret hx hb hr (fun t ht hWt => ⟨_, σ', I', J', rfl, (fun w h => by cases h), hq, by rw [ht]; exact hW', hS'.F ht⟩) hS'.2.2 hd
