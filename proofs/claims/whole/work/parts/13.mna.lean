/-- the outer row of N places at h, when i of its places have their rows -/
def mn_o (c : ClassId) (N h : Nat) : Nat → Cell
  | 0 => { cls := c, slots := Array.replicate N .null, vm := .none }
  | i + 1 => (mn_o c N h i).setSlot i (.ref (h + 1 + i))
/-- a row of M ints -/
def mn_r (c : ClassId) (M : Nat) : Cell := { cls := c, slots := Array.replicate M (.int 0), vm := .none }
/-- the state, when i of the rows stand -/
def mn_s (co ci : ClassId) (N M : Nat) (T : State) : Nat → State
  | 0 => T.pushCell (mn_o co N T.heap.size 0)
  | i + 1 => ((mn_s co ci N M T i).pushCell (mn_r ci M)).setCell T.heap.size (mn_o co N T.heap.size (i + 1))
theorem mn_o_facts (c : ClassId) (N h : Nat) : ∀ i : Nat, (mn_o c N h i).cls = c ∧ (mn_o c N h i).vm = .none ∧ (mn_o c N h i).slots.size = N
  | 0 => ⟨rfl, rfl, by simp [mn_o]⟩
  | i + 1 => by
    obtain ⟨h1, h2, h3⟩ := mn_o_facts c N h i
    exact ⟨h1, h2, by simpa [mn_o, Cell.setSlot] using h3⟩
theorem mn_s_facts (co ci : ClassId) (N M : Nat) (T : State) : ∀ i : Nat, (mn_s co ci N M T i).heap.size = T.heap.size + 1 + i ∧ (mn_s co ci N M T i).heap[T.heap.size]? = some (mn_o co N T.heap.size i) ∧ (∀ a : Nat, a < T.heap.size → (mn_s co ci N M T i).heap[a]? = T.heap[a]?) ∧ (∀ j : Nat, j < i → (mn_s co ci N M T i).heap[T.heap.size + 1 + j]? = some (mn_r ci M)) ∧ (mn_s co ci N M T i).slotsUsed = T.slotsUsed + N + i * M ∧ (mn_s co ci N M T i).vm = T.vm
  | 0 => by
    refine ⟨by simp [mn_s], by simp [mn_s], fun a ha => ?_, fun j hj => absurd hj (Nat.not_lt_zero j), ?_, rfl⟩
    · show (T.heap.push _)[a]? = _
      rw [Array.getElem?_push, if_neg (by omega)]
    · show T.slotsUsed + (Array.replicate N Value.null).size = _
      rw [Array.size_replicate]; omega
  | i + 1 => by
    obtain ⟨h1, h2, h3, h4, h5, h6⟩ := mn_s_facts co ci N M T i
    have hg : ∀ a : Nat, (mn_s co ci N M T (i + 1)).heap[a]? = (((mn_s co ci N M T i).heap.push (mn_r ci M)).setIfInBounds T.heap.size (mn_o co N T.heap.size (i + 1)))[a]? := fun _ => rfl
    refine ⟨?_, ?_, fun a ha => ?_, fun j hj => ?_, ?_, h6⟩
    · show (((mn_s co ci N M T i).heap.push (mn_r ci M)).setIfInBounds T.heap.size (mn_o co N T.heap.size (i + 1))).size = _
      rw [Array.size_setIfInBounds, Array.size_push, h1]; omega
    · rw [hg, Array.getElem?_setIfInBounds, if_pos rfl, if_pos (by rw [Array.size_push, h1]; omega)]
    · rw [hg, Array.getElem?_setIfInBounds, if_neg (by omega), Array.getElem?_push, if_neg (by omega), h3 a ha]
    · rw [hg, Array.getElem?_setIfInBounds, if_neg (by omega), Array.getElem?_push]
      by_cases e : j = i
      · rw [if_pos (by rw [h1, e])]
      · rw [if_neg (by rw [h1]; omega), h4 j (by omega)]
    · show (mn_s co ci N M T i).slotsUsed + (Array.replicate M (Value.int 0)).size = _
      rw [Array.size_replicate, h5, Nat.succ_mul]; omega
/-- a frame on top is carried along -/
theorem mn_s_top (co ci : ClassId) (N M : Nat) (T : State) (f : JFrame) : ∀ i : Nat, mn_s co ci N M (T.setTop f) i = (mn_s co ci N M T i).setTop f
  | 0 => rfl
  | i + 1 => by
    show ((mn_s co ci N M (T.setTop f) i).pushCell (mn_r ci M)).setCell _ _ = _
    rw [mn_s_top co ci N M T f i]
    rfl
theorem mn_s_java (co ci : ClassId) (N M : Nat) (T : State) : ∀ i : Nat, (mn_s co ci N M T i).topJava? = T.topJava?
  | 0 => rfl
  | i + 1 => mn_s_java co ci N M T i
section
variable {E : CtlPost} {e : Env} {d : Bool} {acts : List Action} {s : State}
/-- one row -/
theorem mn_row {ci comp : ClassId} {k : Class} {w : Int32} {M : Nat} {Q : Addr → Pre} (hk : s.vm.classes[ci]? = some k) (hkind : k.kind = .array comp .int) (hw : ¬ w < 0) (hM : w.toNatClampNeg = M) (hlim : ¬ M > e.platform.arrayLengthLimit) (hheap : ¬ M * componentBytes .int > e.platform.maxHeapBytes) (hcells : s.heap.size < e.platform.maxCells) (hslots : s.slotsUsed + M ≤ e.platform.maxSlots) (hq : ∀ d' acts', Q s.heap.size d' acts' (s.pushCell (mn_r ci M))) : wp (multianewarray.make ci [w]) Q E e d acts s := by
  subst hM
  simp only [multianewarray.make, wp_bind', W.ite, hw, if_false, wp_pure', W.theClass]
  refine ⟨k, hk, ?_⟩
  simp only [hkind]
  exact W.newArray_of hk hkind hlim hheap hcells hslots rfl (fun a => hq _ a)
/-- the rows of a row -/
theorem mn_rows {co ci comp : ClassId} {ko ki : Class} {v w : Int32} {N M : Nat} {Q : Addr → Pre} (hko : s.vm.classes[co]? = some ko) (hkindo : ko.kind = .array ci (.array .int)) (hki : s.vm.classes[ci]? = some ki) (hkindi : ki.kind = .array comp .int) (hv : ¬ v < 0) (hN : v.toNatClampNeg = N) (hw : ¬ w < 0) (hM : w.toNatClampNeg = M) (hl1 : ¬ N > e.platform.arrayLengthLimit) (hh1 : ¬ N * componentBytes (.array .int) > e.platform.maxHeapBytes) (hl2 : ¬ M > e.platform.arrayLengthLimit) (hh2 : ¬ M * componentBytes .int > e.platform.maxHeapBytes) (hcells : s.heap.size + (1 + N) ≤ e.platform.maxCells) (hslots : s.slotsUsed + (N + N * M) ≤ e.platform.maxSlots) (hq : ∀ d' acts', Q s.heap.size d' acts' (mn_s co ci N M s N)) : wp (multianewarray.make co [v, w]) Q E e d acts s := by
  subst hN
  rw [multianewarray.make]
  simp only [wp_bind', W.ite, hv, if_false, wp_pure', W.theClass]
  refine ⟨ko, hko, ?_⟩
  simp only [hkindo, wp_bind']
  refine W.newArray_of hko hkindo hl1 hh1 (by omega) (by omega) rfl (fun a1 => ?_)
  have hfind : List.find? (fun x : Int32 => decide (x < 0)) [w] = none := by simp [hw]
  simp only [hfind, ite_self, wp_bind', Std.Legacy.Range.forIn_eq_forIn_range', Std.Legacy.Range.size, Nat.sub_zero, Nat.add_sub_cancel, Nat.div_one]
  refine wp_forIn_inv (fun rest s' => ∃ i : Nat, i ≤ v.toNatClampNeg ∧ rest = List.range' i (v.toNatClampNeg - i) ∧ s' = mn_s co ci v.toNatClampNeg M s i) _ _ ⟨0, Nat.zero_le _, rfl, rfl⟩ ?_ ?_
  · rintro x rest s' d' acts' Q' ⟨i, hi, hr, rfl⟩ hQ
    have hlt : i < v.toNatClampNeg := by
      rcases Nat.lt_or_ge i v.toNatClampNeg with h | h
      · exact h
      · rw [Nat.sub_eq_zero_of_le h] at hr; cases hr
    rw [show v.toNatClampNeg - i = (v.toNatClampNeg - (i + 1)) + 1 by omega, List.range'_succ] at hr
    obtain ⟨rfl, rfl⟩ := List.cons.inj hr
    obtain ⟨h1, h2, h3, h4, h5, h6⟩ := mn_s_facts co ci v.toNatClampNeg M s x
    have hm : x * M + M ≤ v.toNatClampNeg * M := by
      rw [← Nat.succ_mul]; exact Nat.mul_le_mul_right _ hlt
    simp only [wp_bind']
    refine mn_row (by rw [h6]; exact hki) hkindi hw hM hl2 hh2 (by rw [h1]; omega) (by rw [h5]; omega) (fun d1 b1 => ?_)
    rw [h1]
    simp only [wp_bind', W.writeLoc, wp_pure']
    obtain ⟨o1, o2, o3⟩ := mn_o_facts co v.toNatClampNeg s.heap.size x
    refine ⟨mn_o co v.toNatClampNeg s.heap.size x, ?_, (by rw [o2]; exact fun h => nomatch h), (by rw [o3]; exact hlt), ?_, hQ _ _ _ ⟨x + 1, hlt, rfl, rfl⟩⟩
    · show ((mn_s co ci v.toNatClampNeg M s x).heap.push _)[s.heap.size]? = _
      rw [Array.getElem?_push, if_neg (by rw [h1]; omega), h2]
    · rw [o1, o2]
      have hk' : (mn_s co ci v.toNatClampNeg M s x).vm.classes[co]? = some ko := by rw [h6]; exact hko
      simp [State.fitsSlot, State.slotType?, hk', hkindo, fits]
  · rintro s' d' acts' ⟨i, hi, hr, rfl⟩
    have hz : v.toNatClampNeg - i = 0 := by
      cases h : v.toNatClampNeg - i with
      | zero => rfl
      | succ n => rw [h, List.range'_succ] at hr; cases hr
    have : i = v.toNatClampNeg := by omega
    subst this
    exact hq _ _
/-- the instruction, by its own words -/
theorem mn_op {idx : Nat} {f : JFrame} {co ci comp : ClassId} {ko ki : Class} {vm₁ : Vm} {v w : Int32} {N M : Nat} {rest : List Value} {Q : Unit → Pre} (hs : s.topJava?.isSome) (hg : (Jvm.resolveClass f.method.cls idx).Gives e.toSetting s.vm (.ok co) vm₁) (hsz : vm₁.classes.size ≤ s.vm.classes.size) (hst : f.stack = .int w :: .int v :: rest) (hko : vm₁.classes[co]? = some ko) (hkindo : ko.kind = .array ci (.array .int)) (hki : vm₁.classes[ci]? = some ki) (hkindi : ki.kind = .array comp .int) (hv : ¬ v < 0) (hN : v.toNatClampNeg = N) (hw : ¬ w < 0) (hM : w.toNatClampNeg = M) (hl1 : ¬ N > e.platform.arrayLengthLimit) (hh1 : ¬ N * componentBytes (.array .int) > e.platform.maxHeapBytes) (hl2 : ¬ M > e.platform.arrayLengthLimit) (hh2 : ¬ M * componentBytes .int > e.platform.maxHeapBytes) (hcells : s.heap.size + (1 + N) ≤ e.platform.maxCells) (hslots : s.slotsUsed + (N + N * M) ≤ e.platform.maxSlots) (hq : ∀ d' acts', Q () d' acts' ((mn_s co ci N M (s.setVm vm₁) N).setTop { f with stack := .ref s.heap.size :: rest })) : wp (multianewarray.sem idx 2) Q E e d acts (s.setTop f) := by
  unfold multianewarray.sem
  rw [wp_bind', W.resolveClassAt_links (mm := f.method) (State.method?_setTop f hs) hg hsz]
  have hs1 : (s.setVm vm₁).topJava?.isSome := hs
  simp only [State.setVm_setTop, Jvm.popN, wp_bind', W.pop, wp_pure', State.topJava?_setTop' _ hs1, Option.some.injEq, exists_eq_left', hst, List.cons.injEq, State.setTop_setTop, List.nil_append, List.cons_append, List.mapM_cons, List.mapM_nil]
  refine ⟨_, _, ⟨rfl, rfl⟩, _, _, rfl, ?_⟩
  simp only [wp_bind', wp_pure']
  refine mn_rows (co := co) (ci := ci) (N := N) (M := M) hko hkindo hki hkindi hv hN hw hM hl1 hh1 hl2 hh2 hcells hslots (fun d1 b1 => ?_)
  rw [mn_s_top]
  have hs2 : (mn_s co ci N M (s.setVm vm₁) N).topJava?.isSome := by rw [mn_s_java]; exact hs
  simp only [W.mark, wp_bind', W.pushRef, State.topJava?_setTop' _ hs2, Option.some.injEq, exists_eq_left', State.setTop_setTop]
  exact hq _ _
end
/-- where the walk stands, when i of the rows stand -/
theorem mn_stand {p : Program} {l : Launch} {e : Env} {R : Room} {s : State} {m : MethodId} {args : Array Value} {below : List Frame} {meth : Method} {c : Code} {T : State} {locs : List Loc} {cells slots : Nat} (X : Stand p l e R s m args below meth c T locs cells slots) (co ci : ClassId) (N M : Nat) : ∀ i : Nat, Stand p l e R s m args below meth c (mn_s co ci N M T i) locs (cells + 1 + i) (slots + N + i * M)
  | 0 => by
    have := X.pushed (mn_o co N T.heap.size 0)
    rw [(mn_o_facts co N T.heap.size 0).2.2] at this
    rw [Nat.zero_mul]
    exact this
  | i + 1 => by
    have h := (mn_stand X co ci N M i).pushed (mn_r ci M)
    obtain ⟨h1, h2, -⟩ := mn_s_facts co ci N M T i
    have hc : ((mn_s co ci N M T i).pushCell (mn_r ci M)).heap[T.heap.size]? = some (mn_o co N T.heap.size i) := by
      show ((mn_s co ci N M T i).heap.push _)[T.heap.size]? = _
      rw [Array.getElem?_push, if_neg (by rw [h1]; omega), h2]
    have h3 := (h.stored hc i (.ref (T.heap.size + 1 + i))).dropFresh (fun x hx => by
      cases List.mem_singleton.mp hx
      exact X.heapGrown)
    have e : slots + N + i * M + (mn_r ci M).slots.size = slots + N + (i + 1) * M := by
      rw [show (mn_r ci M).slots.size = M from Array.size_replicate, Nat.succ_mul]; omega
    rw [e] at h3
    exact h3
/-- what is said of the class of rows of rows -/
theorem mn_over {A : Array Value} {s : State} {t : FieldType} (h : (Cond.arrayOver (.array t)).before A s = true) : ∃ (ci co : ClassId) (k : Class), s.vm.findClass (FieldType.array t).toString = some ci ∧ s.vm.findClass ("[" ++ (FieldType.array t).toString) = some co ∧ s.vm.classes[co]? = some k ∧ k.kind = .array ci (.array t) := by
  simp only [Cond.before, Cond.holds, Cond.value, beq_iff_eq, Option.bind_eq_some_iff, Option.map_eq_some_iff] at h
  obtain ⟨ci, h1, co, h2, k, h3, h4⟩ := h
  obtain ⟨hlt, hp, -⟩ := Array.findIdx?_eq_some_iff_getElem.mp h2
  have hk : s.vm.classes[co]'hlt = k := Option.some.inj ((Array.getElem?_eq_getElem hlt).symm.trans h3)
  rw [hk] at hp
  cases e : k.kind with
  | array a ty =>
    rw [e] at hp h4
    simp only [Bool.and_eq_true, decide_eq_true_eq, beq_iff_eq] at hp h4
    exact ⟨ci, co, k, h1, h4.2, h3, by rw [e, hp, h4.1]⟩
  | _ => rw [e] at h4; exact absurd h4 Bool.false_ne_true
/-- the step -/
theorem mn_step {p : Program} {l : Launch} {e : Env} {R : Room} {s : State} {m : MethodId} {args : Array Value} {below : List Frame} {meth : Method} {c : Code} {T : State} {locs : List Loc} {cells slots : Nat} (X : Stand p l e R s m args below meth c T locs cells slots) (hexec : p.tables.exec = Jvm.exec) {own : String} {idx : Nat} (hown : s.vm.findClass own = some m.cls) (hlink : (Cond.classLink own idx ("[" ++ (FieldType.array .int).toString)).before args s = true) (hover : (Cond.arrayOver (.array .int)).before args s = true) (harr : (Cond.arrayClass .int).before args s = true) {g : JFrame} (hg : g.method = m) (hd : decode c.code g.pc = .ok (.multianewarray idx 2, 4)) {v w : Int32} {N M : Nat} {rest : List Value} (hst : g.stack = .int w :: .int v :: rest) (hv : ¬ v < 0) (hN : v.toNatClampNeg = N) (hw : ¬ w < 0) (hM : w.toNatClampNeg = M) (hNb : N ≤ 100000) (hMb : M ≤ 100000) (hc : cells + (1 + N) ≤ R.cells) (hn : slots + (N + N * M) ≤ R.slots) : ∃ (vm₁ : Vm) (co ci : ClassId), s.vm.findClass ("[" ++ (FieldType.array .int).toString) = some co ∧ s.vm.findClass (FieldType.array .int).toString = some ci ∧ Stand p l e R s m args below meth c (mn_s co ci N M (T.setVm vm₁) N) locs (cells + 1 + N) (slots + N + N * M) ∧ ∀ target, Steps p.tables e below ((mn_s co ci N M (T.setVm vm₁) N).setTop { g with pc := g.pc + 4, stack := .ref T.heap.size :: rest }) target → Steps p.tables e below (T.setTop g) target := by
  subst hg
  have hpl : e.platform.magicAccessors = ({} : Platform).magicAccessors := by rw [X.admits.platform]
  obtain ⟨ci, co, ko, f1, f2, f3, f4⟩ := mn_over hover
  obtain ⟨ci', ki, comp, g1, g2, g3⟩ := Cond.arrayClass_spec harr
  cases f1.symm.trans g1
  obtain ⟨co', l1, l2⟩ := Cond.classLink_spec hown hlink e.platform hpl
  cases f2.symm.trans l1
  obtain ⟨r1, r2, -⟩ := State.classEntry (e := e) X.warmed l2
  generalize T.vm.noted g.method.cls idx (.cls co) = vm₁ at r1 r2
  obtain ⟨ko1, k1, k2⟩ := r2.alike.2.2 _ _ f3
  obtain ⟨ki1, k3, k4⟩ := r2.alike.2.2 _ _ g2
  obtain ⟨hr1, hr2⟩ := X.roomAbove hc hn
  have hsz : vm₁.classes.size ≤ T.vm.classes.size := by rw [r2.alike.2.1, X.warmed.alike.2.1]; exact Nat.le_refl _
  refine ⟨vm₁, co, ci, f2, f1, mn_stand (X.noted r2) co ci N M N, fun target hrest => ?_⟩
  refine Steps.instr (c := c) X.here ?_
  rw [hd]
  show wpRun (p.tables.exec _) _ _ _ _
  rw [hexec]
  show wp (multianewarray.sem idx 2) _ _ _ _ _ _
  have lim := Launch.admits_arrayLengthLimit X.admits
  have mx := Launch.admits_maxHeapBytes X.admits
  refine mn_op (N := N) (M := M) (co := co) (ci := ci) X.here.top r1 hsz hst k1 (by rw [k2]; exact f4) k3 (by rw [k4]; exact g3) hv hN hw hM (by rw [lim]; omega) (by rw [mx]; show ¬ N * 4 > 536870912; omega) (by rw [lim]; omega) (by rw [mx]; show ¬ M * 4 > 536870912; omega) hr1 hr2 (fun d' a' acts2 => ?_)
  rw [afterInstr_ok]
  exact hrest
/-- the outer row as a row of places -/
theorem mn_o_arr (c : ClassId) (N h : Nat) : ∀ i : Nat, mn_o c N h i = arrV c N (fun j => va_rf (if j < i then some (h + 1 + j) else none))
  | 0 => by
    show ({ cls := c, slots := Array.replicate N .null, vm := .none } : Cell) = _
    rw [arrV_new]
    refine congrArg (arrV c N) (funext fun j => ?_)
    simp [va_rf]
  | i + 1 => by
    show (mn_o c N h i).setSlot i (.ref (h + 1 + i)) = _
    rw [mn_o_arr c N h i, arrV_store]
    refine congrArg (arrV c N) (funext fun j => ?_)
    by_cases e : j = i
    · subst e
      simp [updV, va_rf]
    · by_cases h : j < i
      · simp [updV, e, h, Nat.lt_succ_of_lt h]
      · simp [updV, e, h, show ¬ j < i + 1 by omega]
theorem q_P_apps {cy : Nat → ClassId} {D : va_G} {base : Nat} {σ es : Shp} {I : Mem} {J : Lng} {H H1 : Heap} (hP : va_P D vwCl (q_ws cy base I J 0 σ) H) (ho : ∀ q, q < H.size → H1[q]? = H[q]?) (h1 : ∀ (j : Nat) (e : Ent), es[j]? = some e → va_at D vwCl (base + (σ.length + j), q_cell cy base e (I (σ.length + j)) (J (σ.length + j))) H1) : va_P D vwCl (q_ws cy base I J 0 (σ ++ es)) H1 := by
  intro k q hk
  rw [q_ws_get, Nat.zero_add] at hk
  by_cases hl : k < σ.length
  · rw [List.getElem?_append_left hl] at hk
    have hk2 : (q_ws cy base I J 0 σ)[k]? = some q := by rw [q_ws_get, Nat.zero_add]; exact hk
    have h := hP k q hk2
    exact h.kept (ho _ h.lt)
  · rw [List.getElem?_append_right (by omega)] at hk
    cases he : es[k - σ.length]? with
    | none => rw [he] at hk; cases hk
    | some e =>
      rw [he] at hk
      cases hk
      have := h1 (k - σ.length) e he
      rw [show σ.length + (k - σ.length) = k by omega] at this
      exact this
section
variable {own nm : String} {cc : ByteArray} {nL : Nat} {rop : Instr} {d mc ms : Nat} {X : Option (Nat × (Nat → Int32))} {Q : List Value → Shp → Mem → Lng → Nat → Nat → Prop} {k n pc : Nat} {L : List (Option Value)} {st : List Value} {σ : Shp} {I : Mem} {J : Lng}
set_option maxHeartbeats 4000000 in
theorem s_mna {idx N M : Nat} {v w : Int32} (hd : decode cc pc = .ok (.multianewarray idx 2, 4)) (hl : Cond.classLink own idx ("[" ++ (FieldType.array FieldType.int).toString) ∈ q_U) (harr : Cond.arrayClass .int ∈ q_U) (hv : ¬ v < 0) (hw : ¬ w < 0) (hN : v.toNatClampNeg = N) (hM : w.toNatClampNeg = M) (hNb : N ≤ 100000) (hMb : M ≤ 100000) (hI : ∀ j, I (σ.length + j) = fun _ => 0) (hk : k + (1 + N) ≤ mc) (hn : n + (N + N * M) ≤ ms)
    (K : q_WP own nm cc nL rop d mc ms X Q (k + 1 + N) (n + N + N * M) (pc + 4) L (.ref σ.length :: st) (σ ++ ((4, N, (List.range N).map (fun j => some (σ.length + 1 + j))) :: List.replicate N (0, M, []))) I J) : q_WP own nm cc nL rop d mc ms X Q k n pc L (.int w :: .int v :: st) σ I J := by
  intro p l e0 R s m args below meth c0 Qm cy D base b C E H locs ls hW hS hL T hT Xs
  have hsz := q_size hT Xs hW C.2.2.2.2.2.2.2.1 hS.1
  have hR := C.2.2.2.2.2.2.1
  subst hN
  subst hM
  obtain ⟨vm₁, cA, comp, fA, fC, X', step⟩ := mn_step Xs C.1 C.2.2.2.1 (C.2.2.2.2.1 _ hl) C.2.2.2.2.2.1.2.2.2.2 (C.2.2.2.2.1 _ harr) (g := F0 m pc ls (.int w :: .int v :: st.map (q_tr base b))) rfl (by rw [C.2.1]; exact hd) rfl hv rfl hw rfl hNb hMb (by omega) (by omega)
  have h0 : s.vm.findClass ("[" ++ (FieldType.int).toString) = some (cy 0) := (C.2.2.2.2.2.1.1.2 0 _ rfl).2
  have e0' : comp = cy 0 := Option.some.inj (fC.symm.trans h0)
  have h4 : s.vm.findClass ("[" ++ (FieldType.array FieldType.int).toString) = some (cy 4) := (C.2.2.2.2.2.1.1.2 4 _ rfl).2
  have e4 : cA = cy 4 := Option.some.inj (fA.symm.trans h4)
  subst e0'; subst e4
  obtain ⟨f1, f2, hold, hrow, -, -⟩ := mn_s_facts (cy 4) (cy 0) v.toNatClampNeg w.toNatClampNeg (T.setVm vm₁) v.toNatClampNeg
  generalize mn_s (cy 4) (cy 0) v.toNatClampNeg w.toNatClampNeg (T.setVm vm₁) v.toNatClampNeg = F at X' step f1 f2 hold hrow
  have hTh : (T.setVm vm₁).heap = H := hT
  rw [hTh] at f1 f2 hold hrow
  have hz : s.heap.size + (k + 1 + v.toNatClampNeg) = base + (σ ++ ((4, v.toNatClampNeg, (List.range v.toNatClampNeg).map (fun j => some (σ.length + 1 + j))) :: List.replicate v.toNatClampNeg (0, w.toNatClampNeg, [])) : Shp).length := by
    have := hW.2
    simp only [List.length_append, List.length_cons, List.length_replicate]; omega
  have hP1 : va_P D vwCl (q_ws cy base I J 0 (σ ++ ((4, v.toNatClampNeg, (List.range v.toNatClampNeg).map (fun j => some (σ.length + 1 + j))) :: List.replicate v.toNatClampNeg (0, w.toNatClampNeg, [])))) F.heap := by
    refine q_P_apps hW.1 hold (fun j e he => ?_)
    cases j with
    | zero =>
      cases he
      rw [q_cell_q (e := (4, v.toNatClampNeg, (List.range v.toNatClampNeg).map (fun j => some (σ.length + 1 + j)))) (c := 4) rfl (by decide) (by decide)]
      show F.heap[base + (σ.length + 0)]? = some (vp_cell _ _)
      rw [Nat.add_zero, ← hsz, f2, vp_cell_q, mn_o_arr]
      congr 2
      funext i
      unfold q_rw
      by_cases hi : i < v.toNatClampNeg
      · rw [if_pos hi, List.getD, List.getElem?_map, List.getElem?_range hi]
        show va_rf (some (H.size + 1 + i)) = va_rf (some (base + (σ.length + 1 + i)))
        rw [hsz]; congr 2; omega
      · rw [if_neg hi, List.getD, List.getElem?_map, List.getElem?_eq_none (by rw [List.length_range]; omega)]
        rfl
    | succ j =>
      rw [List.getElem?_cons_succ, List.getElem?_replicate] at he
      split at he
      · rename_i hj
        cases he
        rw [q_cell_i (e := (0, w.toNatClampNeg, [])) (c := 0) rfl (by decide), hI]
        show F.heap[base + (σ.length + (j + 1))]? = some (vp_cell _ _)
        rw [show base + (σ.length + (j + 1)) = H.size + 1 + j by rw [hsz]; omega, hrow j hj, vp_cell_i]
        show some ({ cls := cy 0, slots := Array.replicate w.toNatClampNeg (.int 0), vm := .none } : Cell) = _
        rw [arrV_new]
      · cases he
  have hS1 : va_S (fun q => base ≤ q) s.heap F.heap locs := q_S_app hS (by rw [f1]; omega) hold
  obtain ⟨t2, a1, b1⟩ := K p l e0 R s m args below meth c0 Qm cy D base b C E F.heap locs ls ⟨hP1, hz⟩ hS1 hL F rfl X'
  refine ⟨t2, step t2 ?_, b1⟩
  have e : (F0 m (pc + 4) ls ((Value.ref σ.length :: st).map (q_tr base b))) = { (F0 m pc ls (Value.int w :: Value.int v :: st.map (q_tr base b))) with pc := (F0 m pc ls (Value.int w :: Value.int v :: st.map (q_tr base b))).pc + 4, stack := Value.ref T.heap.size :: st.map (q_tr base b) } := by rw [hT, hsz]; rfl
  rw [← e]
  exact a1
end
