/-! A small machine over the kit's: places instead of addresses, one flat memory of ints, a list of shapes. -/
abbrev Mem : Type := Nat → Nat → Int32
abbrev Lng : Type := Nat → Int64
abbrev Ent : Type := Nat × Nat × List (Option Nat)
abbrev Shp : Type := List Ent
def q_U : List Cond := lw_tbl.filter goodWord
theorem q_in {w : Cond} (i : Nat) (h : lw_tbl[i]? = some w) (hg : goodWord w = true) : w ∈ q_U := List.mem_filter.mpr ⟨List.mem_of_getElem? h, hg⟩
theorem q_good {ws : List Cond} (h : ∀ w ∈ ws, w ∈ q_U) : GoodIn q_U ws := fun w hw => ⟨h w hw, good_of_word (List.mem_filter.mp (h w hw)).2⟩
/-- the kinds of a class's fields: 0 int, 1 long, 2 reference -/
def q_fk (c : Nat) : List Nat := match c with
  | 0 => [2, 0, 0]
  | 1 => [2, 0]
  | 2 => [2]
  | 3 => [2, 0, 0]
  | 4 => [2, 2, 0, 0, 0, 0, 0, 0, 0, 0]
  | 5 => [2, 2]
  | 6 => [2, 0]
  | 7 => [2, 2, 2, 2, 2, 2, 2, 2, 2, 2, 1]
  | 8 => [0, 2, 0, 0, 0, 0, 0, 2, 2, 2, 2, 0, 2, 2, 1, 2, 0, 2, 0, 0, 0, 0, 2]
  | _ => []
def q_fd (base : Nat) (rs : List (Option Nat)) (f : Nat → Int32) (j : Int64) (kd k : Nat) : Value := match kd with
  | 0 => .int (f k)
  | 1 => .long j
  | _ => va_rf ((rs.getD k none).map (base + ·))
def q_fs (base : Nat) (rs : List (Option Nat)) (f : Nat → Int32) (j : Int64) : Nat → List Nat → List Value
  | _, [] => []
  | k, kd :: r => q_fd base rs f j kd k :: q_fs base rs f j (k + 1) r
def q_rw (base : Nat) (rs : List (Option Nat)) : Nat → Option Nat := fun i => (rs.getD i none).map (base + ·)
def q_cell (cy : Nat → ClassId) (base : Nat) (e : Ent) (f : Nat → Int32) (j : Int64) : va_E :=
  if e.1 < 2 then .inl (cy e.1, e.2.1, .inl f)
  else if e.1 < 10 then .inl (cy e.1, e.2.1, .inr (.inr (.inr (.inr (q_rw base e.2.2)))))
  else .inr (e.1 - 10, q_fs base e.2.2 f j 0 (q_fk (e.1 - 10)))
def q_ws (cy : Nat → ClassId) (base : Nat) (I : Mem) (J : Lng) : Nat → Shp → va_W
  | _, [] => []
  | k, e :: r => (base + k, q_cell cy base e (I k) (J k)) :: q_ws cy base I J (k + 1) r
theorem q_fs_get (base : Nat) (rs : List (Option Nat)) (f : Nat → Int32) (j : Int64) : ∀ (l : List Nat) (k i : Nat), (q_fs base rs f j k l)[i]? = (l[i]?).map (fun kd => q_fd base rs f j kd (k + i))
  | [], k, i => by simp [q_fs]
  | kd :: r, k, 0 => by simp [q_fs]
  | kd :: r, k, i + 1 => by
    have h := q_fs_get base rs f j r (k + 1) i
    simp only [q_fs, List.getElem?_cons_succ, h]
    rw [show k + 1 + i = k + (i + 1) by omega]
theorem q_fs_len (base : Nat) (rs : List (Option Nat)) (f : Nat → Int32) (j : Int64) : ∀ (l : List Nat) (k : Nat), (q_fs base rs f j k l).length = l.length
  | [], k => rfl
  | kd :: r, k => by simp [q_fs, q_fs_len base rs f j r (k + 1)]
theorem q_ws_get (cy : Nat → ClassId) (base : Nat) (I : Mem) (J : Lng) : ∀ (σ : Shp) (k i : Nat), (q_ws cy base I J k σ)[i]? = (σ[i]?).map (fun e => (base + (k + i), q_cell cy base e (I (k + i)) (J (k + i))))
  | [], k, i => by simp [q_ws]
  | e :: r, k, 0 => by simp [q_ws]
  | e :: r, k, i + 1 => by
    have h := q_ws_get cy base I J r (k + 1) i
    simp only [q_ws, List.getElem?_cons_succ, h]
    rw [show k + 1 + i = k + (i + 1) by omega]
theorem q_ws_at {cy : Nat → ClassId} {base : Nat} {I : Mem} {J : Lng} {σ : Shp} {t : Nat} {e : Ent} (he : σ[t]? = some e) : (q_ws cy base I J 0 σ)[t]? = some (base + t, q_cell cy base e (I t) (J t)) := by
  rw [q_ws_get, he]; simp
theorem q_ws_D (cy : Nat → ClassId) (base : Nat) (I : Mem) (J : Lng) (σ : Shp) : va_D (fun q => base ≤ q) (q_ws cy base I J 0 σ) := by
  refine ⟨fun i j p q hi hj hpq => ?_, fun k q hk => ?_⟩
  · rw [q_ws_get] at hi hj
    cases h1 : σ[i]? with
    | none => rw [h1] at hi; cases hi
    | some a =>
      cases h2 : σ[j]? with
      | none => rw [h2] at hj; cases hj
      | some b =>
        rw [h1] at hi; rw [h2] at hj
        cases hi; cases hj
        have h3 : base + (0 + i) = base + (0 + j) := hpq
        omega
  · rw [q_ws_get] at hk
    cases h1 : σ[k]? with
    | none => rw [h1] at hk; cases hk
    | some a =>
      rw [h1] at hk; cases hk
      show base ≤ base + (0 + k)
      omega
theorem q_ws_set {cy : Nat → ClassId} {base : Nat} {I I' : Mem} {J J' : Lng} {σ σ' : Shp} {t : Nat} {e' : Ent} (hσ : ∀ i, i ≠ t → σ'[i]? = σ[i]?) (hI : ∀ i, i ≠ t → I' i = I i) (hJ : ∀ i, i ≠ t → J' i = J i) (he : σ'[t]? = some e') (ht : t < σ.length) :
    (q_ws cy base I J 0 σ).set t (base + t, q_cell cy base e' (I' t) (J' t)) = q_ws cy base I' J' 0 σ' := by
  apply List.ext_getElem?
  intro i
  by_cases hi : i = t
  · subst hi
    have hl : i < (q_ws cy base I J 0 σ).length := by
      have h1 : (q_ws cy base I J 0 σ)[i]? ≠ none := by
        rw [q_ws_get]
        obtain ⟨x, hx⟩ : ∃ x, σ[i]? = some x := ⟨_, List.getElem?_eq_getElem ht⟩
        rw [hx]; simp
      exact Nat.not_le.mp fun q => h1 (List.getElem?_eq_none q)
    rw [List.getElem?_set_self hl, q_ws_at he]
  · rw [List.getElem?_set_ne (fun q => hi q.symm), q_ws_get, q_ws_get, hσ i hi, Nat.zero_add, hI i hi, hJ i hi]
def upI (I : Mem) (t k : Nat) (v : Int32) : Mem := fun p q => if p = t then (if q = k then v else I p q) else I p q
def upJ (J : Lng) (t : Nat) (v : Int64) : Lng := fun p => if p = t then v else J p
theorem upI_self (I : Mem) (t k : Nat) (v : Int32) : upI I t k v t = upd (I t) k v := by
  funext q; simp [upI, upd]
theorem upI_ne {I : Mem} {t k : Nat} {v : Int32} {p : Nat} (h : p ≠ t) : upI I t k v p = I p := by
  funext q; simp [upI, h]
theorem q_fs_int {base : Nat} {rs : List (Option Nat)} {f : Nat → Int32} {j : Int64} {l : List Nat} {k : Nat} (v : Int32) (hk : l[k]? = some 0) : (q_fs base rs f j 0 l).set k (.int v) = q_fs base rs (upd f k v) j 0 l := by
  have hl : k < l.length := (List.getElem?_eq_some_iff.mp hk).1
  apply List.ext_getElem?
  intro i
  by_cases hi : i = k
  · subst hi
    rw [List.getElem?_set_self (by rw [q_fs_len]; exact hl), q_fs_get, hk]
    simp [q_fd, upd]
  · rw [List.getElem?_set_ne (fun q => hi q.symm), q_fs_get, q_fs_get]
    congr 1
    funext kd
    rw [Nat.zero_add]
    unfold q_fd
    split <;> simp [upd, hi]
theorem q_fs_long {base : Nat} {rs : List (Option Nat)} {f : Nat → Int32} {j : Int64} {l : List Nat} {k : Nat} (v : Int64) (hk : l[k]? = some 1) (hu : ∀ i, l[i]? = some 1 → i = k) : (q_fs base rs f j 0 l).set k (.long v) = q_fs base rs f v 0 l := by
  have hl : k < l.length := (List.getElem?_eq_some_iff.mp hk).1
  apply List.ext_getElem?
  intro i
  by_cases hi : i = k
  · subst hi
    rw [List.getElem?_set_self (by rw [q_fs_len]; exact hl), q_fs_get, hk]
    simp [q_fd]
  · rw [List.getElem?_set_ne (fun q => hi q.symm), q_fs_get, q_fs_get]
    cases h : l[i]? with
    | none => rfl
    | some kd =>
      have h1 : kd ≠ 1 := fun q => hi (hu i (by rw [h, q]))
      simp only [Option.map_some]
      congr 1
      unfold q_fd
      split
      · rfl
      · exact absurd rfl h1
      · rfl
theorem q_fs_ref {base : Nat} {rs : List (Option Nat)} {f : Nat → Int32} {j : Int64} {l : List Nat} {k r : Nat} (hk : l[k]? = some 2) (hr : k < rs.length) : (q_fs base rs f j 0 l).set k (.ref (base + r)) = q_fs base (rs.set k (some r)) f j 0 l := by
  have hl : k < l.length := (List.getElem?_eq_some_iff.mp hk).1
  apply List.ext_getElem?
  intro i
  by_cases hi : i = k
  · subst hi
    rw [List.getElem?_set_self (by rw [q_fs_len]; exact hl), q_fs_get, hk]
    simp [q_fd, va_rf, List.getD, List.getElem?_set_self hr]
  · rw [List.getElem?_set_ne (fun q => hi q.symm), q_fs_get, q_fs_get]
    congr 1
    funext kd
    rw [Nat.zero_add]
    unfold q_fd
    split <;> simp [List.getD, List.getElem?_set_ne (fun q => hi q.symm)]
theorem q_cell_o {cy : Nat → ClassId} {base : Nat} {e : Ent} {f : Nat → Int32} {j : Int64} {c : Nat} (h : e.1 = 10 + c) : q_cell cy base e f j = .inr (c, q_fs base e.2.2 f j 0 (q_fk c)) := by
  unfold q_cell
  rw [if_neg (by omega), if_neg (by omega), show e.1 - 10 = c by omega]
theorem q_cell_i {cy : Nat → ClassId} {base : Nat} {e : Ent} {f : Nat → Int32} {j : Int64} {c : Nat} (h : e.1 = c) (hc : c < 2) : q_cell cy base e f j = .inl (cy c, e.2.1, .inl f) := by
  unfold q_cell
  rw [if_pos (by omega), h]
theorem q_cell_q {cy : Nat → ClassId} {base : Nat} {e : Ent} {f : Nat → Int32} {j : Int64} {c : Nat} (h : e.1 = c) (hc : ¬ c < 2) (hc2 : c < 10) : q_cell cy base e f j = .inl (cy c, e.2.1, .inr (.inr (.inr (.inr (q_rw base e.2.2))))) := by
  unfold q_cell
  rw [if_neg (by omega), if_pos (by omega), h]
/-- the world: the places hold what shape and memory say; z: how many cells there may be at most -/
def q_W (cy : Nat → ClassId) (D : va_G) (base z : Nat) (σ : Shp) (I : Mem) (J : Lng) (H : Heap) : Prop := va_P D vwCl (q_ws cy base I J 0 σ) H ∧ z = base + σ.length
abbrev q_ty (cy : Nat → ClassId) : List (ClassId × FieldType) := [(cy 0, .int), (cy 1, .boolean), (cy 2, .object "EntailedLand$Land"), (cy 3, .object "EntailedLand$Kin"), (cy 4, .array .int)]
/-- links of private constructors -/
def q_nest : List (String × Nat × MethodName) := [("EntailedLand", 9, yX8_init), ("EntailedLand", 18, yX6_init), ("EntailedLand$Acts", 17, yX6_init), ("EntailedLand", 43, yX5_init), ("EntailedLand", 50, yX3_init), ("EntailedLand", 57, yX2_init), ("EntailedLand$Orders", 21, yX5_init)]
def q_AO (ty : FieldType) (U : State) : Prop := (Cond.arrayOver ty).before #[] U = true
theorem q_AO.moved {ty : FieldType} {u U : State} (h : u.vm.Alike U.vm) (hA : q_AO ty u) : q_AO ty U := by
  have e := Cond.arrayOver_setVmC (args := #[]) (s := u) h ty
  exact e.trans hA
def q_K (cy : Nat → ClassId) (D : va_G) (U : State) : Prop := va_K D vwCl (q_ty cy) U ∧ (∀ q ∈ q_nest, va_Nw (.methodLinkNest q.1 q.2.1 q.2.2 "EntailedLand") U) ∧ q_AO (.object "EntailedLand$Land") U ∧ q_AO (.object "EntailedLand$Kin") U ∧ q_AO (.array .int) U
theorem q_K.same {cy : Nat → ClassId} {D : va_G} {u U : State} (h : u.vm = U.vm) (hK : q_K cy D u) : q_K cy D U := by
  obtain ⟨h1, h2, h3, h4, h5⟩ := hK
  have hA : u.vm.Alike U.vm := by rw [h]; exact Vm.Alike.refl _
  exact ⟨va_K.moved hA h1, fun q hq => va_Nw.same rfl h (h2 q hq), h3.moved hA, h4.moved hA, h5.moved hA⟩
theorem q_K.warm {cy : Nat → ClassId} {D : va_G} {s U : State} (hW : s.WarmedH U.vm) (hK : q_K cy D s) : q_K cy D U := by
  obtain ⟨h1, h2, h3, h4, h5⟩ := hK
  exact ⟨va_K.moved hW.alike h1, fun q hq => va_Nw.warmM hW (h2 q hq), h3.moved hW.alike, h4.moved hW.alike, h5.moved hW.alike⟩
/-- a value of the small machine as the machine has it; null stands for the law's script -/
def q_tr (base b : Nat) (v : Value) : Value := match v with
  | .ref k => .ref (base + k)
  | .null => .ref b
  | v => v
/-- the locals -/
def q_L (base b : Nat) (ls : Array Slot) (nL : Nat) (L : List (Option Value)) : Prop := ls.size = nL ∧ lv_wf ls ∧ ∀ (i : Nat) (v : Value), L[i]? = some (some v) → ls[i]? = some (.val (q_tr base b v))
def q_as (base b : Nat) : Nat → List (Option Value) → List (Nat × Value)
  | _, [] => []
  | i, none :: r => q_as base b (i + 1) r
  | i, some v :: r => (i, q_tr base b v) :: q_as base b (i + 1) r
theorem q_as_mem (base b : Nat) : ∀ (L : List (Option Value)) (i : Nat) (q : Nat × Value), q ∈ q_as base b i L ↔ ∃ (k : Nat) (v : Value), L[k]? = some (some v) ∧ q = (i + k, q_tr base b v)
  | [], i, q => by simp [q_as]
  | none :: r, i, q => by
    simp only [q_as]
    rw [q_as_mem base b r (i + 1) q]
    constructor
    · rintro ⟨k, v, h1, h2⟩
      exact ⟨k + 1, v, by simpa using h1, by rw [h2]; congr 1; omega⟩
    · rintro ⟨k, v, h1, h2⟩
      cases k with
      | zero => simp at h1
      | succ k => exact ⟨k, v, by simpa using h1, by rw [h2]; congr 1; omega⟩
  | some v :: r, i, q => by
    simp only [q_as, List.mem_cons]
    rw [q_as_mem base b r (i + 1) q]
    constructor
    · rintro (h | ⟨k, w, h1, h2⟩)
      · exact ⟨0, v, rfl, h⟩
      · exact ⟨k + 1, w, by simpa using h1, by rw [h2]; congr 1; omega⟩
    · rintro ⟨k, w, h1, h2⟩
      cases k with
      | zero =>
        simp at h1
        subst h1
        exact Or.inl h2
      | succ k => exact Or.inr ⟨k, w, by simpa using h1, by rw [h2]; congr 1; omega⟩
theorem q_L.has {base b : Nat} {ls : Array Slot} {nL : Nat} {L : List (Option Value)} (h : q_L base b ls nL L) : lv_has ls nL (q_as base b 0 L) := by
  refine ⟨h.1, h.2.1, fun q hq => ?_⟩
  obtain ⟨k, v, h1, rfl⟩ := (q_as_mem base b L 0 q).mp hq
  rw [Nat.zero_add]
  exact h.2.2 k v h1
/-- no long begins one place ahead -/
def q_ok (L : List (Option Value)) (i : Nat) : Bool := match i with
  | 0 => true
  | j + 1 => match L[j]? with
    | some (some (.long _)) => false
    | some (some (.double _)) => false
    | _ => true
theorem q_tr_cat (base b : Nat) (v : Value) : (q_tr base b v).category = v.category := by cases v <;> rfl
theorem q_L.set1 {base b : Nat} {ls' : Array Slot} {nL : Nat} {L : List (Option Value)} {i : Nat} {v : Value} (ho : q_ok L i = true)
    (h : lv_has ls' nL ((i, q_tr base b v) :: (q_as base b 0 L).filter (fun q => !(q.1 == i) && !(q.1 + 1 == i && q.2.category == 2)))) : q_L base b ls' nL (L.set i (some v)) := by
  refine ⟨h.1, h.2.1, fun j w hj => ?_⟩
  by_cases hji : j = i
  · subst hji
    have hlt : j < (L.set j (some v)).length := (List.getElem?_eq_some_iff.mp hj).1
    rw [List.length_set] at hlt
    rw [List.getElem?_set_self hlt] at hj
    cases hj
    exact h.2.2 _ List.mem_cons_self
  · rw [List.getElem?_set_ne (fun q => hji q.symm)] at hj
    refine h.2.2 (j, q_tr base b w) (List.mem_cons_of_mem _ (List.mem_filter.mpr ⟨(q_as_mem base b L 0 _).mpr ⟨j, w, hj, by rw [Nat.zero_add]⟩, ?_⟩))
    simp only [Bool.and_eq_true, Bool.not_eq_true', beq_eq_false_iff_ne, ne_eq, Bool.and_eq_false_iff]
    refine ⟨hji, ?_⟩
    by_cases hi : j + 1 = i
    · right
      rw [q_tr_cat]
      subst hi
      simp only [q_ok, hj] at ho
      cases w <;> simp_all [Value.category]
    · exact Or.inl hi
theorem q_L.set2 {base b : Nat} {ls' : Array Slot} {nL : Nat} {L : List (Option Value)} {i : Nat} {v : Value} (ho : q_ok L i = true)
    (h : lv_has ls' nL ((i, q_tr base b v) :: (q_as base b 0 L).filter (fun q => !(q.1 == i) && (!(q.1 == i + 1) && !(q.1 + 1 == i && q.2.category == 2))))) : q_L base b ls' nL ((L.set i (some v)).set (i + 1) none) := by
  refine ⟨h.1, h.2.1, fun j w hj => ?_⟩
  by_cases hj1 : j = i + 1
  · subst hj1
    have hlt : i + 1 < ((L.set i (some v)).set (i + 1) none).length := (List.getElem?_eq_some_iff.mp hj).1
    rw [List.length_set] at hlt
    rw [List.getElem?_set_self hlt] at hj
    cases hj
  · rw [List.getElem?_set_ne (fun q => hj1 q.symm)] at hj
    by_cases hji : j = i
    · subst hji
      have hlt : j < (L.set j (some v)).length := (List.getElem?_eq_some_iff.mp hj).1
      rw [List.length_set] at hlt
      rw [List.getElem?_set_self hlt] at hj
      cases hj
      exact h.2.2 _ List.mem_cons_self
    · rw [List.getElem?_set_ne (fun q => hji q.symm)] at hj
      refine h.2.2 (j, q_tr base b w) (List.mem_cons_of_mem _ (List.mem_filter.mpr ⟨(q_as_mem base b L 0 _).mpr ⟨j, w, hj, by rw [Nat.zero_add]⟩, ?_⟩))
      simp only [Bool.and_eq_true, Bool.not_eq_true', beq_eq_false_iff_ne, ne_eq, Bool.and_eq_false_iff]
      refine ⟨hji, hj1, ?_⟩
      by_cases hi : j + 1 = i
      · right
        rw [q_tr_cat]
        subst hi
        simp only [q_ok, hj] at ho
        cases w <;> simp_all [Value.category]
      · exact Or.inl hi
/-- the machine's side of a method's walk -/
def q_Cx (own nm : String) (cc : ByteArray) (nL d mc ms : Nat) (X : Option (Nat × (Nat → Int32))) (p : Program) (R : Room) (s : State) (m : MethodId) (args : Array Value) (meth : Method) (c : Code) (cy : Nat → ClassId) (D : va_G) (base b : Nat) : Prop :=
  p.tables.exec = Jvm.exec ∧ c.code = cc ∧ c.maxLocals = nL ∧ s.vm.findClass own = some m.cls ∧ (∀ w ∈ q_U, w.before args s = true) ∧ q_K cy D s ∧ (d ≤ R.frames ∧ 40 * d ≤ R.locals ∧ mc ≤ R.cells ∧ ms ≤ R.slots) ∧ base ≤ s.heap.size ∧ meth.name = nm ∧ (∀ x, X = some x → va_X b x.1 x.2 s s.heap ∧ b < s.heap.size ∧ ¬ base ≤ b)
/-- from here the method comes to its return with Q -/
def q_WP (own nm : String) (cc : ByteArray) (nL : Nat) (rop : Instr) (d mc ms : Nat) (X : Option (Nat × (Nat → Int32))) (Q : List Value → Shp → Mem → Lng → Nat → Nat → Prop) (k n pc : Nat) (L : List (Option Value)) (st : List Value) (σ : Shp) (I : Mem) (J : Lng) : Prop :=
  ∀ (p : Program) (l : Launch) (e : Env) (R : Room) (s : State) (m : MethodId) (args : Array Value) (below : List Frame) (meth : Method) (c : Code) (Qm : State → Prop) (cy : Nat → ClassId) (D : va_G) (base b : Nat), q_Cx own nm cc nL d mc ms X p R s m args meth c cy D base b →
    (∀ (pc' : Nat) (ls' : Array Slot) (st' : List Value) (σ' : Shp) (I' : Mem) (J' : Lng) (k' n' : Nat) (H' : Heap) (locs' : List Loc), decode cc pc' = .ok (rop, 1) → Q st' σ' I' J' k' n' → q_W cy D base (s.heap.size + k') σ' I' J' H' → va_S (fun q => base ≤ q) s.heap H' locs' → W p l e R s m args below meth c H' locs' k' n' Qm (F0 m pc' ls' (st'.map (q_tr base b)))) →
    ∀ (H : Heap) (locs : List Loc) (ls : Array Slot), q_W cy D base (s.heap.size + k) σ I J H → va_S (fun q => base ≤ q) s.heap H locs → q_L base b ls nL L → W p l e R s m args below meth c H locs k n Qm (F0 m pc ls (st.map (q_tr base b)))
