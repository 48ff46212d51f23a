theorem q_blind (cy : Nat → ClassId) (D : va_G) (base : Nat) (av : List Value) (σ : Shp) (I : Mem) (J : Lng) : FrameBlind (q_Pc cy D base av σ I J) := fun a U g mk q => by
  obtain ⟨q0, qW, qK⟩ := q
  exact ⟨q0, qW, q_K.same (u := U) (U := U.calling g mk a) rfl qK⟩
theorem q_tr_r {base b : Nat} {r : Option Value} (h : ∀ v, r = some v → v ≠ .null) (st : List Value) : (r.map (q_tr base 0)).toList ++ st.map (q_tr base b) = (r.toList ++ st).map (q_tr base b) := by
  cases r with
  | none => rfl
  | some v =>
    have hv := h v rfl
    cases v <;> first | rfl | exact absurd rfl hv
section
variable {own nm : String} {cc : ByteArray} {nL : Nat} {rop : Instr} {d mc ms : Nat} {X : Option (Nat × (Nat → Int32))} {Q : List Value → Shp → Mem → Lng → Nat → Nat → Prop} {k n pc : Nat} {L : List (Option Value)} {st : List Value} {σ : Shp} {I : Mem} {J : Lng}
theorem q_go {p : Program} {l : Launch} {e : Env} {R : Room} {s : State} {m : MethodId} {args : Array Value} {below : List Frame} {meth : Method} {c : Code} {Qm : State → Prop} {cy : Nat → ClassId} {D : va_G} {base b : Nat} {H : Heap} {locs : List Loc} {ls : Array Slot} {S : List Value} {mc' ms' : Nat} {Q' : Option Value → Shp → Mem → Lng → Prop} {a : Array Value} {T : State}
    (C : q_Cx own nm cc nL d mc ms X p R s m args meth c cy D base b)
    (E : ∀ (pc' : Nat) (ls' : Array Slot) (st' : List Value) (σ' : Shp) (I' : Mem) (J' : Lng) (k' n' : Nat) (H' : Heap) (locs' : List Loc), decode cc pc' = .ok (rop, 1) → Q st' σ' I' J' k' n' → q_W cy D base (s.heap.size + k') σ' I' J' H' → va_S (fun q => base ≤ q) s.heap H' locs' → W p l e R s m args below meth c H' locs' k' n' Qm (F0 m pc' ls' (st'.map (q_tr base b))))
    (hW : q_W cy D base (s.heap.size + k) σ I J H) (hS : va_S (fun q => base ≤ q) s.heap H locs) (hL : q_L base b ls nL L) (hT : T.heap = H) (Xs : Stand p l e R s m args below meth c T locs k n) (hsz : H.size = base + σ.length)
    (hr : va_Run p l e R s m args below meth c H locs k n mc' ms' (F0 m pc ls S) (st.map (q_tr base b)) (q_Qc cy D base mc' Q' a) (fun q => base ≤ q))
    (K : ∀ (r : Option Value) (σ' : Shp) (I' : Mem) (J' : Lng), Q' r σ' I' J' → q_WP own nm cc nL rop d mc ms X Q (k + mc') (n + ms') (pc + 3) L (r.toList ++ st) σ' I' J') : ∃ t, Steps p.tables e below (T.setTop (F0 m pc ls S)) t ∧ Qm t := by
  obtain ⟨v, st₀, t, T', Lc, h0, X', hLc, e1, e2, ⟨r, σ', I', J', hv, hnn, hq, hW', hz, hk⟩, go⟩ := hr T hT Xs
  cases hv
  rw [h0] at hz hk hW'
  have hS1 : va_S (fun q => base ≤ q) s.heap T'.heap (locs ++ Lc) := ⟨Nat.le_trans hS.1 (by rw [e1]; exact hz), fun q h1 h2 => by rw [e1, hk q (Nat.lt_of_lt_of_le h1 hS.1) h2]; exact hS.2.1 q h1 h2, fun q hq => by
      rcases List.mem_append.mp hq with h | h
      · exact hS.2.2 q h
      · exact hLc q h⟩
  have hW1 : q_W cy D base (s.heap.size + (k + mc')) σ' I' J' T'.heap := by
    rw [e1]
    have h1 := hW.2
    have h2 := hW'.2
    exact ⟨hW'.1, by omega⟩
  obtain ⟨t2, a1, b1⟩ := K r σ' I' J' hq p l e R s m args below meth c Qm cy D base b C E T'.heap (locs ++ Lc) ls hW1 hS1 hL T' rfl X'
  rw [← q_tr_r hnn] at a1
  exact ⟨t2, go t2 a1, b1⟩
theorem q_cb {R : Room} {s : State} {args : Array Value} {idx na mc' ms' d' nL' : Nat} {y : MethodName} {cc' : ByteArray} {ret : Option FieldType} (hts : ∀ w ∈ q_U, w.before args s = true) (hM : q_Me y cc' nL' ret na) (hl : Cond.methodLink own idx y ∈ q_U) (hdd : d' + 1 ≤ d) (hR : d ≤ R.frames ∧ 40 * d ≤ R.locals) : CallB R s args own idx y cc' nL' ret (.code y cc' nL' ret :: q_U) (q_Rm d' mc' ms') mc' ms' na := by
  obtain ⟨h1, h2, h3, h4, h5, h6⟩ := hM
  refine callB_of na hts (q_good (fun w hw => ?_)) rfl rfl rfl (hts _ h2) (hts _ hl) ⟨h3.1, h3.2, h4⟩ ⟨?_, ?_⟩
  · rcases List.mem_cons.mp hw with rfl | hw
    · exact h1
    · exact hw
  · show d' + 1 ≤ R.frames
    omega
  · show 8 + (nL' + 11) + 40 * d' ≤ R.locals
    omega
/-- an instance method's call: the receiver's place t is of y's class -/
def q_CaV (own : String) (idx : Nat) (y : MethodName) (cc : ByteArray) (nL : Nat) (ret : Option FieldType) (na ci : Nat) : Prop := q_Me y cc nL ret na ∧ Cond.methodLink own idx y ∈ q_U ∧ Cond.instanceMethod y ∈ q_U ∧ Cond.selects y.cls y y ∈ q_U ∧ ∃ T N, vwCl[ci]? = some (y.cls, T, N)
def q_CaS (own : String) (idx : Nat) (y : MethodName) (cc : ByteArray) (nL : Nat) (ret : Option FieldType) (na : Nat) : Prop := q_Me y cc nL ret na ∧ Cond.methodLink own idx y ∈ q_U ∧ Cond.static y ∈ q_U
theorem s_callV {idx na ci t d' mc' ms' nL' : Nat} {y : MethodName} {cc' : ByteArray} {ret : Option FieldType} {av S : List Value} {e : Ent} {Q' : Option Value → Shp → Mem → Lng → Prop} (hd : decode cc pc = .ok (.invokevirtual idx, 3)) (hc : q_CaV own idx y cc' nL' ret na ci) (he : σ[t]? = some e) (hci : e.1 = 10 + ci) (hM : q_C y cc' nL' ret d' mc' ms' (.ref t :: av) σ I J Q') (hS' : S = av.reverse ++ .ref t :: st) (hna : av.length = na) (hav : av.all q_one = true) (hst : (st.map fun v => v.category).sum ≤ 8) (hdd : d' + 1 ≤ d) (hmc : k + mc' ≤ mc) (hms : n + ms' ≤ ms)
    (K : ∀ (r : Option Value) (σ' : Shp) (I' : Mem) (J' : Lng), Q' r σ' I' J' → q_WP own nm cc nL rop d mc ms X Q (k + mc') (n + ms') (pc + 3) L (r.toList ++ st) σ' I' J') : q_WP own nm cc nL rop d mc ms X Q k n pc L S σ I J := by
  subst hS'
  intro p l e0 R s m args below meth c0 Qm cy D base b C E H locs ls hW hS hL T hT Xs
  have hsz := q_size hT Xs hW C.2.2.2.2.2.2.2.1 hS.1
  obtain ⟨hme, hl, hin, hse, T0, N0, hcl⟩ := hc
  have hR := C.2.2.2.2.2.2.1
  have hws : (q_ws cy base I J 0 σ)[t]? = some (base + t, .inr (ci, q_fs base e.2.2 (I t) (J t) 0 (q_fk ci))) := by rw [q_ws_at he, q_cell_o hci]
  refine q_go (S := (av.reverse ++ .ref t :: st).map (q_tr base b)) C E hW hS hL hT Xs hsz (va_runV (Ts := q_U) (C := y.cls) (As := av.map (q_tr base b)) (b := base + t) (n := na) ⟨C.1, C.2.1, C.2.2.1, C.2.2.2.1, C.2.2.2.2.1⟩ (hM l cy D base) ⟨q_cb C.2.2.2.2.1 hme hl hdd ⟨hR.1, hR.2.1⟩, C.2.2.2.2.1 _ hin, C.2.2.2.2.1 _ hse⟩ ⟨q_blind _ _ _ _ _ _ _, va_recv C.2.2.2.2.2.1.1 hW.1 hcl hws, fun U hU hWm => ⟨?_, ?_, q_K.warm hWm C.2.2.2.2.2.1⟩⟩ rfl (by rw [List.length_map]; exact hna) hL.1 ?_ (lv_room ?_) hd ⟨?_, ?_⟩) K
  · rw [List.map_cons, q_one_tr hav base 0 b]; rfl
  · rw [hU]; exact ⟨hW.1, hsz⟩
  · rw [List.map_append, List.map_reverse, List.map_cons]; rfl
  · rw [List.map_map, show (fun v : Value => v.category) ∘ q_tr base b = fun v => v.category from funext fun v => q_tr_cat base b v]
    exact hst
  · omega
  · omega
theorem s_callS {idx na d' mc' ms' nL' : Nat} {y : MethodName} {cc' : ByteArray} {ret : Option FieldType} {av S : List Value} {Q' : Option Value → Shp → Mem → Lng → Prop} (hd : decode cc pc = .ok (.invokestatic idx, 3)) (hc : q_CaS own idx y cc' nL' ret na) (hM : q_C y cc' nL' ret d' mc' ms' av σ I J Q') (hS' : S = av.reverse ++ st) (hna : av.length = na) (hav : av.all q_one = true) (hst : (st.map fun v => v.category).sum ≤ 8) (hdd : d' + 1 ≤ d) (hmc : k + mc' ≤ mc) (hms : n + ms' ≤ ms)
    (K : ∀ (r : Option Value) (σ' : Shp) (I' : Mem) (J' : Lng), Q' r σ' I' J' → q_WP own nm cc nL rop d mc ms X Q (k + mc') (n + ms') (pc + 3) L (r.toList ++ st) σ' I' J') : q_WP own nm cc nL rop d mc ms X Q k n pc L S σ I J := by
  subst hS'
  intro p l e0 R s m args below meth c0 Qm cy D base b C E H locs ls hW hS hL T hT Xs
  have hsz := q_size hT Xs hW C.2.2.2.2.2.2.2.1 hS.1
  obtain ⟨hme, hl, hst2⟩ := hc
  have hR := C.2.2.2.2.2.2.1
  refine q_go (S := (av.reverse ++ st).map (q_tr base b)) C E hW hS hL hT Xs hsz (va_runS (Ts := q_U) (As := av.map (q_tr base b)) (n := na) ⟨C.1, C.2.1, C.2.2.1, C.2.2.2.1, C.2.2.2.2.1⟩ (hM l cy D base) ⟨q_cb C.2.2.2.2.1 hme hl hdd ⟨hR.1, hR.2.1⟩, C.2.2.2.2.1 _ hst2⟩ ⟨q_blind _ _ _ _ _ _ _, fun U hU hWm => ⟨?_, ?_, q_K.warm hWm C.2.2.2.2.2.1⟩⟩ rfl (by rw [List.length_map]; exact hna) hL.1 ?_ (lv_room ?_) hd ⟨?_, ?_⟩) K
  · rw [q_one_tr hav base 0 b]
  · rw [hU]; exact ⟨hW.1, hsz⟩
  · rw [List.map_append, List.map_reverse]
  · rw [List.map_map, show (fun v : Value => v.category) ∘ q_tr base b = fun v => v.category from funext fun v => q_tr_cat base b v]
    exact hst
  · omega
  · omega
/-- Math.min, Math.max -/
theorem s_min {idx : Nat} {x y : Int32} (hd : decode cc pc = .ok (.invokestatic idx, 3)) (hl : Cond.methodLink own idx Lib.Math.min.name ∈ q_U) (hst : Cond.static Lib.Math.min.name ∈ q_U) (hin : Cond.initialized "java/lang/Math" ∈ q_U) (hco : Cond.code Lib.Math.min.name Lib.Math.min.code 2 (some .int) ∈ q_U) (hss : (st.map fun v => v.category).sum ≤ 8) (hdd : 1 ≤ d) (hk : k ≤ mc) (hn : n ≤ ms) (K : q_WP own nm cc nL rop d mc ms X Q k n (pc + 3) L (.int (if y < x then y else x) :: st) σ I J) : q_WP own nm cc nL rop d mc ms X Q k n pc L (.int y :: .int x :: st) σ I J := by
  intro p l e0 R s m args below meth c0 Qm cy D base b C E H locs ls hW hS hL
  have hR := C.2.2.2.2.2.2.1
  have hss2 : ((st.map (q_tr base b)).map fun v => v.category).sum ≤ 8 := by
    rw [List.map_map, show (fun v : Value => v.category) ∘ q_tr base b = fun v => v.category from funext fun v => q_tr_cat base b v]
    exact hss
  exact va_mmin C.1 C.2.1 (by rw [C.2.2.1]; exact hL.1.symm) C.2.2.2.1 (C.2.2.2.2.1 _ hl) (C.2.2.2.2.1 _ hst) (C.2.2.2.2.1 _ hin) (C.2.2.2.2.1 _ hco) (by omega) (by omega) (by omega) (by omega) hd (K p l e0 R s m args below meth c0 Qm cy D base b C E H locs ls hW hS hL)
theorem s_max {idx : Nat} {x y : Int32} (hd : decode cc pc = .ok (.invokestatic idx, 3)) (hl : Cond.methodLink own idx Lib.Math.max.name ∈ q_U) (hst : Cond.static Lib.Math.max.name ∈ q_U) (hin : Cond.initialized "java/lang/Math" ∈ q_U) (hco : Cond.code Lib.Math.max.name Lib.Math.max.code 2 (some .int) ∈ q_U) (hss : (st.map fun v => v.category).sum ≤ 8) (hdd : 1 ≤ d) (hk : k ≤ mc) (hn : n ≤ ms) (K : q_WP own nm cc nL rop d mc ms X Q k n (pc + 3) L (.int (if x < y then y else x) :: st) σ I J) : q_WP own nm cc nL rop d mc ms X Q k n pc L (.int y :: .int x :: st) σ I J := by
  intro p l e0 R s m args below meth c0 Qm cy D base b C E H locs ls hW hS hL
  have hR := C.2.2.2.2.2.2.1
  have hss2 : ((st.map (q_tr base b)).map fun v => v.category).sum ≤ 8 := by
    rw [List.map_map, show (fun v : Value => v.category) ∘ q_tr base b = fun v => v.category from funext fun v => q_tr_cat base b v]
    exact hss
  exact va_mmax C.1 C.2.1 (by rw [C.2.2.1]; exact hL.1.symm) C.2.2.2.1 (C.2.2.2.2.1 _ hl) (C.2.2.2.2.1 _ hst) (C.2.2.2.2.1 _ hin) (C.2.2.2.2.1 _ hco) (by omega) (by omega) (by omega) (by omega) hd (K p l e0 R s m args below meth c0 Qm cy D base b C E H locs ls hW hS hL)
/-- a whole row's memory -/
def upR (I : Mem) (t : Nat) (g : Nat → Int32) : Mem := fun p q => if p = t then g q else I p q
/-- System.arraycopy of ints, from place t0 to another place t -/
theorem s_copy {idx t0 t : Nat} {e0 e1 : Ent} {sp dp cn : Int32} (hd : decode cc pc = .ok (.invokestatic idx, 3)) (hl : Cond.methodLink own idx arraycopyName ∈ q_U) (hnat : Cond.native arraycopyName ∈ q_U) (hst : Cond.static arraycopyName ∈ q_U) (hin : Cond.initialized "java/lang/System" ∈ q_U) (he0 : σ[t0]? = some e0) (he1 : σ[t]? = some e1) (hc0 : e0.1 = 0) (hc1 : e1.1 = 0)
    (h1 : ¬ sp < 0) (h2 : ¬ dp < 0) (h3 : ¬ cn < 0) (h4 : sp.toNatClampNeg + cn.toNatClampNeg ≤ e0.2.1) (h5 : dp.toNatClampNeg + cn.toNatClampNeg ≤ e1.2.1) (hss : (st.map fun v => v.category).sum ≤ 8) (hdd : 1 ≤ d)
    (K : q_WP own nm cc nL rop d mc ms X Q k n (pc + 3) L st σ (upR I t (va_cpy (I t0) (I t) sp.toNatClampNeg dp.toNatClampNeg cn.toNatClampNeg)) J) : q_WP own nm cc nL rop d mc ms X Q k n pc L (.int cn :: .int dp :: .ref t :: .int sp :: .ref t0 :: st) σ I J := by
  intro p l e R s m args below meth c0 Qm cy D base b C E H locs ls hW hS hL
  have hR := C.2.2.2.2.2.2.1
  have hlt : t < σ.length := (List.getElem?_eq_some_iff.mp he1).1
  have hss2 : ((st.map (q_tr base b)).map fun v => v.category).sum ≤ 8 := by
    rw [List.map_map, show (fun v : Value => v.category) ∘ q_tr base b = fun v => v.category from funext fun v => q_tr_cat base b v]
    exact hss
  refine va_copyi C.1 C.2.1 (by rw [C.2.2.1]; exact hL.1.symm) C.2.2.2.1 (C.2.2.2.2.1 _ hl) (C.2.2.2.2.1 _ hnat) (C.2.2.2.2.1 _ hst) (C.2.2.2.2.1 _ hin) C.2.2.2.2.2.1.1 hW.1 (q_ws_D cy base I J σ) hS t0 t 0 0 (by rw [q_ws_at he0, q_cell_i hc0 (by decide)]) (by rw [q_ws_at he1, q_cell_i hc1 (by decide)]) rfl rfl rfl h1 h2 h3 h4 h5 (fun _ _ => rfl) (by omega) ?_ hd (fun H1 locs1 hP _ hS1 => ?_)
  · have : nativeFrameWords "java/lang/System" "arraycopy" 5 + 11 ≤ 32 := by decide
    omega
  refine K p l e R s m args below meth c0 Qm cy D base b C E H1 locs1 ls ⟨?_, hW.2⟩ hS1 hL
  rw [← q_ws_set (cy := cy) (base := base) (I := I) (I' := upR I t (va_cpy (I t0) (I t) sp.toNatClampNeg dp.toNatClampNeg cn.toNatClampNeg)) (J := J) (J' := J) (σ := σ) (t := t) (fun _ _ => rfl) (fun i hi => funext fun q => if_neg hi) (fun _ _ => rfl) he1 hlt, q_cell_i hc1 (by decide), show upR I t (va_cpy (I t0) (I t) sp.toNatClampNeg dp.toNatClampNeg cn.toNatClampNeg) t = va_cpy (I t0) (I t) sp.toNatClampNeg dp.toNatClampNeg cn.toNatClampNeg from funext fun q => if_pos rfl]
  exact hP
end
