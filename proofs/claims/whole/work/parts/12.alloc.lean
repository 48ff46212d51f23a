theorem q_ws_app (cy : Nat → ClassId) (base : Nat) (I : Mem) (J : Lng) (σ : Shp) (e : Ent) : q_ws cy base I J 0 (σ ++ [e]) = q_ws cy base I J 0 σ ++ [(base + σ.length, q_cell cy base e (I σ.length) (J σ.length))] := by
  have gen : ∀ (σ : Shp) (k : Nat), q_ws cy base I J k (σ ++ [e]) = q_ws cy base I J k σ ++ [(base + (k + σ.length), q_cell cy base e (I (k + σ.length)) (J (k + σ.length)))] := by
    intro σ
    induction σ with
    | nil => intro k; rfl
    | cons a r ih =>
      intro k
      simp only [List.cons_append, q_ws, ih (k + 1), List.length_cons]
      rw [show k + 1 + r.length = k + (r.length + 1) by omega]
  have := gen σ 0
  simpa using this
theorem q_P_app {cy : Nat → ClassId} {D : va_G} {base : Nat} {σ : Shp} {I : Mem} {J : Lng} {H H1 : Heap} {e : Ent} (hP : va_P D vwCl (q_ws cy base I J 0 σ) H) (ho : ∀ q, q < H.size → H1[q]? = H[q]?) (h1 : va_at D vwCl (base + σ.length, q_cell cy base e (I σ.length) (J σ.length)) H1) : va_P D vwCl (q_ws cy base I J 0 (σ ++ [e])) H1 := by
  rw [q_ws_app]
  refine (hP.kept (fun k x hx => ho x.1 ((hP k x hx).lt))).app (fun k x hx => ?_)
  have hz : k < 1 := (List.getElem?_eq_some_iff.mp hx).1
  rw [show k = 0 by omega] at hx
  cases hx
  exact h1
theorem q_S_app {base : Nat} {H0 H H1 : Heap} {locs : List Loc} (hS : va_S (fun q => base ≤ q) H0 H locs) (hz : H.size ≤ H1.size) (ho : ∀ q, q < H.size → H1[q]? = H[q]?) : va_S (fun q => base ≤ q) H0 H1 locs := ⟨Nat.le_trans hS.1 hz, fun x h1 h2 => (ho x (Nat.lt_of_lt_of_le h1 hS.1)).trans (hS.2.1 x h1 h2), hS.2.2⟩
/-- a class that is made -/
def q_New (own : String) (idx c N : Nat) : Prop := ∃ (C : String) (T : u_T) (ty0 : Nat → FieldType), q_Cls c C T N ty0 ∧ Cond.classLink own idx C ∈ q_U ∧ Cond.instantiable C N ∈ q_U ∧ Cond.initialized C ∈ q_U ∧ ∀ j, j < N → ∀ base, defaultValue (ty0 j) = vp_V (q_fs base (List.replicate N none) (fun _ => 0) 0 0 (q_fk c)) j
section
variable {own nm : String} {cc : ByteArray} {nL : Nat} {rop : Instr} {d mc ms : Nat} {X : Option (Nat × (Nat → Int32))} {Q : List Value → Shp → Mem → Lng → Nat → Nat → Prop} {k n pc : Nat} {L : List (Option Value)} {st : List Value} {σ : Shp} {I : Mem} {J : Lng}
theorem s_new {idx c N : Nat} (hd : decode cc pc = .ok (.new idx, 3)) (hc : q_New own idx c N) (hI : I σ.length = fun _ => 0) (hJ : J σ.length = 0) (hk : k + 1 ≤ mc) (hn : n + N ≤ ms) (K : q_WP own nm cc nL rop d mc ms X Q (k + 1) (n + N) (pc + 3) L (.ref σ.length :: st) (σ ++ [(10 + c, N, List.replicate N none)]) I J) : q_WP own nm cc nL rop d mc ms X Q k n pc L st σ I J := by
  intro p l e0 R s m args below meth c0 Qm cy D base b C E H locs ls hW hS hL T hT Xs
  have hsz := q_size hT Xs hW C.2.2.2.2.2.2.2.1 hS.1
  have hR := C.2.2.2.2.2.2.1
  obtain ⟨C', T', ty0, ⟨h1, h2, h3, h4, h5⟩, g1, g2, g3, g4⟩ := hc
  have hKn := C.2.2.2.2.2.1.1.1 c _ h1
  refine W.newcK (g := F0 m pc ls (st.map (q_tr base b))) (n := N) (h := H.size) C.1 C.2.1 C.2.2.2.1 (C.2.2.2.2.1 _ g1) (C.2.2.2.2.1 _ g2) (C.2.2.2.2.1 _ g3) rfl hd (by omega) (by omega) hKn.2.1 rfl (fun H1 kC hkC e1 z1 o1 => ?_) T hT Xs
  have hz : s.heap.size + (k + 1) = base + (σ ++ [(10 + c, N, List.replicate N none)]).length := by
    have := hW.2
    simp only [List.length_append, List.length_cons, List.length_nil]; omega
  have hP1 : va_P D vwCl (q_ws cy base I J 0 (σ ++ [(10 + c, N, List.replicate N none)])) H1 := by
    refine q_P_app hW.1 o1 ?_
    rw [q_cell_o (e := (10 + c, N, List.replicate N none)) (c := c) rfl, hI, hJ]
    refine ⟨(C', T', N), h1, ?_⟩
    have hb := (u_born ty0 C.2.2.2.2.1 h2 hKn hkC e1 h3).to (fun j hj => g4 j hj base)
    rw [hsz] at hb
    exact hb
  have hK := K p l e0 R s m args below meth c0 Qm cy D base b C E H1 locs ls ⟨hP1, hz⟩ (q_S_app hS (by omega) o1) hL
  have e : (F0 m (pc + 3) ls ((Value.ref σ.length :: st).map (q_tr base b))) = { (F0 m pc ls (st.map (q_tr base b))) with pc := (F0 m pc ls (st.map (q_tr base b))).pc + 3, stack := Value.ref H.size :: (F0 m pc ls (st.map (q_tr base b))).stack } := by rw [hsz]; rfl
  rw [e] at hK
  exact hK
theorem s_newarr {at_ : ArrayType} {a N : Nat} {v : Int32} (hd : decode cc pc = .ok (.newarray at_, 2)) (ha : a < 2) (hty : newarray.typeOf at_ = (if a = 0 then .int else .boolean)) (hw : Cond.arrayClass (newarray.typeOf at_) ∈ q_U) (hv : ¬ v < 0) (hN : v.toNatClampNeg = N) (hNb : N ≤ 100000) (hI : I σ.length = fun _ => 0) (hk : k + 1 ≤ mc) (hn : n + N ≤ ms) (K : q_WP own nm cc nL rop d mc ms X Q (k + 1) (n + N) (pc + 2) L (.ref σ.length :: st) (σ ++ [(a, N, [])]) I J) : q_WP own nm cc nL rop d mc ms X Q k n pc L (.int v :: st) σ I J := by
  intro p l e0 R s m args below meth c0 Qm cy D base b C E H locs ls hW hS hL T hT Xs
  have hsz := q_size hT Xs hW C.2.2.2.2.2.2.2.1 hS.1
  have hR := C.2.2.2.2.2.2.1
  refine va_newaK C.1 C.2.1 (C.2.2.2.2.1 _ hw) (g := F0 m pc ls (.int v :: st.map (q_tr base b))) rfl hd rfl hv hN ?_ (by omega) (by omega) rfl (fun H1 cA e1 z1 o1 hAr hNm => ?_) T hT Xs
  · have : componentBytes (newarray.typeOf at_) ≤ 4 := by rw [hty]; split <;> decide
    calc N * componentBytes (newarray.typeOf at_) ≤ 100000 * 4 := Nat.mul_le_mul hNb this
      _ ≤ 536870912 := by decide
  have hz : s.heap.size + (k + 1) = base + (σ ++ [(a, N, [])] : Shp).length := by
    have := hW.2
    simp only [List.length_append, List.length_cons, List.length_nil]; omega
  have hP1 : va_P D vwCl (q_ws cy base I J 0 (σ ++ [(a, N, [])])) H1 := by
    refine q_P_app hW.1 o1 ?_
    rw [q_cell_i (e := (a, N, [])) rfl ha, hI]
    show H1[base + σ.length]? = some (vp_cell _ _)
    rw [← hsz, vp_cell_i, e1]
    rcases (show a = 0 ∨ a = 1 by omega) with rfl | rfl
    · rw [if_pos rfl] at hty
      rw [hty] at hNm ⊢
      have h0 := (C.2.2.2.2.2.1.1.2 0 _ rfl).2
      have e3 : cA = cy 0 := Option.some.inj (hNm.symm.trans h0)
      rw [e3]; rfl
    · rw [if_neg (by decide)] at hty
      rw [hty] at hNm ⊢
      have h0 := (C.2.2.2.2.2.1.1.2 1 _ rfl).2
      have e3 : cA = cy 1 := Option.some.inj (hNm.symm.trans h0)
      rw [e3]; rfl
  have hK := K p l e0 R s m args below meth c0 Qm cy D base b C E H1 locs ls ⟨hP1, hz⟩ (q_S_app hS (by omega) o1) hL
  have e : (F0 m (pc + 2) ls ((Value.ref σ.length :: st).map (q_tr base b))) = { (F0 m pc ls (Value.int v :: st.map (q_tr base b))) with pc := (F0 m pc ls (Value.int v :: st.map (q_tr base b))).pc + 2, stack := Value.ref H.size :: st.map (q_tr base b) } := by rw [hsz]; rfl
  rw [e] at hK
  exact hK
theorem s_anew {a idx N : Nat} {C0 : String} {v : Int32} (hd : decode cc pc = .ok (.anewarray idx, 3)) (ha : a = 2 ∧ C0 = "EntailedLand$Land" ∨ a = 3 ∧ C0 = "EntailedLand$Kin") (hl : Cond.classLink own idx C0 ∈ q_U) (hv : ¬ v < 0) (hN : v.toNatClampNeg = N) (hNb : N ≤ 100000) (hk : k + 1 ≤ mc) (hn : n + N ≤ ms) (K : q_WP own nm cc nL rop d mc ms X Q (k + 1) (n + N) (pc + 3) L (.ref σ.length :: st) (σ ++ [(a, N, List.replicate N none)]) I J) : q_WP own nm cc nL rop d mc ms X Q k n pc L (.int v :: st) σ I J := by
  intro p l e0 R s m args below meth c0 Qm cy D base b C E H locs ls hW hS hL T hT Xs
  have hsz := q_size hT Xs hW C.2.2.2.2.2.2.2.1 hS.1
  have hR := C.2.2.2.2.2.2.1
  subst hN
  have hover : (Cond.arrayOver (.object C0)).before args s = true := by
    rcases ha with ⟨-, rfl⟩ | ⟨-, rfl⟩
    · exact C.2.2.2.2.2.1.2.2.1
    · exact C.2.2.2.2.2.1.2.2.2.1
  refine W.anew C.1 C.2.1 C.2.2.2.1 (C.2.2.2.2.1 _ hl) hover (g := F0 m pc ls (.int v :: st.map (q_tr base b))) rfl hd rfl hv (by omega) (by omega) (by omega) (fun cA kA comp f1 f2 f3 f4 => ?_) T hT Xs
  generalize hH1 : H.push ({ cls := cA, slots := Array.replicate v.toNatClampNeg .null, vm := .none } : Cell) = H1
  have z1 : H1.size = H.size + 1 := by rw [← hH1, Array.size_push]
  have e1 : H1[H.size]? = some (arrV cA v.toNatClampNeg (fun _ => .null)) := by rw [← hH1, Array.getElem?_push_size, ← arrV_new]
  have o1 : ∀ q : Nat, q < H.size → H1[q]? = H[q]? := fun q hq => by rw [← hH1, Array.getElem?_push, if_neg (Nat.ne_of_lt hq)]
  have hz : s.heap.size + (k + 1) = base + (σ ++ [(a, v.toNatClampNeg, List.replicate v.toNatClampNeg none)] : Shp).length := by
    have := hW.2
    simp only [List.length_append, List.length_cons, List.length_nil]; omega
  have hrw : q_rw base (List.replicate v.toNatClampNeg none) = fun _ => none := by
    funext i
    unfold q_rw
    rw [List.getD, List.getElem?_replicate]
    split <;> rfl
  have hP1 : va_P D vwCl (q_ws cy base I J 0 (σ ++ [(a, v.toNatClampNeg, List.replicate v.toNatClampNeg none)])) H1 := by
    refine q_P_app hW.1 o1 ?_
    rw [q_cell_q (e := (a, v.toNatClampNeg, List.replicate v.toNatClampNeg none)) rfl (by omega) (by omega), hrw]
    show H1[base + σ.length]? = some (vp_cell _ _)
    rw [← hsz, vp_cell_q, e1]
    rcases ha with ⟨rfl, rfl⟩ | ⟨rfl, rfl⟩
    · obtain ⟨_, _, _, _, _, h0⟩ := (C.2.2.2.2.2.1.1.2 2 _ rfl).2
      have e3 : cA = cy 2 := Option.some.inj (f1.symm.trans h0)
      rw [e3]; rfl
    · obtain ⟨_, _, _, _, _, h0⟩ := (C.2.2.2.2.2.1.1.2 3 _ rfl).2
      have e3 : cA = cy 3 := Option.some.inj (f1.symm.trans h0)
      rw [e3]; rfl
  have hK := K p l e0 R s m args below meth c0 Qm cy D base b C E H1 locs ls ⟨hP1, hz⟩ (q_S_app hS (by omega) o1) hL
  have e : (F0 m (pc + 3) ls ((Value.ref σ.length :: st).map (q_tr base b))) = { (F0 m pc ls (Value.int v :: st.map (q_tr base b))) with pc := (F0 m pc ls (Value.int v :: st.map (q_tr base b))).pc + 3, stack := Value.ref H.size :: st.map (q_tr base b) } := by rw [hsz]; rfl
  rw [e] at hK
  exact hK
theorem s_aastore {t r a ci : Nat} {e e' er : Ent} {i : Int32} (hd : decode cc pc = .ok (.aastore, 1)) (he : σ[t]? = some e) (hc : e.1 = a) (ha : a = 2 ∧ ci = 4 ∨ a = 3 ∧ ci = 3) (hin : vp_in i e.2.1) (hr : σ[r]? = some er) (hrc : er.1 = 10 + ci) (hl : i.toNatClampNeg < e.2.2.length) (he' : (e.1, e.2.1, e.2.2.set i.toNatClampNeg (some r)) = e') (K : q_WP own nm cc nL rop d mc ms X Q k n (pc + 1) L st (σ.set t e') I J) : q_WP own nm cc nL rop d mc ms X Q k n pc L (.ref r :: .int i :: .ref t :: st) σ I J := by
  intro p l e0 R s m args below meth c0 Qm cy D base b C E H locs ls hW hS hL
  subst he'
  have hlt : t < σ.length := (List.getElem?_eq_some_iff.mp he).1
  have h2 : a < 10 := by omega
  have h3 : ¬ a < 2 := by omega
  have main : ∀ rr : vw_C, vwCl[ci]? = some rr → (q_ty cy)[a]? = some (cy a, .object rr.1) → W p l e0 R s m args below meth c0 H locs k n Qm (F0 m pc ls ((.ref r :: .int i :: .ref t :: st).map (q_tr base b))) := by
    intro rr hrr hty
    refine va_astq C.1 C.2.1 C.2.2.2.2.2.1.1 hW.1 (q_ws_D cy base I J σ) hS t a r ci (r := rr) (by rw [q_ws_at he, q_cell_q hc h3 h2]) hty (by rw [q_ws_at hr, q_cell_o hrc]) hrr hin hd (fun H1 locs1 hP _ hS1 => ?_)
    refine K p l e0 R s m args below meth c0 Qm cy D base b C E H1 locs1 ls ⟨?_, by rw [List.length_set]; exact hW.2⟩ hS1 hL
    rw [← q_ws_set (cy := cy) (base := base) (I := I) (I' := I) (J := J) (J' := J) (σ := σ) (t := t) (e' := (e.1, e.2.1, e.2.2.set i.toNatClampNeg (some r))) (fun i hi => List.getElem?_set_ne (fun q => hi q.symm)) (fun _ _ => rfl) (fun _ _ => rfl) (List.getElem?_set_self hlt) hlt, q_cell_q (e := (e.1, e.2.1, e.2.2.set i.toNatClampNeg (some r))) hc h3 h2]
    have hrw : q_rw base (e.2.2.set i.toNatClampNeg (some r)) = va_up (q_rw base e.2.2) i.toNatClampNeg (some (base + r)) := by
      funext j
      unfold q_rw va_up
      by_cases hj : j = i.toNatClampNeg
      · subst hj
        rw [if_pos rfl, List.getD, List.getElem?_set_self hl]; rfl
      · rw [if_neg hj, List.getD, List.getElem?_set_ne (fun q => hj q.symm)]; rfl
    rw [hrw]
    exact hP
  rcases ha with ⟨rfl, rfl⟩ | ⟨rfl, rfl⟩
  · exact main _ rfl rfl
  · exact main _ rfl rfl
/-- Object's constructor -/
theorem s_objInit {idx t : Nat} (hd : decode cc pc = .ok (.invokespecial idx, 3)) (hl : Cond.methodLink own idx objectInit ∈ q_U) (hin : Cond.instanceMethod objectInit ∈ q_U) (hco : Cond.code objectInit ⟨#[0xb1]⟩ 1 none ∈ q_U) (hss : (st.map fun v => v.category).sum ≤ 8) (hdd : 1 ≤ d) (K : q_WP own nm cc nL rop d mc ms X Q k n (pc + 3) L st σ I J) : q_WP own nm cc nL rop d mc ms X Q k n pc L (.ref t :: st) σ I J := by
  intro p l e0 R s m args below meth c0 Qm cy D base b C E H locs ls hW hS hL
  have hR := C.2.2.2.2.2.2.1
  have hss2 : ((st.map (q_tr base b)).map fun v => v.category).sum ≤ 8 := by
    rw [List.map_map, show (fun v : Value => v.category) ∘ q_tr base b = fun v => v.category from funext fun v => q_tr_cat base b v]
    exact hss
  exact W.objInit C.1 C.2.1 C.2.2.2.1 (C.2.2.2.2.1 _ hl) (C.2.2.2.2.1 _ hin) (C.2.2.2.2.1 _ hco) rfl (by rw [C.2.2.1]; exact hL.1) rfl hd (by omega) (by show 2 * 0 + _ + 12 ≤ _; omega) (K p l e0 R s m args below meth c0 Qm cy D base b C E H locs ls hW hS hL)
/-- a constructor's call, by an ordinary link or one of the nest's -/
def q_CaI (own : String) (idx : Nat) (y : MethodName) (cc : ByteArray) (nL na : Nat) : Prop := q_Me y cc nL none na ∧ y.name = "<init>" ∧ Cond.instanceMethod y ∈ q_U ∧ (Cond.methodLink own idx y ∈ q_U ∨ (own, idx, y) ∈ q_nest)
theorem s_callI {idx na t d' mc' ms' nL' : Nat} {y : MethodName} {cc' : ByteArray} {av S : List Value} {Q' : Option Value → Shp → Mem → Lng → Prop} (hd : decode cc pc = .ok (.invokespecial idx, 3)) (hc : q_CaI own idx y cc' nL' na) (hM : q_C y cc' nL' none d' mc' ms' (.ref t :: av) σ I J Q') (hS' : S = av.reverse ++ .ref t :: st) (hna : av.length = na) (hav : av.all q_one = true) (hst : (st.map fun v => v.category).sum ≤ 8) (hdd : d' + 1 ≤ d) (hmc : k + mc' ≤ mc) (hms : n + ms' ≤ ms)
    (K : ∀ (r : Option Value) (σ' : Shp) (I' : Mem) (J' : Lng), Q' r σ' I' J' → q_WP own nm cc nL rop d mc ms X Q (k + mc') (n + ms') (pc + 3) L (r.toList ++ st) σ' I' J') : q_WP own nm cc nL rop d mc ms X Q k n pc L S σ I J := by
  subst hS'
  intro p l e0 R s m args below meth c0 Qm cy D base b C E H locs ls hW hS hL T hT Xs
  have hsz := q_size hT Xs hW C.2.2.2.2.2.2.2.1 hS.1
  obtain ⟨hme, hnm, hin, hl⟩ := hc
  have hR := C.2.2.2.2.2.2.1
  have hpre : PreS s H (q_Pc cy D base (.ref t :: av) σ I J) (.ref (base + t) :: av.map (q_tr base b)) := by
    refine ⟨q_blind _ _ _ _ _ _ _, fun U hU hWm => ⟨?_, ?_, q_K.warm hWm C.2.2.2.2.2.1⟩⟩
    · rw [List.map_cons, q_one_tr hav base 0 b]; rfl
    · rw [hU]; exact ⟨hW.1, hsz⟩
  have hstk : (F0 m pc ls ((av.reverse ++ .ref t :: st).map (q_tr base b))).stack = (av.map (q_tr base b)).reverse ++ .ref (base + t) :: st.map (q_tr base b) := by
    show ((av.reverse ++ .ref t :: st).map (q_tr base b)) = _
    rw [List.map_append, List.map_reverse, List.map_cons]; rfl
  have hss : ((st.map (q_tr base b)).map fun v => v.category).sum ≤ 8 := by
    rw [List.map_map, show (fun v : Value => v.category) ∘ q_tr base b = fun v => v.category from funext fun v => q_tr_cat base b v]
    exact hst
  rcases hl with hl | hl
  · exact q_go (S := (av.reverse ++ .ref t :: st).map (q_tr base b)) C E hW hS hL hT Xs hsz (va_runI (Ts := q_U) (As := av.map (q_tr base b)) (b := base + t) (n := na) ⟨C.1, C.2.1, C.2.2.1, C.2.2.2.1, C.2.2.2.2.1⟩ (hM l cy D base) ⟨q_cb C.2.2.2.2.1 hme hl hdd ⟨hR.1, hR.2.1⟩, hnm, C.2.2.2.2.1 _ hin⟩ hpre rfl (by rw [List.length_map]; exact hna) hL.1 hstk (lv_room hss) hd ⟨by omega, by omega⟩) K
  · obtain ⟨h1, h2, h3, h4, h5, h6⟩ := hme
    have hG : GoodIn q_U (.code y cc' nL' none :: q_U) := q_good (fun w hw => by
      rcases List.mem_cons.mp hw with rfl | hw
      · exact h1
      · exact hw)
    have hcn : va_CN R s args own idx y "EntailedLand" cc' nL' none (.code y cc' nL' none :: q_U) (q_Rm d' mc' ms') mc' ms' na := va_cnB na C.2.2.2.2.1 hG rfl rfl rfl (C.2.2.2.2.2.1.2.1 _ hl) (C.2.2.2.2.1 _ h2) ⟨h3.1, h3.2, h4⟩ ⟨by show d' + 1 ≤ R.frames; omega, by show 8 + (nL' + 11) + 40 * d' ≤ R.locals; omega⟩
    exact q_go (S := (av.reverse ++ .ref t :: st).map (q_tr base b)) C E hW hS hL hT Xs hsz (va_runIN (Ts := q_U) (As := av.map (q_tr base b)) (b := base + t) (n := na) ⟨C.1, C.2.1, C.2.2.1, C.2.2.2.1, C.2.2.2.2.1⟩ (hM l cy D base) ⟨hcn, hnm, C.2.2.2.2.1 _ hin⟩ hpre rfl (by rw [List.length_map]; exact hna) hL.1 hstk (lv_room hss) hd ⟨by omega, by omega⟩) K
end
