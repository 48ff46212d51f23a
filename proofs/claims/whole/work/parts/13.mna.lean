theorem vr_outer (c : ClassId) (N h0 : Nat) : ∀ i : Nat, Jvm.Free.Multi.outerC c N h0 i = arrV c N (fun j => va_rf (if j < i then some (h0 + 1 + j) else none))
  | 0 => by
    show ({ cls := c, slots := Array.replicate N .null, vm := .none } : Cell) = _
    rw [arrV_new]
    refine congrArg (arrV c N) (funext fun j => ?_)
    simp [va_rf]
  | i + 1 => by
    show (Jvm.Free.Multi.outerC c N h0 i).setSlot i (.ref (h0 + 1 + i)) = _
    rw [vr_outer c N h0 i, arrV_store]
    refine congrArg (arrV c N) (funext fun j => ?_)
    by_cases e : j = i
    · subst e
      simp [updV, va_rf]
    · by_cases h : j < i
      · simp [updV, e, h, Nat.lt_succ_of_lt h]
      · simp [updV, e, h, show ¬ j < i + 1 by omega]
theorem q_P_apps {cy : Nat → ClassId} {D : va_G} {base : Nat} {σ es : Shp} {I : Mem} {J : Lng} {H H1 : Heap} (hP : va_P D vwCl (q_ws cy base I J 0 σ) H) (ho : ∀ q, q < H.size → H1[q]? = H[q]?) (h1 : ∀ (j : Nat) (e : Ent), es[j]? = some e → va_at D vwCl (base + (σ.length + j), q_cell cy base e (I (σ.length + j)) (J (σ.length + j))) H1) : va_P D vwCl (q_ws cy base I J 0 (σ ++ es)) H1 := by
  intro k q hk
  rw [q_ws_get, Nat.zero_add] at hk
  by_cases hl : k < σ.length
  · rw [List.getElem?_append_left hl] at hk
    have hk2 : (q_ws cy base I J 0 σ)[k]? = some q := by rw [q_ws_get, Nat.zero_add]; exact hk
    have h := hP k q hk2
    exact h.kept (ho _ h.lt)
  · rw [List.getElem?_append_right (by omega)] at hk
    cases he : es[k - σ.length]? with
    | none => rw [he] at hk; cases hk
    | some e =>
      rw [he] at hk
      cases hk
      have := h1 (k - σ.length) e he
      rw [show σ.length + (k - σ.length) = k by omega] at this
      exact this
section
variable {own nm : String} {cc : ByteArray} {nL : Nat} {rop : Instr} {d mc ms : Nat} {X : Option (Nat × (Nat → Int32))} {Q : List Value → Shp → Mem → Lng → Nat → Nat → Prop} {k n pc : Nat} {L : List (Option Value)} {st : List Value} {σ : Shp} {I : Mem} {J : Lng}
set_option maxHeartbeats 4000000 in
theorem s_mna {idx N M : Nat} {v w : Int32} (hd : decode cc pc = .ok (.multianewarray idx 2, 4)) (hl : Cond.classLink own idx ("[" ++ (FieldType.array FieldType.int).toString) ∈ q_U) (harr : Cond.arrayClass .int ∈ q_U) (hv : ¬ v < 0) (hw : ¬ w < 0) (hN : v.toNatClampNeg = N) (hM : w.toNatClampNeg = M) (hNb : N ≤ 100000) (hMb : M ≤ 100000) (hI : ∀ j, I (σ.length + j) = fun _ => 0) (hk : k + (1 + N) ≤ mc) (hn : n + (N + N * M) ≤ ms)
    (K : q_WP own nm cc nL rop d mc ms X Q (k + 1 + N) (n + N + N * M) (pc + 4) L (.ref σ.length :: st) (σ ++ ((4, N, (List.range N).map (fun j => some (σ.length + 1 + j))) :: List.replicate N (0, M, []))) I J) : q_WP own nm cc nL rop d mc ms X Q k n pc L (.int w :: .int v :: st) σ I J := by
  intro p l e0 R s m args below meth c0 Qm cy D base b C E H locs ls hW hS hL T hT Xs
  have hsz := q_size hT Xs hW C.2.2.2.2.2.2.2.1 hS.1
  have hR := C.2.2.2.2.2.2.1
  subst hN
  subst hM
  obtain ⟨vm₁, cA, comp, -, fA, fC, -, -, X', step⟩ := Xs.multianewarray2F C.1 (ty := .int) C.2.2.2.1 (C.2.2.2.2.1 _ hl) C.2.2.2.2.2.1.2.2.2.2 (C.2.2.2.2.1 _ harr) (g := F0 m pc ls (.int w :: .int v :: st.map (q_tr base b))) rfl (by rw [C.2.1]; exact hd) rfl hv hw (by omega) (by show w.toNatClampNeg * 4 ≤ _; omega) (by omega) rfl rfl (by omega) (by omega)
  have h0 : s.vm.findClass ("[" ++ (FieldType.int).toString) = some (cy 0) := (C.2.2.2.2.2.1.1.2 0 _ rfl).2
  have e0' : comp = cy 0 := Option.some.inj (fC.symm.trans h0)
  have h4 : s.vm.findClass ("[" ++ (FieldType.array FieldType.int).toString) = some (cy 4) := (C.2.2.2.2.2.1.1.2 4 _ rfl).2
  have e4 : cA = cy 4 := Option.some.inj (fA.symm.trans h4)
  subst e0'; subst e4
  generalize hF : Jvm.Free.Multi.fill (T.setVm vm₁) (cy 4) (cy 0) v.toNatClampNeg w.toNatClampNeg (defaultValue .int) v.toNatClampNeg = F at X' step
  have hTh : (T.setVm vm₁).heap = H := hT
  obtain ⟨f1, f2, -, -⟩ := Jvm.Free.Multi.fill_facts (T.setVm vm₁) (cy 4) (cy 0) v.toNatClampNeg w.toNatClampNeg (defaultValue .int) v.toNatClampNeg
  rw [hF, hTh] at f1 f2
  have hold : ∀ x : Nat, x < H.size → F.heap[x]? = H[x]? := fun x hx => by
    have := Jvm.Free.Multi.fill_old (T.setVm vm₁) (cy 4) (cy 0) v.toNatClampNeg w.toNatClampNeg (defaultValue .int) (a := x) (by rw [hTh]; exact hx) v.toNatClampNeg
    rw [hF, hTh] at this
    exact this
  have hrow : ∀ j : Nat, j < v.toNatClampNeg → F.heap[H.size + 1 + j]? = some (Jvm.Free.Multi.innerC (cy 0) w.toNatClampNeg (defaultValue .int)) := fun j hj => by
    have := Jvm.Free.Multi.fill_inner (T.setVm vm₁) (cy 4) (cy 0) v.toNatClampNeg w.toNatClampNeg (defaultValue .int) v.toNatClampNeg j hj
    rw [hF, hTh] at this
    exact this
  have hz : s.heap.size + (k + 1 + v.toNatClampNeg) = base + (σ ++ ((4, v.toNatClampNeg, (List.range v.toNatClampNeg).map (fun j => some (σ.length + 1 + j))) :: List.replicate v.toNatClampNeg (0, w.toNatClampNeg, [])) : Shp).length := by
    have := hW.2
    simp only [List.length_append, List.length_cons, List.length_replicate]; omega
  have hP1 : va_P D vwCl (q_ws cy base I J 0 (σ ++ ((4, v.toNatClampNeg, (List.range v.toNatClampNeg).map (fun j => some (σ.length + 1 + j))) :: List.replicate v.toNatClampNeg (0, w.toNatClampNeg, [])))) F.heap := by
    refine q_P_apps hW.1 hold (fun j e he => ?_)
    cases j with
    | zero =>
      cases he
      rw [q_cell_q (e := (4, v.toNatClampNeg, (List.range v.toNatClampNeg).map (fun j => some (σ.length + 1 + j)))) (c := 4) rfl (by decide) (by decide)]
      show F.heap[base + (σ.length + 0)]? = some (vp_cell _ _)
      rw [Nat.add_zero, ← hsz, f2, vp_cell_q, vr_outer]
      congr 2
      funext i
      unfold q_rw
      by_cases hi : i < v.toNatClampNeg
      · rw [if_pos hi, List.getD, List.getElem?_map, List.getElem?_range hi]
        show va_rf (some (H.size + 1 + i)) = va_rf (some (base + (σ.length + 1 + i)))
        rw [hsz]; congr 2; omega
      · rw [if_neg hi, List.getD, List.getElem?_map, List.getElem?_eq_none (by rw [List.length_range]; omega)]
        rfl
    | succ j =>
      rw [List.getElem?_cons_succ, List.getElem?_replicate] at he
      split at he
      · rename_i hj
        cases he
        rw [q_cell_i (e := (0, w.toNatClampNeg, [])) (c := 0) rfl (by decide), hI]
        show F.heap[base + (σ.length + (j + 1))]? = some (vp_cell _ _)
        rw [show base + (σ.length + (j + 1)) = H.size + 1 + j by rw [hsz]; omega, hrow j hj, vp_cell_i]
        show some ({ cls := cy 0, slots := Array.replicate w.toNatClampNeg (.int 0), vm := .none } : Cell) = _
        rw [arrV_new]
      · cases he
  have hS1 : va_S (fun q => base ≤ q) s.heap F.heap locs := q_S_app hS (by rw [f1]; omega) hold
  obtain ⟨t2, a1, b1⟩ := K p l e0 R s m args below meth c0 Qm cy D base b C E F.heap locs ls ⟨hP1, hz⟩ hS1 hL F rfl X'
  refine ⟨t2, step t2 ?_, b1⟩
  have e : (F0 m (pc + 4) ls ((Value.ref σ.length :: st).map (q_tr base b))) = { (F0 m pc ls (Value.int w :: Value.int v :: st.map (q_tr base b))) with pc := (F0 m pc ls (Value.int w :: Value.int v :: st.map (q_tr base b))).pc + 4, stack := Value.ref T.heap.size :: st.map (q_tr base b) } := by rw [hT, hsz]; rfl
  rw [← e]
  exact a1
end
