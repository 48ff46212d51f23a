set_option maxRecDepth 20000 in
theorem in_0 : Cond.instantiable RX0 3 ∈ q_U := q_in 118 rfl rfl
set_option maxRecDepth 20000 in
theorem in_1 : Cond.instantiable RX2 2 ∈ q_U := q_in 167 rfl rfl
set_option maxRecDepth 20000 in
theorem in_2 : Cond.instantiable RX3 1 ∈ q_U := q_in 155 rfl rfl
set_option maxRecDepth 20000 in
theorem in_3 : Cond.instantiable RX5 3 ∈ q_U := q_in 138 rfl rfl
set_option maxRecDepth 20000 in
theorem in_4 : Cond.instantiable RX6 10 ∈ q_U := q_in 67 rfl rfl
set_option maxRecDepth 20000 in
theorem in_5 : Cond.instantiable RX7 2 ∈ q_U := q_in 180 rfl rfl
set_option maxRecDepth 20000 in
theorem in_6 : Cond.instantiable RX8 2 ∈ q_U := q_in 52 rfl rfl
set_option maxRecDepth 20000 in
theorem in_7 : Cond.instantiable RX9 11 ∈ q_U := q_in 44 rfl rfl
set_option maxRecDepth 20000 in
theorem in_8 : Cond.instantiable RX10 23 ∈ q_U := q_in 570 rfl rfl
theorem ao_arr {args : Array Value} {s : State} {t : FieldType} (h : (Cond.arrayOver (.array t)).before args s = true) : ∃ (c : ClassId) (k : Class) (comp : ClassId), s.vm.findClass ("[" ++ (FieldType.array t).toString) = some c ∧ s.vm.classes[c]? = some k ∧ k.kind = .array comp (.array t) := by
  have h' : (Cond.arrayOver (.array t)).holds args s none s [] = true := h
  simp only [Cond.holds, Cond.value, beq_iff_eq] at h'
  cases hc : s.vm.findClass (FieldType.array t).toString with
  | none => simp [hc] at h'
  | some comp =>
    simp only [hc, Option.bind_some, Option.bind_eq_some_iff, Option.map_eq_some_iff] at h'
    obtain ⟨c, hi, k, hk, hb⟩ := h'
    cases hkind : k.kind with
    | array component ty =>
      rw [hkind] at hb
      simp at hb
      exact ⟨c, k, component, hb.2, hk, by rw [hkind, hb.1]⟩
    | _ => rw [hkind] at hb; simp at hb
theorem q_tab {w : Cond} (i : Nat) (h : lw_tbl[i]? = some w) : w ∈ lw_tbl := List.mem_of_getElem? h
set_option maxHeartbeats 4000000 in
set_option maxRecDepth 20000 in
theorem q_K0 {args : Array Value} {s : State} (hts : ∀ w ∈ lw_tbl, w.before args s = true) : ∃ (cy : Nat → ClassId) (D : va_G), q_K cy D s := by
  have hU : ∀ w ∈ q_U, w.before args s = true := fun w hw => hts w (List.mem_filter.mp hw).1
  obtain ⟨c0, i0, hn0⟩ := u_known (C := RX0) (T := TX0) (N := 3) hU cl_0.2.1 (hU _ in_0)
  obtain ⟨c1, i1, hn1⟩ := u_known (C := RX2) (T := TX2) (N := 2) hU cl_1.2.1 (hU _ in_1)
  obtain ⟨c2, i2, hn2⟩ := u_known (C := RX3) (T := TX3) (N := 1) hU cl_2.2.1 (hU _ in_2)
  obtain ⟨c3, i3, hn3⟩ := u_known (C := RX5) (T := TX5) (N := 3) hU cl_3.2.1 (hU _ in_3)
  obtain ⟨c4, i4, hn4⟩ := u_known (C := RX6) (T := TX6) (N := 10) hU cl_4.2.1 (hU _ in_4)
  obtain ⟨c5, i5, hn5⟩ := u_known (C := RX7) (T := TX7) (N := 2) hU cl_5.2.1 (hU _ in_5)
  obtain ⟨c6, i6, hn6⟩ := u_known (C := RX8) (T := TX8) (N := 2) hU cl_6.2.1 (hU _ in_6)
  obtain ⟨c7, i7, hn7⟩ := u_known (C := RX9) (T := TX9) (N := 11) hU cl_7.2.1 (hU _ in_7)
  obtain ⟨c8, i8, hn8⟩ := u_known (C := RX10) (T := TX10) (N := 23) hU cl_8.2.1 (hU _ in_8)
  obtain ⟨y0, k0, p0, e00, e01, e02⟩ := Cond.arrayClass_spec (hts _ (q_tab (w := .arrayClass .int) 65 rfl))
  obtain ⟨y1, k1, p1, e10, e11, e12⟩ := Cond.arrayClass_spec (hts _ (q_tab (w := .arrayClass .boolean) 153 rfl))
  obtain ⟨p2, y2, k2, e20, _, e21, e22, e23⟩ := Cond.arrayOver_spec (hts _ (q_tab (w := .arrayOver (.object "EntailedLand$Land")) 124 rfl))
  obtain ⟨p3, y3, k3, e30, _, e31, e32, e33⟩ := Cond.arrayOver_spec (hts _ (q_tab (w := .arrayOver (.object "EntailedLand$Kin")) 186 rfl))
  obtain ⟨y4, k4, p4, e40, e41, e42⟩ := ao_arr (hts _ (q_tab (w := .arrayOver (.array .int)) 161 rfl))
  refine ⟨fun k => [y0, y1, y2, y3, y4].getD k y0, (fun k => [c0, c1, c2, c3, c4, c5, c6, c7, c8].getD k c0, fun k => [i0, i1, i2, i3, i4, i5, i6, i7, i8].getD k i0), ⟨fun k q hq => ?_, fun k q hq => ?_⟩, ?_, ?_, ?_, ?_⟩
  · match k, hq with
    | 0, hq => cases hq; exact hn0
    | 1, hq => cases hq; exact hn1
    | 2, hq => cases hq; exact hn2
    | 3, hq => cases hq; exact hn3
    | 4, hq => cases hq; exact hn4
    | 5, hq => cases hq; exact hn5
    | 6, hq => cases hq; exact hn6
    | 7, hq => cases hq; exact hn7
    | 8, hq => cases hq; exact hn8
    | k + 9, hq => simp at hq
  · match k, hq with
    | 0, hq => cases hq; exact ⟨fun n z => ⟨fun k h => (by cases h), k0, e01, p0, e02⟩, e00⟩
    | 1, hq => cases hq; exact ⟨fun n z => ⟨fun k h => (by cases h), k1, e11, p1, e12⟩, e10⟩
    | 2, hq => cases hq; exact ⟨fun n z => ⟨fun k h => (by cases h), k2, e21, p2, e22⟩, k2, p2, e21, e22, e20, e23⟩
    | 3, hq => cases hq; exact ⟨fun n z => ⟨fun k h => (by cases h), k3, e31, p3, e32⟩, k3, p3, e31, e32, e30, e33⟩
    | 4, hq => cases hq; exact ⟨fun n z => ⟨fun k h => (by cases h), k4, e41, p4, e42⟩, e40⟩
    | k + 5, hq => simp at hq
  · exact List.forall_mem_cons.mpr ⟨va_Nw.of rfl (hts _ (q_tab (w := .methodLinkNest "EntailedLand" 9 yX8_init "EntailedLand") 53 rfl)), List.forall_mem_cons.mpr ⟨va_Nw.of rfl (hts _ (q_tab (w := .methodLinkNest "EntailedLand" 18 yX6_init "EntailedLand") 68 rfl)), List.forall_mem_cons.mpr ⟨va_Nw.of rfl (hts _ (q_tab (w := .methodLinkNest "EntailedLand$Acts" 17 yX6_init "EntailedLand") 125 rfl)), List.forall_mem_cons.mpr ⟨va_Nw.of rfl (hts _ (q_tab (w := .methodLinkNest "EntailedLand" 43 yX5_init "EntailedLand") 139 rfl)), List.forall_mem_cons.mpr ⟨va_Nw.of rfl (hts _ (q_tab (w := .methodLinkNest "EntailedLand" 50 yX3_init "EntailedLand") 156 rfl)), List.forall_mem_cons.mpr ⟨va_Nw.of rfl (hts _ (q_tab (w := .methodLinkNest "EntailedLand" 57 yX2_init "EntailedLand") 168 rfl)), List.forall_mem_cons.mpr ⟨va_Nw.of rfl (hts _ (q_tab (w := .methodLinkNest "EntailedLand$Orders" 21 yX5_init "EntailedLand") 187 rfl)), fun _ h => absurd h List.not_mem_nil⟩⟩⟩⟩⟩⟩⟩
  · exact hts _ (q_tab (w := .arrayOver (.object "EntailedLand$Land")) 124 rfl)
  · exact hts _ (q_tab (w := .arrayOver (.object "EntailedLand$Kin")) 186 rfl)
  · exact hts _ (q_tab (w := .arrayOver (.array .int)) 161 rfl)
/-- the start: nobody, on both sides -/
def I0 : Mem := upI (IL [86, 83, 50, 47, 44, 41, 38, 35, 32, 29, 26, 23, 20, 17, 14, 11, 6, 3]) 92 1 (-9)
theorem I0_o {p k : Nat} (hk : k ≠ 5) (h : p ≠ 92) : I0 p k = 0 := by
  unfold I0
  rw [upI_ne h]
  unfold IL
  have : (k == 5) = false := by simpa using hk
  rw [this, Bool.and_false]; rfl
theorem I0_n {p k : Nat} (hp : [86, 83, 50, 47, 44, 41, 38, 35, 32, 29, 26, 23, 20, 17, 14, 11, 6, 3].contains p = false) (h : p ≠ 92) : I0 p k = 0 := by
  unfold I0
  rw [upI_ne h, IL_z hp]
theorem PgR0 : PgR 0 (lnd I0 3) (I0 92) := by
  refine ⟨0, 0, ⟨?_, by decide, ?_, by decide, fun k hk => absurd hk (by omega), Or.inl ?_, ⟨0, by decide, ?_⟩, ⟨0, by decide, ?_⟩, ⟨0, by decide, ?_⟩, ⟨0, by decide, ?_⟩⟩, fun p hp => absurd hp (by omega), ⟨fun k hk => ?_, ?_, fun p hp => absurd hp (by omega)⟩⟩
  · exact I0_o (p := 3) (k := 3) (by decide) (by decide)
  · exact I0_o (p := 3) (k := 4) (by decide) (by decide)
  · rfl
  · exact I0_o (p := 3) (k := 6) (by decide) (by decide)
  · exact I0_o (p := 3) (k := 7) (by decide) (by decide)
  · exact I0_o (p := 3) (k := 8) (by decide) (by decide)
  · exact I0_o (p := 3) (k := 2) (by decide) (by decide)
  · rcases (show k = 0 ∨ k = 1 ∨ k = 2 ∨ k = 3 ∨ k = 4 ∨ k = 5 ∨ k = 6 by omega) with rfl | rfl | rfl | rfl | rfl | rfl | rfl <;> rfl
  · rfl
theorem Sim0 : Sim 0 I0 J0 := by
  refine ⟨⟨0, ⟨I0_n (by decide) (by decide), by decide⟩, I0_n (by decide) (by decide), fun k hk => absurd hk (by omega), fun k hk => absurd hk (by omega)⟩, PgR0, ⟨0, 0, ⟨I0_n (by decide) (by decide), I0_n (by decide) (by decide), by decide, by decide⟩, I0_n (by decide) (by decide), fun i hi => absurd hi (by omega)⟩, fun s hs => ⟨?_, fun h => absurd (I0_n (by decide) (by decide)) h⟩, rfl⟩
  rw [I0_n (by decide) (by decide), I0_n (by decide) (by decide)]
