set_option maxRecDepth 20000
theorem q_uniq (l : List Nat) (k : Nat) (h : (List.range l.length).all (fun i => !(l[i]? == some 1) || i == k) = true) : ∀ i, l[i]? = some 1 → i = k := by
  intro i hi
  have hlt : i < l.length := (List.getElem?_eq_some_iff.mp hi).1
  have h2 := List.all_eq_true.mp h i (List.mem_range.mpr hlt)
  simpa [hi] using h2
theorem cw_0 : ∀ k, k < 3 → u_lay RX0 TX0 k ∈ q_U := by
  intro k hk
  match k, hk with
  | 0, _ => exact q_in 130 rfl rfl
  | 1, _ => exact q_in 132 rfl rfl
  | 2, _ => exact q_in 134 rfl rfl
  | k + 3, h => exact absurd h (by omega)
theorem cl_0 : q_Cls 0 RX0 TX0 3 tyX0 := ⟨rfl, fun w hw => by obtain ⟨k, hk, rfl⟩ := List.mem_map.mp hw; exact cw_0 k (List.mem_range.mp hk), tyX0_ok, nmX0, rfl⟩
theorem cw_1 : ∀ k, k < 2 → u_lay RX2 TX2 k ∈ q_U := by
  intro k hk
  match k, hk with
  | 0, _ => exact q_in 174 rfl rfl
  | 1, _ => exact q_in 176 rfl rfl
  | k + 2, h => exact absurd h (by omega)
theorem cl_1 : q_Cls 1 RX2 TX2 2 tyX2 := ⟨rfl, fun w hw => by obtain ⟨k, hk, rfl⟩ := List.mem_map.mp hw; exact cw_1 k (List.mem_range.mp hk), tyX2_ok, nmX2, rfl⟩
theorem cw_2 : ∀ k, k < 1 → u_lay RX3 TX3 k ∈ q_U := by
  intro k hk
  match k, hk with
  | 0, _ => exact q_in 163 rfl rfl
  | k + 1, h => exact absurd h (by omega)
theorem cl_2 : q_Cls 2 RX3 TX3 1 tyX3 := ⟨rfl, fun w hw => by obtain ⟨k, hk, rfl⟩ := List.mem_map.mp hw; exact cw_2 k (List.mem_range.mp hk), tyX3_ok, nmX3, rfl⟩
theorem cw_3 : ∀ k, k < 3 → u_lay RX5 TX5 k ∈ q_U := by
  intro k hk
  match k, hk with
  | 0, _ => exact q_in 146 rfl rfl
  | 1, _ => exact q_in 148 rfl rfl
  | 2, _ => exact q_in 150 rfl rfl
  | k + 3, h => exact absurd h (by omega)
theorem cl_3 : q_Cls 3 RX5 TX5 3 tyX5 := ⟨rfl, fun w hw => by obtain ⟨k, hk, rfl⟩ := List.mem_map.mp hw; exact cw_3 k (List.mem_range.mp hk), tyX5_ok, nmX5, rfl⟩
theorem cw_4 : ∀ k, k < 10 → u_lay RX6 TX6 k ∈ q_U := by
  intro k hk
  match k, hk with
  | 0, _ => exact q_in 96 rfl rfl
  | 1, _ => exact q_in 98 rfl rfl
  | 2, _ => exact q_in 100 rfl rfl
  | 3, _ => exact q_in 102 rfl rfl
  | 4, _ => exact q_in 104 rfl rfl
  | 5, _ => exact q_in 106 rfl rfl
  | 6, _ => exact q_in 108 rfl rfl
  | 7, _ => exact q_in 110 rfl rfl
  | 8, _ => exact q_in 112 rfl rfl
  | 9, _ => exact q_in 114 rfl rfl
  | k + 10, h => exact absurd h (by omega)
theorem cl_4 : q_Cls 4 RX6 TX6 10 tyX6 := ⟨rfl, fun w hw => by obtain ⟨k, hk, rfl⟩ := List.mem_map.mp hw; exact cw_4 k (List.mem_range.mp hk), tyX6_ok, nmX6, rfl⟩
theorem cw_5 : ∀ k, k < 2 → u_lay RX7 TX7 k ∈ q_U := by
  intro k hk
  match k, hk with
  | 0, _ => exact q_in 190 rfl rfl
  | 1, _ => exact q_in 192 rfl rfl
  | k + 2, h => exact absurd h (by omega)
theorem cl_5 : q_Cls 5 RX7 TX7 2 tyX7 := ⟨rfl, fun w hw => by obtain ⟨k, hk, rfl⟩ := List.mem_map.mp hw; exact cw_5 k (List.mem_range.mp hk), tyX7_ok, nmX7, rfl⟩
theorem cw_6 : ∀ k, k < 2 → u_lay RX8 TX8 k ∈ q_U := by
  intro k hk
  match k, hk with
  | 0, _ => exact q_in 60 rfl rfl
  | 1, _ => exact q_in 62 rfl rfl
  | k + 2, h => exact absurd h (by omega)
theorem cl_6 : q_Cls 6 RX8 TX8 2 tyX8 := ⟨rfl, fun w hw => by obtain ⟨k, hk, rfl⟩ := List.mem_map.mp hw; exact cw_6 k (List.mem_range.mp hk), tyX8_ok, nmX8, rfl⟩
theorem cw_7 : ∀ k, k < 11 → u_lay RX9 TX9 k ∈ q_U := by
  intro k hk
  match k, hk with
  | 0, _ => exact q_in 206 rfl rfl
  | 1, _ => exact q_in 208 rfl rfl
  | 2, _ => exact q_in 210 rfl rfl
  | 3, _ => exact q_in 212 rfl rfl
  | 4, _ => exact q_in 214 rfl rfl
  | 5, _ => exact q_in 216 rfl rfl
  | 6, _ => exact q_in 218 rfl rfl
  | 7, _ => exact q_in 220 rfl rfl
  | 8, _ => exact q_in 222 rfl rfl
  | 9, _ => exact q_in 224 rfl rfl
  | 10, _ => exact q_in 226 rfl rfl
  | k + 11, h => exact absurd h (by omega)
theorem cl_7 : q_Cls 7 RX9 TX9 11 tyX9 := ⟨rfl, fun w hw => by obtain ⟨k, hk, rfl⟩ := List.mem_map.mp hw; exact cw_7 k (List.mem_range.mp hk), tyX9_ok, nmX9, rfl⟩
theorem cw_8 : ∀ k, k < 23 → u_lay RX10 TX10 k ∈ q_U := by
  intro k hk
  match k, hk with
  | 0, _ => exact q_in 598 rfl rfl
  | 1, _ => exact q_in 600 rfl rfl
  | 2, _ => exact q_in 602 rfl rfl
  | 3, _ => exact q_in 604 rfl rfl
  | 4, _ => exact q_in 606 rfl rfl
  | 5, _ => exact q_in 608 rfl rfl
  | 6, _ => exact q_in 610 rfl rfl
  | 7, _ => exact q_in 612 rfl rfl
  | 8, _ => exact q_in 614 rfl rfl
  | 9, _ => exact q_in 616 rfl rfl
  | 10, _ => exact q_in 618 rfl rfl
  | 11, _ => exact q_in 620 rfl rfl
  | 12, _ => exact q_in 622 rfl rfl
  | 13, _ => exact q_in 624 rfl rfl
  | 14, _ => exact q_in 626 rfl rfl
  | 15, _ => exact q_in 628 rfl rfl
  | 16, _ => exact q_in 630 rfl rfl
  | 17, _ => exact q_in 632 rfl rfl
  | 18, _ => exact q_in 634 rfl rfl
  | 19, _ => exact q_in 636 rfl rfl
  | 20, _ => exact q_in 638 rfl rfl
  | 21, _ => exact q_in 640 rfl rfl
  | 22, _ => exact q_in 642 rfl rfl
  | k + 23, h => exact absurd h (by omega)
theorem cl_8 : q_Cls 8 RX10 TX10 23 tyX10 := ⟨rfl, fun w hw => by obtain ⟨k, hk, rfl⟩ := List.mem_map.mp hw; exact cw_8 k (List.mem_range.mp hk), tyX10_ok, nmX10, rfl⟩
theorem f_X8_9 : q_Fld RX8 9 6 0 2 true := ⟨RX8, TX8, 2, tyX8, cl_6, by decide, q_in 57 rfl rfl, rfl, rfl, (fun _ => rfl), (fun h => by cases h), (fun h => by cases h), (fun _ => Or.inr ⟨_, rfl⟩)⟩
theorem f_X8_15 : q_Fld RX8 15 6 1 0 false := ⟨RX8, TX8, 2, tyX8, cl_6, by decide, q_in 58 rfl rfl, rfl, rfl, (fun h => by cases h), (fun _ => rfl), (fun h => by cases h), (fun h => by cases h)⟩
theorem f_X9_73 : q_Fld RX9 73 6 1 0 false := ⟨RX8, TX8, 2, tyX8, cl_6, by decide, q_in 59 rfl rfl, rfl, rfl, (fun h => by cases h), (fun _ => rfl), (fun h => by cases h), (fun h => by cases h)⟩
theorem f_X6_9 : q_Fld RX6 9 4 0 2 true := ⟨RX6, TX6, 10, tyX6, cl_4, by decide, q_in 72 rfl rfl, rfl, rfl, (fun _ => rfl), (fun h => by cases h), (fun h => by cases h), (fun _ => Or.inr ⟨_, rfl⟩)⟩
theorem f_X6_15 : q_Fld RX6 15 4 1 2 true := ⟨RX6, TX6, 10, tyX6, cl_4, by decide, q_in 73 rfl rfl, rfl, rfl, (fun _ => rfl), (fun h => by cases h), (fun h => by cases h), (fun _ => Or.inr ⟨_, rfl⟩)⟩
theorem f_X6_22 : q_Fld RX6 22 4 2 0 false := ⟨RX6, TX6, 10, tyX6, cl_4, by decide, q_in 74 rfl rfl, rfl, rfl, (fun h => by cases h), (fun _ => rfl), (fun h => by cases h), (fun h => by cases h)⟩
theorem f_X6_25 : q_Fld RX6 25 4 3 0 false := ⟨RX6, TX6, 10, tyX6, cl_4, by decide, q_in 75 rfl rfl, rfl, rfl, (fun h => by cases h), (fun _ => rfl), (fun h => by cases h), (fun h => by cases h)⟩
theorem f_X9_88 : q_Fld RX9 88 4 3 0 false := ⟨RX6, TX6, 10, tyX6, cl_4, by decide, q_in 76 rfl rfl, rfl, rfl, (fun h => by cases h), (fun _ => rfl), (fun h => by cases h), (fun h => by cases h)⟩
theorem f_X8_47 : q_Fld RX8 47 4 3 0 false := ⟨RX6, TX6, 10, tyX6, cl_4, by decide, q_in 77 rfl rfl, rfl, rfl, (fun h => by cases h), (fun _ => rfl), (fun h => by cases h), (fun h => by cases h)⟩
theorem f_X6_28 : q_Fld RX6 28 4 4 0 false := ⟨RX6, TX6, 10, tyX6, cl_4, by decide, q_in 78 rfl rfl, rfl, rfl, (fun h => by cases h), (fun _ => rfl), (fun h => by cases h), (fun h => by cases h)⟩
theorem f_X7_26 : q_Fld RX7 26 4 4 0 false := ⟨RX6, TX6, 10, tyX6, cl_4, by decide, q_in 79 rfl rfl, rfl, rfl, (fun h => by cases h), (fun _ => rfl), (fun h => by cases h), (fun h => by cases h)⟩
theorem f_X9_91 : q_Fld RX9 91 4 4 0 false := ⟨RX6, TX6, 10, tyX6, cl_4, by decide, q_in 80 rfl rfl, rfl, rfl, (fun h => by cases h), (fun _ => rfl), (fun h => by cases h), (fun h => by cases h)⟩
theorem f_X6_18 : q_Fld RX6 18 4 5 0 false := ⟨RX6, TX6, 10, tyX6, cl_4, by decide, q_in 81 rfl rfl, rfl, rfl, (fun h => by cases h), (fun _ => rfl), (fun h => by cases h), (fun h => by cases h)⟩
theorem f_X7_64 : q_Fld RX7 64 4 5 0 false := ⟨RX6, TX6, 10, tyX6, cl_4, by decide, q_in 82 rfl rfl, rfl, rfl, (fun h => by cases h), (fun _ => rfl), (fun h => by cases h), (fun h => by cases h)⟩
theorem f_X9_94 : q_Fld RX9 94 4 5 0 false := ⟨RX6, TX6, 10, tyX6, cl_4, by decide, q_in 83 rfl rfl, rfl, rfl, (fun h => by cases h), (fun _ => rfl), (fun h => by cases h), (fun h => by cases h)⟩
theorem f_X8_54 : q_Fld RX8 54 4 5 0 false := ⟨RX6, TX6, 10, tyX6, cl_4, by decide, q_in 84 rfl rfl, rfl, rfl, (fun h => by cases h), (fun _ => rfl), (fun h => by cases h), (fun h => by cases h)⟩
theorem f_X6_31 : q_Fld RX6 31 4 6 0 false := ⟨RX6, TX6, 10, tyX6, cl_4, by decide, q_in 85 rfl rfl, rfl, rfl, (fun h => by cases h), (fun _ => rfl), (fun h => by cases h), (fun h => by cases h)⟩
theorem f_X7_57 : q_Fld RX7 57 4 6 0 false := ⟨RX6, TX6, 10, tyX6, cl_4, by decide, q_in 86 rfl rfl, rfl, rfl, (fun h => by cases h), (fun _ => rfl), (fun h => by cases h), (fun h => by cases h)⟩
theorem f_X9_97 : q_Fld RX9 97 4 6 0 false := ⟨RX6, TX6, 10, tyX6, cl_4, by decide, q_in 87 rfl rfl, rfl, rfl, (fun h => by cases h), (fun _ => rfl), (fun h => by cases h), (fun h => by cases h)⟩
theorem f_X8_41 : q_Fld RX8 41 4 6 0 false := ⟨RX6, TX6, 10, tyX6, cl_4, by decide, q_in 88 rfl rfl, rfl, rfl, (fun h => by cases h), (fun _ => rfl), (fun h => by cases h), (fun h => by cases h)⟩
theorem f_X6_34 : q_Fld RX6 34 4 7 0 false := ⟨RX6, TX6, 10, tyX6, cl_4, by decide, q_in 89 rfl rfl, rfl, rfl, (fun h => by cases h), (fun _ => rfl), (fun h => by cases h), (fun h => by cases h)⟩
theorem f_X9_100 : q_Fld RX9 100 4 7 0 false := ⟨RX6, TX6, 10, tyX6, cl_4, by decide, q_in 90 rfl rfl, rfl, rfl, (fun h => by cases h), (fun _ => rfl), (fun h => by cases h), (fun h => by cases h)⟩
theorem f_X8_44 : q_Fld RX8 44 4 7 0 false := ⟨RX6, TX6, 10, tyX6, cl_4, by decide, q_in 91 rfl rfl, rfl, rfl, (fun h => by cases h), (fun _ => rfl), (fun h => by cases h), (fun h => by cases h)⟩
theorem f_X6_37 : q_Fld RX6 37 4 8 0 false := ⟨RX6, TX6, 10, tyX6, cl_4, by decide, q_in 92 rfl rfl, rfl, rfl, (fun h => by cases h), (fun _ => rfl), (fun h => by cases h), (fun h => by cases h)⟩
theorem f_X9_103 : q_Fld RX9 103 4 8 0 false := ⟨RX6, TX6, 10, tyX6, cl_4, by decide, q_in 93 rfl rfl, rfl, rfl, (fun h => by cases h), (fun _ => rfl), (fun h => by cases h), (fun h => by cases h)⟩
theorem f_X6_40 : q_Fld RX6 40 4 9 0 false := ⟨RX6, TX6, 10, tyX6, cl_4, by decide, q_in 94 rfl rfl, rfl, rfl, (fun h => by cases h), (fun _ => rfl), (fun h => by cases h), (fun h => by cases h)⟩
theorem f_X9_106 : q_Fld RX9 106 4 9 0 false := ⟨RX6, TX6, 10, tyX6, cl_4, by decide, q_in 95 rfl rfl, rfl, rfl, (fun h => by cases h), (fun _ => rfl), (fun h => by cases h), (fun h => by cases h)⟩
theorem f_X0_11 : q_Fld RX0 11 0 0 2 true := ⟨RX0, TX0, 3, tyX0, cl_0, by decide, q_in 126 rfl rfl, rfl, rfl, (fun _ => rfl), (fun h => by cases h), (fun h => by cases h), (fun _ => Or.inr ⟨_, rfl⟩)⟩
theorem f_X0_22 : q_Fld RX0 22 0 1 0 false := ⟨RX0, TX0, 3, tyX0, cl_0, by decide, q_in 127 rfl rfl, rfl, rfl, (fun h => by cases h), (fun _ => rfl), (fun h => by cases h), (fun h => by cases h)⟩
theorem f_X0_18 : q_Fld RX0 18 0 2 0 false := ⟨RX0, TX0, 3, tyX0, cl_0, by decide, q_in 128 rfl rfl, rfl, rfl, (fun h => by cases h), (fun _ => rfl), (fun h => by cases h), (fun h => by cases h)⟩
theorem f_X9_109 : q_Fld RX9 109 0 2 0 false := ⟨RX0, TX0, 3, tyX0, cl_0, by decide, q_in 129 rfl rfl, rfl, rfl, (fun h => by cases h), (fun _ => rfl), (fun h => by cases h), (fun h => by cases h)⟩
theorem f_X5_9 : q_Fld RX5 9 3 0 2 true := ⟨RX5, TX5, 3, tyX5, cl_3, by decide, q_in 143 rfl rfl, rfl, rfl, (fun _ => rfl), (fun h => by cases h), (fun h => by cases h), (fun _ => Or.inr ⟨_, rfl⟩)⟩
theorem f_X5_15 : q_Fld RX5 15 3 1 0 false := ⟨RX5, TX5, 3, tyX5, cl_3, by decide, q_in 144 rfl rfl, rfl, rfl, (fun h => by cases h), (fun _ => rfl), (fun h => by cases h), (fun h => by cases h)⟩
theorem f_X5_19 : q_Fld RX5 19 3 2 0 false := ⟨RX5, TX5, 3, tyX5, cl_3, by decide, q_in 145 rfl rfl, rfl, rfl, (fun h => by cases h), (fun _ => rfl), (fun h => by cases h), (fun h => by cases h)⟩
theorem f_X3_11 : q_Fld RX3 11 2 0 2 true := ⟨RX3, TX3, 1, tyX3, cl_2, by decide, q_in 162 rfl rfl, rfl, rfl, (fun _ => rfl), (fun h => by cases h), (fun h => by cases h), (fun _ => Or.inr ⟨_, rfl⟩)⟩
theorem f_X2_9 : q_Fld RX2 9 1 0 2 true := ⟨RX2, TX2, 2, tyX2, cl_1, by decide, q_in 172 rfl rfl, rfl, rfl, (fun _ => rfl), (fun h => by cases h), (fun h => by cases h), (fun _ => Or.inr ⟨_, rfl⟩)⟩
theorem f_X2_15 : q_Fld RX2 15 1 1 0 false := ⟨RX2, TX2, 2, tyX2, cl_1, by decide, q_in 173 rfl rfl, rfl, rfl, (fun h => by cases h), (fun _ => rfl), (fun h => by cases h), (fun h => by cases h)⟩
theorem f_X7_11 : q_Fld RX7 11 5 0 2 true := ⟨RX7, TX7, 2, tyX7, cl_5, by decide, q_in 188 rfl rfl, rfl, rfl, (fun _ => rfl), (fun h => by cases h), (fun h => by cases h), (fun _ => Or.inr ⟨_, rfl⟩)⟩
theorem f_X7_17 : q_Fld RX7 17 5 1 2 true := ⟨RX7, TX7, 2, tyX7, cl_5, by decide, q_in 189 rfl rfl, rfl, rfl, (fun _ => rfl), (fun h => by cases h), (fun h => by cases h), (fun _ => Or.inr ⟨_, rfl⟩)⟩
theorem f_X9_10 : q_Fld RX9 10 7 0 2 true := ⟨RX9, TX9, 11, tyX9, cl_7, by decide, q_in 195 rfl rfl, rfl, rfl, (fun _ => rfl), (fun h => by cases h), (fun h => by cases h), (fun _ => Or.inl ⟨_, rfl⟩)⟩
theorem f_X9_19 : q_Fld RX9 19 7 1 2 true := ⟨RX9, TX9, 11, tyX9, cl_7, by decide, q_in 196 rfl rfl, rfl, rfl, (fun _ => rfl), (fun h => by cases h), (fun h => by cases h), (fun _ => Or.inl ⟨_, rfl⟩)⟩
theorem f_X9_23 : q_Fld RX9 23 7 2 2 true := ⟨RX9, TX9, 11, tyX9, cl_7, by decide, q_in 197 rfl rfl, rfl, rfl, (fun _ => rfl), (fun h => by cases h), (fun h => by cases h), (fun _ => Or.inl ⟨_, rfl⟩)⟩
theorem f_X9_29 : q_Fld RX9 29 7 3 2 true := ⟨RX9, TX9, 11, tyX9, cl_7, by decide, q_in 198 rfl rfl, rfl, rfl, (fun _ => rfl), (fun h => by cases h), (fun h => by cases h), (fun _ => Or.inl ⟨_, rfl⟩)⟩
theorem f_X9_33 : q_Fld RX9 33 7 4 2 true := ⟨RX9, TX9, 11, tyX9, cl_7, by decide, q_in 199 rfl rfl, rfl, rfl, (fun _ => rfl), (fun h => by cases h), (fun h => by cases h), (fun _ => Or.inr ⟨_, rfl⟩)⟩
theorem f_X9_37 : q_Fld RX9 37 7 5 2 true := ⟨RX9, TX9, 11, tyX9, cl_7, by decide, q_in 200 rfl rfl, rfl, rfl, (fun _ => rfl), (fun h => by cases h), (fun h => by cases h), (fun _ => Or.inr ⟨_, rfl⟩)⟩
theorem f_X9_44 : q_Fld RX9 44 7 6 2 true := ⟨RX9, TX9, 11, tyX9, cl_7, by decide, q_in 201 rfl rfl, rfl, rfl, (fun _ => rfl), (fun h => by cases h), (fun h => by cases h), (fun _ => Or.inl ⟨_, rfl⟩)⟩
theorem f_X9_51 : q_Fld RX9 51 7 7 2 true := ⟨RX9, TX9, 11, tyX9, cl_7, by decide, q_in 202 rfl rfl, rfl, rfl, (fun _ => rfl), (fun h => by cases h), (fun h => by cases h), (fun _ => Or.inl ⟨_, rfl⟩)⟩
theorem f_X9_58 : q_Fld RX9 58 7 8 2 true := ⟨RX9, TX9, 11, tyX9, cl_7, by decide, q_in 203 rfl rfl, rfl, rfl, (fun _ => rfl), (fun h => by cases h), (fun h => by cases h), (fun _ => Or.inl ⟨_, rfl⟩)⟩
theorem f_X9_65 : q_Fld RX9 65 7 9 2 true := ⟨RX9, TX9, 11, tyX9, cl_7, by decide, q_in 204 rfl rfl, rfl, rfl, (fun _ => rfl), (fun h => by cases h), (fun h => by cases h), (fun _ => Or.inl ⟨_, rfl⟩)⟩
theorem f_X9_225 : q_Fld RX9 225 7 10 1 false := ⟨RX9, TX9, 11, tyX9, cl_7, by decide, q_in 205 rfl rfl, rfl, rfl, (fun h => by cases h), (fun h => by cases h), (fun _ => ⟨rfl, q_uniq _ _ (by decide)⟩), (fun h => by cases h)⟩
theorem f_X10_41 : q_Fld RX10 41 8 0 0 false := ⟨RX10, TX10, 23, tyX10, cl_8, by decide, q_in 575 rfl rfl, rfl, rfl, (fun h => by cases h), (fun _ => rfl), (fun h => by cases h), (fun h => by cases h)⟩
theorem f_X10_7 : q_Fld RX10 7 8 1 2 true := ⟨RX10, TX10, 23, tyX10, cl_8, by decide, q_in 576 rfl rfl, rfl, rfl, (fun _ => rfl), (fun h => by cases h), (fun h => by cases h), (fun _ => Or.inr ⟨_, rfl⟩)⟩
theorem f_X10_53 : q_Fld RX10 53 8 2 0 false := ⟨RX10, TX10, 23, tyX10, cl_8, by decide, q_in 577 rfl rfl, rfl, rfl, (fun h => by cases h), (fun _ => rfl), (fun h => by cases h), (fun h => by cases h)⟩
theorem f_X10_56 : q_Fld RX10 56 8 3 0 false := ⟨RX10, TX10, 23, tyX10, cl_8, by decide, q_in 578 rfl rfl, rfl, rfl, (fun h => by cases h), (fun _ => rfl), (fun h => by cases h), (fun h => by cases h)⟩
theorem f_X10_66 : q_Fld RX10 66 8 4 0 false := ⟨RX10, TX10, 23, tyX10, cl_8, by decide, q_in 579 rfl rfl, rfl, rfl, (fun h => by cases h), (fun _ => rfl), (fun h => by cases h), (fun h => by cases h)⟩
theorem f_X10_69 : q_Fld RX10 69 8 5 0 false := ⟨RX10, TX10, 23, tyX10, cl_8, by decide, q_in 580 rfl rfl, rfl, rfl, (fun h => by cases h), (fun _ => rfl), (fun h => by cases h), (fun h => by cases h)⟩
theorem f_X10_59 : q_Fld RX10 59 8 6 0 false := ⟨RX10, TX10, 23, tyX10, cl_8, by decide, q_in 581 rfl rfl, rfl, rfl, (fun h => by cases h), (fun _ => rfl), (fun h => by cases h), (fun h => by cases h)⟩
theorem f_X10_13 : q_Fld RX10 13 8 7 2 true := ⟨RX10, TX10, 23, tyX10, cl_8, by decide, q_in 582 rfl rfl, rfl, rfl, (fun _ => rfl), (fun h => by cases h), (fun h => by cases h), (fun _ => Or.inr ⟨_, rfl⟩)⟩
theorem f_X10_16 : q_Fld RX10 16 8 8 2 true := ⟨RX10, TX10, 23, tyX10, cl_8, by decide, q_in 583 rfl rfl, rfl, rfl, (fun _ => rfl), (fun h => by cases h), (fun h => by cases h), (fun _ => Or.inr ⟨_, rfl⟩)⟩
theorem f_X10_19 : q_Fld RX10 19 8 9 2 true := ⟨RX10, TX10, 23, tyX10, cl_8, by decide, q_in 584 rfl rfl, rfl, rfl, (fun _ => rfl), (fun h => by cases h), (fun h => by cases h), (fun _ => Or.inr ⟨_, rfl⟩)⟩
theorem f_X10_22 : q_Fld RX10 22 8 10 2 true := ⟨RX10, TX10, 23, tyX10, cl_8, by decide, q_in 585 rfl rfl, rfl, rfl, (fun _ => rfl), (fun h => by cases h), (fun h => by cases h), (fun _ => Or.inr ⟨_, rfl⟩)⟩
theorem f_X10_79 : q_Fld RX10 79 8 11 0 false := ⟨RX10, TX10, 23, tyX10, cl_8, by decide, q_in 586 rfl rfl, rfl, rfl, (fun h => by cases h), (fun _ => rfl), (fun h => by cases h), (fun h => by cases h)⟩
theorem f_X10_25 : q_Fld RX10 25 8 12 2 true := ⟨RX10, TX10, 23, tyX10, cl_8, by decide, q_in 587 rfl rfl, rfl, rfl, (fun _ => rfl), (fun h => by cases h), (fun h => by cases h), (fun _ => Or.inr ⟨_, rfl⟩)⟩
theorem f_X10_28 : q_Fld RX10 28 8 13 2 true := ⟨RX10, TX10, 23, tyX10, cl_8, by decide, q_in 588 rfl rfl, rfl, rfl, (fun _ => rfl), (fun h => by cases h), (fun h => by cases h), (fun _ => Or.inr ⟨_, rfl⟩)⟩
theorem f_X10_175 : q_Fld RX10 175 8 14 1 false := ⟨RX10, TX10, 23, tyX10, cl_8, by decide, q_in 589 rfl rfl, rfl, rfl, (fun h => by cases h), (fun h => by cases h), (fun _ => ⟨rfl, q_uniq _ _ (by decide)⟩), (fun h => by cases h)⟩
theorem f_X10_32 : q_Fld RX10 32 8 15 2 true := ⟨RX10, TX10, 23, tyX10, cl_8, by decide, q_in 590 rfl rfl, rfl, rfl, (fun _ => rfl), (fun h => by cases h), (fun h => by cases h), (fun _ => Or.inr ⟨_, rfl⟩)⟩
theorem f_X10_86 : q_Fld RX10 86 8 16 0 false := ⟨RX10, TX10, 23, tyX10, cl_8, by decide, q_in 591 rfl rfl, rfl, rfl, (fun h => by cases h), (fun _ => rfl), (fun h => by cases h), (fun h => by cases h)⟩
theorem f_X10_35 : q_Fld RX10 35 8 17 2 true := ⟨RX10, TX10, 23, tyX10, cl_8, by decide, q_in 592 rfl rfl, rfl, rfl, (fun _ => rfl), (fun h => by cases h), (fun h => by cases h), (fun _ => Or.inr ⟨_, rfl⟩)⟩
theorem f_X10_130 : q_Fld RX10 130 8 18 0 false := ⟨RX10, TX10, 23, tyX10, cl_8, by decide, q_in 593 rfl rfl, rfl, rfl, (fun h => by cases h), (fun _ => rfl), (fun h => by cases h), (fun h => by cases h)⟩
theorem f_X10_133 : q_Fld RX10 133 8 19 0 false := ⟨RX10, TX10, 23, tyX10, cl_8, by decide, q_in 594 rfl rfl, rfl, rfl, (fun h => by cases h), (fun _ => rfl), (fun h => by cases h), (fun h => by cases h)⟩
theorem f_X10_148 : q_Fld RX10 148 8 20 0 false := ⟨RX10, TX10, 23, tyX10, cl_8, by decide, q_in 595 rfl rfl, rfl, rfl, (fun h => by cases h), (fun _ => rfl), (fun h => by cases h), (fun h => by cases h)⟩
theorem f_X10_151 : q_Fld RX10 151 8 21 0 false := ⟨RX10, TX10, 23, tyX10, cl_8, by decide, q_in 596 rfl rfl, rfl, rfl, (fun h => by cases h), (fun _ => rfl), (fun h => by cases h), (fun h => by cases h)⟩
theorem f_X10_38 : q_Fld RX10 38 8 22 2 true := ⟨RX10, TX10, 23, tyX10, cl_8, by decide, q_in 597 rfl rfl, rfl, rfl, (fun _ => rfl), (fun h => by cases h), (fun h => by cases h), (fun _ => Or.inr ⟨_, rfl⟩)⟩
theorem me_X0_init : q_Me yX0_init cX0_init 2 none 0 := ⟨q_in 121 rfl rfl, q_in 31 rfl rfl, by decide +kernel, by decide +kernel, by decide, by decide +kernel⟩
theorem me_X0_remember : q_Me yX0_remember cX0_remember 2 none 1 := ⟨q_in 322 rfl rfl, q_in 31 rfl rfl, by decide +kernel, by decide +kernel, by decide, by decide +kernel⟩
theorem me_X0_takeBack : q_Me yX0_takeBack cX0_takeBack 2 (some .boolean) 1 := ⟨q_in 407 rfl rfl, q_in 31 rfl rfl, by decide +kernel, by decide +kernel, by decide, by decide +kernel⟩
theorem me_X0_forgetAll : q_Me yX0_forgetAll cX0_forgetAll 1 none 0 := ⟨q_in 281 rfl rfl, q_in 31 rfl rfl, by decide +kernel, by decide +kernel, by decide, by decide +kernel⟩
theorem me_X1_countRests : q_Me yX1_countRests cX1_countRests 4 (some .int) 1 := ⟨q_in 486 rfl rfl, q_in 39 rfl rfl, by decide +kernel, by decide +kernel, by decide, by decide +kernel⟩
theorem me_X1_firstRest : q_Me yX1_firstRest cX1_firstRest 3 (some .int) 1 := ⟨q_in 498 rfl rfl, q_in 39 rfl rfl, by decide +kernel, by decide +kernel, by decide, by decide +kernel⟩
theorem me_X1_isAtRest : q_Me yX1_isAtRest cX1_isAtRest 4 (some .boolean) 3 := ⟨q_in 489 rfl rfl, q_in 39 rfl rfl, by decide +kernel, by decide +kernel, by decide, by decide +kernel⟩
theorem me_X1_holderHas : q_Me yX1_holderHas cX1_holderHas 2 (some .int) 2 := ⟨q_in 492 rfl rfl, q_in 39 rfl rfl, by decide +kernel, by decide +kernel, by decide, by decide +kernel⟩
theorem me_X1_heirHas : q_Me yX1_heirHas cX1_heirHas 3 (some .int) 3 := ⟨q_in 495 rfl rfl, q_in 39 rfl rfl, by decide +kernel, by decide +kernel, by decide, by decide +kernel⟩
theorem me_X2_init : q_Me yX2_init cX2_init 1 none 0 := ⟨q_in 170 rfl rfl, q_in 34 rfl rfl, by decide +kernel, by decide +kernel, by decide, by decide +kernel⟩
theorem me_X2_read : q_Me yX2_read cX2_read 8 (some .boolean) 3 := ⟨q_in 473 rfl rfl, q_in 34 rfl rfl, by decide +kernel, by decide +kernel, by decide, by decide +kernel⟩
theorem me_X2_befall : q_Me yX2_befall cX2_befall 4 none 2 := ⟨q_in 478 rfl rfl, q_in 34 rfl rfl, by decide +kernel, by decide +kernel, by decide, by decide +kernel⟩
theorem me_X3_init : q_Me yX3_init cX3_init 1 none 0 := ⟨q_in 158 rfl rfl, q_in 33 rfl rfl, by decide +kernel, by decide +kernel, by decide, by decide +kernel⟩
theorem me_X3_reckon : q_Me yX3_reckon cX3_reckon 6 none 2 := ⟨q_in 444 rfl rfl, q_in 33 rfl rfl, by decide +kernel, by decide +kernel, by decide, by decide +kernel⟩
theorem me_X3_mostFor : q_Me yX3_mostFor cX3_mostFor 3 (some .int) 2 := ⟨q_in 460 rfl rfl, q_in 33 rfl rfl, by decide +kernel, by decide +kernel, by decide, by decide +kernel⟩
theorem me_X3_firstRow : q_Me yX3_firstRow cX3_firstRow 7 (some .int) 2 := ⟨q_in 464 rfl rfl, q_in 33 rfl rfl, by decide +kernel, by decide +kernel, by decide, by decide +kernel⟩
theorem me_X3_firstBestCut : q_Me yX3_firstBestCut cX3_firstBestCut 5 (some .int) 2 := ⟨q_in 448 rfl rfl, q_in 33 rfl rfl, by decide +kernel, by decide +kernel, by decide, by decide +kernel⟩
theorem me_X3_worth : q_Me yX3_worth cX3_worth 4 (some .int) 3 := ⟨q_in 452 rfl rfl, q_in 33 rfl rfl, by decide +kernel, by decide +kernel, by decide, by decide +kernel⟩
theorem me_X3_grown : q_Me yX3_grown cX3_grown 1 (some .int) 1 := ⟨q_in 455 rfl rfl, q_in 33 rfl rfl, by decide +kernel, by decide +kernel, by decide, by decide +kernel⟩
theorem me_X4_part : q_Me yX4_part cX4_part 4 (some .int) 3 := ⟨q_in 505 rfl rfl, q_in 40 rfl rfl, by decide +kernel, by decide +kernel, by decide, by decide +kernel⟩
theorem me_X4_greatestCommon : q_Me yX4_greatestCommon cX4_greatestCommon 6 (some .int) 2 := ⟨q_in 508 rfl rfl, q_in 40 rfl rfl, by decide +kernel, by decide +kernel, by decide, by decide +kernel⟩
theorem me_X5_init : q_Me yX5_init cX5_init 1 none 0 := ⟨q_in 141 rfl rfl, q_in 32 rfl rfl, by decide +kernel, by decide +kernel, by decide, by decide +kernel⟩
theorem me_X5_listLine : q_Me yX5_listLine cX5_listLine 4 none 3 := ⟨q_in 419 rfl rfl, q_in 32 rfl rfl, by decide +kernel, by decide +kernel, by decide, by decide +kernel⟩
theorem me_X5_listHeirs : q_Me yX5_listHeirs cX5_listHeirs 6 none 3 := ⟨q_in 338 rfl rfl, q_in 32 rfl rfl, by decide +kernel, by decide +kernel, by decide, by decide +kernel⟩
theorem me_X5_addLine : q_Me yX5_addLine cX5_addLine 5 none 4 := ⟨q_in 356 rfl rfl, q_in 32 rfl rfl, by decide +kernel, by decide +kernel, by decide, by decide +kernel⟩
theorem me_X5_addChildren : q_Me yX5_addChildren cX5_addChildren 8 none 4 := ⟨q_in 343 rfl rfl, q_in 32 rfl rfl, by decide +kernel, by decide +kernel, by decide, by decide +kernel⟩
theorem me_X5_firstOf : q_Me yX5_firstOf cX5_firstOf 3 (some .int) 1 := ⟨q_in 362 rfl rfl, q_in 32 rfl rfl, by decide +kernel, by decide +kernel, by decide, by decide +kernel⟩
theorem me_X5_allOf : q_Me yX5_allOf cX5_allOf 4 (some .int) 1 := ⟨q_in 436 rfl rfl, q_in 32 rfl rfl, by decide +kernel, by decide +kernel, by decide, by decide +kernel⟩
theorem me_X5_placeOf : q_Me yX5_placeOf cX5_placeOf 3 (some .int) 1 := ⟨q_in 423 rfl rfl, q_in 32 rfl rfl, by decide +kernel, by decide +kernel, by decide, by decide +kernel⟩
theorem me_X6_init : q_Me yX6_init cX6_init 1 none 0 := ⟨q_in 70 rfl rfl, q_in 30 rfl rfl, by decide +kernel, by decide +kernel, by decide, by decide +kernel⟩
theorem me_X6_clear : q_Me yX6_clear cX6_clear 1 none 0 := ⟨q_in 269 rfl rfl, q_in 30 rfl rfl, by decide +kernel, by decide +kernel, by decide, by decide +kernel⟩
theorem me_X6_copy : q_Me yX6_copy cX6_copy 2 none 1 := ⟨q_in 326 rfl rfl, q_in 30 rfl rfl, by decide +kernel, by decide +kernel, by decide, by decide +kernel⟩
theorem me_X6_has : q_Me yX6_has cX6_has 2 (some .boolean) 1 := ⟨q_in 293 rfl rfl, q_in 30 rfl rfl, by decide +kernel, by decide +kernel, by decide, by decide +kernel⟩
theorem me_X6_lives : q_Me yX6_lives cX6_lives 2 (some .boolean) 1 := ⟨q_in 310 rfl rfl, q_in 30 rfl rfl, by decide +kernel, by decide +kernel, by decide, by decide +kernel⟩
theorem me_X6_isWoman : q_Me yX6_isWoman cX6_isWoman 2 (some .boolean) 1 := ⟨q_in 302 rfl rfl, q_in 30 rfl rfl, by decide +kernel, by decide +kernel, by decide, by decide +kernel⟩
theorem me_X6_parentOf : q_Me yX6_parentOf cX6_parentOf 2 (some .int) 1 := ⟨q_in 297 rfl rfl, q_in 30 rfl rfl, by decide +kernel, by decide +kernel, by decide, by decide +kernel⟩
theorem me_X6_ageOf : q_Me yX6_ageOf cX6_ageOf 2 (some .int) 1 := ⟨q_in 306 rfl rfl, q_in 30 rfl rfl, by decide +kernel, by decide +kernel, by decide, by decide +kernel⟩
theorem me_X6_childrenOf : q_Me yX6_childrenOf cX6_childrenOf 4 (some .int) 1 := ⟨q_in 314 rfl rfl, q_in 30 rfl rfl, by decide +kernel, by decide +kernel, by decide, by decide +kernel⟩
theorem me_X6_firstChild : q_Me yX6_firstChild cX6_firstChild 5 (some .int) 2 := ⟨q_in 348 rfl rfl, q_in 30 rfl rfl, by decide +kernel, by decide +kernel, by decide, by decide +kernel⟩
theorem me_X6_goesAhead : q_Me yX6_goesAhead cX6_goesAhead 7 (some .boolean) 3 := ⟨q_in 352 rfl rfl, q_in 30 rfl rfl, by decide +kernel, by decide +kernel, by decide, by decide +kernel⟩
theorem me_X6_gains : q_Me yX6_gains cX6_gains 4 none 3 := ⟨q_in 277 rfl rfl, q_in 30 rfl rfl, by decide +kernel, by decide +kernel, by decide, by decide +kernel⟩
theorem me_X6_loses : q_Me yX6_loses cX6_loses 3 none 2 := ⟨q_in 333 rfl rfl, q_in 30 rfl rfl, by decide +kernel, by decide +kernel, by decide, by decide +kernel⟩
theorem me_X6_grows : q_Me yX6_grows cX6_grows 2 none 0 := ⟨q_in 396 rfl rfl, q_in 30 rfl rfl, by decide +kernel, by decide +kernel, by decide, by decide +kernel⟩
theorem me_X7_init : q_Me yX7_init cX7_init 2 none 0 := ⟨q_in 183 rfl rfl, q_in 35 rfl rfl, by decide +kernel, by decide +kernel, by decide, by decide +kernel⟩
theorem me_X7_ofSoMany : q_Me yX7_ofSoMany cX7_ofSoMany 3 (some .int) 1 := ⟨q_in 517 rfl rfl, q_in 35 rfl rfl, by decide +kernel, by decide +kernel, by decide, by decide +kernel⟩
theorem me_X7_inWhichHolds : q_Me yX7_inWhichHolds cX7_inWhichHolds 7 (some .int) 2 := ⟨q_in 521 rfl rfl, q_in 35 rfl rfl, by decide +kernel, by decide +kernel, by decide, by decide +kernel⟩
theorem me_X7_begin : q_Me yX7_begin cX7_begin 3 none 1 := ⟨q_in 525 rfl rfl, q_in 35 rfl rfl, by decide +kernel, by decide +kernel, by decide, by decide +kernel⟩
theorem me_X7_goOn : q_Me yX7_goOn cX7_goOn 7 none 4 := ⟨q_in 540 rfl rfl, q_in 35 rfl rfl, by decide +kernel, by decide +kernel, by decide, by decide +kernel⟩
theorem me_X7_add : q_Me yX7_add cX7_add 4 none 3 := ⟨q_in 533 rfl rfl, q_in 35 rfl rfl, by decide +kernel, by decide +kernel, by decide, by decide +kernel⟩
theorem me_X8_init : q_Me yX8_init cX8_init 1 none 0 := ⟨q_in 55 rfl rfl, q_in 29 rfl rfl, by decide +kernel, by decide +kernel, by decide, by decide +kernel⟩
theorem me_X8_add : q_Me yX8_add cX8_add 2 (some .boolean) 1 := ⟨q_in 236 rfl rfl, q_in 29 rfl rfl, by decide +kernel, by decide +kernel, by decide, by decide +kernel⟩
theorem me_X8_firstFault : q_Me yX8_firstFault cX8_firstFault 2 (some .int) 0 := ⟨q_in 248 rfl rfl, q_in 29 rfl rfl, by decide +kernel, by decide +kernel, by decide, by decide +kernel⟩
theorem me_X8_mayStand : q_Me yX8_mayStand cX8_mayStand 3 (some .boolean) 2 := ⟨q_in 251 rfl rfl, q_in 29 rfl rfl, by decide +kernel, by decide +kernel, by decide, by decide +kernel⟩
theorem me_X8_isFigure : q_Me yX8_isFigure cX8_isFigure 2 (some .boolean) 2 := ⟨q_in 254 rfl rfl, q_in 29 rfl rfl, by decide +kernel, by decide +kernel, by decide, by decide +kernel⟩
theorem me_X8_figureAt : q_Me yX8_figureAt cX8_figureAt 2 (some .int) 1 := ⟨q_in 273 rfl rfl, q_in 29 rfl rfl, by decide +kernel, by decide +kernel, by decide, by decide +kernel⟩
theorem me_X8_makeAnew : q_Me yX8_makeAnew cX8_makeAnew 4 none 1 := ⟨q_in 265 rfl rfl, q_in 29 rfl rfl, by decide +kernel, by decide +kernel, by decide, by decide +kernel⟩
theorem me_X9_init : q_Me yX9_init cX9_init 2 none 0 := ⟨q_in 47 rfl rfl, q_in 28 rfl rfl, by decide +kernel, by decide +kernel, by decide, by decide +kernel⟩
theorem me_X9_write : q_Me yX9_write cX9_write 2 (some .int) 1 := ⟨q_in 232 rfl rfl, q_in 28 rfl rfl, by decide +kernel, by decide +kernel, by decide, by decide +kernel⟩
theorem me_X9_wipe : q_Me yX9_wipe cX9_wipe 2 (some .int) 0 := ⟨q_in 240 rfl rfl, q_in 28 rfl rfl, by decide +kernel, by decide +kernel, by decide, by decide +kernel⟩
theorem me_X9_fault : q_Me yX9_fault cX9_fault 1 (some .int) 0 := ⟨q_in 244 rfl rfl, q_in 28 rfl rfl, by decide +kernel, by decide +kernel, by decide, by decide +kernel⟩
theorem me_X9_land : q_Me yX9_land cX9_land 2 (some .int) 0 := ⟨q_in 261 rfl rfl, q_in 28 rfl rfl, by decide +kernel, by decide +kernel, by decide, by decide +kernel⟩
theorem me_X9_about : q_Me yX9_about cX9_about 2 (some .int) 1 := ⟨q_in 285 rfl rfl, q_in 28 rfl rfl, by decide +kernel, by decide +kernel, by decide, by decide +kernel⟩
theorem me_X9_person : q_Me yX9_person cX9_person 3 (some .int) 2 := ⟨q_in 289 rfl rfl, q_in 28 rfl rfl, by decide +kernel, by decide +kernel, by decide, by decide +kernel⟩
theorem me_X9_die : q_Me yX9_die cX9_die 2 (some .int) 1 := ⟨q_in 318 rfl rfl, q_in 28 rfl rfl, by decide +kernel, by decide +kernel, by decide, by decide +kernel⟩
theorem me_X9_bear : q_Me yX9_bear cX9_bear 3 (some .int) 2 := ⟨q_in 366 rfl rfl, q_in 28 rfl rfl, by decide +kernel, by decide +kernel, by decide, by decide +kernel⟩
theorem me_X9_cut : q_Me yX9_cut cX9_cut 2 (some .int) 1 := ⟨q_in 371 rfl rfl, q_in 28 rfl rfl, by decide +kernel, by decide +kernel, by decide, by decide +kernel⟩
theorem me_X9_borrow : q_Me yX9_borrow cX9_borrow 2 (some .int) 1 := ⟨q_in 375 rfl rfl, q_in 28 rfl rfl, by decide +kernel, by decide +kernel, by decide, by decide +kernel⟩
theorem me_X9_breakTie : q_Me yX9_breakTie cX9_breakTie 3 (some .int) 1 := ⟨q_in 379 rfl rfl, q_in 28 rfl rfl, by decide +kernel, by decide +kernel, by decide, by decide +kernel⟩
theorem me_X9_tens : q_Me yX9_tens cX9_tens 1 (some .int) 0 := ⟨q_in 392 rfl rfl, q_in 28 rfl rfl, by decide +kernel, by decide +kernel, by decide, by decide +kernel⟩
theorem me_X9_undo : q_Me yX9_undo cX9_undo 1 (some .int) 0 := ⟨q_in 403 rfl rfl, q_in 28 rfl rfl, by decide +kernel, by decide +kernel, by decide, by decide +kernel⟩
theorem me_X9_heir : q_Me yX9_heir cX9_heir 3 (some .int) 2 := ⟨q_in 411 rfl rfl, q_in 28 rfl rfl, by decide +kernel, by decide +kernel, by decide, by decide +kernel⟩
theorem me_X9_line : q_Me yX9_line cX9_line 4 (some .int) 3 := ⟨q_in 415 rfl rfl, q_in 28 rfl rfl, by decide +kernel, by decide +kernel, by decide, by decide +kernel⟩
theorem me_X9_next : q_Me yX9_next cX9_next 4 (some .int) 1 := ⟨q_in 427 rfl rfl, q_in 28 rfl rfl, by decide +kernel, by decide +kernel, by decide, by decide +kernel⟩
theorem me_X9_ever : q_Me yX9_ever cX9_ever 2 (some .int) 1 := ⟨q_in 432 rfl rfl, q_in 28 rfl rfl, by decide +kernel, by decide +kernel, by decide, by decide +kernel⟩
theorem me_X9_best : q_Me yX9_best cX9_best 4 (some .int) 3 := ⟨q_in 440 rfl rfl, q_in 28 rfl rfl, by decide +kernel, by decide +kernel, by decide, by decide +kernel⟩
theorem me_X9_ties : q_Me yX9_ties cX9_ties 6 (some .int) 3 := ⟨q_in 469 rfl rfl, q_in 28 rfl rfl, by decide +kernel, by decide +kernel, by decide, by decide +kernel⟩
theorem me_X9_rests : q_Me yX9_rests cX9_rests 3 (some .int) 2 := ⟨q_in 483 rfl rfl, q_in 28 rfl rfl, by decide +kernel, by decide +kernel, by decide, by decide +kernel⟩
theorem me_X9_odds : q_Me yX9_odds cX9_odds 4 (some .int) 2 := ⟨q_in 502 rfl rfl, q_in 28 rfl rfl, by decide +kernel, by decide +kernel, by decide, by decide +kernel⟩
theorem me_X9_lender : q_Me yX9_lender cX9_lender 8 (some .int) 3 := ⟨q_in 545 rfl rfl, q_in 28 rfl rfl, by decide +kernel, by decide +kernel, by decide, by decide +kernel⟩
theorem me_X9_seed : q_Me yX9_seed cX9_seed 5 (some .long) 1 := ⟨q_in 550 rfl rfl, q_in 28 rfl rfl, by decide +kernel, by decide +kernel, by decide, by decide +kernel⟩
theorem me_X9_families : q_Me yX9_families cX9_families 6 (some .int) 1 := ⟨q_in 554 rfl rfl, q_in 28 rfl rfl, by decide +kernel, by decide +kernel, by decide, by decide +kernel⟩
theorem me_X9_keep : q_Me yX9_keep cX9_keep 2 (some .int) 1 := ⟨q_in 561 rfl rfl, q_in 28 rfl rfl, by decide +kernel, by decide +kernel, by decide, by decide +kernel⟩
theorem me_X9_again : q_Me yX9_again cX9_again 2 (some .int) 1 := ⟨q_in 568 rfl rfl, q_in 28 rfl rfl, by decide +kernel, by decide +kernel, by decide, by decide +kernel⟩
theorem me_X9_isTie : q_Me yX9_isTie cX9_isTie 1 (some .boolean) 1 := ⟨q_in 382 rfl rfl, q_in 28 rfl rfl, by decide +kernel, by decide +kernel, by decide, by decide +kernel⟩
theorem me_X9_isSlot : q_Me yX9_isSlot cX9_isSlot 1 (some .boolean) 1 := ⟨q_in 564 rfl rfl, q_in 28 rfl rfl, by decide +kernel, by decide +kernel, by decide, by decide +kernel⟩
theorem me_X9_hasChildOfAgeAsHeir : q_Me yX9_hasChildOfAgeAsHeir cX9_hasChildOfAgeAsHeir 2 (some .boolean) 0 := ⟨q_in 386 rfl rfl, q_in 28 rfl rfl, by decide +kernel, by decide +kernel, by decide, by decide +kernel⟩
theorem me_X10_init : q_Me yX10_init cX10_init 1 none 0 := ⟨q_in 573 rfl rfl, q_in 36 rfl rfl, by decide +kernel, by decide +kernel, by decide, by decide +kernel⟩
theorem me_X10_in : q_Me yX10_in cX10_in 6 (some .boolean) 3 := ⟨q_in 652 rfl rfl, q_in 36 rfl rfl, by decide +kernel, by decide +kernel, by decide, by decide +kernel⟩
theorem me_X10_has : q_Me yX10_has cX10_has 2 (some .boolean) 2 := ⟨q_in 699 rfl rfl, q_in 36 rfl rfl, by decide +kernel, by decide +kernel, by decide, by decide +kernel⟩
theorem me_X10_noPerson : q_Me yX10_noPerson cX10_noPerson 2 (some .boolean) 1 := ⟨q_in 688 rfl rfl, q_in 36 rfl rfl, by decide +kernel, by decide +kernel, by decide, by decide +kernel⟩
theorem me_X10_noTie : q_Me yX10_noTie cX10_noTie 1 (some .boolean) 1 := ⟨q_in 743 rfl rfl, q_in 36 rfl rfl, by decide +kernel, by decide +kernel, by decide, by decide +kernel⟩
theorem me_X10_write : q_Me yX10_write cX10_write 2 (some .int) 1 := ⟨q_in 648 rfl rfl, q_in 36 rfl rfl, by decide +kernel, by decide +kernel, by decide, by decide +kernel⟩
theorem me_X10_wipe : q_Me yX10_wipe cX10_wipe 2 (some .int) 0 := ⟨q_in 656 rfl rfl, q_in 36 rfl rfl, by decide +kernel, by decide +kernel, by decide, by decide +kernel⟩
theorem me_X10_figure : q_Me yX10_figure cX10_figure 3 (some .int) 2 := ⟨q_in 668 rfl rfl, q_in 36 rfl rfl, by decide +kernel, by decide +kernel, by decide, by decide +kernel⟩
theorem me_X10_readPerson : q_Me yX10_readPerson cX10_readPerson 4 (some .boolean) 0 := ⟨q_in 672 rfl rfl, q_in 36 rfl rfl, by decide +kernel, by decide +kernel, by decide, by decide +kernel⟩
theorem me_X10_readLand : q_Me yX10_readLand cX10_readLand 1 (some .int) 0 := ⟨q_in 664 rfl rfl, q_in 36 rfl rfl, by decide +kernel, by decide +kernel, by decide, by decide +kernel⟩
theorem me_X10_fault : q_Me yX10_fault cX10_fault 1 (some .int) 0 := ⟨q_in 660 rfl rfl, q_in 36 rfl rfl, by decide +kernel, by decide +kernel, by decide, by decide +kernel⟩
theorem me_X10_land : q_Me yX10_land cX10_land 2 (some .int) 0 := ⟨q_in 676 rfl rfl, q_in 36 rfl rfl, by decide +kernel, by decide +kernel, by decide, by decide +kernel⟩
theorem me_X10_isAhead : q_Me yX10_isAhead cX10_isAhead 8 (some .boolean) 4 := ⟨q_in 715 rfl rfl, q_in 36 rfl rfl, by decide +kernel, by decide +kernel, by decide, by decide +kernel⟩
theorem me_X10_childrenOf : q_Me yX10_childrenOf cX10_childrenOf 5 (some .int) 2 := ⟨q_in 692 rfl rfl, q_in 36 rfl rfl, by decide +kernel, by decide +kernel, by decide, by decide +kernel⟩
theorem me_X10_layLine : q_Me yX10_layLine cX10_layLine 10 none 3 := ⟨q_in 719 rfl rfl, q_in 36 rfl rfl, by decide +kernel, by decide +kernel, by decide, by decide +kernel⟩
theorem me_X10_firstOf : q_Me yX10_firstOf cX10_firstOf 4 (some .int) 2 := ⟨q_in 723 rfl rfl, q_in 36 rfl rfl, by decide +kernel, by decide +kernel, by decide, by decide +kernel⟩
theorem me_X10_heirOf : q_Me yX10_heirOf cX10_heirOf 8 (some .int) 3 := ⟨q_in 711 rfl rfl, q_in 36 rfl rfl, by decide +kernel, by decide +kernel, by decide, by decide +kernel⟩
theorem me_X10_about : q_Me yX10_about cX10_about 2 (some .int) 1 := ⟨q_in 680 rfl rfl, q_in 36 rfl rfl, by decide +kernel, by decide +kernel, by decide, by decide +kernel⟩
theorem me_X10_person : q_Me yX10_person cX10_person 3 (some .int) 2 := ⟨q_in 684 rfl rfl, q_in 36 rfl rfl, by decide +kernel, by decide +kernel, by decide, by decide +kernel⟩
theorem me_X10_note : q_Me yX10_note cX10_note 2 none 0 := ⟨q_in 703 rfl rfl, q_in 36 rfl rfl, by decide +kernel, by decide +kernel, by decide, by decide +kernel⟩
theorem me_X10_goDie : q_Me yX10_goDie cX10_goDie 3 none 2 := ⟨q_in 707 rfl rfl, q_in 36 rfl rfl, by decide +kernel, by decide +kernel, by decide, by decide +kernel⟩
theorem me_X10_die : q_Me yX10_die cX10_die 2 (some .int) 1 := ⟨q_in 696 rfl rfl, q_in 36 rfl rfl, by decide +kernel, by decide +kernel, by decide, by decide +kernel⟩
theorem me_X10_bear : q_Me yX10_bear cX10_bear 4 (some .int) 2 := ⟨q_in 727 rfl rfl, q_in 36 rfl rfl, by decide +kernel, by decide +kernel, by decide, by decide +kernel⟩
theorem me_X10_cut : q_Me yX10_cut cX10_cut 2 (some .int) 1 := ⟨q_in 731 rfl rfl, q_in 36 rfl rfl, by decide +kernel, by decide +kernel, by decide, by decide +kernel⟩
theorem me_X10_borrow : q_Me yX10_borrow cX10_borrow 2 (some .int) 1 := ⟨q_in 736 rfl rfl, q_in 36 rfl rfl, by decide +kernel, by decide +kernel, by decide, by decide +kernel⟩
theorem me_X10_isOfAge : q_Me yX10_isOfAge cX10_isOfAge 2 (some .boolean) 0 := ⟨q_in 748 rfl rfl, q_in 36 rfl rfl, by decide +kernel, by decide +kernel, by decide, by decide +kernel⟩
theorem me_X10_breakTie : q_Me yX10_breakTie cX10_breakTie 3 (some .int) 1 := ⟨q_in 740 rfl rfl, q_in 36 rfl rfl, by decide +kernel, by decide +kernel, by decide, by decide +kernel⟩
theorem me_X10_tens : q_Me yX10_tens cX10_tens 2 (some .int) 0 := ⟨q_in 752 rfl rfl, q_in 36 rfl rfl, by decide +kernel, by decide +kernel, by decide, by decide +kernel⟩
theorem me_X10_undo : q_Me yX10_undo cX10_undo 2 (some .int) 0 := ⟨q_in 756 rfl rfl, q_in 36 rfl rfl, by decide +kernel, by decide +kernel, by decide, by decide +kernel⟩
theorem me_X10_begin : q_Me yX10_begin cX10_begin 2 none 0 := ⟨q_in 772 rfl rfl, q_in 36 rfl rfl, by decide +kernel, by decide +kernel, by decide, by decide +kernel⟩
theorem me_X10_heir : q_Me yX10_heir cX10_heir 3 (some .int) 2 := ⟨q_in 760 rfl rfl, q_in 36 rfl rfl, by decide +kernel, by decide +kernel, by decide, by decide +kernel⟩
theorem me_X10_line : q_Me yX10_line cX10_line 6 (some .int) 3 := ⟨q_in 764 rfl rfl, q_in 36 rfl rfl, by decide +kernel, by decide +kernel, by decide, by decide +kernel⟩
theorem me_X10_next : q_Me yX10_next cX10_next 3 (some .int) 1 := ⟨q_in 768 rfl rfl, q_in 36 rfl rfl, by decide +kernel, by decide +kernel, by decide, by decide +kernel⟩
theorem me_X10_ever : q_Me yX10_ever cX10_ever 5 (some .int) 1 := ⟨q_in 776 rfl rfl, q_in 36 rfl rfl, by decide +kernel, by decide +kernel, by decide, by decide +kernel⟩
theorem me_X10_power : q_Me yX10_power cX10_power 4 (some .int) 2 := ⟨q_in 788 rfl rfl, q_in 36 rfl rfl, by decide +kernel, by decide +kernel, by decide, by decide +kernel⟩
theorem me_X10_findBest : q_Me yX10_findBest cX10_findBest 10 none 2 := ⟨q_in 785 rfl rfl, q_in 36 rfl rfl, by decide +kernel, by decide +kernel, by decide, by decide +kernel⟩
theorem me_X10_best : q_Me yX10_best cX10_best 4 (some .int) 3 := ⟨q_in 780 rfl rfl, q_in 36 rfl rfl, by decide +kernel, by decide +kernel, by decide, by decide +kernel⟩
theorem me_X10_noDeaths : q_Me yX10_noDeaths cX10_noDeaths 7 (some .boolean) 2 := ⟨q_in 796 rfl rfl, q_in 36 rfl rfl, by decide +kernel, by decide +kernel, by decide, by decide +kernel⟩
theorem me_X10_ties : q_Me yX10_ties cX10_ties 7 (some .int) 3 := ⟨q_in 792 rfl rfl, q_in 36 rfl rfl, by decide +kernel, by decide +kernel, by decide, by decide +kernel⟩
theorem me_X10_gainOf : q_Me yX10_gainOf cX10_gainOf 4 (some .int) 4 := ⟨q_in 807 rfl rfl, q_in 36 rfl rfl, by decide +kernel, by decide +kernel, by decide, by decide +kernel⟩
theorem me_X10_findRests : q_Me yX10_findRests cX10_findRests 6 none 1 := ⟨q_in 804 rfl rfl, q_in 36 rfl rfl, by decide +kernel, by decide +kernel, by decide, by decide +kernel⟩
theorem me_X10_rests : q_Me yX10_rests cX10_rests 3 (some .int) 2 := ⟨q_in 800 rfl rfl, q_in 36 rfl rfl, by decide +kernel, by decide +kernel, by decide, by decide +kernel⟩
theorem me_X10_divisor : q_Me yX10_divisor cX10_divisor 5 (some .int) 2 := ⟨q_in 821 rfl rfl, q_in 36 rfl rfl, by decide +kernel, by decide +kernel, by decide, by decide +kernel⟩
theorem me_X10_fraction : q_Me yX10_fraction cX10_fraction 4 (some .int) 3 := ⟨q_in 818 rfl rfl, q_in 36 rfl rfl, by decide +kernel, by decide +kernel, by decide, by decide +kernel⟩
theorem me_X10_goOn : q_Me yX10_goOn cX10_goOn 9 none 5 := ⟨q_in 815 rfl rfl, q_in 36 rfl rfl, by decide +kernel, by decide +kernel, by decide, by decide +kernel⟩
theorem me_X10_odds : q_Me yX10_odds cX10_odds 8 (some .int) 2 := ⟨q_in 811 rfl rfl, q_in 36 rfl rfl, by decide +kernel, by decide +kernel, by decide, by decide +kernel⟩
theorem me_X10_lender : q_Me yX10_lender cX10_lender 8 (some .int) 3 := ⟨q_in 825 rfl rfl, q_in 36 rfl rfl, by decide +kernel, by decide +kernel, by decide, by decide +kernel⟩
theorem me_X10_seed : q_Me yX10_seed cX10_seed 5 (some .long) 1 := ⟨q_in 830 rfl rfl, q_in 36 rfl rfl, by decide +kernel, by decide +kernel, by decide, by decide +kernel⟩
theorem me_X10_families : q_Me yX10_families cX10_families 6 (some .int) 1 := ⟨q_in 834 rfl rfl, q_in 36 rfl rfl, by decide +kernel, by decide +kernel, by decide, by decide +kernel⟩
theorem me_X10_keep : q_Me yX10_keep cX10_keep 3 (some .int) 1 := ⟨q_in 842 rfl rfl, q_in 36 rfl rfl, by decide +kernel, by decide +kernel, by decide, by decide +kernel⟩
theorem me_X10_again : q_Me yX10_again cX10_again 3 (some .int) 1 := ⟨q_in 846 rfl rfl, q_in 36 rfl rfl, by decide +kernel, by decide +kernel, by decide, by decide +kernel⟩
theorem me_J6_bitCount_0f7a4 : q_Me yJ6_bitCount_0f7a4 cJ6_bitCount_0f7a4 1 (some .int) 1 := ⟨q_in 511 rfl rfl, q_in 41 rfl rfl, by decide +kernel, by decide +kernel, by decide, by decide +kernel⟩
theorem me_J7_fill_53178 : q_Me yJ7_fill_53178 cJ7_fill_53178 4 none 2 := ⟨q_in 528 rfl rfl, q_in 42 rfl rfl, by decide +kernel, by decide +kernel, by decide, by decide +kernel⟩
theorem k_L_13 : q_CaV RL 13 yX9_write cX9_write 2 (some .int) 1 7 := ⟨me_X9_write, q_in 229 rfl rfl, q_in 230 rfl rfl, q_in 231 rfl rfl, TX9, 11, rfl⟩
theorem k_X9_69 : q_CaV RX9 69 yX8_add cX8_add 2 (some .boolean) 1 6 := ⟨me_X8_add, q_in 233 rfl rfl, q_in 234 rfl rfl, q_in 235 rfl rfl, TX8, 2, rfl⟩
theorem k_L_18 : q_CaV RL 18 yX9_wipe cX9_wipe 2 (some .int) 0 7 := ⟨me_X9_wipe, q_in 237 rfl rfl, q_in 238 rfl rfl, q_in 239 rfl rfl, TX9, 11, rfl⟩
theorem k_L_23 : q_CaV RL 23 yX9_fault cX9_fault 1 (some .int) 0 7 := ⟨me_X9_fault, q_in 241 rfl rfl, q_in 242 rfl rfl, q_in 243 rfl rfl, TX9, 11, rfl⟩
theorem k_X9_77 : q_CaV RX9 77 yX8_firstFault cX8_firstFault 2 (some .int) 0 6 := ⟨me_X8_firstFault, q_in 245 rfl rfl, q_in 246 rfl rfl, q_in 247 rfl rfl, TX8, 2, rfl⟩
theorem k_X8_19 : q_CaS RX8 19 yX8_mayStand cX8_mayStand 3 (some .boolean) 2 := ⟨me_X8_mayStand, q_in 249 rfl rfl, q_in 250 rfl rfl⟩
theorem k_X8_23 : q_CaS RX8 23 yX8_isFigure cX8_isFigure 2 (some .boolean) 2 := ⟨me_X8_isFigure, q_in 252 rfl rfl, q_in 253 rfl rfl⟩
theorem k_L_27 : q_CaV RL 27 yX9_land cX9_land 2 (some .int) 0 7 := ⟨me_X9_land, q_in 258 rfl rfl, q_in 259 rfl rfl, q_in 260 rfl rfl, TX9, 11, rfl⟩
theorem k_X9_81 : q_CaV RX9 81 yX8_makeAnew cX8_makeAnew 4 none 1 6 := ⟨me_X8_makeAnew, q_in 262 rfl rfl, q_in 263 rfl rfl, q_in 264 rfl rfl, TX8, 2, rfl⟩
theorem k_X8_32 : q_CaV RX8 32 yX6_clear cX6_clear 1 none 0 4 := ⟨me_X6_clear, q_in 266 rfl rfl, q_in 267 rfl rfl, q_in 268 rfl rfl, TX6, 10, rfl⟩
theorem k_X8_37 : q_CaV RX8 37 yX8_figureAt cX8_figureAt 2 (some .int) 1 6 := ⟨me_X8_figureAt, q_in 270 rfl rfl, q_in 272 rfl rfl, q_in 0 rfl rfl, TX8, 2, rfl⟩
theorem k_X8_50 : q_CaV RX8 50 yX6_gains cX6_gains 4 none 3 4 := ⟨me_X6_gains, q_in 274 rfl rfl, q_in 275 rfl rfl, q_in 276 rfl rfl, TX6, 10, rfl⟩
theorem k_X9_85 : q_CaV RX9 85 yX0_forgetAll cX0_forgetAll 1 none 0 0 := ⟨me_X0_forgetAll, q_in 278 rfl rfl, q_in 279 rfl rfl, q_in 280 rfl rfl, TX0, 3, rfl⟩
theorem k_L_31 : q_CaV RL 31 yX9_about cX9_about 2 (some .int) 1 7 := ⟨me_X9_about, q_in 282 rfl rfl, q_in 283 rfl rfl, q_in 284 rfl rfl, TX9, 11, rfl⟩
theorem k_L_35 : q_CaV RL 35 yX9_person cX9_person 3 (some .int) 2 7 := ⟨me_X9_person, q_in 286 rfl rfl, q_in 287 rfl rfl, q_in 288 rfl rfl, TX9, 11, rfl⟩
theorem k_X9_112 : q_CaV RX9 112 yX6_has cX6_has 2 (some .boolean) 1 4 := ⟨me_X6_has, q_in 290 rfl rfl, q_in 291 rfl rfl, q_in 292 rfl rfl, TX6, 10, rfl⟩
theorem k_X9_115 : q_CaV RX9 115 yX6_parentOf cX6_parentOf 2 (some .int) 1 4 := ⟨me_X6_parentOf, q_in 294 rfl rfl, q_in 295 rfl rfl, q_in 296 rfl rfl, TX6, 10, rfl⟩
theorem k_X6_49 : q_CaV RX6 49 yX6_has cX6_has 2 (some .boolean) 1 4 := ⟨me_X6_has, q_in 298 rfl rfl, q_in 291 rfl rfl, q_in 292 rfl rfl, TX6, 10, rfl⟩
theorem k_X9_119 : q_CaV RX9 119 yX6_isWoman cX6_isWoman 2 (some .boolean) 1 4 := ⟨me_X6_isWoman, q_in 299 rfl rfl, q_in 300 rfl rfl, q_in 301 rfl rfl, TX6, 10, rfl⟩
theorem k_X9_122 : q_CaV RX9 122 yX6_ageOf cX6_ageOf 2 (some .int) 1 4 := ⟨me_X6_ageOf, q_in 303 rfl rfl, q_in 304 rfl rfl, q_in 305 rfl rfl, TX6, 10, rfl⟩
theorem k_X9_125 : q_CaV RX9 125 yX6_lives cX6_lives 2 (some .boolean) 1 4 := ⟨me_X6_lives, q_in 307 rfl rfl, q_in 308 rfl rfl, q_in 309 rfl rfl, TX6, 10, rfl⟩
theorem k_X9_128 : q_CaV RX9 128 yX6_childrenOf cX6_childrenOf 4 (some .int) 1 4 := ⟨me_X6_childrenOf, q_in 311 rfl rfl, q_in 312 rfl rfl, q_in 313 rfl rfl, TX6, 10, rfl⟩
theorem k_L_40 : q_CaV RL 40 yX9_die cX9_die 2 (some .int) 1 7 := ⟨me_X9_die, q_in 315 rfl rfl, q_in 316 rfl rfl, q_in 317 rfl rfl, TX9, 11, rfl⟩
theorem k_X9_131 : q_CaV RX9 131 yX0_remember cX0_remember 2 none 1 0 := ⟨me_X0_remember, q_in 319 rfl rfl, q_in 320 rfl rfl, q_in 321 rfl rfl, TX0, 3, rfl⟩
theorem k_X0_25 : q_CaV RX0 25 yX6_copy cX6_copy 2 none 1 4 := ⟨me_X6_copy, q_in 323 rfl rfl, q_in 324 rfl rfl, q_in 325 rfl rfl, TX6, 10, rfl⟩
theorem k_X9_134 : q_CaV RX9 134 yX6_loses cX6_loses 3 none 2 4 := ⟨me_X6_loses, q_in 330 rfl rfl, q_in 331 rfl rfl, q_in 332 rfl rfl, TX6, 10, rfl⟩
theorem k_X6_57 : q_CaV RX6 57 yX6_lives cX6_lives 2 (some .boolean) 1 4 := ⟨me_X6_lives, q_in 334 rfl rfl, q_in 308 rfl rfl, q_in 309 rfl rfl, TX6, 10, rfl⟩
theorem k_X6_60 : q_CaV RX6 60 yX5_listHeirs cX5_listHeirs 6 none 3 3 := ⟨me_X5_listHeirs, q_in 335 rfl rfl, q_in 336 rfl rfl, q_in 337 rfl rfl, TX5, 3, rfl⟩
theorem k_X5_26 : q_CaV RX5 26 yX6_has cX6_has 2 (some .boolean) 1 4 := ⟨me_X6_has, q_in 339 rfl rfl, q_in 291 rfl rfl, q_in 292 rfl rfl, TX6, 10, rfl⟩
theorem k_X5_32 : q_CaV RX5 32 yX5_addChildren cX5_addChildren 8 none 4 3 := ⟨me_X5_addChildren, q_in 340 rfl rfl, q_in 342 rfl rfl, q_in 1 rfl rfl, TX5, 3, rfl⟩
theorem k_X5_42 : q_CaV RX5 42 yX6_childrenOf cX6_childrenOf 4 (some .int) 1 4 := ⟨me_X6_childrenOf, q_in 344 rfl rfl, q_in 312 rfl rfl, q_in 313 rfl rfl, TX6, 10, rfl⟩
theorem k_X5_45 : q_CaV RX5 45 yX6_firstChild cX6_firstChild 5 (some .int) 2 4 := ⟨me_X6_firstChild, q_in 345 rfl rfl, q_in 346 rfl rfl, q_in 347 rfl rfl, TX6, 10, rfl⟩
theorem k_X6_53 : q_CaV RX6 53 yX6_goesAhead cX6_goesAhead 7 (some .boolean) 3 4 := ⟨me_X6_goesAhead, q_in 349 rfl rfl, q_in 351 rfl rfl, q_in 2 rfl rfl, TX6, 10, rfl⟩
theorem k_X5_22 : q_CaV RX5 22 yX5_addLine cX5_addLine 5 none 4 3 := ⟨me_X5_addLine, q_in 353 rfl rfl, q_in 355 rfl rfl, q_in 3 rfl rfl, TX5, 3, rfl⟩
theorem k_X5_39 : q_CaV RX5 39 yX6_isWoman cX6_isWoman 2 (some .boolean) 1 4 := ⟨me_X6_isWoman, q_in 357 rfl rfl, q_in 300 rfl rfl, q_in 301 rfl rfl, TX6, 10, rfl⟩
theorem k_X5_35 : q_CaV RX5 35 yX6_parentOf cX6_parentOf 2 (some .int) 1 4 := ⟨me_X6_parentOf, q_in 358 rfl rfl, q_in 295 rfl rfl, q_in 296 rfl rfl, TX6, 10, rfl⟩
theorem k_X6_66 : q_CaV RX6 66 yX5_firstOf cX5_firstOf 3 (some .int) 1 3 := ⟨me_X5_firstOf, q_in 359 rfl rfl, q_in 360 rfl rfl, q_in 361 rfl rfl, TX5, 3, rfl⟩
theorem k_L_44 : q_CaV RL 44 yX9_bear cX9_bear 3 (some .int) 2 7 := ⟨me_X9_bear, q_in 363 rfl rfl, q_in 364 rfl rfl, q_in 365 rfl rfl, TX9, 11, rfl⟩
theorem k_X9_138 : q_CaV RX9 138 yX6_gains cX6_gains 4 none 3 4 := ⟨me_X6_gains, q_in 367 rfl rfl, q_in 275 rfl rfl, q_in 276 rfl rfl, TX6, 10, rfl⟩
theorem k_L_48 : q_CaV RL 48 yX9_cut cX9_cut 2 (some .int) 1 7 := ⟨me_X9_cut, q_in 368 rfl rfl, q_in 369 rfl rfl, q_in 370 rfl rfl, TX9, 11, rfl⟩
theorem k_L_52 : q_CaV RL 52 yX9_borrow cX9_borrow 2 (some .int) 1 7 := ⟨me_X9_borrow, q_in 372 rfl rfl, q_in 373 rfl rfl, q_in 374 rfl rfl, TX9, 11, rfl⟩
theorem k_L_56 : q_CaV RL 56 yX9_breakTie cX9_breakTie 3 (some .int) 1 7 := ⟨me_X9_breakTie, q_in 376 rfl rfl, q_in 377 rfl rfl, q_in 378 rfl rfl, TX9, 11, rfl⟩
theorem k_X9_142 : q_CaS RX9 142 yX9_isTie cX9_isTie 1 (some .boolean) 1 := ⟨me_X9_isTie, q_in 380 rfl rfl, q_in 381 rfl rfl⟩
theorem k_X9_145 : q_CaV RX9 145 yX9_hasChildOfAgeAsHeir cX9_hasChildOfAgeAsHeir 2 (some .boolean) 0 7 := ⟨me_X9_hasChildOfAgeAsHeir, q_in 383 rfl rfl, q_in 385 rfl rfl, q_in 4 rfl rfl, TX9, 11, rfl⟩
theorem k_X9_156 : q_CaV RX9 156 yX5_listHeirs cX5_listHeirs 6 none 3 3 := ⟨me_X5_listHeirs, q_in 387 rfl rfl, q_in 336 rfl rfl, q_in 337 rfl rfl, TX5, 3, rfl⟩
theorem k_X9_160 : q_CaV RX9 160 yX5_firstOf cX5_firstOf 3 (some .int) 1 3 := ⟨me_X5_firstOf, q_in 388 rfl rfl, q_in 360 rfl rfl, q_in 361 rfl rfl, TX5, 3, rfl⟩
theorem k_L_60 : q_CaV RL 60 yX9_tens cX9_tens 1 (some .int) 0 7 := ⟨me_X9_tens, q_in 389 rfl rfl, q_in 390 rfl rfl, q_in 391 rfl rfl, TX9, 11, rfl⟩
theorem k_X9_149 : q_CaV RX9 149 yX6_grows cX6_grows 2 none 0 4 := ⟨me_X6_grows, q_in 393 rfl rfl, q_in 394 rfl rfl, q_in 395 rfl rfl, TX6, 10, rfl⟩
theorem k_L_64 : q_CaV RL 64 yX9_undo cX9_undo 1 (some .int) 0 7 := ⟨me_X9_undo, q_in 400 rfl rfl, q_in 401 rfl rfl, q_in 402 rfl rfl, TX9, 11, rfl⟩
theorem k_X9_152 : q_CaV RX9 152 yX0_takeBack cX0_takeBack 2 (some .boolean) 1 0 := ⟨me_X0_takeBack, q_in 404 rfl rfl, q_in 405 rfl rfl, q_in 406 rfl rfl, TX0, 3, rfl⟩
theorem k_L_68 : q_CaV RL 68 yX9_heir cX9_heir 3 (some .int) 2 7 := ⟨me_X9_heir, q_in 408 rfl rfl, q_in 409 rfl rfl, q_in 410 rfl rfl, TX9, 11, rfl⟩
theorem k_L_72 : q_CaV RL 72 yX9_line cX9_line 4 (some .int) 3 7 := ⟨me_X9_line, q_in 412 rfl rfl, q_in 413 rfl rfl, q_in 414 rfl rfl, TX9, 11, rfl⟩
theorem k_X9_163 : q_CaV RX9 163 yX5_listLine cX5_listLine 4 none 3 3 := ⟨me_X5_listLine, q_in 416 rfl rfl, q_in 417 rfl rfl, q_in 418 rfl rfl, TX5, 3, rfl⟩
theorem k_X9_166 : q_CaV RX9 166 yX5_placeOf cX5_placeOf 3 (some .int) 1 3 := ⟨me_X5_placeOf, q_in 420 rfl rfl, q_in 421 rfl rfl, q_in 422 rfl rfl, TX5, 3, rfl⟩
theorem k_L_77 : q_CaV RL 77 yX9_next cX9_next 4 (some .int) 1 7 := ⟨me_X9_next, q_in 424 rfl rfl, q_in 425 rfl rfl, q_in 426 rfl rfl, TX9, 11, rfl⟩
theorem k_X9_169 : q_CaV RX9 169 yX6_copy cX6_copy 2 none 1 4 := ⟨me_X6_copy, q_in 428 rfl rfl, q_in 324 rfl rfl, q_in 325 rfl rfl, TX6, 10, rfl⟩
theorem k_L_81 : q_CaV RL 81 yX9_ever cX9_ever 2 (some .int) 1 7 := ⟨me_X9_ever, q_in 429 rfl rfl, q_in 430 rfl rfl, q_in 431 rfl rfl, TX9, 11, rfl⟩
theorem k_X9_172 : q_CaV RX9 172 yX5_allOf cX5_allOf 4 (some .int) 1 3 := ⟨me_X5_allOf, q_in 433 rfl rfl, q_in 434 rfl rfl, q_in 435 rfl rfl, TX5, 3, rfl⟩
theorem k_L_85 : q_CaV RL 85 yX9_best cX9_best 4 (some .int) 3 7 := ⟨me_X9_best, q_in 437 rfl rfl, q_in 438 rfl rfl, q_in 439 rfl rfl, TX9, 11, rfl⟩
theorem k_X9_175 : q_CaV RX9 175 yX3_reckon cX3_reckon 6 none 2 2 := ⟨me_X3_reckon, q_in 441 rfl rfl, q_in 442 rfl rfl, q_in 443 rfl rfl, TX3, 1, rfl⟩
theorem k_X3_16 : q_CaV RX3 16 yX3_firstBestCut cX3_firstBestCut 5 (some .int) 2 2 := ⟨me_X3_firstBestCut, q_in 445 rfl rfl, q_in 447 rfl rfl, q_in 5 rfl rfl, TX3, 1, rfl⟩
theorem k_X3_20 : q_CaV RX3 20 yX3_worth cX3_worth 4 (some .int) 3 2 := ⟨me_X3_worth, q_in 449 rfl rfl, q_in 451 rfl rfl, q_in 6 rfl rfl, TX3, 1, rfl⟩
theorem k_X3_29 : q_CaS RX3 29 yX3_grown cX3_grown 1 (some .int) 1 := ⟨me_X3_grown, q_in 453 rfl rfl, q_in 454 rfl rfl⟩
theorem k_X3_33 : q_CaV RX3 33 yX3_mostFor cX3_mostFor 3 (some .int) 2 2 := ⟨me_X3_mostFor, q_in 457 rfl rfl, q_in 458 rfl rfl, q_in 459 rfl rfl, TX3, 1, rfl⟩
theorem k_X9_179 : q_CaV RX9 179 yX3_firstRow cX3_firstRow 7 (some .int) 2 2 := ⟨me_X3_firstRow, q_in 461 rfl rfl, q_in 462 rfl rfl, q_in 463 rfl rfl, TX3, 1, rfl⟩
theorem k_X9_183 : q_CaV RX9 183 yX3_mostFor cX3_mostFor 3 (some .int) 2 2 := ⟨me_X3_mostFor, q_in 465 rfl rfl, q_in 458 rfl rfl, q_in 459 rfl rfl, TX3, 1, rfl⟩
theorem k_L_90 : q_CaV RL 90 yX9_ties cX9_ties 6 (some .int) 3 7 := ⟨me_X9_ties, q_in 466 rfl rfl, q_in 467 rfl rfl, q_in 468 rfl rfl, TX9, 11, rfl⟩
theorem k_X9_186 : q_CaV RX9 186 yX2_read cX2_read 8 (some .boolean) 3 1 := ⟨me_X2_read, q_in 470 rfl rfl, q_in 471 rfl rfl, q_in 472 rfl rfl, TX2, 2, rfl⟩
theorem k_X2_19 : q_CaV RX2 19 yX6_lives cX6_lives 2 (some .boolean) 1 4 := ⟨me_X6_lives, q_in 474 rfl rfl, q_in 308 rfl rfl, q_in 309 rfl rfl, TX6, 10, rfl⟩
theorem k_X9_190 : q_CaV RX9 190 yX2_befall cX2_befall 4 none 2 1 := ⟨me_X2_befall, q_in 475 rfl rfl, q_in 476 rfl rfl, q_in 477 rfl rfl, TX2, 2, rfl⟩
theorem k_X2_25 : q_CaV RX2 25 yX6_loses cX6_loses 3 none 2 4 := ⟨me_X6_loses, q_in 479 rfl rfl, q_in 331 rfl rfl, q_in 332 rfl rfl, TX6, 10, rfl⟩
theorem k_L_94 : q_CaV RL 94 yX9_rests cX9_rests 3 (some .int) 2 7 := ⟨me_X9_rests, q_in 480 rfl rfl, q_in 481 rfl rfl, q_in 482 rfl rfl, TX9, 11, rfl⟩
theorem k_X9_194 : q_CaS RX9 194 yX1_countRests cX1_countRests 4 (some .int) 1 := ⟨me_X1_countRests, q_in 484 rfl rfl, q_in 485 rfl rfl⟩
theorem k_X1_11 : q_CaS RX1 11 yX1_isAtRest cX1_isAtRest 4 (some .boolean) 3 := ⟨me_X1_isAtRest, q_in 487 rfl rfl, q_in 488 rfl rfl⟩
theorem k_X1_15 : q_CaS RX1 15 yX1_holderHas cX1_holderHas 2 (some .int) 2 := ⟨me_X1_holderHas, q_in 490 rfl rfl, q_in 491 rfl rfl⟩
theorem k_X1_19 : q_CaS RX1 19 yX1_heirHas cX1_heirHas 3 (some .int) 3 := ⟨me_X1_heirHas, q_in 493 rfl rfl, q_in 494 rfl rfl⟩
theorem k_X9_199 : q_CaS RX9 199 yX1_firstRest cX1_firstRest 3 (some .int) 1 := ⟨me_X1_firstRest, q_in 496 rfl rfl, q_in 497 rfl rfl⟩
theorem k_L_98 : q_CaV RL 98 yX9_odds cX9_odds 4 (some .int) 2 7 := ⟨me_X9_odds, q_in 499 rfl rfl, q_in 500 rfl rfl, q_in 501 rfl rfl, TX9, 11, rfl⟩
theorem k_X9_202 : q_CaS RX9 202 yX4_part cX4_part 4 (some .int) 3 := ⟨me_X4_part, q_in 503 rfl rfl, q_in 504 rfl rfl⟩
theorem k_X4_7 : q_CaS RX4 7 yX4_greatestCommon cX4_greatestCommon 6 (some .int) 2 := ⟨me_X4_greatestCommon, q_in 506 rfl rfl, q_in 507 rfl rfl⟩
theorem k_X9_208 : q_CaS RX9 208 yJ6_bitCount_0f7a4 cJ6_bitCount_0f7a4 1 (some .int) 1 := ⟨me_J6_bitCount_0f7a4, q_in 509 rfl rfl, q_in 510 rfl rfl⟩
theorem k_X9_213 : q_CaS RX9 213 yX7_ofSoMany cX7_ofSoMany 3 (some .int) 1 := ⟨me_X7_ofSoMany, q_in 515 rfl rfl, q_in 516 rfl rfl⟩
theorem k_X9_216 : q_CaV RX9 216 yX7_inWhichHolds cX7_inWhichHolds 7 (some .int) 2 5 := ⟨me_X7_inWhichHolds, q_in 518 rfl rfl, q_in 519 rfl rfl, q_in 520 rfl rfl, TX7, 2, rfl⟩
theorem k_X7_22 : q_CaV RX7 22 yX7_begin cX7_begin 3 none 1 5 := ⟨me_X7_begin, q_in 522 rfl rfl, q_in 524 rfl rfl, q_in 7 rfl rfl, TX7, 2, rfl⟩
theorem k_X7_51 : q_CaS RX7 51 yJ7_fill_53178 cJ7_fill_53178 4 none 2 := ⟨me_J7_fill_53178, q_in 526 rfl rfl, q_in 527 rfl rfl⟩
theorem k_X7_60 : q_CaV RX7 60 yX5_listHeirs cX5_listHeirs 6 none 3 3 := ⟨me_X5_listHeirs, q_in 529 rfl rfl, q_in 336 rfl rfl, q_in 337 rfl rfl, TX5, 3, rfl⟩
theorem k_X7_67 : q_CaV RX7 67 yX7_add cX7_add 4 none 3 5 := ⟨me_X7_add, q_in 530 rfl rfl, q_in 532 rfl rfl, q_in 8 rfl rfl, TX7, 2, rfl⟩
theorem k_X7_38 : q_CaS RX7 38 yJ6_bitCount_0f7a4 cJ6_bitCount_0f7a4 1 (some .int) 1 := ⟨me_J6_bitCount_0f7a4, q_in 535 rfl rfl, q_in 510 rfl rfl⟩
theorem k_X7_44 : q_CaS RX7 44 yX7_ofSoMany cX7_ofSoMany 3 (some .int) 1 := ⟨me_X7_ofSoMany, q_in 536 rfl rfl, q_in 516 rfl rfl⟩
theorem k_X7_47 : q_CaV RX7 47 yX7_goOn cX7_goOn 7 none 4 5 := ⟨me_X7_goOn, q_in 537 rfl rfl, q_in 539 rfl rfl, q_in 9 rfl rfl, TX7, 2, rfl⟩
theorem k_X7_71 : q_CaV RX7 71 yX5_firstOf cX5_firstOf 3 (some .int) 1 3 := ⟨me_X5_firstOf, q_in 541 rfl rfl, q_in 360 rfl rfl, q_in 361 rfl rfl, TX5, 3, rfl⟩
theorem k_L_103 : q_CaV RL 103 yX9_lender cX9_lender 8 (some .int) 3 7 := ⟨me_X9_lender, q_in 542 rfl rfl, q_in 543 rfl rfl, q_in 544 rfl rfl, TX9, 11, rfl⟩
theorem k_L_110 : q_CaV RL 110 yX9_seed cX9_seed 5 (some .long) 1 7 := ⟨me_X9_seed, q_in 547 rfl rfl, q_in 548 rfl rfl, q_in 549 rfl rfl, TX9, 11, rfl⟩
theorem k_L_115 : q_CaV RL 115 yX9_families cX9_families 6 (some .int) 1 7 := ⟨me_X9_families, q_in 551 rfl rfl, q_in 552 rfl rfl, q_in 553 rfl rfl, TX9, 11, rfl⟩
theorem k_L_119 : q_CaV RL 119 yX9_keep cX9_keep 2 (some .int) 1 7 := ⟨me_X9_keep, q_in 558 rfl rfl, q_in 559 rfl rfl, q_in 560 rfl rfl, TX9, 11, rfl⟩
theorem k_X9_235 : q_CaS RX9 235 yX9_isSlot cX9_isSlot 1 (some .boolean) 1 := ⟨me_X9_isSlot, q_in 562 rfl rfl, q_in 563 rfl rfl⟩
theorem k_L_123 : q_CaV RL 123 yX9_again cX9_again 2 (some .int) 1 7 := ⟨me_X9_again, q_in 565 rfl rfl, q_in 566 rfl rfl, q_in 567 rfl rfl, TX9, 11, rfl⟩
theorem k_L_17 : q_CaV RL 17 yX10_write cX10_write 2 (some .int) 1 8 := ⟨me_X10_write, q_in 645 rfl rfl, q_in 646 rfl rfl, q_in 647 rfl rfl, TX10, 23, rfl⟩
theorem k_X10_45 : q_CaS RX10 45 yX10_in cX10_in 6 (some .boolean) 3 := ⟨me_X10_in, q_in 650 rfl rfl, q_in 651 rfl rfl⟩
theorem k_L_22 : q_CaV RL 22 yX10_wipe cX10_wipe 2 (some .int) 0 8 := ⟨me_X10_wipe, q_in 653 rfl rfl, q_in 654 rfl rfl, q_in 655 rfl rfl, TX10, 23, rfl⟩
theorem k_L_26 : q_CaV RL 26 yX10_fault cX10_fault 1 (some .int) 0 8 := ⟨me_X10_fault, q_in 657 rfl rfl, q_in 658 rfl rfl, q_in 659 rfl rfl, TX10, 23, rfl⟩
theorem k_X10_75 : q_CaV RX10 75 yX10_readLand cX10_readLand 1 (some .int) 0 8 := ⟨me_X10_readLand, q_in 661 rfl rfl, q_in 663 rfl rfl, q_in 10 rfl rfl, TX10, 23, rfl⟩
theorem k_X10_62 : q_CaV RX10 62 yX10_figure cX10_figure 3 (some .int) 2 8 := ⟨me_X10_figure, q_in 665 rfl rfl, q_in 667 rfl rfl, q_in 11 rfl rfl, TX10, 23, rfl⟩
theorem k_X10_72 : q_CaV RX10 72 yX10_readPerson cX10_readPerson 4 (some .boolean) 0 8 := ⟨me_X10_readPerson, q_in 669 rfl rfl, q_in 671 rfl rfl, q_in 12 rfl rfl, TX10, 23, rfl⟩
theorem k_L_30 : q_CaV RL 30 yX10_land cX10_land 2 (some .int) 0 8 := ⟨me_X10_land, q_in 673 rfl rfl, q_in 674 rfl rfl, q_in 675 rfl rfl, TX10, 23, rfl⟩
theorem k_L_34 : q_CaV RL 34 yX10_about cX10_about 2 (some .int) 1 8 := ⟨me_X10_about, q_in 677 rfl rfl, q_in 678 rfl rfl, q_in 679 rfl rfl, TX10, 23, rfl⟩
theorem k_L_39 : q_CaV RL 39 yX10_person cX10_person 3 (some .int) 2 8 := ⟨me_X10_person, q_in 681 rfl rfl, q_in 682 rfl rfl, q_in 683 rfl rfl, TX10, 23, rfl⟩
theorem k_X10_104 : q_CaV RX10 104 yX10_noPerson cX10_noPerson 2 (some .boolean) 1 8 := ⟨me_X10_noPerson, q_in 685 rfl rfl, q_in 687 rfl rfl, q_in 13 rfl rfl, TX10, 23, rfl⟩
theorem k_X10_89 : q_CaV RX10 89 yX10_childrenOf cX10_childrenOf 5 (some .int) 2 8 := ⟨me_X10_childrenOf, q_in 689 rfl rfl, q_in 691 rfl rfl, q_in 14 rfl rfl, TX10, 23, rfl⟩
theorem k_L_43 : q_CaV RL 43 yX10_die cX10_die 2 (some .int) 1 8 := ⟨me_X10_die, q_in 693 rfl rfl, q_in 694 rfl rfl, q_in 695 rfl rfl, TX10, 23, rfl⟩
theorem k_X10_82 : q_CaS RX10 82 yX10_has cX10_has 2 (some .boolean) 2 := ⟨me_X10_has, q_in 697 rfl rfl, q_in 698 rfl rfl⟩
theorem k_X10_112 : q_CaV RX10 112 yX10_note cX10_note 2 none 0 8 := ⟨me_X10_note, q_in 700 rfl rfl, q_in 702 rfl rfl, q_in 15 rfl rfl, TX10, 23, rfl⟩
theorem k_X10_115 : q_CaV RX10 115 yX10_goDie cX10_goDie 3 none 2 8 := ⟨me_X10_goDie, q_in 704 rfl rfl, q_in 706 rfl rfl, q_in 16 rfl rfl, TX10, 23, rfl⟩
theorem k_X10_108 : q_CaV RX10 108 yX10_heirOf cX10_heirOf 8 (some .int) 3 8 := ⟨me_X10_heirOf, q_in 708 rfl rfl, q_in 710 rfl rfl, q_in 17 rfl rfl, TX10, 23, rfl⟩
theorem k_X10_93 : q_CaV RX10 93 yX10_isAhead cX10_isAhead 8 (some .boolean) 4 8 := ⟨me_X10_isAhead, q_in 712 rfl rfl, q_in 714 rfl rfl, q_in 18 rfl rfl, TX10, 23, rfl⟩
theorem k_X10_97 : q_CaV RX10 97 yX10_layLine cX10_layLine 10 none 3 8 := ⟨me_X10_layLine, q_in 716 rfl rfl, q_in 718 rfl rfl, q_in 19 rfl rfl, TX10, 23, rfl⟩
theorem k_X10_101 : q_CaV RX10 101 yX10_firstOf cX10_firstOf 4 (some .int) 2 8 := ⟨me_X10_firstOf, q_in 720 rfl rfl, q_in 722 rfl rfl, q_in 20 rfl rfl, TX10, 23, rfl⟩
theorem k_L_47 : q_CaV RL 47 yX10_bear cX10_bear 4 (some .int) 2 8 := ⟨me_X10_bear, q_in 724 rfl rfl, q_in 725 rfl rfl, q_in 726 rfl rfl, TX10, 23, rfl⟩
theorem k_L_51 : q_CaV RL 51 yX10_cut cX10_cut 2 (some .int) 1 8 := ⟨me_X10_cut, q_in 728 rfl rfl, q_in 729 rfl rfl, q_in 730 rfl rfl, TX10, 23, rfl⟩
theorem k_L_55 : q_CaV RL 55 yX10_borrow cX10_borrow 2 (some .int) 1 8 := ⟨me_X10_borrow, q_in 733 rfl rfl, q_in 734 rfl rfl, q_in 735 rfl rfl, TX10, 23, rfl⟩
theorem k_L_59 : q_CaV RL 59 yX10_breakTie cX10_breakTie 3 (some .int) 1 8 := ⟨me_X10_breakTie, q_in 737 rfl rfl, q_in 738 rfl rfl, q_in 739 rfl rfl, TX10, 23, rfl⟩
theorem k_X10_121 : q_CaS RX10 121 yX10_noTie cX10_noTie 1 (some .boolean) 1 := ⟨me_X10_noTie, q_in 741 rfl rfl, q_in 742 rfl rfl⟩
theorem k_X10_124 : q_CaV RX10 124 yX10_isOfAge cX10_isOfAge 2 (some .boolean) 0 8 := ⟨me_X10_isOfAge, q_in 745 rfl rfl, q_in 747 rfl rfl, q_in 21 rfl rfl, TX10, 23, rfl⟩
theorem k_L_63 : q_CaV RL 63 yX10_tens cX10_tens 2 (some .int) 0 8 := ⟨me_X10_tens, q_in 749 rfl rfl, q_in 750 rfl rfl, q_in 751 rfl rfl, TX10, 23, rfl⟩
theorem k_L_67 : q_CaV RL 67 yX10_undo cX10_undo 2 (some .int) 0 8 := ⟨me_X10_undo, q_in 753 rfl rfl, q_in 754 rfl rfl, q_in 755 rfl rfl, TX10, 23, rfl⟩
theorem k_L_71 : q_CaV RL 71 yX10_heir cX10_heir 3 (some .int) 2 8 := ⟨me_X10_heir, q_in 757 rfl rfl, q_in 758 rfl rfl, q_in 759 rfl rfl, TX10, 23, rfl⟩
theorem k_L_76 : q_CaV RL 76 yX10_line cX10_line 6 (some .int) 3 8 := ⟨me_X10_line, q_in 761 rfl rfl, q_in 762 rfl rfl, q_in 763 rfl rfl, TX10, 23, rfl⟩
theorem k_L_80 : q_CaV RL 80 yX10_next cX10_next 3 (some .int) 1 8 := ⟨me_X10_next, q_in 765 rfl rfl, q_in 766 rfl rfl, q_in 767 rfl rfl, TX10, 23, rfl⟩
theorem k_X10_127 : q_CaV RX10 127 yX10_begin cX10_begin 2 none 0 8 := ⟨me_X10_begin, q_in 769 rfl rfl, q_in 771 rfl rfl, q_in 22 rfl rfl, TX10, 23, rfl⟩
theorem k_L_84 : q_CaV RL 84 yX10_ever cX10_ever 5 (some .int) 1 8 := ⟨me_X10_ever, q_in 773 rfl rfl, q_in 774 rfl rfl, q_in 775 rfl rfl, TX10, 23, rfl⟩
theorem k_L_89 : q_CaV RL 89 yX10_best cX10_best 4 (some .int) 3 8 := ⟨me_X10_best, q_in 777 rfl rfl, q_in 778 rfl rfl, q_in 779 rfl rfl, TX10, 23, rfl⟩
theorem k_X10_141 : q_CaV RX10 141 yX10_findBest cX10_findBest 10 none 2 8 := ⟨me_X10_findBest, q_in 782 rfl rfl, q_in 784 rfl rfl, q_in 23 rfl rfl, TX10, 23, rfl⟩
theorem k_X10_136 : q_CaS RX10 136 yX10_power cX10_power 4 (some .int) 2 := ⟨me_X10_power, q_in 786 rfl rfl, q_in 787 rfl rfl⟩
theorem k_L_93 : q_CaV RL 93 yX10_ties cX10_ties 7 (some .int) 3 8 := ⟨me_X10_ties, q_in 789 rfl rfl, q_in 790 rfl rfl, q_in 791 rfl rfl, TX10, 23, rfl⟩
theorem k_X10_145 : q_CaV RX10 145 yX10_noDeaths cX10_noDeaths 7 (some .boolean) 2 8 := ⟨me_X10_noDeaths, q_in 793 rfl rfl, q_in 795 rfl rfl, q_in 24 rfl rfl, TX10, 23, rfl⟩
theorem k_L_97 : q_CaV RL 97 yX10_rests cX10_rests 3 (some .int) 2 8 := ⟨me_X10_rests, q_in 797 rfl rfl, q_in 798 rfl rfl, q_in 799 rfl rfl, TX10, 23, rfl⟩
theorem k_X10_158 : q_CaV RX10 158 yX10_findRests cX10_findRests 6 none 1 8 := ⟨me_X10_findRests, q_in 801 rfl rfl, q_in 803 rfl rfl, q_in 25 rfl rfl, TX10, 23, rfl⟩
theorem k_X10_154 : q_CaS RX10 154 yX10_gainOf cX10_gainOf 4 (some .int) 4 := ⟨me_X10_gainOf, q_in 805 rfl rfl, q_in 806 rfl rfl⟩
theorem k_L_102 : q_CaV RL 102 yX10_odds cX10_odds 8 (some .int) 2 8 := ⟨me_X10_odds, q_in 808 rfl rfl, q_in 809 rfl rfl, q_in 810 rfl rfl, TX10, 23, rfl⟩
theorem k_X10_165 : q_CaV RX10 165 yX10_goOn cX10_goOn 9 none 5 8 := ⟨me_X10_goOn, q_in 812 rfl rfl, q_in 814 rfl rfl, q_in 26 rfl rfl, TX10, 23, rfl⟩
theorem k_X10_169 : q_CaS RX10 169 yX10_fraction cX10_fraction 4 (some .int) 3 := ⟨me_X10_fraction, q_in 816 rfl rfl, q_in 817 rfl rfl⟩
theorem k_X10_162 : q_CaS RX10 162 yX10_divisor cX10_divisor 5 (some .int) 2 := ⟨me_X10_divisor, q_in 819 rfl rfl, q_in 820 rfl rfl⟩
theorem k_L_107 : q_CaV RL 107 yX10_lender cX10_lender 8 (some .int) 3 8 := ⟨me_X10_lender, q_in 822 rfl rfl, q_in 823 rfl rfl, q_in 824 rfl rfl, TX10, 23, rfl⟩
theorem k_L_114 : q_CaV RL 114 yX10_seed cX10_seed 5 (some .long) 1 8 := ⟨me_X10_seed, q_in 827 rfl rfl, q_in 828 rfl rfl, q_in 829 rfl rfl, TX10, 23, rfl⟩
theorem k_L_118 : q_CaV RL 118 yX10_families cX10_families 6 (some .int) 1 8 := ⟨me_X10_families, q_in 831 rfl rfl, q_in 832 rfl rfl, q_in 833 rfl rfl, TX10, 23, rfl⟩
theorem k_L_122 : q_CaV RL 122 yX10_keep cX10_keep 3 (some .int) 1 8 := ⟨me_X10_keep, q_in 839 rfl rfl, q_in 840 rfl rfl, q_in 841 rfl rfl, TX10, 23, rfl⟩
theorem k_L_126 : q_CaV RL 126 yX10_again cX10_again 3 (some .int) 1 8 := ⟨me_X10_again, q_in 843 rfl rfl, q_in 844 rfl rfl, q_in 845 rfl rfl, TX10, 23, rfl⟩
theorem kM_min_s : Cond.static Lib.Math.min.name ∈ q_U := q_in 398 rfl rfl
theorem kM_min_c : Cond.code Lib.Math.min.name Lib.Math.min.code 2 (some .int) ∈ q_U := q_in 399 (by decide +kernel) rfl
theorem k_X6_70 : Cond.methodLink RX6 70 Lib.Math.min.name ∈ q_U := q_in 397 rfl rfl
theorem k_X3_24 : Cond.methodLink RX3 24 Lib.Math.min.name ∈ q_U := q_in 456 rfl rfl
theorem k_X7_32 : Cond.methodLink RX7 32 Lib.Math.min.name ∈ q_U := q_in 534 rfl rfl
theorem k_X9_220 : Cond.methodLink RX9 220 Lib.Math.min.name ∈ q_U := q_in 546 rfl rfl
theorem kM_max_s : Cond.static Lib.Math.max.name ∈ q_U := q_in 256 rfl rfl
theorem kM_max_c : Cond.code Lib.Math.max.name Lib.Math.max.code 2 (some .int) ∈ q_U := q_in 257 (by decide +kernel) rfl
theorem k_X8_26 : Cond.methodLink RX8 26 Lib.Math.max.name ∈ q_U := q_in 255 rfl rfl
theorem kM_i : Cond.initialized "java/lang/Math" ∈ q_U := q_in 37 rfl rfl
theorem k_X6_43 : Cond.methodLink RX6 43 arraycopyName ∈ q_U := q_in 327 rfl rfl
theorem kA_static : Cond.static arraycopyName ∈ q_U := q_in 328 rfl rfl
theorem kA_native : Cond.native arraycopyName ∈ q_U := q_in 329 rfl rfl
theorem kA_i : Cond.initialized "java/lang/System" ∈ q_U := q_in 38 rfl rfl
theorem c_J6_265 : Cond.constant RJ6 265 1431655765 ∈ q_U := q_in 512 rfl rfl
theorem c_J6_266 : Cond.constant RJ6 266 858993459 ∈ q_U := q_in 513 rfl rfl
theorem c_J6_267 : Cond.constant RJ6 267 252645135 ∈ q_U := q_in 514 rfl rfl
theorem c_X9_229 : Cond.constantLong RX9 229 6364136223846793005 ∈ q_U := q_in 555 rfl rfl
theorem c_X9_231 : Cond.constantLong RX9 231 1442695040888963407 ∈ q_U := q_in 556 rfl rfl
theorem c_X9_233 : Cond.constantLong RX9 233 10 ∈ q_U := q_in 557 rfl rfl
theorem c_X10_51 : Cond.constantLong RX10 51 255 ∈ q_U := q_in 649 rfl rfl
theorem c_X10_119 : Cond.constantLong RX10 119 9 ∈ q_U := q_in 732 rfl rfl
theorem c_X10_49 : Cond.constantLong RX10 49 3 ∈ q_U := q_in 744 rfl rfl
theorem c_X10_139 : Cond.constantLong RX10 139 4 ∈ q_U := q_in 781 rfl rfl
theorem c_X10_173 : Cond.constantLong RX10 173 5 ∈ q_U := q_in 826 rfl rfl
theorem c_X10_179 : Cond.constantLong RX10 179 20 ∈ q_U := q_in 835 rfl rfl
theorem c_X10_181 : Cond.constantLong RX10 181 6364136223846793005 ∈ q_U := q_in 836 rfl rfl
theorem c_X10_183 : Cond.constantLong RX10 183 1442695040888963407 ∈ q_U := q_in 837 rfl rfl
theorem c_X10_185 : Cond.constantLong RX10 185 10 ∈ q_U := q_in 838 rfl rfl
theorem c_L_108 : Cond.constantLong RL 108 4294967295 ∈ q_U := q_in 847 rfl rfl
