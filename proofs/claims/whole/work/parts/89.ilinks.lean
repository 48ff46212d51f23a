
set_option maxRecDepth 20000 in
theorem cn_L_7 : Cond.classLink RL 7 RX9 ∈ q_U := q_in 43 rfl rfl
set_option maxRecDepth 20000 in
theorem nw_L_7 : q_New RL 7 7 11 := ⟨RX9, TX9, tyX9, cl_7, cn_L_7, q_in 44 rfl rfl, q_in 28 rfl rfl, fun j hj base => by
  rcases (show j = 0 ∨ j = 1 ∨ j = 2 ∨ j = 3 ∨ j = 4 ∨ j = 5 ∨ j = 6 ∨ j = 7 ∨ j = 8 ∨ j = 9 ∨ j = 10 by omega) with rfl | rfl | rfl | rfl | rfl | rfl | rfl | rfl | rfl | rfl | rfl <;> rfl⟩
set_option maxRecDepth 20000 in
theorem ki_L_9 : q_CaI RL 9 yX9_init cX9_init 2 0 := ⟨me_X9_init, rfl, q_in 46 rfl rfl, Or.inl (q_in 45 rfl rfl)⟩
set_option maxRecDepth 20000 in
theorem oi_X9 : Cond.methodLink RX9 1 objectInit ∈ q_U := q_in 48 rfl rfl
set_option maxRecDepth 20000 in
theorem cn_X9_7 : Cond.classLink RX9 7 RX8 ∈ q_U := q_in 51 rfl rfl
set_option maxRecDepth 20000 in
theorem nw_X9_7 : q_New RX9 7 6 2 := ⟨RX8, TX8, tyX8, cl_6, cn_X9_7, q_in 52 rfl rfl, q_in 29 rfl rfl, fun j hj base => by
  rcases (show j = 0 ∨ j = 1 by omega) with rfl | rfl <;> rfl⟩
set_option maxRecDepth 20000 in
theorem ki_X9_9 : q_CaI RX9 9 yX8_init cX8_init 1 0 := ⟨me_X8_init, rfl, q_in 54 rfl rfl, Or.inr (List.mem_of_getElem? (i := 0) rfl)⟩
set_option maxRecDepth 20000 in
theorem oi_X8 : Cond.methodLink RX8 3 objectInit ∈ q_U := q_in 56 rfl rfl
set_option maxRecDepth 20000 in
theorem cn_X9_16 : Cond.classLink RX9 16 RX6 ∈ q_U := q_in 66 rfl rfl
set_option maxRecDepth 20000 in
theorem nw_X9_16 : q_New RX9 16 4 10 := ⟨RX6, TX6, tyX6, cl_4, cn_X9_16, q_in 67 rfl rfl, q_in 30 rfl rfl, fun j hj base => by
  rcases (show j = 0 ∨ j = 1 ∨ j = 2 ∨ j = 3 ∨ j = 4 ∨ j = 5 ∨ j = 6 ∨ j = 7 ∨ j = 8 ∨ j = 9 by omega) with rfl | rfl | rfl | rfl | rfl | rfl | rfl | rfl | rfl | rfl <;> rfl⟩
set_option maxRecDepth 20000 in
theorem ki_X9_18 : q_CaI RX9 18 yX6_init cX6_init 1 0 := ⟨me_X6_init, rfl, q_in 69 rfl rfl, Or.inr (List.mem_of_getElem? (i := 1) rfl)⟩
set_option maxRecDepth 20000 in
theorem oi_X6 : Cond.methodLink RX6 3 objectInit ∈ q_U := q_in 71 rfl rfl
set_option maxRecDepth 20000 in
theorem cn_X9_26 : Cond.classLink RX9 26 RX0 ∈ q_U := q_in 117 rfl rfl
set_option maxRecDepth 20000 in
theorem nw_X9_26 : q_New RX9 26 0 3 := ⟨RX0, TX0, tyX0, cl_0, cn_X9_26, q_in 118 rfl rfl, q_in 31 rfl rfl, fun j hj base => by
  rcases (show j = 0 ∨ j = 1 ∨ j = 2 by omega) with rfl | rfl | rfl <;> rfl⟩
set_option maxRecDepth 20000 in
theorem ki_X9_28 : q_CaI RX9 28 yX0_init cX0_init 2 0 := ⟨me_X0_init, rfl, q_in 120 rfl rfl, Or.inl (q_in 119 rfl rfl)⟩
set_option maxRecDepth 20000 in
theorem oi_X0 : Cond.methodLink RX0 3 objectInit ∈ q_U := q_in 122 rfl rfl
set_option maxRecDepth 20000 in
theorem cn_X0_9 : Cond.classLink RX0 9 RX6 ∈ q_U := q_in 123 rfl rfl
set_option maxRecDepth 20000 in
theorem nw_X0_9 : q_New RX0 9 4 10 := ⟨RX6, TX6, tyX6, cl_4, cn_X0_9, q_in 67 rfl rfl, q_in 30 rfl rfl, fun j hj base => by
  rcases (show j = 0 ∨ j = 1 ∨ j = 2 ∨ j = 3 ∨ j = 4 ∨ j = 5 ∨ j = 6 ∨ j = 7 ∨ j = 8 ∨ j = 9 by omega) with rfl | rfl | rfl | rfl | rfl | rfl | rfl | rfl | rfl | rfl <;> rfl⟩
set_option maxRecDepth 20000 in
theorem ki_X0_17 : q_CaI RX0 17 yX6_init cX6_init 1 0 := ⟨me_X6_init, rfl, q_in 69 rfl rfl, Or.inr (List.mem_of_getElem? (i := 2) rfl)⟩
set_option maxRecDepth 20000 in
theorem cn_X9_41 : Cond.classLink RX9 41 RX5 ∈ q_U := q_in 137 rfl rfl
set_option maxRecDepth 20000 in
theorem nw_X9_41 : q_New RX9 41 3 3 := ⟨RX5, TX5, tyX5, cl_3, cn_X9_41, q_in 138 rfl rfl, q_in 32 rfl rfl, fun j hj base => by
  rcases (show j = 0 ∨ j = 1 ∨ j = 2 by omega) with rfl | rfl | rfl <;> rfl⟩
set_option maxRecDepth 20000 in
theorem ki_X9_43 : q_CaI RX9 43 yX5_init cX5_init 1 0 := ⟨me_X5_init, rfl, q_in 140 rfl rfl, Or.inr (List.mem_of_getElem? (i := 3) rfl)⟩
set_option maxRecDepth 20000 in
theorem oi_X5 : Cond.methodLink RX5 3 objectInit ∈ q_U := q_in 142 rfl rfl
set_option maxRecDepth 20000 in
theorem cn_X9_48 : Cond.classLink RX9 48 RX3 ∈ q_U := q_in 154 rfl rfl
set_option maxRecDepth 20000 in
theorem nw_X9_48 : q_New RX9 48 2 1 := ⟨RX3, TX3, tyX3, cl_2, cn_X9_48, q_in 155 rfl rfl, q_in 33 rfl rfl, fun j hj base => by
  rcases (show j = 0 by omega) with rfl <;> rfl⟩
set_option maxRecDepth 20000 in
theorem ki_X9_50 : q_CaI RX9 50 yX3_init cX3_init 1 0 := ⟨me_X3_init, rfl, q_in 157 rfl rfl, Or.inr (List.mem_of_getElem? (i := 4) rfl)⟩
set_option maxRecDepth 20000 in
theorem oi_X3 : Cond.methodLink RX3 3 objectInit ∈ q_U := q_in 159 rfl rfl
set_option maxRecDepth 20000 in
theorem cl_X3_9 : Cond.classLink RX3 9 ("[" ++ (FieldType.array FieldType.int).toString) ∈ q_U := q_in 160 (by decide +kernel) rfl
set_option maxRecDepth 20000 in
theorem cn_X9_55 : Cond.classLink RX9 55 RX2 ∈ q_U := q_in 166 rfl rfl
set_option maxRecDepth 20000 in
theorem nw_X9_55 : q_New RX9 55 1 2 := ⟨RX2, TX2, tyX2, cl_1, cn_X9_55, q_in 167 rfl rfl, q_in 34 rfl rfl, fun j hj base => by
  rcases (show j = 0 ∨ j = 1 by omega) with rfl | rfl <;> rfl⟩
set_option maxRecDepth 20000 in
theorem ki_X9_57 : q_CaI RX9 57 yX2_init cX2_init 1 0 := ⟨me_X2_init, rfl, q_in 169 rfl rfl, Or.inr (List.mem_of_getElem? (i := 5) rfl)⟩
set_option maxRecDepth 20000 in
theorem oi_X2 : Cond.methodLink RX2 3 objectInit ∈ q_U := q_in 171 rfl rfl
set_option maxRecDepth 20000 in
theorem cn_X9_62 : Cond.classLink RX9 62 RX7 ∈ q_U := q_in 179 rfl rfl
set_option maxRecDepth 20000 in
theorem nw_X9_62 : q_New RX9 62 5 2 := ⟨RX7, TX7, tyX7, cl_5, cn_X9_62, q_in 180 rfl rfl, q_in 35 rfl rfl, fun j hj base => by
  rcases (show j = 0 ∨ j = 1 by omega) with rfl | rfl <;> rfl⟩
set_option maxRecDepth 20000 in
theorem ki_X9_64 : q_CaI RX9 64 yX7_init cX7_init 2 0 := ⟨me_X7_init, rfl, q_in 182 rfl rfl, Or.inl (q_in 181 rfl rfl)⟩
set_option maxRecDepth 20000 in
theorem oi_X7 : Cond.methodLink RX7 3 objectInit ∈ q_U := q_in 184 rfl rfl
set_option maxRecDepth 20000 in
theorem cn_X7_9 : Cond.classLink RX7 9 RX5 ∈ q_U := q_in 185 rfl rfl
set_option maxRecDepth 20000 in
theorem nw_X7_9 : q_New RX7 9 3 3 := ⟨RX5, TX5, tyX5, cl_3, cn_X7_9, q_in 138 rfl rfl, q_in 32 rfl rfl, fun j hj base => by
  rcases (show j = 0 ∨ j = 1 ∨ j = 2 by omega) with rfl | rfl | rfl <;> rfl⟩
set_option maxRecDepth 20000 in
theorem ki_X7_21 : q_CaI RX7 21 yX5_init cX5_init 1 0 := ⟨me_X5_init, rfl, q_in 140 rfl rfl, Or.inr (List.mem_of_getElem? (i := 6) rfl)⟩
set_option maxRecDepth 20000 in
theorem cn_L_10 : Cond.classLink RL 10 RX10 ∈ q_U := q_in 569 rfl rfl
set_option maxRecDepth 20000 in
theorem nw_L_10 : q_New RL 10 8 23 := ⟨RX10, TX10, tyX10, cl_8, cn_L_10, q_in 570 rfl rfl, q_in 36 rfl rfl, fun j hj base => by
  rcases (show j = 0 ∨ j = 1 ∨ j = 2 ∨ j = 3 ∨ j = 4 ∨ j = 5 ∨ j = 6 ∨ j = 7 ∨ j = 8 ∨ j = 9 ∨ j = 10 ∨ j = 11 ∨ j = 12 ∨ j = 13 ∨ j = 14 ∨ j = 15 ∨ j = 16 ∨ j = 17 ∨ j = 18 ∨ j = 19 ∨ j = 20 ∨ j = 21 ∨ j = 22 by omega) with rfl | rfl | rfl | rfl | rfl | rfl | rfl | rfl | rfl | rfl | rfl | rfl | rfl | rfl | rfl | rfl | rfl | rfl | rfl | rfl | rfl | rfl | rfl <;> rfl⟩
set_option maxRecDepth 20000 in
theorem ki_L_12 : q_CaI RL 12 yX10_init cX10_init 1 0 := ⟨me_X10_init, rfl, q_in 572 rfl rfl, Or.inl (q_in 571 rfl rfl)⟩
set_option maxRecDepth 20000 in
theorem oi_X10 : Cond.methodLink RX10 1 objectInit ∈ q_U := q_in 574 rfl rfl
theorem oi_i : Cond.instanceMethod objectInit ∈ q_U := q_in 49 rfl rfl
theorem oi_c : Cond.code objectInit ⟨#[0xb1]⟩ 1 none ∈ q_U := q_in 50 (by decide +kernel) rfl
theorem ar_i : Cond.arrayClass (newarray.typeOf .int) ∈ q_U := q_in 65 rfl rfl
theorem ar_z : Cond.arrayClass (newarray.typeOf .boolean) ∈ q_U := q_in 153 rfl rfl
theorem ar_i2 : Cond.arrayClass .int ∈ q_U := q_in 65 rfl rfl
