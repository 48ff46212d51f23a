def LQ2 : List Value → Shp → Mem → Lng → Nat → Nat → Prop := fun st _ _ _ k n => st = [.int 1] ∧ k ≤ 600000 ∧ n ≤ 7302250
abbrev LW (nm : String) (N : Nat) (xs : Nat → Int32) (k n pc : Nat) (L : List (Option Value)) (st : List Value) (σ : Shp) (I : Mem) (J : Lng) : Prop := q_WP RL nm cL_law 4 .ireturn 36 100 4099 (some (N, xs)) LQ2 k n pc L st σ I J
abbrev LL (T : Nat) : List (Option Value) := [some .null, some (.ref 0), some (.ref 89), some (.int (nI (4 * T)))]
theorem nI_3 {a : Nat} : nI a + 3 = nI (a + 3) := nI_add (a := a) (b := 3)
theorem cmp_self (x : Int64) : lg_cmp x x = 0 := by unfold lg_cmp; simp
set_option maxHeartbeats 4000000 in
set_option maxRecDepth 100000 in
theorem lc_0 {nm : String} {N : Nat} {xs : Nat → Int32} {T : Nat} {I : Mem} {J : Lng} (hN : N ≤ 256) (hi : 4 * T + 4 ≤ N) (hS : Sim T I J) (K : ∀ (I2 : Mem) (J2 : Lng), Sim (T + 1) I2 J2 → LW nm N xs 100 4099 925 (LL T) [] SH I2 J2) : LW nm N xs 100 4099 152 (LL T) [] SH I J := by
  refine s_aload_n dL_law_152 rfl ?_
  refine s_aload_x dL_law_153 rfl ?_
  refine s_iload_n dL_law_154 rfl ?_
  refine s_iconst (v := 1) dL_law_155 (by decide) ?_
  refine s_iadd dL_law_156 ?_
  rw [nI_1]
  refine s_xld rfl dL_law_157 (vp_in_nI (by omega) (by omega)) ?_
  rw [nI_clamp (by omega)]
  have hp : PrI _ _ _ _ _ _ _ _ [.int (xs (4 * T + 1))] T I J := pr_write hS
  obtain ⟨Q9, hQ9, h9⟩ := hp
  refine s_callV dL_law_158 k_L_13 rfl rfl hQ9 rfl rfl rfl (Nat.le_of_ble_eq_true rfl) (by decide) (by decide) (by decide) (fun r9 σ9 I9 J9 q9 => ?_)
  obtain ⟨rfl, x, rfl, Q10, hQ10, h10⟩ := h9 _ _ _ _ q9
  refine s_aload_n dL_law_161 rfl ?_
  refine s_aload_x dL_law_162 rfl ?_
  refine s_iload_n dL_law_163 rfl ?_
  refine s_iconst (v := 1) dL_law_164 (by decide) ?_
  refine s_iadd dL_law_165 ?_
  rw [nI_1]
  refine s_xld rfl dL_law_166 (vp_in_nI (by omega) (by omega)) ?_
  rw [nI_clamp (by omega)]
  refine s_callV dL_law_167 k_L_17 rfl rfl hQ10 rfl rfl rfl (Nat.le_of_ble_eq_true rfl) (by decide) (by decide) (by decide) (fun r8 σ8 I8 J8 q8 => ?_)
  obtain ⟨rfl, rfl, hS2⟩ := h10 _ _ _ _ q8
  refine s_icmp_eq (tgt := 925) dL_law_170 (by decide) (fun _ => ?_) (fun c => absurd rfl c)
  exact K I8 J8 hS2
set_option maxHeartbeats 4000000 in
set_option maxRecDepth 100000 in
theorem lc_1 {nm : String} {N : Nat} {xs : Nat → Int32} {T : Nat} {I : Mem} {J : Lng} (hN : N ≤ 256) (hi : 4 * T + 4 ≤ N) (hS : Sim T I J) (K : ∀ (I2 : Mem) (J2 : Lng), Sim (T + 1) I2 J2 → LW nm N xs 100 4099 925 (LL T) [] SH I2 J2) : LW nm N xs 100 4099 175 (LL T) [] SH I J := by
  refine s_aload_n dL_law_175 rfl ?_
  have hp : PrI _ _ _ _ _ _ _ _ [] T I J := pr_wipe hS
  obtain ⟨Q9, hQ9, h9⟩ := hp
  refine s_callV dL_law_176 k_L_18 rfl rfl hQ9 rfl rfl rfl (Nat.le_of_ble_eq_true rfl) (by decide) (by decide) (by decide) (fun r9 σ9 I9 J9 q9 => ?_)
  obtain ⟨rfl, x, rfl, Q10, hQ10, h10⟩ := h9 _ _ _ _ q9
  refine s_aload_n dL_law_179 rfl ?_
  refine s_callV dL_law_180 k_L_22 rfl rfl hQ10 rfl rfl rfl (Nat.le_of_ble_eq_true rfl) (by decide) (by decide) (by decide) (fun r8 σ8 I8 J8 q8 => ?_)
  obtain ⟨rfl, rfl, hS2⟩ := h10 _ _ _ _ q8
  refine s_icmp_eq (tgt := 925) dL_law_183 (by decide) (fun _ => ?_) (fun c => absurd rfl c)
  exact K I8 J8 hS2
set_option maxHeartbeats 4000000 in
set_option maxRecDepth 100000 in
theorem lc_2 {nm : String} {N : Nat} {xs : Nat → Int32} {T : Nat} {I : Mem} {J : Lng} (hN : N ≤ 256) (hi : 4 * T + 4 ≤ N) (hS : Sim T I J) (K : ∀ (I2 : Mem) (J2 : Lng), Sim (T + 1) I2 J2 → LW nm N xs 100 4099 925 (LL T) [] SH I2 J2) : LW nm N xs 100 4099 188 (LL T) [] SH I J := by
  refine s_aload_n dL_law_188 rfl ?_
  have hp : PrI _ _ _ _ _ _ _ _ [] T I J := pr_fault hS
  obtain ⟨Q9, hQ9, h9⟩ := hp
  refine s_callV dL_law_189 k_L_23 rfl rfl hQ9 rfl rfl rfl (Nat.le_of_ble_eq_true rfl) (by decide) (by decide) (by decide) (fun r9 σ9 I9 J9 q9 => ?_)
  obtain ⟨rfl, x, rfl, Q10, hQ10, h10⟩ := h9 _ _ _ _ q9
  refine s_aload_n dL_law_192 rfl ?_
  refine s_callV dL_law_193 k_L_26 rfl rfl hQ10 rfl rfl rfl (Nat.le_of_ble_eq_true rfl) (by decide) (by decide) (by decide) (fun r8 σ8 I8 J8 q8 => ?_)
  obtain ⟨rfl, rfl, hS2⟩ := h10 _ _ _ _ q8
  refine s_icmp_eq (tgt := 925) dL_law_196 (by decide) (fun _ => ?_) (fun c => absurd rfl c)
  exact K I8 J8 hS2
set_option maxHeartbeats 4000000 in
set_option maxRecDepth 100000 in
theorem lc_3 {nm : String} {N : Nat} {xs : Nat → Int32} {T : Nat} {I : Mem} {J : Lng} (hN : N ≤ 256) (hi : 4 * T + 4 ≤ N) (hS : Sim T I J) (K : ∀ (I2 : Mem) (J2 : Lng), Sim (T + 1) I2 J2 → LW nm N xs 100 4099 925 (LL T) [] SH I2 J2) : LW nm N xs 100 4099 201 (LL T) [] SH I J := by
  refine s_aload_n dL_law_201 rfl ?_
  have hp : PrI _ _ _ _ _ _ _ _ [] T I J := pr_land hS
  obtain ⟨Q9, hQ9, h9⟩ := hp
  refine s_callV dL_law_202 k_L_27 rfl rfl hQ9 rfl rfl rfl (Nat.le_of_ble_eq_true rfl) (by decide) (by decide) (by decide) (fun r9 σ9 I9 J9 q9 => ?_)
  obtain ⟨rfl, x, rfl, Q10, hQ10, h10⟩ := h9 _ _ _ _ q9
  refine s_aload_n dL_law_205 rfl ?_
  refine s_callV dL_law_206 k_L_30 rfl rfl hQ10 rfl rfl rfl (Nat.le_of_ble_eq_true rfl) (by decide) (by decide) (by decide) (fun r8 σ8 I8 J8 q8 => ?_)
  obtain ⟨rfl, rfl, hS2⟩ := h10 _ _ _ _ q8
  refine s_icmp_eq (tgt := 925) dL_law_209 (by decide) (fun _ => ?_) (fun c => absurd rfl c)
  exact K I8 J8 hS2
set_option maxHeartbeats 4000000 in
set_option maxRecDepth 100000 in
theorem lc_4 {nm : String} {N : Nat} {xs : Nat → Int32} {T : Nat} {I : Mem} {J : Lng} (hN : N ≤ 256) (hi : 4 * T + 4 ≤ N) (hS : Sim T I J) (K : ∀ (I2 : Mem) (J2 : Lng), Sim (T + 1) I2 J2 → LW nm N xs 100 4099 925 (LL T) [] SH I2 J2) : LW nm N xs 100 4099 214 (LL T) [] SH I J := by
  refine s_aload_n dL_law_214 rfl ?_
  refine s_aload_x dL_law_215 rfl ?_
  refine s_iload_n dL_law_216 rfl ?_
  refine s_iconst (v := 1) dL_law_217 (by decide) ?_
  refine s_iadd dL_law_218 ?_
  rw [nI_1]
  refine s_xld rfl dL_law_219 (vp_in_nI (by omega) (by omega)) ?_
  rw [nI_clamp (by omega)]
  have hp : PrI _ _ _ _ _ _ _ _ [.int (xs (4 * T + 1))] T I J := pr_about hS
  obtain ⟨Q9, hQ9, h9⟩ := hp
  refine s_callV dL_law_220 k_L_31 rfl rfl hQ9 rfl rfl rfl (Nat.le_of_ble_eq_true rfl) (by decide) (by decide) (by decide) (fun r9 σ9 I9 J9 q9 => ?_)
  obtain ⟨rfl, x, rfl, Q10, hQ10, h10⟩ := h9 _ _ _ _ q9
  refine s_aload_n dL_law_223 rfl ?_
  refine s_aload_x dL_law_224 rfl ?_
  refine s_iload_n dL_law_225 rfl ?_
  refine s_iconst (v := 1) dL_law_226 (by decide) ?_
  refine s_iadd dL_law_227 ?_
  rw [nI_1]
  refine s_xld rfl dL_law_228 (vp_in_nI (by omega) (by omega)) ?_
  rw [nI_clamp (by omega)]
  refine s_callV dL_law_229 k_L_34 rfl rfl hQ10 rfl rfl rfl (Nat.le_of_ble_eq_true rfl) (by decide) (by decide) (by decide) (fun r8 σ8 I8 J8 q8 => ?_)
  obtain ⟨rfl, rfl, hS2⟩ := h10 _ _ _ _ q8
  refine s_icmp_eq (tgt := 925) dL_law_232 (by decide) (fun _ => ?_) (fun c => absurd rfl c)
  exact K I8 J8 hS2
set_option maxHeartbeats 4000000 in
set_option maxRecDepth 100000 in
theorem lc_5 {nm : String} {N : Nat} {xs : Nat → Int32} {T : Nat} {I : Mem} {J : Lng} (hN : N ≤ 256) (hi : 4 * T + 4 ≤ N) (hS : Sim T I J) (K : ∀ (I2 : Mem) (J2 : Lng), Sim (T + 1) I2 J2 → LW nm N xs 100 4099 925 (LL T) [] SH I2 J2) : LW nm N xs 100 4099 237 (LL T) [] SH I J := by
  refine s_aload_n dL_law_237 rfl ?_
  refine s_aload_x dL_law_238 rfl ?_
  refine s_iload_n dL_law_239 rfl ?_
  refine s_iconst (v := 1) dL_law_240 (by decide) ?_
  refine s_iadd dL_law_241 ?_
  rw [nI_1]
  refine s_xld rfl dL_law_242 (vp_in_nI (by omega) (by omega)) ?_
  rw [nI_clamp (by omega)]
  refine s_aload_x dL_law_243 rfl ?_
  refine s_iload_n dL_law_244 rfl ?_
  refine s_iconst (v := 2) dL_law_245 (by decide) ?_
  refine s_iadd dL_law_246 ?_
  rw [nI_2]
  refine s_xld rfl dL_law_247 (vp_in_nI (by omega) (by omega)) ?_
  rw [nI_clamp (by omega)]
  have hp : PrI _ _ _ _ _ _ _ _ [.int (xs (4 * T + 1)), .int (xs (4 * T + 2))] T I J := pr_person hS
  obtain ⟨Q9, hQ9, h9⟩ := hp
  refine s_callV dL_law_248 k_L_35 rfl rfl hQ9 rfl rfl rfl (Nat.le_of_ble_eq_true rfl) (by decide) (by decide) (by decide) (fun r9 σ9 I9 J9 q9 => ?_)
  obtain ⟨rfl, x, rfl, Q10, hQ10, h10⟩ := h9 _ _ _ _ q9
  refine s_aload_n dL_law_251 rfl ?_
  refine s_aload_x dL_law_252 rfl ?_
  refine s_iload_n dL_law_253 rfl ?_
  refine s_iconst (v := 1) dL_law_254 (by decide) ?_
  refine s_iadd dL_law_255 ?_
  rw [nI_1]
  refine s_xld rfl dL_law_256 (vp_in_nI (by omega) (by omega)) ?_
  rw [nI_clamp (by omega)]
  refine s_aload_x dL_law_257 rfl ?_
  refine s_iload_n dL_law_258 rfl ?_
  refine s_iconst (v := 2) dL_law_259 (by decide) ?_
  refine s_iadd dL_law_260 ?_
  rw [nI_2]
  refine s_xld rfl dL_law_261 (vp_in_nI (by omega) (by omega)) ?_
  rw [nI_clamp (by omega)]
  refine s_callV dL_law_262 k_L_39 rfl rfl hQ10 rfl rfl rfl (Nat.le_of_ble_eq_true rfl) (by decide) (by decide) (by decide) (fun r8 σ8 I8 J8 q8 => ?_)
  obtain ⟨rfl, rfl, hS2⟩ := h10 _ _ _ _ q8
  refine s_icmp_eq (tgt := 925) dL_law_265 (by decide) (fun _ => ?_) (fun c => absurd rfl c)
  exact K I8 J8 hS2
set_option maxHeartbeats 4000000 in
set_option maxRecDepth 100000 in
theorem lc_6 {nm : String} {N : Nat} {xs : Nat → Int32} {T : Nat} {I : Mem} {J : Lng} (hN : N ≤ 256) (hi : 4 * T + 4 ≤ N) (hS : Sim T I J) (K : ∀ (I2 : Mem) (J2 : Lng), Sim (T + 1) I2 J2 → LW nm N xs 100 4099 925 (LL T) [] SH I2 J2) : LW nm N xs 100 4099 270 (LL T) [] SH I J := by
  refine s_aload_n dL_law_270 rfl ?_
  refine s_aload_x dL_law_271 rfl ?_
  refine s_iload_n dL_law_272 rfl ?_
  refine s_iconst (v := 1) dL_law_273 (by decide) ?_
  refine s_iadd dL_law_274 ?_
  rw [nI_1]
  refine s_xld rfl dL_law_275 (vp_in_nI (by omega) (by omega)) ?_
  rw [nI_clamp (by omega)]
  have hp : PrI _ _ _ _ _ _ _ _ [.int (xs (4 * T + 1))] T I J := pr_die hS
  obtain ⟨Q9, hQ9, h9⟩ := hp
  refine s_callV dL_law_276 k_L_40 rfl rfl hQ9 rfl rfl rfl (Nat.le_of_ble_eq_true rfl) (by decide) (by decide) (by decide) (fun r9 σ9 I9 J9 q9 => ?_)
  obtain ⟨rfl, x, rfl, Q10, hQ10, h10⟩ := h9 _ _ _ _ q9
  refine s_aload_n dL_law_279 rfl ?_
  refine s_aload_x dL_law_280 rfl ?_
  refine s_iload_n dL_law_281 rfl ?_
  refine s_iconst (v := 1) dL_law_282 (by decide) ?_
  refine s_iadd dL_law_283 ?_
  rw [nI_1]
  refine s_xld rfl dL_law_284 (vp_in_nI (by omega) (by omega)) ?_
  rw [nI_clamp (by omega)]
  refine s_callV dL_law_285 k_L_43 rfl rfl hQ10 rfl rfl rfl (Nat.le_of_ble_eq_true rfl) (by decide) (by decide) (by decide) (fun r8 σ8 I8 J8 q8 => ?_)
  obtain ⟨rfl, rfl, hS2⟩ := h10 _ _ _ _ q8
  refine s_icmp_eq (tgt := 925) dL_law_288 (by decide) (fun _ => ?_) (fun c => absurd rfl c)
  exact K I8 J8 hS2
set_option maxHeartbeats 4000000 in
set_option maxRecDepth 100000 in
theorem lc_7 {nm : String} {N : Nat} {xs : Nat → Int32} {T : Nat} {I : Mem} {J : Lng} (hN : N ≤ 256) (hi : 4 * T + 4 ≤ N) (hS : Sim T I J) (K : ∀ (I2 : Mem) (J2 : Lng), Sim (T + 1) I2 J2 → LW nm N xs 100 4099 925 (LL T) [] SH I2 J2) : LW nm N xs 100 4099 293 (LL T) [] SH I J := by
  refine s_aload_n dL_law_293 rfl ?_
  refine s_aload_x dL_law_294 rfl ?_
  refine s_iload_n dL_law_295 rfl ?_
  refine s_iconst (v := 1) dL_law_296 (by decide) ?_
  refine s_iadd dL_law_297 ?_
  rw [nI_1]
  refine s_xld rfl dL_law_298 (vp_in_nI (by omega) (by omega)) ?_
  rw [nI_clamp (by omega)]
  refine s_aload_x dL_law_299 rfl ?_
  refine s_iload_n dL_law_300 rfl ?_
  refine s_iconst (v := 2) dL_law_301 (by decide) ?_
  refine s_iadd dL_law_302 ?_
  rw [nI_2]
  refine s_xld rfl dL_law_303 (vp_in_nI (by omega) (by omega)) ?_
  rw [nI_clamp (by omega)]
  have hp : PrI _ _ _ _ _ _ _ _ [.int (xs (4 * T + 1)), .int (xs (4 * T + 2))] T I J := pr_bear hS
  obtain ⟨Q9, hQ9, h9⟩ := hp
  refine s_callV dL_law_304 k_L_44 rfl rfl hQ9 rfl rfl rfl (Nat.le_of_ble_eq_true rfl) (by decide) (by decide) (by decide) (fun r9 σ9 I9 J9 q9 => ?_)
  obtain ⟨rfl, x, rfl, Q10, hQ10, h10⟩ := h9 _ _ _ _ q9
  refine s_aload_n dL_law_307 rfl ?_
  refine s_aload_x dL_law_308 rfl ?_
  refine s_iload_n dL_law_309 rfl ?_
  refine s_iconst (v := 1) dL_law_310 (by decide) ?_
  refine s_iadd dL_law_311 ?_
  rw [nI_1]
  refine s_xld rfl dL_law_312 (vp_in_nI (by omega) (by omega)) ?_
  rw [nI_clamp (by omega)]
  refine s_aload_x dL_law_313 rfl ?_
  refine s_iload_n dL_law_314 rfl ?_
  refine s_iconst (v := 2) dL_law_315 (by decide) ?_
  refine s_iadd dL_law_316 ?_
  rw [nI_2]
  refine s_xld rfl dL_law_317 (vp_in_nI (by omega) (by omega)) ?_
  rw [nI_clamp (by omega)]
  refine s_callV dL_law_318 k_L_47 rfl rfl hQ10 rfl rfl rfl (Nat.le_of_ble_eq_true rfl) (by decide) (by decide) (by decide) (fun r8 σ8 I8 J8 q8 => ?_)
  obtain ⟨rfl, rfl, hS2⟩ := h10 _ _ _ _ q8
  refine s_icmp_eq (tgt := 925) dL_law_321 (by decide) (fun _ => ?_) (fun c => absurd rfl c)
  exact K I8 J8 hS2
set_option maxHeartbeats 4000000 in
set_option maxRecDepth 100000 in
theorem lc_8 {nm : String} {N : Nat} {xs : Nat → Int32} {T : Nat} {I : Mem} {J : Lng} (hN : N ≤ 256) (hi : 4 * T + 4 ≤ N) (hS : Sim T I J) (K : ∀ (I2 : Mem) (J2 : Lng), Sim (T + 1) I2 J2 → LW nm N xs 100 4099 925 (LL T) [] SH I2 J2) : LW nm N xs 100 4099 326 (LL T) [] SH I J := by
  refine s_aload_n dL_law_326 rfl ?_
  refine s_aload_x dL_law_327 rfl ?_
  refine s_iload_n dL_law_328 rfl ?_
  refine s_iconst (v := 1) dL_law_329 (by decide) ?_
  refine s_iadd dL_law_330 ?_
  rw [nI_1]
  refine s_xld rfl dL_law_331 (vp_in_nI (by omega) (by omega)) ?_
  rw [nI_clamp (by omega)]
  have hp : PrI _ _ _ _ _ _ _ _ [.int (xs (4 * T + 1))] T I J := pr_cut hS
  obtain ⟨Q9, hQ9, h9⟩ := hp
  refine s_callV dL_law_332 k_L_48 rfl rfl hQ9 rfl rfl rfl (Nat.le_of_ble_eq_true rfl) (by decide) (by decide) (by decide) (fun r9 σ9 I9 J9 q9 => ?_)
  obtain ⟨rfl, x, rfl, Q10, hQ10, h10⟩ := h9 _ _ _ _ q9
  refine s_aload_n dL_law_335 rfl ?_
  refine s_aload_x dL_law_336 rfl ?_
  refine s_iload_n dL_law_337 rfl ?_
  refine s_iconst (v := 1) dL_law_338 (by decide) ?_
  refine s_iadd dL_law_339 ?_
  rw [nI_1]
  refine s_xld rfl dL_law_340 (vp_in_nI (by omega) (by omega)) ?_
  rw [nI_clamp (by omega)]
  refine s_callV dL_law_341 k_L_51 rfl rfl hQ10 rfl rfl rfl (Nat.le_of_ble_eq_true rfl) (by decide) (by decide) (by decide) (fun r8 σ8 I8 J8 q8 => ?_)
  obtain ⟨rfl, rfl, hS2⟩ := h10 _ _ _ _ q8
  refine s_icmp_eq (tgt := 925) dL_law_344 (by decide) (fun _ => ?_) (fun c => absurd rfl c)
  exact K I8 J8 hS2
set_option maxHeartbeats 4000000 in
set_option maxRecDepth 100000 in
theorem lc_9 {nm : String} {N : Nat} {xs : Nat → Int32} {T : Nat} {I : Mem} {J : Lng} (hN : N ≤ 256) (hi : 4 * T + 4 ≤ N) (hS : Sim T I J) (K : ∀ (I2 : Mem) (J2 : Lng), Sim (T + 1) I2 J2 → LW nm N xs 100 4099 925 (LL T) [] SH I2 J2) : LW nm N xs 100 4099 349 (LL T) [] SH I J := by
  refine s_aload_n dL_law_349 rfl ?_
  refine s_aload_x dL_law_350 rfl ?_
  refine s_iload_n dL_law_351 rfl ?_
  refine s_iconst (v := 1) dL_law_352 (by decide) ?_
  refine s_iadd dL_law_353 ?_
  rw [nI_1]
  refine s_xld rfl dL_law_354 (vp_in_nI (by omega) (by omega)) ?_
  rw [nI_clamp (by omega)]
  have hp : PrI _ _ _ _ _ _ _ _ [.int (xs (4 * T + 1))] T I J := pr_borrow hS
  obtain ⟨Q9, hQ9, h9⟩ := hp
  refine s_callV dL_law_355 k_L_52 rfl rfl hQ9 rfl rfl rfl (Nat.le_of_ble_eq_true rfl) (by decide) (by decide) (by decide) (fun r9 σ9 I9 J9 q9 => ?_)
  obtain ⟨rfl, x, rfl, Q10, hQ10, h10⟩ := h9 _ _ _ _ q9
  refine s_aload_n dL_law_358 rfl ?_
  refine s_aload_x dL_law_359 rfl ?_
  refine s_iload_n dL_law_360 rfl ?_
  refine s_iconst (v := 1) dL_law_361 (by decide) ?_
  refine s_iadd dL_law_362 ?_
  rw [nI_1]
  refine s_xld rfl dL_law_363 (vp_in_nI (by omega) (by omega)) ?_
  rw [nI_clamp (by omega)]
  refine s_callV dL_law_364 k_L_55 rfl rfl hQ10 rfl rfl rfl (Nat.le_of_ble_eq_true rfl) (by decide) (by decide) (by decide) (fun r8 σ8 I8 J8 q8 => ?_)
  obtain ⟨rfl, rfl, hS2⟩ := h10 _ _ _ _ q8
  refine s_icmp_eq (tgt := 925) dL_law_367 (by decide) (fun _ => ?_) (fun c => absurd rfl c)
  exact K I8 J8 hS2
set_option maxHeartbeats 4000000 in
set_option maxRecDepth 100000 in
theorem lc_10 {nm : String} {N : Nat} {xs : Nat → Int32} {T : Nat} {I : Mem} {J : Lng} (hN : N ≤ 256) (hi : 4 * T + 4 ≤ N) (hS : Sim T I J) (K : ∀ (I2 : Mem) (J2 : Lng), Sim (T + 1) I2 J2 → LW nm N xs 100 4099 925 (LL T) [] SH I2 J2) : LW nm N xs 100 4099 372 (LL T) [] SH I J := by
  refine s_aload_n dL_law_372 rfl ?_
  refine s_aload_x dL_law_373 rfl ?_
  refine s_iload_n dL_law_374 rfl ?_
  refine s_iconst (v := 1) dL_law_375 (by decide) ?_
  refine s_iadd dL_law_376 ?_
  rw [nI_1]
  refine s_xld rfl dL_law_377 (vp_in_nI (by omega) (by omega)) ?_
  rw [nI_clamp (by omega)]
  have hp : PrI _ _ _ _ _ _ _ _ [.int (xs (4 * T + 1))] T I J := pr_breakTie hS
  obtain ⟨Q9, hQ9, h9⟩ := hp
  refine s_callV dL_law_378 k_L_56 rfl rfl hQ9 rfl rfl rfl (Nat.le_of_ble_eq_true rfl) (by decide) (by decide) (by decide) (fun r9 σ9 I9 J9 q9 => ?_)
  obtain ⟨rfl, x, rfl, Q10, hQ10, h10⟩ := h9 _ _ _ _ q9
  refine s_aload_n dL_law_381 rfl ?_
  refine s_aload_x dL_law_382 rfl ?_
  refine s_iload_n dL_law_383 rfl ?_
  refine s_iconst (v := 1) dL_law_384 (by decide) ?_
  refine s_iadd dL_law_385 ?_
  rw [nI_1]
  refine s_xld rfl dL_law_386 (vp_in_nI (by omega) (by omega)) ?_
  rw [nI_clamp (by omega)]
  refine s_callV dL_law_387 k_L_59 rfl rfl hQ10 rfl rfl rfl (Nat.le_of_ble_eq_true rfl) (by decide) (by decide) (by decide) (fun r8 σ8 I8 J8 q8 => ?_)
  obtain ⟨rfl, rfl, hS2⟩ := h10 _ _ _ _ q8
  refine s_icmp_eq (tgt := 925) dL_law_390 (by decide) (fun _ => ?_) (fun c => absurd rfl c)
  exact K I8 J8 hS2
set_option maxHeartbeats 4000000 in
set_option maxRecDepth 100000 in
theorem lc_11 {nm : String} {N : Nat} {xs : Nat → Int32} {T : Nat} {I : Mem} {J : Lng} (hN : N ≤ 256) (hi : 4 * T + 4 ≤ N) (hS : Sim T I J) (K : ∀ (I2 : Mem) (J2 : Lng), Sim (T + 1) I2 J2 → LW nm N xs 100 4099 925 (LL T) [] SH I2 J2) : LW nm N xs 100 4099 395 (LL T) [] SH I J := by
  refine s_aload_n dL_law_395 rfl ?_
  have hp : PrI _ _ _ _ _ _ _ _ [] T I J := pr_tens hS
  obtain ⟨Q9, hQ9, h9⟩ := hp
  refine s_callV dL_law_396 k_L_60 rfl rfl hQ9 rfl rfl rfl (Nat.le_of_ble_eq_true rfl) (by decide) (by decide) (by decide) (fun r9 σ9 I9 J9 q9 => ?_)
  obtain ⟨rfl, x, rfl, Q10, hQ10, h10⟩ := h9 _ _ _ _ q9
  refine s_aload_n dL_law_399 rfl ?_
  refine s_callV dL_law_400 k_L_63 rfl rfl hQ10 rfl rfl rfl (Nat.le_of_ble_eq_true rfl) (by decide) (by decide) (by decide) (fun r8 σ8 I8 J8 q8 => ?_)
  obtain ⟨rfl, rfl, hS2⟩ := h10 _ _ _ _ q8
  refine s_icmp_eq (tgt := 925) dL_law_403 (by decide) (fun _ => ?_) (fun c => absurd rfl c)
  exact K I8 J8 hS2
set_option maxHeartbeats 4000000 in
set_option maxRecDepth 100000 in
theorem lc_12 {nm : String} {N : Nat} {xs : Nat → Int32} {T : Nat} {I : Mem} {J : Lng} (hN : N ≤ 256) (hi : 4 * T + 4 ≤ N) (hS : Sim T I J) (K : ∀ (I2 : Mem) (J2 : Lng), Sim (T + 1) I2 J2 → LW nm N xs 100 4099 925 (LL T) [] SH I2 J2) : LW nm N xs 100 4099 408 (LL T) [] SH I J := by
  refine s_aload_n dL_law_408 rfl ?_
  have hp : PrI _ _ _ _ _ _ _ _ [] T I J := pr_undo hS
  obtain ⟨Q9, hQ9, h9⟩ := hp
  refine s_callV dL_law_409 k_L_64 rfl rfl hQ9 rfl rfl rfl (Nat.le_of_ble_eq_true rfl) (by decide) (by decide) (by decide) (fun r9 σ9 I9 J9 q9 => ?_)
  obtain ⟨rfl, x, rfl, Q10, hQ10, h10⟩ := h9 _ _ _ _ q9
  refine s_aload_n dL_law_412 rfl ?_
  refine s_callV dL_law_413 k_L_67 rfl rfl hQ10 rfl rfl rfl (Nat.le_of_ble_eq_true rfl) (by decide) (by decide) (by decide) (fun r8 σ8 I8 J8 q8 => ?_)
  obtain ⟨rfl, rfl, hS2⟩ := h10 _ _ _ _ q8
  refine s_icmp_eq (tgt := 925) dL_law_416 (by decide) (fun _ => ?_) (fun c => absurd rfl c)
  exact K I8 J8 hS2
set_option maxHeartbeats 4000000 in
set_option maxRecDepth 100000 in
theorem lc_13 {nm : String} {N : Nat} {xs : Nat → Int32} {T : Nat} {I : Mem} {J : Lng} (hN : N ≤ 256) (hi : 4 * T + 4 ≤ N) (hS : Sim T I J) (K : ∀ (I2 : Mem) (J2 : Lng), Sim (T + 1) I2 J2 → LW nm N xs 100 4099 925 (LL T) [] SH I2 J2) : LW nm N xs 100 4099 421 (LL T) [] SH I J := by
  refine s_aload_n dL_law_421 rfl ?_
  refine s_aload_x dL_law_422 rfl ?_
  refine s_iload_n dL_law_423 rfl ?_
  refine s_iconst (v := 1) dL_law_424 (by decide) ?_
  refine s_iadd dL_law_425 ?_
  rw [nI_1]
  refine s_xld rfl dL_law_426 (vp_in_nI (by omega) (by omega)) ?_
  rw [nI_clamp (by omega)]
  refine s_aload_x dL_law_427 rfl ?_
  refine s_iload_n dL_law_428 rfl ?_
  refine s_iconst (v := 2) dL_law_429 (by decide) ?_
  refine s_iadd dL_law_430 ?_
  rw [nI_2]
  refine s_xld rfl dL_law_431 (vp_in_nI (by omega) (by omega)) ?_
  rw [nI_clamp (by omega)]
  have hp : PrI _ _ _ _ _ _ _ _ [.int (xs (4 * T + 1)), .int (xs (4 * T + 2))] T I J := pr_heir hS
  obtain ⟨Q9, hQ9, h9⟩ := hp
  refine s_callV dL_law_432 k_L_68 rfl rfl hQ9 rfl rfl rfl (Nat.le_of_ble_eq_true rfl) (by decide) (by decide) (by decide) (fun r9 σ9 I9 J9 q9 => ?_)
  obtain ⟨rfl, x, rfl, Q10, hQ10, h10⟩ := h9 _ _ _ _ q9
  refine s_aload_n dL_law_435 rfl ?_
  refine s_aload_x dL_law_436 rfl ?_
  refine s_iload_n dL_law_437 rfl ?_
  refine s_iconst (v := 1) dL_law_438 (by decide) ?_
  refine s_iadd dL_law_439 ?_
  rw [nI_1]
  refine s_xld rfl dL_law_440 (vp_in_nI (by omega) (by omega)) ?_
  rw [nI_clamp (by omega)]
  refine s_aload_x dL_law_441 rfl ?_
  refine s_iload_n dL_law_442 rfl ?_
  refine s_iconst (v := 2) dL_law_443 (by decide) ?_
  refine s_iadd dL_law_444 ?_
  rw [nI_2]
  refine s_xld rfl dL_law_445 (vp_in_nI (by omega) (by omega)) ?_
  rw [nI_clamp (by omega)]
  refine s_callV dL_law_446 k_L_71 rfl rfl hQ10 rfl rfl rfl (Nat.le_of_ble_eq_true rfl) (by decide) (by decide) (by decide) (fun r8 σ8 I8 J8 q8 => ?_)
  obtain ⟨rfl, rfl, hS2⟩ := h10 _ _ _ _ q8
  refine s_icmp_eq (tgt := 925) dL_law_449 (by decide) (fun _ => ?_) (fun c => absurd rfl c)
  exact K I8 J8 hS2
set_option maxHeartbeats 4000000 in
set_option maxRecDepth 100000 in
theorem lc_14 {nm : String} {N : Nat} {xs : Nat → Int32} {T : Nat} {I : Mem} {J : Lng} (hN : N ≤ 256) (hi : 4 * T + 4 ≤ N) (hS : Sim T I J) (K : ∀ (I2 : Mem) (J2 : Lng), Sim (T + 1) I2 J2 → LW nm N xs 100 4099 925 (LL T) [] SH I2 J2) : LW nm N xs 100 4099 454 (LL T) [] SH I J := by
  refine s_aload_n dL_law_454 rfl ?_
  refine s_aload_x dL_law_455 rfl ?_
  refine s_iload_n dL_law_456 rfl ?_
  refine s_iconst (v := 1) dL_law_457 (by decide) ?_
  refine s_iadd dL_law_458 ?_
  rw [nI_1]
  refine s_xld rfl dL_law_459 (vp_in_nI (by omega) (by omega)) ?_
  rw [nI_clamp (by omega)]
  refine s_aload_x dL_law_460 rfl ?_
  refine s_iload_n dL_law_461 rfl ?_
  refine s_iconst (v := 2) dL_law_462 (by decide) ?_
  refine s_iadd dL_law_463 ?_
  rw [nI_2]
  refine s_xld rfl dL_law_464 (vp_in_nI (by omega) (by omega)) ?_
  rw [nI_clamp (by omega)]
  refine s_aload_x dL_law_465 rfl ?_
  refine s_iload_n dL_law_466 rfl ?_
  refine s_iconst (v := 3) dL_law_467 (by decide) ?_
  refine s_iadd dL_law_468 ?_
  rw [nI_3]
  refine s_xld rfl dL_law_469 (vp_in_nI (by omega) (by omega)) ?_
  rw [nI_clamp (by omega)]
  have hp : PrI _ _ _ _ _ _ _ _ [.int (xs (4 * T + 1)), .int (xs (4 * T + 2)), .int (xs (4 * T + 3))] T I J := pr_line hS
  obtain ⟨Q9, hQ9, h9⟩ := hp
  refine s_callV dL_law_470 k_L_72 rfl rfl hQ9 rfl rfl rfl (Nat.le_of_ble_eq_true rfl) (by decide) (by decide) (by decide) (fun r9 σ9 I9 J9 q9 => ?_)
  obtain ⟨rfl, x, rfl, Q10, hQ10, h10⟩ := h9 _ _ _ _ q9
  refine s_aload_n dL_law_473 rfl ?_
  refine s_aload_x dL_law_474 rfl ?_
  refine s_iload_n dL_law_475 rfl ?_
  refine s_iconst (v := 1) dL_law_476 (by decide) ?_
  refine s_iadd dL_law_477 ?_
  rw [nI_1]
  refine s_xld rfl dL_law_478 (vp_in_nI (by omega) (by omega)) ?_
  rw [nI_clamp (by omega)]
  refine s_aload_x dL_law_479 rfl ?_
  refine s_iload_n dL_law_480 rfl ?_
  refine s_iconst (v := 2) dL_law_481 (by decide) ?_
  refine s_iadd dL_law_482 ?_
  rw [nI_2]
  refine s_xld rfl dL_law_483 (vp_in_nI (by omega) (by omega)) ?_
  rw [nI_clamp (by omega)]
  refine s_aload_x dL_law_484 rfl ?_
  refine s_iload_n dL_law_485 rfl ?_
  refine s_iconst (v := 3) dL_law_486 (by decide) ?_
  refine s_iadd dL_law_487 ?_
  rw [nI_3]
  refine s_xld rfl dL_law_488 (vp_in_nI (by omega) (by omega)) ?_
  rw [nI_clamp (by omega)]
  refine s_callV dL_law_489 k_L_76 rfl rfl hQ10 rfl rfl rfl (Nat.le_of_ble_eq_true rfl) (by decide) (by decide) (by decide) (fun r8 σ8 I8 J8 q8 => ?_)
  obtain ⟨rfl, rfl, hS2⟩ := h10 _ _ _ _ q8
  refine s_icmp_eq (tgt := 925) dL_law_492 (by decide) (fun _ => ?_) (fun c => absurd rfl c)
  exact K I8 J8 hS2
set_option maxHeartbeats 4000000 in
set_option maxRecDepth 100000 in
theorem lc_15 {nm : String} {N : Nat} {xs : Nat → Int32} {T : Nat} {I : Mem} {J : Lng} (hN : N ≤ 256) (hi : 4 * T + 4 ≤ N) (hS : Sim T I J) (K : ∀ (I2 : Mem) (J2 : Lng), Sim (T + 1) I2 J2 → LW nm N xs 100 4099 925 (LL T) [] SH I2 J2) : LW nm N xs 100 4099 497 (LL T) [] SH I J := by
  refine s_aload_n dL_law_497 rfl ?_
  refine s_aload_x dL_law_498 rfl ?_
  refine s_iload_n dL_law_499 rfl ?_
  refine s_iconst (v := 1) dL_law_500 (by decide) ?_
  refine s_iadd dL_law_501 ?_
  rw [nI_1]
  refine s_xld rfl dL_law_502 (vp_in_nI (by omega) (by omega)) ?_
  rw [nI_clamp (by omega)]
  have hp : PrI _ _ _ _ _ _ _ _ [.int (xs (4 * T + 1))] T I J := pr_next hS
  obtain ⟨Q9, hQ9, h9⟩ := hp
  refine s_callV dL_law_503 k_L_77 rfl rfl hQ9 rfl rfl rfl (Nat.le_of_ble_eq_true rfl) (by decide) (by decide) (by decide) (fun r9 σ9 I9 J9 q9 => ?_)
  obtain ⟨rfl, x, rfl, Q10, hQ10, h10⟩ := h9 _ _ _ _ q9
  refine s_aload_n dL_law_506 rfl ?_
  refine s_aload_x dL_law_507 rfl ?_
  refine s_iload_n dL_law_508 rfl ?_
  refine s_iconst (v := 1) dL_law_509 (by decide) ?_
  refine s_iadd dL_law_510 ?_
  rw [nI_1]
  refine s_xld rfl dL_law_511 (vp_in_nI (by omega) (by omega)) ?_
  rw [nI_clamp (by omega)]
  refine s_callV dL_law_512 k_L_80 rfl rfl hQ10 rfl rfl rfl (Nat.le_of_ble_eq_true rfl) (by decide) (by decide) (by decide) (fun r8 σ8 I8 J8 q8 => ?_)
  obtain ⟨rfl, rfl, hS2⟩ := h10 _ _ _ _ q8
  refine s_icmp_eq (tgt := 925) dL_law_515 (by decide) (fun _ => ?_) (fun c => absurd rfl c)
  exact K I8 J8 hS2
set_option maxHeartbeats 4000000 in
set_option maxRecDepth 100000 in
theorem lc_16 {nm : String} {N : Nat} {xs : Nat → Int32} {T : Nat} {I : Mem} {J : Lng} (hN : N ≤ 256) (hi : 4 * T + 4 ≤ N) (hS : Sim T I J) (K : ∀ (I2 : Mem) (J2 : Lng), Sim (T + 1) I2 J2 → LW nm N xs 100 4099 925 (LL T) [] SH I2 J2) : LW nm N xs 100 4099 520 (LL T) [] SH I J := by
  refine s_aload_n dL_law_520 rfl ?_
  refine s_aload_x dL_law_521 rfl ?_
  refine s_iload_n dL_law_522 rfl ?_
  refine s_iconst (v := 1) dL_law_523 (by decide) ?_
  refine s_iadd dL_law_524 ?_
  rw [nI_1]
  refine s_xld rfl dL_law_525 (vp_in_nI (by omega) (by omega)) ?_
  rw [nI_clamp (by omega)]
  have hp : PrI _ _ _ _ _ _ _ _ [.int (xs (4 * T + 1))] T I J := pr_ever hS
  obtain ⟨Q9, hQ9, h9⟩ := hp
  refine s_callV dL_law_526 k_L_81 rfl rfl hQ9 rfl rfl rfl (Nat.le_of_ble_eq_true rfl) (by decide) (by decide) (by decide) (fun r9 σ9 I9 J9 q9 => ?_)
  obtain ⟨rfl, x, rfl, Q10, hQ10, h10⟩ := h9 _ _ _ _ q9
  refine s_aload_n dL_law_529 rfl ?_
  refine s_aload_x dL_law_530 rfl ?_
  refine s_iload_n dL_law_531 rfl ?_
  refine s_iconst (v := 1) dL_law_532 (by decide) ?_
  refine s_iadd dL_law_533 ?_
  rw [nI_1]
  refine s_xld rfl dL_law_534 (vp_in_nI (by omega) (by omega)) ?_
  rw [nI_clamp (by omega)]
  refine s_callV dL_law_535 k_L_84 rfl rfl hQ10 rfl rfl rfl (Nat.le_of_ble_eq_true rfl) (by decide) (by decide) (by decide) (fun r8 σ8 I8 J8 q8 => ?_)
  obtain ⟨rfl, rfl, hS2⟩ := h10 _ _ _ _ q8
  refine s_icmp_eq (tgt := 925) dL_law_538 (by decide) (fun _ => ?_) (fun c => absurd rfl c)
  exact K I8 J8 hS2
set_option maxHeartbeats 4000000 in
set_option maxRecDepth 100000 in
theorem lc_17 {nm : String} {N : Nat} {xs : Nat → Int32} {T : Nat} {I : Mem} {J : Lng} (hN : N ≤ 256) (hi : 4 * T + 4 ≤ N) (hS : Sim T I J) (K : ∀ (I2 : Mem) (J2 : Lng), Sim (T + 1) I2 J2 → LW nm N xs 100 4099 925 (LL T) [] SH I2 J2) : LW nm N xs 100 4099 543 (LL T) [] SH I J := by
  refine s_aload_n dL_law_543 rfl ?_
  refine s_aload_x dL_law_544 rfl ?_
  refine s_iload_n dL_law_545 rfl ?_
  refine s_iconst (v := 1) dL_law_546 (by decide) ?_
  refine s_iadd dL_law_547 ?_
  rw [nI_1]
  refine s_xld rfl dL_law_548 (vp_in_nI (by omega) (by omega)) ?_
  rw [nI_clamp (by omega)]
  refine s_aload_x dL_law_549 rfl ?_
  refine s_iload_n dL_law_550 rfl ?_
  refine s_iconst (v := 2) dL_law_551 (by decide) ?_
  refine s_iadd dL_law_552 ?_
  rw [nI_2]
  refine s_xld rfl dL_law_553 (vp_in_nI (by omega) (by omega)) ?_
  rw [nI_clamp (by omega)]
  refine s_if_eq (tgt := 561) dL_law_554 (by decide) (fun h_2 => ?_) (fun h_2 => ?_)
  · refine s_iconst (v := 0) dL_law_561 (by decide) ?_
    refine s_aload_x dL_law_562 rfl ?_
    refine s_iload_n dL_law_563 rfl ?_
    refine s_iconst (v := 3) dL_law_564 (by decide) ?_
    refine s_iadd dL_law_565 ?_
    rw [nI_3]
    refine s_xld rfl dL_law_566 (vp_in_nI (by omega) (by omega)) ?_
    rw [nI_clamp (by omega)]
    refine s_if_eq (tgt := 574) dL_law_567 (by decide) (fun h_3 => ?_) (fun h_3 => ?_)
    · refine s_iconst (v := 0) dL_law_574 (by decide) ?_
      have hp : PrI _ _ _ _ _ _ _ _ [.int (xs (4 * T + 1)), .int (zB false), .int (zB false)] T I J := pr_best hS
      obtain ⟨Q9, hQ9, h9⟩ := hp
      refine s_callV dL_law_575 k_L_85 rfl rfl hQ9 rfl rfl rfl (Nat.le_of_ble_eq_true rfl) (by decide) (by decide) (by decide) (fun r9 σ9 I9 J9 q9 => ?_)
      obtain ⟨rfl, x, rfl, Q10, hQ10, h10⟩ := h9 _ _ _ _ q9
      refine s_aload_n dL_law_578 rfl ?_
      refine s_aload_x dL_law_579 rfl ?_
      refine s_iload_n dL_law_580 rfl ?_
      refine s_iconst (v := 1) dL_law_581 (by decide) ?_
      refine s_iadd dL_law_582 ?_
      rw [nI_1]
      refine s_xld rfl dL_law_583 (vp_in_nI (by omega) (by omega)) ?_
      rw [nI_clamp (by omega)]
      refine s_aload_x dL_law_584 rfl ?_
      refine s_iload_n dL_law_585 rfl ?_
      refine s_iconst (v := 2) dL_law_586 (by decide) ?_
      refine s_iadd dL_law_587 ?_
      rw [nI_2]
      refine s_xld rfl dL_law_588 (vp_in_nI (by omega) (by omega)) ?_
      rw [nI_clamp (by omega)]
      refine s_if_eq (tgt := 596) dL_law_589 (by decide) (fun _ => ?_) (fun c => absurd h_2 c)
      refine s_iconst (v := 0) dL_law_596 (by decide) ?_
      refine s_aload_x dL_law_597 rfl ?_
      refine s_iload_n dL_law_598 rfl ?_
      refine s_iconst (v := 3) dL_law_599 (by decide) ?_
      refine s_iadd dL_law_600 ?_
      rw [nI_3]
      refine s_xld rfl dL_law_601 (vp_in_nI (by omega) (by omega)) ?_
      rw [nI_clamp (by omega)]
      refine s_if_eq (tgt := 609) dL_law_602 (by decide) (fun _ => ?_) (fun c => absurd h_3 c)
      refine s_iconst (v := 0) dL_law_609 (by decide) ?_
      refine s_callV dL_law_610 k_L_89 rfl rfl hQ10 rfl rfl rfl (Nat.le_of_ble_eq_true rfl) (by decide) (by decide) (by decide) (fun r8 σ8 I8 J8 q8 => ?_)
      obtain ⟨rfl, rfl, hS2⟩ := h10 _ _ _ _ q8
      refine s_icmp_eq (tgt := 925) dL_law_613 (by decide) (fun _ => ?_) (fun c => absurd rfl c)
      exact K I8 J8 hS2
    · refine s_iconst (v := 1) dL_law_570 (by decide) ?_
      refine s_goto (tgt := 575) dL_law_571 (by decide) ?_
      have hp : PrI _ _ _ _ _ _ _ _ [.int (xs (4 * T + 1)), .int (zB false), .int (zB true)] T I J := pr_best hS
      obtain ⟨Q9, hQ9, h9⟩ := hp
      refine s_callV dL_law_575 k_L_85 rfl rfl hQ9 rfl rfl rfl (Nat.le_of_ble_eq_true rfl) (by decide) (by decide) (by decide) (fun r9 σ9 I9 J9 q9 => ?_)
      obtain ⟨rfl, x, rfl, Q10, hQ10, h10⟩ := h9 _ _ _ _ q9
      refine s_aload_n dL_law_578 rfl ?_
      refine s_aload_x dL_law_579 rfl ?_
      refine s_iload_n dL_law_580 rfl ?_
      refine s_iconst (v := 1) dL_law_581 (by decide) ?_
      refine s_iadd dL_law_582 ?_
      rw [nI_1]
      refine s_xld rfl dL_law_583 (vp_in_nI (by omega) (by omega)) ?_
      rw [nI_clamp (by omega)]
      refine s_aload_x dL_law_584 rfl ?_
      refine s_iload_n dL_law_585 rfl ?_
      refine s_iconst (v := 2) dL_law_586 (by decide) ?_
      refine s_iadd dL_law_587 ?_
      rw [nI_2]
      refine s_xld rfl dL_law_588 (vp_in_nI (by omega) (by omega)) ?_
      rw [nI_clamp (by omega)]
      refine s_if_eq (tgt := 596) dL_law_589 (by decide) (fun _ => ?_) (fun c => absurd h_2 c)
      refine s_iconst (v := 0) dL_law_596 (by decide) ?_
      refine s_aload_x dL_law_597 rfl ?_
      refine s_iload_n dL_law_598 rfl ?_
      refine s_iconst (v := 3) dL_law_599 (by decide) ?_
      refine s_iadd dL_law_600 ?_
      rw [nI_3]
      refine s_xld rfl dL_law_601 (vp_in_nI (by omega) (by omega)) ?_
      rw [nI_clamp (by omega)]
      refine s_if_eq (tgt := 609) dL_law_602 (by decide) (fun c => absurd c h_3) (fun _ => ?_)
      refine s_iconst (v := 1) dL_law_605 (by decide) ?_
      refine s_goto (tgt := 610) dL_law_606 (by decide) ?_
      refine s_callV dL_law_610 k_L_89 rfl rfl hQ10 rfl rfl rfl (Nat.le_of_ble_eq_true rfl) (by decide) (by decide) (by decide) (fun r8 σ8 I8 J8 q8 => ?_)
      obtain ⟨rfl, rfl, hS2⟩ := h10 _ _ _ _ q8
      refine s_icmp_eq (tgt := 925) dL_law_613 (by decide) (fun _ => ?_) (fun c => absurd rfl c)
      exact K I8 J8 hS2
  · refine s_iconst (v := 1) dL_law_557 (by decide) ?_
    refine s_goto (tgt := 562) dL_law_558 (by decide) ?_
    refine s_aload_x dL_law_562 rfl ?_
    refine s_iload_n dL_law_563 rfl ?_
    refine s_iconst (v := 3) dL_law_564 (by decide) ?_
    refine s_iadd dL_law_565 ?_
    rw [nI_3]
    refine s_xld rfl dL_law_566 (vp_in_nI (by omega) (by omega)) ?_
    rw [nI_clamp (by omega)]
    refine s_if_eq (tgt := 574) dL_law_567 (by decide) (fun h_3 => ?_) (fun h_3 => ?_)
    · refine s_iconst (v := 0) dL_law_574 (by decide) ?_
      have hp : PrI _ _ _ _ _ _ _ _ [.int (xs (4 * T + 1)), .int (zB true), .int (zB false)] T I J := pr_best hS
      obtain ⟨Q9, hQ9, h9⟩ := hp
      refine s_callV dL_law_575 k_L_85 rfl rfl hQ9 rfl rfl rfl (Nat.le_of_ble_eq_true rfl) (by decide) (by decide) (by decide) (fun r9 σ9 I9 J9 q9 => ?_)
      obtain ⟨rfl, x, rfl, Q10, hQ10, h10⟩ := h9 _ _ _ _ q9
      refine s_aload_n dL_law_578 rfl ?_
      refine s_aload_x dL_law_579 rfl ?_
      refine s_iload_n dL_law_580 rfl ?_
      refine s_iconst (v := 1) dL_law_581 (by decide) ?_
      refine s_iadd dL_law_582 ?_
      rw [nI_1]
      refine s_xld rfl dL_law_583 (vp_in_nI (by omega) (by omega)) ?_
      rw [nI_clamp (by omega)]
      refine s_aload_x dL_law_584 rfl ?_
      refine s_iload_n dL_law_585 rfl ?_
      refine s_iconst (v := 2) dL_law_586 (by decide) ?_
      refine s_iadd dL_law_587 ?_
      rw [nI_2]
      refine s_xld rfl dL_law_588 (vp_in_nI (by omega) (by omega)) ?_
      rw [nI_clamp (by omega)]
      refine s_if_eq (tgt := 596) dL_law_589 (by decide) (fun c => absurd c h_2) (fun _ => ?_)
      refine s_iconst (v := 1) dL_law_592 (by decide) ?_
      refine s_goto (tgt := 597) dL_law_593 (by decide) ?_
      refine s_aload_x dL_law_597 rfl ?_
      refine s_iload_n dL_law_598 rfl ?_
      refine s_iconst (v := 3) dL_law_599 (by decide) ?_
      refine s_iadd dL_law_600 ?_
      rw [nI_3]
      refine s_xld rfl dL_law_601 (vp_in_nI (by omega) (by omega)) ?_
      rw [nI_clamp (by omega)]
      refine s_if_eq (tgt := 609) dL_law_602 (by decide) (fun _ => ?_) (fun c => absurd h_3 c)
      refine s_iconst (v := 0) dL_law_609 (by decide) ?_
      refine s_callV dL_law_610 k_L_89 rfl rfl hQ10 rfl rfl rfl (Nat.le_of_ble_eq_true rfl) (by decide) (by decide) (by decide) (fun r8 σ8 I8 J8 q8 => ?_)
      obtain ⟨rfl, rfl, hS2⟩ := h10 _ _ _ _ q8
      refine s_icmp_eq (tgt := 925) dL_law_613 (by decide) (fun _ => ?_) (fun c => absurd rfl c)
      exact K I8 J8 hS2
    · refine s_iconst (v := 1) dL_law_570 (by decide) ?_
      refine s_goto (tgt := 575) dL_law_571 (by decide) ?_
      have hp : PrI _ _ _ _ _ _ _ _ [.int (xs (4 * T + 1)), .int (zB true), .int (zB true)] T I J := pr_best hS
      obtain ⟨Q9, hQ9, h9⟩ := hp
      refine s_callV dL_law_575 k_L_85 rfl rfl hQ9 rfl rfl rfl (Nat.le_of_ble_eq_true rfl) (by decide) (by decide) (by decide) (fun r9 σ9 I9 J9 q9 => ?_)
      obtain ⟨rfl, x, rfl, Q10, hQ10, h10⟩ := h9 _ _ _ _ q9
      refine s_aload_n dL_law_578 rfl ?_
      refine s_aload_x dL_law_579 rfl ?_
      refine s_iload_n dL_law_580 rfl ?_
      refine s_iconst (v := 1) dL_law_581 (by decide) ?_
      refine s_iadd dL_law_582 ?_
      rw [nI_1]
      refine s_xld rfl dL_law_583 (vp_in_nI (by omega) (by omega)) ?_
      rw [nI_clamp (by omega)]
      refine s_aload_x dL_law_584 rfl ?_
      refine s_iload_n dL_law_585 rfl ?_
      refine s_iconst (v := 2) dL_law_586 (by decide) ?_
      refine s_iadd dL_law_587 ?_
      rw [nI_2]
      refine s_xld rfl dL_law_588 (vp_in_nI (by omega) (by omega)) ?_
      rw [nI_clamp (by omega)]
      refine s_if_eq (tgt := 596) dL_law_589 (by decide) (fun c => absurd c h_2) (fun _ => ?_)
      refine s_iconst (v := 1) dL_law_592 (by decide) ?_
      refine s_goto (tgt := 597) dL_law_593 (by decide) ?_
      refine s_aload_x dL_law_597 rfl ?_
      refine s_iload_n dL_law_598 rfl ?_
      refine s_iconst (v := 3) dL_law_599 (by decide) ?_
      refine s_iadd dL_law_600 ?_
      rw [nI_3]
      refine s_xld rfl dL_law_601 (vp_in_nI (by omega) (by omega)) ?_
      rw [nI_clamp (by omega)]
      refine s_if_eq (tgt := 609) dL_law_602 (by decide) (fun c => absurd c h_3) (fun _ => ?_)
      refine s_iconst (v := 1) dL_law_605 (by decide) ?_
      refine s_goto (tgt := 610) dL_law_606 (by decide) ?_
      refine s_callV dL_law_610 k_L_89 rfl rfl hQ10 rfl rfl rfl (Nat.le_of_ble_eq_true rfl) (by decide) (by decide) (by decide) (fun r8 σ8 I8 J8 q8 => ?_)
      obtain ⟨rfl, rfl, hS2⟩ := h10 _ _ _ _ q8
      refine s_icmp_eq (tgt := 925) dL_law_613 (by decide) (fun _ => ?_) (fun c => absurd rfl c)
      exact K I8 J8 hS2
set_option maxHeartbeats 4000000 in
set_option maxRecDepth 100000 in
theorem lc_18 {nm : String} {N : Nat} {xs : Nat → Int32} {T : Nat} {I : Mem} {J : Lng} (hN : N ≤ 256) (hi : 4 * T + 4 ≤ N) (hS : Sim T I J) (K : ∀ (I2 : Mem) (J2 : Lng), Sim (T + 1) I2 J2 → LW nm N xs 100 4099 925 (LL T) [] SH I2 J2) : LW nm N xs 100 4099 618 (LL T) [] SH I J := by
  refine s_aload_n dL_law_618 rfl ?_
  refine s_aload_x dL_law_619 rfl ?_
  refine s_iload_n dL_law_620 rfl ?_
  refine s_iconst (v := 1) dL_law_621 (by decide) ?_
  refine s_iadd dL_law_622 ?_
  rw [nI_1]
  refine s_xld rfl dL_law_623 (vp_in_nI (by omega) (by omega)) ?_
  rw [nI_clamp (by omega)]
  refine s_aload_x dL_law_624 rfl ?_
  refine s_iload_n dL_law_625 rfl ?_
  refine s_iconst (v := 2) dL_law_626 (by decide) ?_
  refine s_iadd dL_law_627 ?_
  rw [nI_2]
  refine s_xld rfl dL_law_628 (vp_in_nI (by omega) (by omega)) ?_
  rw [nI_clamp (by omega)]
  refine s_aload_x dL_law_629 rfl ?_
  refine s_iload_n dL_law_630 rfl ?_
  refine s_iconst (v := 3) dL_law_631 (by decide) ?_
  refine s_iadd dL_law_632 ?_
  rw [nI_3]
  refine s_xld rfl dL_law_633 (vp_in_nI (by omega) (by omega)) ?_
  rw [nI_clamp (by omega)]
  have hp : PrI _ _ _ _ _ _ _ _ [.int (xs (4 * T + 1)), .int (xs (4 * T + 2)), .int (xs (4 * T + 3))] T I J := pr_ties hS
  obtain ⟨Q9, hQ9, h9⟩ := hp
  refine s_callV dL_law_634 k_L_90 rfl rfl hQ9 rfl rfl rfl (Nat.le_of_ble_eq_true rfl) (by decide) (by decide) (by decide) (fun r9 σ9 I9 J9 q9 => ?_)
  obtain ⟨rfl, x, rfl, Q10, hQ10, h10⟩ := h9 _ _ _ _ q9
  refine s_aload_n dL_law_637 rfl ?_
  refine s_aload_x dL_law_638 rfl ?_
  refine s_iload_n dL_law_639 rfl ?_
  refine s_iconst (v := 1) dL_law_640 (by decide) ?_
  refine s_iadd dL_law_641 ?_
  rw [nI_1]
  refine s_xld rfl dL_law_642 (vp_in_nI (by omega) (by omega)) ?_
  rw [nI_clamp (by omega)]
  refine s_aload_x dL_law_643 rfl ?_
  refine s_iload_n dL_law_644 rfl ?_
  refine s_iconst (v := 2) dL_law_645 (by decide) ?_
  refine s_iadd dL_law_646 ?_
  rw [nI_2]
  refine s_xld rfl dL_law_647 (vp_in_nI (by omega) (by omega)) ?_
  rw [nI_clamp (by omega)]
  refine s_aload_x dL_law_648 rfl ?_
  refine s_iload_n dL_law_649 rfl ?_
  refine s_iconst (v := 3) dL_law_650 (by decide) ?_
  refine s_iadd dL_law_651 ?_
  rw [nI_3]
  refine s_xld rfl dL_law_652 (vp_in_nI (by omega) (by omega)) ?_
  rw [nI_clamp (by omega)]
  refine s_callV dL_law_653 k_L_93 rfl rfl hQ10 rfl rfl rfl (Nat.le_of_ble_eq_true rfl) (by decide) (by decide) (by decide) (fun r8 σ8 I8 J8 q8 => ?_)
  obtain ⟨rfl, rfl, hS2⟩ := h10 _ _ _ _ q8
  refine s_icmp_eq (tgt := 925) dL_law_656 (by decide) (fun _ => ?_) (fun c => absurd rfl c)
  exact K I8 J8 hS2
set_option maxHeartbeats 4000000 in
set_option maxRecDepth 100000 in
theorem lc_19 {nm : String} {N : Nat} {xs : Nat → Int32} {T : Nat} {I : Mem} {J : Lng} (hN : N ≤ 256) (hi : 4 * T + 4 ≤ N) (hS : Sim T I J) (K : ∀ (I2 : Mem) (J2 : Lng), Sim (T + 1) I2 J2 → LW nm N xs 100 4099 925 (LL T) [] SH I2 J2) : LW nm N xs 100 4099 661 (LL T) [] SH I J := by
  refine s_aload_n dL_law_661 rfl ?_
  refine s_aload_x dL_law_662 rfl ?_
  refine s_iload_n dL_law_663 rfl ?_
  refine s_iconst (v := 1) dL_law_664 (by decide) ?_
  refine s_iadd dL_law_665 ?_
  rw [nI_1]
  refine s_xld rfl dL_law_666 (vp_in_nI (by omega) (by omega)) ?_
  rw [nI_clamp (by omega)]
  refine s_aload_x dL_law_667 rfl ?_
  refine s_iload_n dL_law_668 rfl ?_
  refine s_iconst (v := 2) dL_law_669 (by decide) ?_
  refine s_iadd dL_law_670 ?_
  rw [nI_2]
  refine s_xld rfl dL_law_671 (vp_in_nI (by omega) (by omega)) ?_
  rw [nI_clamp (by omega)]
  have hp : PrI _ _ _ _ _ _ _ _ [.int (xs (4 * T + 1)), .int (xs (4 * T + 2))] T I J := pr_rests hS
  obtain ⟨Q9, hQ9, h9⟩ := hp
  refine s_callV dL_law_672 k_L_94 rfl rfl hQ9 rfl rfl rfl (Nat.le_of_ble_eq_true rfl) (by decide) (by decide) (by decide) (fun r9 σ9 I9 J9 q9 => ?_)
  obtain ⟨rfl, x, rfl, Q10, hQ10, h10⟩ := h9 _ _ _ _ q9
  refine s_aload_n dL_law_675 rfl ?_
  refine s_aload_x dL_law_676 rfl ?_
  refine s_iload_n dL_law_677 rfl ?_
  refine s_iconst (v := 1) dL_law_678 (by decide) ?_
  refine s_iadd dL_law_679 ?_
  rw [nI_1]
  refine s_xld rfl dL_law_680 (vp_in_nI (by omega) (by omega)) ?_
  rw [nI_clamp (by omega)]
  refine s_aload_x dL_law_681 rfl ?_
  refine s_iload_n dL_law_682 rfl ?_
  refine s_iconst (v := 2) dL_law_683 (by decide) ?_
  refine s_iadd dL_law_684 ?_
  rw [nI_2]
  refine s_xld rfl dL_law_685 (vp_in_nI (by omega) (by omega)) ?_
  rw [nI_clamp (by omega)]
  refine s_callV dL_law_686 k_L_97 rfl rfl hQ10 rfl rfl rfl (Nat.le_of_ble_eq_true rfl) (by decide) (by decide) (by decide) (fun r8 σ8 I8 J8 q8 => ?_)
  obtain ⟨rfl, rfl, hS2⟩ := h10 _ _ _ _ q8
  refine s_icmp_eq (tgt := 925) dL_law_689 (by decide) (fun _ => ?_) (fun c => absurd rfl c)
  exact K I8 J8 hS2
set_option maxHeartbeats 4000000 in
set_option maxRecDepth 100000 in
theorem lc_20 {nm : String} {N : Nat} {xs : Nat → Int32} {T : Nat} {I : Mem} {J : Lng} (hN : N ≤ 256) (hi : 4 * T + 4 ≤ N) (hS : Sim T I J) (K : ∀ (I2 : Mem) (J2 : Lng), Sim (T + 1) I2 J2 → LW nm N xs 100 4099 925 (LL T) [] SH I2 J2) : LW nm N xs 100 4099 694 (LL T) [] SH I J := by
  refine s_aload_n dL_law_694 rfl ?_
  refine s_aload_x dL_law_695 rfl ?_
  refine s_iload_n dL_law_696 rfl ?_
  refine s_iconst (v := 1) dL_law_697 (by decide) ?_
  refine s_iadd dL_law_698 ?_
  rw [nI_1]
  refine s_xld rfl dL_law_699 (vp_in_nI (by omega) (by omega)) ?_
  rw [nI_clamp (by omega)]
  refine s_aload_x dL_law_700 rfl ?_
  refine s_iload_n dL_law_701 rfl ?_
  refine s_iconst (v := 2) dL_law_702 (by decide) ?_
  refine s_iadd dL_law_703 ?_
  rw [nI_2]
  refine s_xld rfl dL_law_704 (vp_in_nI (by omega) (by omega)) ?_
  rw [nI_clamp (by omega)]
  refine s_if_eq (tgt := 712) dL_law_705 (by decide) (fun h_2 => ?_) (fun h_2 => ?_)
  · refine s_iconst (v := 0) dL_law_712 (by decide) ?_
    have hp : PrI _ _ _ _ _ _ _ _ [.int (xs (4 * T + 1)), .int (zB false)] T I J := pr_odds hS
    obtain ⟨Q9, hQ9, h9⟩ := hp
    refine s_callV dL_law_713 k_L_98 rfl rfl hQ9 rfl rfl rfl (Nat.le_of_ble_eq_true rfl) (by decide) (by decide) (by decide) (fun r9 σ9 I9 J9 q9 => ?_)
    obtain ⟨rfl, x, rfl, Q10, hQ10, h10⟩ := h9 _ _ _ _ q9
    refine s_aload_n dL_law_716 rfl ?_
    refine s_aload_x dL_law_717 rfl ?_
    refine s_iload_n dL_law_718 rfl ?_
    refine s_iconst (v := 1) dL_law_719 (by decide) ?_
    refine s_iadd dL_law_720 ?_
    rw [nI_1]
    refine s_xld rfl dL_law_721 (vp_in_nI (by omega) (by omega)) ?_
    rw [nI_clamp (by omega)]
    refine s_aload_x dL_law_722 rfl ?_
    refine s_iload_n dL_law_723 rfl ?_
    refine s_iconst (v := 2) dL_law_724 (by decide) ?_
    refine s_iadd dL_law_725 ?_
    rw [nI_2]
    refine s_xld rfl dL_law_726 (vp_in_nI (by omega) (by omega)) ?_
    rw [nI_clamp (by omega)]
    refine s_if_eq (tgt := 734) dL_law_727 (by decide) (fun _ => ?_) (fun c => absurd h_2 c)
    refine s_iconst (v := 0) dL_law_734 (by decide) ?_
    refine s_callV dL_law_735 k_L_102 rfl rfl hQ10 rfl rfl rfl (Nat.le_of_ble_eq_true rfl) (by decide) (by decide) (by decide) (fun r8 σ8 I8 J8 q8 => ?_)
    obtain ⟨rfl, rfl, hS2⟩ := h10 _ _ _ _ q8
    refine s_icmp_eq (tgt := 925) dL_law_738 (by decide) (fun _ => ?_) (fun c => absurd rfl c)
    exact K I8 J8 hS2
  · refine s_iconst (v := 1) dL_law_708 (by decide) ?_
    refine s_goto (tgt := 713) dL_law_709 (by decide) ?_
    have hp : PrI _ _ _ _ _ _ _ _ [.int (xs (4 * T + 1)), .int (zB true)] T I J := pr_odds hS
    obtain ⟨Q9, hQ9, h9⟩ := hp
    refine s_callV dL_law_713 k_L_98 rfl rfl hQ9 rfl rfl rfl (Nat.le_of_ble_eq_true rfl) (by decide) (by decide) (by decide) (fun r9 σ9 I9 J9 q9 => ?_)
    obtain ⟨rfl, x, rfl, Q10, hQ10, h10⟩ := h9 _ _ _ _ q9
    refine s_aload_n dL_law_716 rfl ?_
    refine s_aload_x dL_law_717 rfl ?_
    refine s_iload_n dL_law_718 rfl ?_
    refine s_iconst (v := 1) dL_law_719 (by decide) ?_
    refine s_iadd dL_law_720 ?_
    rw [nI_1]
    refine s_xld rfl dL_law_721 (vp_in_nI (by omega) (by omega)) ?_
    rw [nI_clamp (by omega)]
    refine s_aload_x dL_law_722 rfl ?_
    refine s_iload_n dL_law_723 rfl ?_
    refine s_iconst (v := 2) dL_law_724 (by decide) ?_
    refine s_iadd dL_law_725 ?_
    rw [nI_2]
    refine s_xld rfl dL_law_726 (vp_in_nI (by omega) (by omega)) ?_
    rw [nI_clamp (by omega)]
    refine s_if_eq (tgt := 734) dL_law_727 (by decide) (fun c => absurd c h_2) (fun _ => ?_)
    refine s_iconst (v := 1) dL_law_730 (by decide) ?_
    refine s_goto (tgt := 735) dL_law_731 (by decide) ?_
    refine s_callV dL_law_735 k_L_102 rfl rfl hQ10 rfl rfl rfl (Nat.le_of_ble_eq_true rfl) (by decide) (by decide) (by decide) (fun r8 σ8 I8 J8 q8 => ?_)
    obtain ⟨rfl, rfl, hS2⟩ := h10 _ _ _ _ q8
    refine s_icmp_eq (tgt := 925) dL_law_738 (by decide) (fun _ => ?_) (fun c => absurd rfl c)
    exact K I8 J8 hS2
set_option maxHeartbeats 4000000 in
set_option maxRecDepth 100000 in
theorem lc_21 {nm : String} {N : Nat} {xs : Nat → Int32} {T : Nat} {I : Mem} {J : Lng} (hN : N ≤ 256) (hi : 4 * T + 4 ≤ N) (hS : Sim T I J) (K : ∀ (I2 : Mem) (J2 : Lng), Sim (T + 1) I2 J2 → LW nm N xs 100 4099 925 (LL T) [] SH I2 J2) : LW nm N xs 100 4099 743 (LL T) [] SH I J := by
  refine s_aload_n dL_law_743 rfl ?_
  refine s_aload_x dL_law_744 rfl ?_
  refine s_iload_n dL_law_745 rfl ?_
  refine s_iconst (v := 1) dL_law_746 (by decide) ?_
  refine s_iadd dL_law_747 ?_
  rw [nI_1]
  refine s_xld rfl dL_law_748 (vp_in_nI (by omega) (by omega)) ?_
  rw [nI_clamp (by omega)]
  refine s_aload_x dL_law_749 rfl ?_
  refine s_iload_n dL_law_750 rfl ?_
  refine s_iconst (v := 2) dL_law_751 (by decide) ?_
  refine s_iadd dL_law_752 ?_
  rw [nI_2]
  refine s_xld rfl dL_law_753 (vp_in_nI (by omega) (by omega)) ?_
  rw [nI_clamp (by omega)]
  refine s_aload_x dL_law_754 rfl ?_
  refine s_iload_n dL_law_755 rfl ?_
  refine s_iconst (v := 3) dL_law_756 (by decide) ?_
  refine s_iadd dL_law_757 ?_
  rw [nI_3]
  refine s_xld rfl dL_law_758 (vp_in_nI (by omega) (by omega)) ?_
  rw [nI_clamp (by omega)]
  refine s_if_eq (tgt := 766) dL_law_759 (by decide) (fun h_3 => ?_) (fun h_3 => ?_)
  · refine s_iconst (v := 0) dL_law_766 (by decide) ?_
    have hp : PrI _ _ _ _ _ _ _ _ [.int (xs (4 * T + 1)), .int (xs (4 * T + 2)), .int (zB false)] T I J := pr_lender (by omega) hS
    obtain ⟨Q9, hQ9, h9⟩ := hp
    refine s_callV dL_law_767 k_L_103 rfl rfl hQ9 rfl rfl rfl (Nat.le_of_ble_eq_true rfl) (by decide) (by decide) (by decide) (fun r9 σ9 I9 J9 q9 => ?_)
    obtain ⟨rfl, x, rfl, Q10, hQ10, h10⟩ := h9 _ _ _ _ q9
    refine s_aload_n dL_law_770 rfl ?_
    refine s_aload_x dL_law_771 rfl ?_
    refine s_iload_n dL_law_772 rfl ?_
    refine s_iconst (v := 1) dL_law_773 (by decide) ?_
    refine s_iadd dL_law_774 ?_
    rw [nI_1]
    refine s_xld rfl dL_law_775 (vp_in_nI (by omega) (by omega)) ?_
    rw [nI_clamp (by omega)]
    refine s_aload_x dL_law_776 rfl ?_
    refine s_iload_n dL_law_777 rfl ?_
    refine s_iconst (v := 2) dL_law_778 (by decide) ?_
    refine s_iadd dL_law_779 ?_
    rw [nI_2]
    refine s_xld rfl dL_law_780 (vp_in_nI (by omega) (by omega)) ?_
    rw [nI_clamp (by omega)]
    refine s_aload_x dL_law_781 rfl ?_
    refine s_iload_n dL_law_782 rfl ?_
    refine s_iconst (v := 3) dL_law_783 (by decide) ?_
    refine s_iadd dL_law_784 ?_
    rw [nI_3]
    refine s_xld rfl dL_law_785 (vp_in_nI (by omega) (by omega)) ?_
    rw [nI_clamp (by omega)]
    refine s_if_eq (tgt := 793) dL_law_786 (by decide) (fun _ => ?_) (fun c => absurd h_3 c)
    refine s_iconst (v := 0) dL_law_793 (by decide) ?_
    refine s_callV dL_law_794 k_L_107 rfl rfl hQ10 rfl rfl rfl (Nat.le_of_ble_eq_true rfl) (by decide) (by decide) (by decide) (fun r8 σ8 I8 J8 q8 => ?_)
    obtain ⟨rfl, rfl, hS2⟩ := h10 _ _ _ _ q8
    refine s_icmp_eq (tgt := 925) dL_law_797 (by decide) (fun _ => ?_) (fun c => absurd rfl c)
    exact K I8 J8 hS2
  · refine s_iconst (v := 1) dL_law_762 (by decide) ?_
    refine s_goto (tgt := 767) dL_law_763 (by decide) ?_
    have hp : PrI _ _ _ _ _ _ _ _ [.int (xs (4 * T + 1)), .int (xs (4 * T + 2)), .int (zB true)] T I J := pr_lender (by omega) hS
    obtain ⟨Q9, hQ9, h9⟩ := hp
    refine s_callV dL_law_767 k_L_103 rfl rfl hQ9 rfl rfl rfl (Nat.le_of_ble_eq_true rfl) (by decide) (by decide) (by decide) (fun r9 σ9 I9 J9 q9 => ?_)
    obtain ⟨rfl, x, rfl, Q10, hQ10, h10⟩ := h9 _ _ _ _ q9
    refine s_aload_n dL_law_770 rfl ?_
    refine s_aload_x dL_law_771 rfl ?_
    refine s_iload_n dL_law_772 rfl ?_
    refine s_iconst (v := 1) dL_law_773 (by decide) ?_
    refine s_iadd dL_law_774 ?_
    rw [nI_1]
    refine s_xld rfl dL_law_775 (vp_in_nI (by omega) (by omega)) ?_
    rw [nI_clamp (by omega)]
    refine s_aload_x dL_law_776 rfl ?_
    refine s_iload_n dL_law_777 rfl ?_
    refine s_iconst (v := 2) dL_law_778 (by decide) ?_
    refine s_iadd dL_law_779 ?_
    rw [nI_2]
    refine s_xld rfl dL_law_780 (vp_in_nI (by omega) (by omega)) ?_
    rw [nI_clamp (by omega)]
    refine s_aload_x dL_law_781 rfl ?_
    refine s_iload_n dL_law_782 rfl ?_
    refine s_iconst (v := 3) dL_law_783 (by decide) ?_
    refine s_iadd dL_law_784 ?_
    rw [nI_3]
    refine s_xld rfl dL_law_785 (vp_in_nI (by omega) (by omega)) ?_
    rw [nI_clamp (by omega)]
    refine s_if_eq (tgt := 793) dL_law_786 (by decide) (fun c => absurd c h_3) (fun _ => ?_)
    refine s_iconst (v := 1) dL_law_789 (by decide) ?_
    refine s_goto (tgt := 794) dL_law_790 (by decide) ?_
    refine s_callV dL_law_794 k_L_107 rfl rfl hQ10 rfl rfl rfl (Nat.le_of_ble_eq_true rfl) (by decide) (by decide) (by decide) (fun r8 σ8 I8 J8 q8 => ?_)
    obtain ⟨rfl, rfl, hS2⟩ := h10 _ _ _ _ q8
    refine s_icmp_eq (tgt := 925) dL_law_797 (by decide) (fun _ => ?_) (fun c => absurd rfl c)
    exact K I8 J8 hS2
set_option maxHeartbeats 4000000 in
set_option maxRecDepth 100000 in
theorem lc_22 {nm : String} {N : Nat} {xs : Nat → Int32} {T : Nat} {I : Mem} {J : Lng} (hN : N ≤ 256) (hi : 4 * T + 4 ≤ N) (hS : Sim T I J) (K : ∀ (I2 : Mem) (J2 : Lng), Sim (T + 1) I2 J2 → LW nm N xs 100 4099 925 (LL T) [] SH I2 J2) : LW nm N xs 100 4099 802 (LL T) [] SH I J := by
  refine s_aload_n dL_law_802 rfl ?_
  refine s_aload_x dL_law_803 rfl ?_
  refine s_iload_n dL_law_804 rfl ?_
  refine s_iconst (v := 1) dL_law_805 (by decide) ?_
  refine s_iadd dL_law_806 ?_
  rw [nI_1]
  refine s_xld rfl dL_law_807 (vp_in_nI (by omega) (by omega)) ?_
  rw [nI_clamp (by omega)]
  refine s_i2l dL_law_808 ?_
  refine s_bipush (v := 32) dL_law_809 (by decide) ?_
  refine s_lshl dL_law_811 ?_
  refine s_aload_x dL_law_812 rfl ?_
  refine s_iload_n dL_law_813 rfl ?_
  refine s_iconst (v := 2) dL_law_814 (by decide) ?_
  refine s_iadd dL_law_815 ?_
  rw [nI_2]
  refine s_xld rfl dL_law_816 (vp_in_nI (by omega) (by omega)) ?_
  rw [nI_clamp (by omega)]
  refine s_i2l dL_law_817 ?_
  refine s_ldc2 dL_law_818 c_L_108 ?_
  refine s_land dL_law_821 ?_
  refine s_lor dL_law_822 ?_
  have hp : PrL _ _ _ _ _ _ _ _ [.long ((xs (4 * T + 1)).toInt64 <<< ((32 : Int32).toInt64 &&& 63) ||| ((xs (4 * T + 2)).toInt64 &&& 4294967295))] T I J := pr_seed hS
  obtain ⟨Q9, hQ9, h9⟩ := hp
  refine s_callV dL_law_823 k_L_110 rfl rfl hQ9 rfl rfl rfl (Nat.le_of_ble_eq_true rfl) (by decide) (by decide) (by decide) (fun r9 σ9 I9 J9 q9 => ?_)
  obtain ⟨rfl, x, rfl, Q10, hQ10, h10⟩ := h9 _ _ _ _ q9
  refine s_aload_n dL_law_826 rfl ?_
  refine s_aload_x dL_law_827 rfl ?_
  refine s_iload_n dL_law_828 rfl ?_
  refine s_iconst (v := 1) dL_law_829 (by decide) ?_
  refine s_iadd dL_law_830 ?_
  rw [nI_1]
  refine s_xld rfl dL_law_831 (vp_in_nI (by omega) (by omega)) ?_
  rw [nI_clamp (by omega)]
  refine s_i2l dL_law_832 ?_
  refine s_bipush (v := 32) dL_law_833 (by decide) ?_
  refine s_lshl dL_law_835 ?_
  refine s_aload_x dL_law_836 rfl ?_
  refine s_iload_n dL_law_837 rfl ?_
  refine s_iconst (v := 2) dL_law_838 (by decide) ?_
  refine s_iadd dL_law_839 ?_
  rw [nI_2]
  refine s_xld rfl dL_law_840 (vp_in_nI (by omega) (by omega)) ?_
  rw [nI_clamp (by omega)]
  refine s_i2l dL_law_841 ?_
  refine s_ldc2 dL_law_842 c_L_108 ?_
  refine s_land dL_law_845 ?_
  refine s_lor dL_law_846 ?_
  refine s_callV dL_law_847 k_L_114 rfl rfl hQ10 rfl rfl rfl (Nat.le_of_ble_eq_true rfl) (by decide) (by decide) (by decide) (fun r8 σ8 I8 J8 q8 => ?_)
  obtain ⟨rfl, rfl, hS2⟩ := h10 _ _ _ _ q8
  refine s_lcmp dL_law_850 ?_
  refine s_if_eq (tgt := 925) dL_law_851 (by decide) (fun _ => ?_) (fun c => absurd (cmp_self _) c)
  exact K I8 J8 hS2
set_option maxHeartbeats 4000000 in
set_option maxRecDepth 100000 in
theorem lc_23 {nm : String} {N : Nat} {xs : Nat → Int32} {T : Nat} {I : Mem} {J : Lng} (hN : N ≤ 256) (hi : 4 * T + 4 ≤ N) (hS : Sim T I J) (K : ∀ (I2 : Mem) (J2 : Lng), Sim (T + 1) I2 J2 → LW nm N xs 100 4099 925 (LL T) [] SH I2 J2) : LW nm N xs 100 4099 856 (LL T) [] SH I J := by
  refine s_aload_n dL_law_856 rfl ?_
  refine s_aload_x dL_law_857 rfl ?_
  refine s_iload_n dL_law_858 rfl ?_
  refine s_iconst (v := 1) dL_law_859 (by decide) ?_
  refine s_iadd dL_law_860 ?_
  rw [nI_1]
  refine s_xld rfl dL_law_861 (vp_in_nI (by omega) (by omega)) ?_
  rw [nI_clamp (by omega)]
  have hp : PrI _ _ _ _ _ _ _ _ [.int (xs (4 * T + 1))] T I J := pr_families hS
  obtain ⟨Q9, hQ9, h9⟩ := hp
  refine s_callV dL_law_862 k_L_115 rfl rfl hQ9 rfl rfl rfl (Nat.le_of_ble_eq_true rfl) (by decide) (by decide) (by decide) (fun r9 σ9 I9 J9 q9 => ?_)
  obtain ⟨rfl, x, rfl, Q10, hQ10, h10⟩ := h9 _ _ _ _ q9
  refine s_aload_n dL_law_865 rfl ?_
  refine s_aload_x dL_law_866 rfl ?_
  refine s_iload_n dL_law_867 rfl ?_
  refine s_iconst (v := 1) dL_law_868 (by decide) ?_
  refine s_iadd dL_law_869 ?_
  rw [nI_1]
  refine s_xld rfl dL_law_870 (vp_in_nI (by omega) (by omega)) ?_
  rw [nI_clamp (by omega)]
  refine s_callV dL_law_871 k_L_118 rfl rfl hQ10 rfl rfl rfl (Nat.le_of_ble_eq_true rfl) (by decide) (by decide) (by decide) (fun r8 σ8 I8 J8 q8 => ?_)
  obtain ⟨rfl, rfl, hS2⟩ := h10 _ _ _ _ q8
  refine s_icmp_eq (tgt := 925) dL_law_874 (by decide) (fun _ => ?_) (fun c => absurd rfl c)
  exact K I8 J8 hS2
set_option maxHeartbeats 4000000 in
set_option maxRecDepth 100000 in
theorem lc_24 {nm : String} {N : Nat} {xs : Nat → Int32} {T : Nat} {I : Mem} {J : Lng} (hN : N ≤ 256) (hi : 4 * T + 4 ≤ N) (hS : Sim T I J) (K : ∀ (I2 : Mem) (J2 : Lng), Sim (T + 1) I2 J2 → LW nm N xs 100 4099 925 (LL T) [] SH I2 J2) : LW nm N xs 100 4099 879 (LL T) [] SH I J := by
  refine s_aload_n dL_law_879 rfl ?_
  refine s_aload_x dL_law_880 rfl ?_
  refine s_iload_n dL_law_881 rfl ?_
  refine s_iconst (v := 1) dL_law_882 (by decide) ?_
  refine s_iadd dL_law_883 ?_
  rw [nI_1]
  refine s_xld rfl dL_law_884 (vp_in_nI (by omega) (by omega)) ?_
  rw [nI_clamp (by omega)]
  have hp : PrI _ _ _ _ _ _ _ _ [.int (xs (4 * T + 1))] T I J := pr_keep hS
  obtain ⟨Q9, hQ9, h9⟩ := hp
  refine s_callV dL_law_885 k_L_119 rfl rfl hQ9 rfl rfl rfl (Nat.le_of_ble_eq_true rfl) (by decide) (by decide) (by decide) (fun r9 σ9 I9 J9 q9 => ?_)
  obtain ⟨rfl, x, rfl, Q10, hQ10, h10⟩ := h9 _ _ _ _ q9
  refine s_aload_n dL_law_888 rfl ?_
  refine s_aload_x dL_law_889 rfl ?_
  refine s_iload_n dL_law_890 rfl ?_
  refine s_iconst (v := 1) dL_law_891 (by decide) ?_
  refine s_iadd dL_law_892 ?_
  rw [nI_1]
  refine s_xld rfl dL_law_893 (vp_in_nI (by omega) (by omega)) ?_
  rw [nI_clamp (by omega)]
  refine s_callV dL_law_894 k_L_122 rfl rfl hQ10 rfl rfl rfl (Nat.le_of_ble_eq_true rfl) (by decide) (by decide) (by decide) (fun r8 σ8 I8 J8 q8 => ?_)
  obtain ⟨rfl, rfl, hS2⟩ := h10 _ _ _ _ q8
  refine s_icmp_eq (tgt := 925) dL_law_897 (by decide) (fun _ => ?_) (fun c => absurd rfl c)
  exact K I8 J8 hS2
set_option maxHeartbeats 4000000 in
set_option maxRecDepth 100000 in
theorem lc_25 {nm : String} {N : Nat} {xs : Nat → Int32} {T : Nat} {I : Mem} {J : Lng} (hN : N ≤ 256) (hi : 4 * T + 4 ≤ N) (hS : Sim T I J) (K : ∀ (I2 : Mem) (J2 : Lng), Sim (T + 1) I2 J2 → LW nm N xs 100 4099 925 (LL T) [] SH I2 J2) : LW nm N xs 100 4099 902 (LL T) [] SH I J := by
  refine s_aload_n dL_law_902 rfl ?_
  refine s_aload_x dL_law_903 rfl ?_
  refine s_iload_n dL_law_904 rfl ?_
  refine s_iconst (v := 1) dL_law_905 (by decide) ?_
  refine s_iadd dL_law_906 ?_
  rw [nI_1]
  refine s_xld rfl dL_law_907 (vp_in_nI (by omega) (by omega)) ?_
  rw [nI_clamp (by omega)]
  have hp : PrI _ _ _ _ _ _ _ _ [.int (xs (4 * T + 1))] T I J := pr_again hS
  obtain ⟨Q9, hQ9, h9⟩ := hp
  refine s_callV dL_law_908 k_L_123 rfl rfl hQ9 rfl rfl rfl (Nat.le_of_ble_eq_true rfl) (by decide) (by decide) (by decide) (fun r9 σ9 I9 J9 q9 => ?_)
  obtain ⟨rfl, x, rfl, Q10, hQ10, h10⟩ := h9 _ _ _ _ q9
  refine s_aload_n dL_law_911 rfl ?_
  refine s_aload_x dL_law_912 rfl ?_
  refine s_iload_n dL_law_913 rfl ?_
  refine s_iconst (v := 1) dL_law_914 (by decide) ?_
  refine s_iadd dL_law_915 ?_
  rw [nI_1]
  refine s_xld rfl dL_law_916 (vp_in_nI (by omega) (by omega)) ?_
  rw [nI_clamp (by omega)]
  refine s_callV dL_law_917 k_L_126 rfl rfl hQ10 rfl rfl rfl (Nat.le_of_ble_eq_true rfl) (by decide) (by decide) (by decide) (fun r8 σ8 I8 J8 q8 => ?_)
  obtain ⟨rfl, rfl, hS2⟩ := h10 _ _ _ _ q8
  refine s_icmp_eq (tgt := 925) dL_law_920 (by decide) (fun _ => ?_) (fun c => absurd rfl c)
  exact K I8 J8 hS2
