theorem Z_24 : N_v0 24 = 0 := rfl
theorem Z_k62 {k : Int} (q : N_hB N_v0 k) : 0 ≤ k ∧ k ≤ 62 := by
  obtain ⟨q1, q2⟩ := q
  have e : (999 : Int) / N_ar N_v0 = 62 := by decide
  omega
set_option maxRecDepth 100000 in
set_option maxHeartbeats 800000 in
theorem K_0 {C : ja_C} {D : va_G} {cA : Nat → ClassId} {l : Launch} {B b L y m n cells slots : Nat} {lay : ja_Y} {mem : ja_M} {xs : Nat → Int32} (F : ja_F C RL cL_law 4 room_1) (GC : ja_G C l D cA B) (X : ja_X C b L xs) (hL : L = 5) (h : L_fr lay mem n y m) (hc : cells ≤ 1000) (hs : slots ≤ 40000) (J : ∀ (lay2 : ja_Y) (mem2 : ja_M) (n2 cells2 slots2 : Nat), cells2 ≤ 2000 → slots2 ≤ 60000 → ja_W C cells2 slots2 lay2 mem2 n2 1227 [some (.ref b), some (.ref y), some (.ref m), some (.int (ja_I 0))] []) : ja_W C cells slots lay mem n 224 [some (.ref b), some (.ref y), some (.ref m), some (.int (ja_I 0))] [] := by
  obtain ⟨hm, hn, hB, hM, hS1, hS2, hz, hv, hmz⟩ := id h
  have hO := h.BO
  obtain ⟨x1, hx1⟩ : ∃ z, z = (xs (Int.toNat (0 + 1))).toInt := ⟨_, rfl⟩
  have hi1 : ja_in x1 := by rw [hx1]; exact ja_range _
  obtain ⟨i1a, i1b⟩ := id hi1
  refine r_aload_n F rfl rfl dL_law_224 rfl ?_
  refine r_aload_n F rfl rfl dL_law_225 rfl ?_
  refine r_iload_n F rfl rfl dL_law_226 rfl ?_
  refine r_iconst F dL_law_227 rfl ?_
  refine r_iadd F dL_law_228 rfl ?_
  refine r_sld F X (by omega) (by omega) (by omega) dL_law_229 rfl ?_
  refine r_eqz (z := x1) hx1.symm ?_
  refine r_callV F GC (c_X8_setFrame l D cA B hB hO hi1) v_L_13 rfl hB.1 rfl ⟨Nat.le_of_ble_eq_true rfl, Nat.le_of_ble_eq_true rfl⟩ ⟨Nat.le_trans (Nat.add_le_add_right hc _) (Nat.le_of_ble_eq_true rfl), Nat.le_trans (Nat.add_le_add_right hs _) (Nat.le_of_ble_eq_true rfl)⟩ (Nat.le_of_ble_eq_true rfl) rfl dL_law_230 rfl (fun v L1 M1 n1 hp => ?_)
  have hc1 : cells + rm_X8_setFrame.cells ≤ 2000 := Nat.le_trans (Nat.add_le_add_right hc _) (Nat.le_of_ble_eq_true rfl)
  have hs1 : slots + rm_X8_setFrame.slots ≤ 60000 := Nat.le_trans (Nat.add_le_add_right hs _) (Nat.le_of_ble_eq_true rfl)
  obtain ⟨q1, q2, q3, q4⟩ := hp
  subst q1; subst q2; subst q4
  have hf : ∀ q, m ≤ q → q < m + 9 → M1 q = mem q := fun q qa qb => by
      rw [← q3]
      split
      · rw [ja_up_row (by omega)]
      · rfl
  refine r_mem (mem' := ja_rw M1 (m + 1) N_v0) (by rw [← hv, ← hf (m + 1) (by omega) (by omega), ja_rw_self]) ?_
  refine r_aload_n F rfl rfl dL_law_233 rfl ?_
  refine r_aload_n F rfl rfl dL_law_234 rfl ?_
  refine r_iload_n F rfl rfl dL_law_235 rfl ?_
  refine r_iconst F dL_law_236 rfl ?_
  refine r_iadd F dL_law_237 rfl ?_
  refine r_sld F X (by omega) (by omega) (by omega) dL_law_238 rfl ?_
  refine r_eqz (z := x1) hx1.symm ?_
  refine r_callV F GC (c_X9_setFrame l D cA B hM N_v0_R hi1) v_L_17 rfl hM.1 rfl ⟨Nat.le_of_ble_eq_true rfl, Nat.le_of_ble_eq_true rfl⟩ ⟨Nat.le_trans (Nat.add_le_add_right hc1 _) (Nat.le_of_ble_eq_true rfl), Nat.le_trans (Nat.add_le_add_right hs1 _) (Nat.le_of_ble_eq_true rfl)⟩ (Nat.le_of_ble_eq_true rfl) rfl dL_law_239 rfl (fun v L2 M2 n2 hp => ?_)
  obtain ⟨q5, -⟩ := hp
  subst q5
  exact r_same F (by rw [if_neg (Z_bg h), if_neg Z_bgN, Z_s h 0 (by omega)]) dL_law_242 (by decide) (J _ _ _ _ _ hc1 hs1)
set_option maxRecDepth 100000 in
set_option maxHeartbeats 800000 in
theorem K_1 {C : ja_C} {D : va_G} {cA : Nat → ClassId} {l : Launch} {B b L y m n cells slots : Nat} {lay : ja_Y} {mem : ja_M} {xs : Nat → Int32} (F : ja_F C RL cL_law 4 room_1) (GC : ja_G C l D cA B) (X : ja_X C b L xs) (hL : L = 5) (h : L_fr lay mem n y m) (hc : cells ≤ 1000) (hs : slots ≤ 40000) (J : ∀ (lay2 : ja_Y) (mem2 : ja_M) (n2 cells2 slots2 : Nat), cells2 ≤ 2000 → slots2 ≤ 60000 → ja_W C cells2 slots2 lay2 mem2 n2 1227 [some (.ref b), some (.ref y), some (.ref m), some (.int (ja_I 0))] []) : ja_W C cells slots lay mem n 247 [some (.ref b), some (.ref y), some (.ref m), some (.int (ja_I 0))] [] := by
  obtain ⟨hm, hn, hB, hM, hS1, hS2, hz, hv, hmz⟩ := id h
  have hO := h.BO
  obtain ⟨x1, hx1⟩ : ∃ z, z = (xs (Int.toNat (0 + 1))).toInt := ⟨_, rfl⟩
  have hi1 : ja_in x1 := by rw [hx1]; exact ja_range _
  obtain ⟨i1a, i1b⟩ := id hi1
  obtain ⟨x2, hx2⟩ : ∃ z, z = (xs (Int.toNat (0 + 2))).toInt := ⟨_, rfl⟩
  have hi2 : ja_in x2 := by rw [hx2]; exact ja_range _
  obtain ⟨i2a, i2b⟩ := id hi2
  refine r_aload_n F rfl rfl dL_law_247 rfl ?_
  refine r_aload_n F rfl rfl dL_law_248 rfl ?_
  refine r_iload_n F rfl rfl dL_law_249 rfl ?_
  refine r_iconst F dL_law_250 rfl ?_
  refine r_iadd F dL_law_251 rfl ?_
  refine r_sld F X (by omega) (by omega) (by omega) dL_law_252 rfl ?_
  refine r_eqz (z := x1) hx1.symm ?_
  refine r_aload_n F rfl rfl dL_law_253 rfl ?_
  refine r_iload_n F rfl rfl dL_law_254 rfl ?_
  refine r_iconst F dL_law_255 rfl ?_
  refine r_iadd F dL_law_256 rfl ?_
  refine r_sld F X (by omega) (by omega) (by omega) dL_law_257 rfl ?_
  refine r_eqz (z := x2) hx2.symm ?_
  refine r_callV F GC (c_X8_setWave l D cA B hB hO hi1 hi2) v_L_18 rfl hB.1 rfl ⟨Nat.le_of_ble_eq_true rfl, Nat.le_of_ble_eq_true rfl⟩ ⟨Nat.le_trans (Nat.add_le_add_right hc _) (Nat.le_of_ble_eq_true rfl), Nat.le_trans (Nat.add_le_add_right hs _) (Nat.le_of_ble_eq_true rfl)⟩ (Nat.le_of_ble_eq_true rfl) rfl dL_law_258 rfl (fun v L1 M1 n1 hp => ?_)
  have hc1 : cells + rm_X8_setWave.cells ≤ 2000 := Nat.le_trans (Nat.add_le_add_right hc _) (Nat.le_of_ble_eq_true rfl)
  have hs1 : slots + rm_X8_setWave.slots ≤ 60000 := Nat.le_trans (Nat.add_le_add_right hs _) (Nat.le_of_ble_eq_true rfl)
  obtain ⟨q1, q2, q3, q4⟩ := hp
  subst q1; subst q2; subst q4
  have hf : ∀ q, m ≤ q → q < m + 9 → M1 q = mem q := fun q qa qb => by
      rw [← q3]
      split
      · rw [ja_up_row (by omega), ja_up_row (by omega)]
      · rfl
  refine r_mem (mem' := ja_rw M1 (m + 1) N_v0) (by rw [← hv, ← hf (m + 1) (by omega) (by omega), ja_rw_self]) ?_
  refine r_aload_n F rfl rfl dL_law_261 rfl ?_
  refine r_aload_n F rfl rfl dL_law_262 rfl ?_
  refine r_iload_n F rfl rfl dL_law_263 rfl ?_
  refine r_iconst F dL_law_264 rfl ?_
  refine r_iadd F dL_law_265 rfl ?_
  refine r_sld F X (by omega) (by omega) (by omega) dL_law_266 rfl ?_
  refine r_eqz (z := x1) hx1.symm ?_
  refine r_aload_n F rfl rfl dL_law_267 rfl ?_
  refine r_iload_n F rfl rfl dL_law_268 rfl ?_
  refine r_iconst F dL_law_269 rfl ?_
  refine r_iadd F dL_law_270 rfl ?_
  refine r_sld F X (by omega) (by omega) (by omega) dL_law_271 rfl ?_
  refine r_eqz (z := x2) hx2.symm ?_
  refine r_callV F GC (c_X9_setWave l D cA B hM N_v0_R hi1 hi2) v_L_22 rfl hM.1 rfl ⟨Nat.le_of_ble_eq_true rfl, Nat.le_of_ble_eq_true rfl⟩ ⟨Nat.le_trans (Nat.add_le_add_right hc1 _) (Nat.le_of_ble_eq_true rfl), Nat.le_trans (Nat.add_le_add_right hs1 _) (Nat.le_of_ble_eq_true rfl)⟩ (Nat.le_of_ble_eq_true rfl) rfl dL_law_272 rfl (fun v L2 M2 n2 hp => ?_)
  obtain ⟨q5, -⟩ := hp
  subst q5
  exact r_same F (by rw [if_neg (Z_bg h), if_neg Z_bgN, Z_s h 1 (by omega), Z_s h 2 (by omega)]) dL_law_275 (by decide) (J _ _ _ _ _ hc1 hs1)
set_option maxRecDepth 100000 in
set_option maxHeartbeats 800000 in
theorem K_2 {C : ja_C} {D : va_G} {cA : Nat → ClassId} {l : Launch} {B b L y m n cells slots : Nat} {lay : ja_Y} {mem : ja_M} {xs : Nat → Int32} (F : ja_F C RL cL_law 4 room_1) (GC : ja_G C l D cA B) (X : ja_X C b L xs) (hL : L = 5) (h : L_fr lay mem n y m) (hc : cells ≤ 1000) (hs : slots ≤ 40000) (J : ∀ (lay2 : ja_Y) (mem2 : ja_M) (n2 cells2 slots2 : Nat), cells2 ≤ 2000 → slots2 ≤ 60000 → ja_W C cells2 slots2 lay2 mem2 n2 1227 [some (.ref b), some (.ref y), some (.ref m), some (.int (ja_I 0))] []) : ja_W C cells slots lay mem n 280 [some (.ref b), some (.ref y), some (.ref m), some (.int (ja_I 0))] [] := by
  obtain ⟨hm, hn, hB, hM, hS1, hS2, hz, hv, hmz⟩ := id h
  have hO := h.BO
  obtain ⟨x1, hx1⟩ : ∃ z, z = (xs (Int.toNat (0 + 1))).toInt := ⟨_, rfl⟩
  have hi1 : ja_in x1 := by rw [hx1]; exact ja_range _
  obtain ⟨i1a, i1b⟩ := id hi1
  obtain ⟨x2, hx2⟩ : ∃ z, z = (xs (Int.toNat (0 + 2))).toInt := ⟨_, rfl⟩
  have hi2 : ja_in x2 := by rw [hx2]; exact ja_range _
  obtain ⟨i2a, i2b⟩ := id hi2
  refine r_aload_n F rfl rfl dL_law_280 rfl ?_
  refine r_aload_n F rfl rfl dL_law_281 rfl ?_
  refine r_iload_n F rfl rfl dL_law_282 rfl ?_
  refine r_iconst F dL_law_283 rfl ?_
  refine r_iadd F dL_law_284 rfl ?_
  refine r_sld F X (by omega) (by omega) (by omega) dL_law_285 rfl ?_
  refine r_eqz (z := x1) hx1.symm ?_
  refine r_aload_n F rfl rfl dL_law_286 rfl ?_
  refine r_iload_n F rfl rfl dL_law_287 rfl ?_
  refine r_iconst F dL_law_288 rfl ?_
  refine r_iadd F dL_law_289 rfl ?_
  refine r_sld F X (by omega) (by omega) (by omega) dL_law_290 rfl ?_
  refine r_eqz (z := x2) hx2.symm ?_
  refine r_callV F GC (c_X8_setBlock l D cA B hB hO hi1 hi2) v_L_23 rfl hB.1 rfl ⟨Nat.le_of_ble_eq_true rfl, Nat.le_of_ble_eq_true rfl⟩ ⟨Nat.le_trans (Nat.add_le_add_right hc _) (Nat.le_of_ble_eq_true rfl), Nat.le_trans (Nat.add_le_add_right hs _) (Nat.le_of_ble_eq_true rfl)⟩ (Nat.le_of_ble_eq_true rfl) rfl dL_law_291 rfl (fun v L1 M1 n1 hp => ?_)
  have hc1 : cells + rm_X8_setBlock.cells ≤ 2000 := Nat.le_trans (Nat.add_le_add_right hc _) (Nat.le_of_ble_eq_true rfl)
  have hs1 : slots + rm_X8_setBlock.slots ≤ 60000 := Nat.le_trans (Nat.add_le_add_right hs _) (Nat.le_of_ble_eq_true rfl)
  obtain ⟨q1, q2, q3, q4⟩ := hp
  subst q1; subst q2; subst q4
  have hf : ∀ q, m ≤ q → q < m + 9 → M1 q = mem q := fun q qa qb => by
      rw [← q3]
      split
      · rw [ja_up_row (by omega), ja_up_row (by omega)]
      · rfl
  refine r_mem (mem' := ja_rw M1 (m + 1) N_v0) (by rw [← hv, ← hf (m + 1) (by omega) (by omega), ja_rw_self]) ?_
  refine r_aload_n F rfl rfl dL_law_294 rfl ?_
  refine r_aload_n F rfl rfl dL_law_295 rfl ?_
  refine r_iload_n F rfl rfl dL_law_296 rfl ?_
  refine r_iconst F dL_law_297 rfl ?_
  refine r_iadd F dL_law_298 rfl ?_
  refine r_sld F X (by omega) (by omega) (by omega) dL_law_299 rfl ?_
  refine r_eqz (z := x1) hx1.symm ?_
  refine r_aload_n F rfl rfl dL_law_300 rfl ?_
  refine r_iload_n F rfl rfl dL_law_301 rfl ?_
  refine r_iconst F dL_law_302 rfl ?_
  refine r_iadd F dL_law_303 rfl ?_
  refine r_sld F X (by omega) (by omega) (by omega) dL_law_304 rfl ?_
  refine r_eqz (z := x2) hx2.symm ?_
  refine r_callV F GC (c_X9_setBlock l D cA B hM N_v0_R hi1 hi2) v_L_26 rfl hM.1 rfl ⟨Nat.le_of_ble_eq_true rfl, Nat.le_of_ble_eq_true rfl⟩ ⟨Nat.le_trans (Nat.add_le_add_right hc1 _) (Nat.le_of_ble_eq_true rfl), Nat.le_trans (Nat.add_le_add_right hs1 _) (Nat.le_of_ble_eq_true rfl)⟩ (Nat.le_of_ble_eq_true rfl) rfl dL_law_305 rfl (fun v L2 M2 n2 hp => ?_)
  obtain ⟨q5, -⟩ := hp
  subst q5
  exact r_same F (by rw [if_neg (Z_bg h), if_neg Z_bgN, Z_s h 3 (by omega), Z_s h 4 (by omega)]) dL_law_308 (by decide) (J _ _ _ _ _ hc1 hs1)
set_option maxRecDepth 100000 in
set_option maxHeartbeats 800000 in
theorem K_3 {C : ja_C} {D : va_G} {cA : Nat → ClassId} {l : Launch} {B b L y m n cells slots : Nat} {lay : ja_Y} {mem : ja_M} {xs : Nat → Int32} (F : ja_F C RL cL_law 4 room_1) (GC : ja_G C l D cA B) (X : ja_X C b L xs) (hL : L = 5) (h : L_fr lay mem n y m) (hc : cells ≤ 1000) (hs : slots ≤ 40000) (J : ∀ (lay2 : ja_Y) (mem2 : ja_M) (n2 cells2 slots2 : Nat), cells2 ≤ 2000 → slots2 ≤ 60000 → ja_W C cells2 slots2 lay2 mem2 n2 1227 [some (.ref b), some (.ref y), some (.ref m), some (.int (ja_I 0))] []) : ja_W C cells slots lay mem n 313 [some (.ref b), some (.ref y), some (.ref m), some (.int (ja_I 0))] [] := by
  obtain ⟨hm, hn, hB, hM, hS1, hS2, hz, hv, hmz⟩ := id h
  have hO := h.BO
  obtain ⟨x1, hx1⟩ : ∃ z, z = (xs (Int.toNat (0 + 1))).toInt := ⟨_, rfl⟩
  have hi1 : ja_in x1 := by rw [hx1]; exact ja_range _
  obtain ⟨i1a, i1b⟩ := id hi1
  refine r_aload_n F rfl rfl dL_law_313 rfl ?_
  refine r_aload_n F rfl rfl dL_law_314 rfl ?_
  refine r_iload_n F rfl rfl dL_law_315 rfl ?_
  refine r_iconst F dL_law_316 rfl ?_
  refine r_iadd F dL_law_317 rfl ?_
  refine r_sld F X (by omega) (by omega) (by omega) dL_law_318 rfl ?_
  refine r_eqz (z := x1) hx1.symm ?_
  refine r_callV F GC (c_X8_setInitialDelay l D cA B hB hO hi1) v_L_27 rfl hB.1 rfl ⟨Nat.le_of_ble_eq_true rfl, Nat.le_of_ble_eq_true rfl⟩ ⟨Nat.le_trans (Nat.add_le_add_right hc _) (Nat.le_of_ble_eq_true rfl), Nat.le_trans (Nat.add_le_add_right hs _) (Nat.le_of_ble_eq_true rfl)⟩ (Nat.le_of_ble_eq_true rfl) rfl dL_law_319 rfl (fun v L1 M1 n1 hp => ?_)
  have hc1 : cells + rm_X8_setInitialDelay.cells ≤ 2000 := Nat.le_trans (Nat.add_le_add_right hc _) (Nat.le_of_ble_eq_true rfl)
  have hs1 : slots + rm_X8_setInitialDelay.slots ≤ 60000 := Nat.le_trans (Nat.add_le_add_right hs _) (Nat.le_of_ble_eq_true rfl)
  obtain ⟨q1, q2, q3, q4⟩ := hp
  subst q1; subst q2; subst q4
  have hf : ∀ q, m ≤ q → q < m + 9 → M1 q = mem q := fun q qa qb => by
      rw [← q3]
      split
      · rw [ja_up_row (by omega)]
      · rfl
  refine r_mem (mem' := ja_rw M1 (m + 1) N_v0) (by rw [← hv, ← hf (m + 1) (by omega) (by omega), ja_rw_self]) ?_
  refine r_aload_n F rfl rfl dL_law_322 rfl ?_
  refine r_aload_n F rfl rfl dL_law_323 rfl ?_
  refine r_iload_n F rfl rfl dL_law_324 rfl ?_
  refine r_iconst F dL_law_325 rfl ?_
  refine r_iadd F dL_law_326 rfl ?_
  refine r_sld F X (by omega) (by omega) (by omega) dL_law_327 rfl ?_
  refine r_eqz (z := x1) hx1.symm ?_
  refine r_callV F GC (c_X9_setInitialDelay l D cA B hM N_v0_R hi1) v_L_30 rfl hM.1 rfl ⟨Nat.le_of_ble_eq_true rfl, Nat.le_of_ble_eq_true rfl⟩ ⟨Nat.le_trans (Nat.add_le_add_right hc1 _) (Nat.le_of_ble_eq_true rfl), Nat.le_trans (Nat.add_le_add_right hs1 _) (Nat.le_of_ble_eq_true rfl)⟩ (Nat.le_of_ble_eq_true rfl) rfl dL_law_328 rfl (fun v L2 M2 n2 hp => ?_)
  obtain ⟨q5, -⟩ := hp
  subst q5
  exact r_same F (by rw [if_neg (Z_bg h), if_neg Z_bgN, Z_s h 5 (by omega)]) dL_law_331 (by decide) (J _ _ _ _ _ hc1 hs1)
set_option maxRecDepth 100000 in
set_option maxHeartbeats 800000 in
theorem K_4 {C : ja_C} {D : va_G} {cA : Nat → ClassId} {l : Launch} {B b L y m n cells slots : Nat} {lay : ja_Y} {mem : ja_M} {xs : Nat → Int32} (F : ja_F C RL cL_law 4 room_1) (GC : ja_G C l D cA B) (X : ja_X C b L xs) (hL : L = 5) (h : L_fr lay mem n y m) (hc : cells ≤ 1000) (hs : slots ≤ 40000) (J : ∀ (lay2 : ja_Y) (mem2 : ja_M) (n2 cells2 slots2 : Nat), cells2 ≤ 2000 → slots2 ≤ 60000 → ja_W C cells2 slots2 lay2 mem2 n2 1227 [some (.ref b), some (.ref y), some (.ref m), some (.int (ja_I 0))] []) : ja_W C cells slots lay mem n 336 [some (.ref b), some (.ref y), some (.ref m), some (.int (ja_I 0))] [] := by
  obtain ⟨hm, hn, hB, hM, hS1, hS2, hz, hv, hmz⟩ := id h
  have hO := h.BO
  obtain ⟨x1, hx1⟩ : ∃ z, z = (xs (Int.toNat (0 + 1))).toInt := ⟨_, rfl⟩
  have hi1 : ja_in x1 := by rw [hx1]; exact ja_range _
  obtain ⟨i1a, i1b⟩ := id hi1
  refine r_aload_n F rfl rfl dL_law_336 rfl ?_
  refine r_aload_n F rfl rfl dL_law_337 rfl ?_
  refine r_iload_n F rfl rfl dL_law_338 rfl ?_
  refine r_iconst F dL_law_339 rfl ?_
  refine r_iadd F dL_law_340 rfl ?_
  refine r_sld F X (by omega) (by omega) (by omega) dL_law_341 rfl ?_
  refine r_eqz (z := x1) hx1.symm ?_
  refine r_callV F GC (c_X8_setQuantile l D cA B hB hO hi1) v_L_31 rfl hB.1 rfl ⟨Nat.le_of_ble_eq_true rfl, Nat.le_of_ble_eq_true rfl⟩ ⟨Nat.le_trans (Nat.add_le_add_right hc _) (Nat.le_of_ble_eq_true rfl), Nat.le_trans (Nat.add_le_add_right hs _) (Nat.le_of_ble_eq_true rfl)⟩ (Nat.le_of_ble_eq_true rfl) rfl dL_law_342 rfl (fun v L1 M1 n1 hp => ?_)
  have hc1 : cells + rm_X8_setQuantile.cells ≤ 2000 := Nat.le_trans (Nat.add_le_add_right hc _) (Nat.le_of_ble_eq_true rfl)
  have hs1 : slots + rm_X8_setQuantile.slots ≤ 60000 := Nat.le_trans (Nat.add_le_add_right hs _) (Nat.le_of_ble_eq_true rfl)
  obtain ⟨q1, q2, q3, q4⟩ := hp
  subst q1; subst q2; subst q4
  have hf : ∀ q, m ≤ q → q < m + 9 → M1 q = mem q := fun q qa qb => by
      rw [← q3]
      split
      · rw [ja_up_row (by omega)]
      · rfl
  refine r_mem (mem' := ja_rw M1 (m + 1) N_v0) (by rw [← hv, ← hf (m + 1) (by omega) (by omega), ja_rw_self]) ?_
  refine r_aload_n F rfl rfl dL_law_345 rfl ?_
  refine r_aload_n F rfl rfl dL_law_346 rfl ?_
  refine r_iload_n F rfl rfl dL_law_347 rfl ?_
  refine r_iconst F dL_law_348 rfl ?_
  refine r_iadd F dL_law_349 rfl ?_
  refine r_sld F X (by omega) (by omega) (by omega) dL_law_350 rfl ?_
  refine r_eqz (z := x1) hx1.symm ?_
  refine r_callV F GC (c_X9_setQuantile l D cA B hM N_v0_R hi1) v_L_34 rfl hM.1 rfl ⟨Nat.le_of_ble_eq_true rfl, Nat.le_of_ble_eq_true rfl⟩ ⟨Nat.le_trans (Nat.add_le_add_right hc1 _) (Nat.le_of_ble_eq_true rfl), Nat.le_trans (Nat.add_le_add_right hs1 _) (Nat.le_of_ble_eq_true rfl)⟩ (Nat.le_of_ble_eq_true rfl) rfl dL_law_351 rfl (fun v L2 M2 n2 hp => ?_)
  obtain ⟨q5, -⟩ := hp
  subst q5
  exact r_same F (by rw [Z_s h 6 (by omega)]) dL_law_354 (by decide) (J _ _ _ _ _ hc1 hs1)
set_option maxRecDepth 100000 in
set_option maxHeartbeats 800000 in
theorem K_5 {C : ja_C} {D : va_G} {cA : Nat → ClassId} {l : Launch} {B b L y m n cells slots : Nat} {lay : ja_Y} {mem : ja_M} {xs : Nat → Int32} (F : ja_F C RL cL_law 4 room_1) (GC : ja_G C l D cA B) (X : ja_X C b L xs) (hL : L = 5) (h : L_fr lay mem n y m) (hc : cells ≤ 1000) (hs : slots ≤ 40000) (J : ∀ (lay2 : ja_Y) (mem2 : ja_M) (n2 cells2 slots2 : Nat), cells2 ≤ 2000 → slots2 ≤ 60000 → ja_W C cells2 slots2 lay2 mem2 n2 1227 [some (.ref b), some (.ref y), some (.ref m), some (.int (ja_I 0))] []) : ja_W C cells slots lay mem n 359 [some (.ref b), some (.ref y), some (.ref m), some (.int (ja_I 0))] [] := by
  obtain ⟨hm, hn, hB, hM, hS1, hS2, hz, hv, hmz⟩ := id h
  have hO := h.BO
  obtain ⟨x1, hx1⟩ : ∃ z, z = (xs (Int.toNat (0 + 1))).toInt := ⟨_, rfl⟩
  have hi1 : ja_in x1 := by rw [hx1]; exact ja_range _
  obtain ⟨i1a, i1b⟩ := id hi1
  refine r_aload_n F rfl rfl dL_law_359 rfl ?_
  refine r_aload_n F rfl rfl dL_law_360 rfl ?_
  refine r_iload_n F rfl rfl dL_law_361 rfl ?_
  refine r_iconst F dL_law_362 rfl ?_
  refine r_iadd F dL_law_363 rfl ?_
  refine r_sld F X (by omega) (by omega) (by omega) dL_law_364 rfl ?_
  refine r_eqz (z := x1) hx1.symm ?_
  refine r_callV F GC (c_X8_setMargin l D cA B hB hO hi1) v_L_35 rfl hB.1 rfl ⟨Nat.le_of_ble_eq_true rfl, Nat.le_of_ble_eq_true rfl⟩ ⟨Nat.le_trans (Nat.add_le_add_right hc _) (Nat.le_of_ble_eq_true rfl), Nat.le_trans (Nat.add_le_add_right hs _) (Nat.le_of_ble_eq_true rfl)⟩ (Nat.le_of_ble_eq_true rfl) rfl dL_law_365 rfl (fun v L1 M1 n1 hp => ?_)
  have hc1 : cells + rm_X8_setMargin.cells ≤ 2000 := Nat.le_trans (Nat.add_le_add_right hc _) (Nat.le_of_ble_eq_true rfl)
  have hs1 : slots + rm_X8_setMargin.slots ≤ 60000 := Nat.le_trans (Nat.add_le_add_right hs _) (Nat.le_of_ble_eq_true rfl)
  obtain ⟨q1, q2, q3, q4⟩ := hp
  subst q1; subst q2; subst q4
  have hf : ∀ q, m ≤ q → q < m + 9 → M1 q = mem q := fun q qa qb => by
      rw [← q3]
      split
      · rw [ja_up_row (by omega)]
      · rfl
  refine r_mem (mem' := ja_rw M1 (m + 1) N_v0) (by rw [← hv, ← hf (m + 1) (by omega) (by omega), ja_rw_self]) ?_
  refine r_aload_n F rfl rfl dL_law_368 rfl ?_
  refine r_aload_n F rfl rfl dL_law_369 rfl ?_
  refine r_iload_n F rfl rfl dL_law_370 rfl ?_
  refine r_iconst F dL_law_371 rfl ?_
  refine r_iadd F dL_law_372 rfl ?_
  refine r_sld F X (by omega) (by omega) (by omega) dL_law_373 rfl ?_
  refine r_eqz (z := x1) hx1.symm ?_
  refine r_callV F GC (c_X9_setMargin l D cA B hM N_v0_R hi1) v_L_38 rfl hM.1 rfl ⟨Nat.le_of_ble_eq_true rfl, Nat.le_of_ble_eq_true rfl⟩ ⟨Nat.le_trans (Nat.add_le_add_right hc1 _) (Nat.le_of_ble_eq_true rfl), Nat.le_trans (Nat.add_le_add_right hs1 _) (Nat.le_of_ble_eq_true rfl)⟩ (Nat.le_of_ble_eq_true rfl) rfl dL_law_374 rfl (fun v L2 M2 n2 hp => ?_)
  obtain ⟨q5, -⟩ := hp
  subst q5
  exact r_same F (by rw [Z_s h 7 (by omega)]) dL_law_377 (by decide) (J _ _ _ _ _ hc1 hs1)
set_option maxRecDepth 100000 in
set_option maxHeartbeats 800000 in
theorem K_6 {C : ja_C} {D : va_G} {cA : Nat → ClassId} {l : Launch} {B b L y m n cells slots : Nat} {lay : ja_Y} {mem : ja_M} {xs : Nat → Int32} (F : ja_F C RL cL_law 4 room_1) (GC : ja_G C l D cA B) (X : ja_X C b L xs) (hL : L = 5) (h : L_fr lay mem n y m) (hc : cells ≤ 1000) (hs : slots ≤ 40000) (J : ∀ (lay2 : ja_Y) (mem2 : ja_M) (n2 cells2 slots2 : Nat), cells2 ≤ 2000 → slots2 ≤ 60000 → ja_W C cells2 slots2 lay2 mem2 n2 1227 [some (.ref b), some (.ref y), some (.ref m), some (.int (ja_I 0))] []) : ja_W C cells slots lay mem n 382 [some (.ref b), some (.ref y), some (.ref m), some (.int (ja_I 0))] [] := by
  obtain ⟨hm, hn, hB, hM, hS1, hS2, hz, hv, hmz⟩ := id h
  have hO := h.BO
  obtain ⟨x1, hx1⟩ : ∃ z, z = (xs (Int.toNat (0 + 1))).toInt := ⟨_, rfl⟩
  have hi1 : ja_in x1 := by rw [hx1]; exact ja_range _
  obtain ⟨i1a, i1b⟩ := id hi1
  refine r_aload_n F rfl rfl dL_law_382 rfl ?_
  refine r_aload_n F rfl rfl dL_law_383 rfl ?_
  refine r_iload_n F rfl rfl dL_law_384 rfl ?_
  refine r_iconst F dL_law_385 rfl ?_
  refine r_iadd F dL_law_386 rfl ?_
  refine r_sld F X (by omega) (by omega) (by omega) dL_law_387 rfl ?_
  refine r_eqz (z := x1) hx1.symm ?_
  refine r_bool F hi1 dL_law_388 (by decide) dL_law_391 dL_law_392 (by decide) dL_law_395 rfl ?_
  refine r_callV F GC (c_X8_setAdapting l D cA B hB hO ja_b_r) v_L_39 rfl hB.1 rfl ⟨Nat.le_of_ble_eq_true rfl, Nat.le_of_ble_eq_true rfl⟩ ⟨Nat.le_trans (Nat.add_le_add_right hc _) (Nat.le_of_ble_eq_true rfl), Nat.le_trans (Nat.add_le_add_right hs _) (Nat.le_of_ble_eq_true rfl)⟩ (Nat.le_of_ble_eq_true rfl) rfl dL_law_396 rfl (fun v L1 M1 n1 hp => ?_)
  have hc1 : cells + rm_X8_setAdapting.cells ≤ 2000 := Nat.le_trans (Nat.add_le_add_right hc _) (Nat.le_of_ble_eq_true rfl)
  have hs1 : slots + rm_X8_setAdapting.slots ≤ 60000 := Nat.le_trans (Nat.add_le_add_right hs _) (Nat.le_of_ble_eq_true rfl)
  obtain ⟨q1, q2, q3, q4⟩ := hp
  subst q1; subst q2; subst q4
  have hf : ∀ q, m ≤ q → q < m + 9 → M1 q = mem q := fun q qa qb => by rw [← q3, ja_up_row (by omega)]
  refine r_mem (mem' := ja_rw M1 (m + 1) N_v0) (by rw [← hv, ← hf (m + 1) (by omega) (by omega), ja_rw_self]) ?_
  refine r_aload_n F rfl rfl dL_law_399 rfl ?_
  refine r_aload_n F rfl rfl dL_law_400 rfl ?_
  refine r_iload_n F rfl rfl dL_law_401 rfl ?_
  refine r_iconst F dL_law_402 rfl ?_
  refine r_iadd F dL_law_403 rfl ?_
  refine r_sld F X (by omega) (by omega) (by omega) dL_law_404 rfl ?_
  refine r_eqz (z := x1) hx1.symm ?_
  refine r_bool F hi1 dL_law_405 (by decide) dL_law_408 dL_law_409 (by decide) dL_law_412 rfl ?_
  refine r_callV F GC (c_X9_setAdapting l D cA B hM N_v0_R ja_b_r) v_L_43 rfl hM.1 rfl ⟨Nat.le_of_ble_eq_true rfl, Nat.le_of_ble_eq_true rfl⟩ ⟨Nat.le_trans (Nat.add_le_add_right hc1 _) (Nat.le_of_ble_eq_true rfl), Nat.le_trans (Nat.add_le_add_right hs1 _) (Nat.le_of_ble_eq_true rfl)⟩ (Nat.le_of_ble_eq_true rfl) rfl dL_law_413 rfl (fun v L2 M2 n2 hp => ?_)
  obtain ⟨q5, -⟩ := hp
  subst q5
  exact r_same F (Z_s h 8 (by omega)) dL_law_416 (by decide) (J _ _ _ _ _ hc1 hs1)
set_option maxRecDepth 100000 in
set_option maxHeartbeats 800000 in
theorem K_7 {C : ja_C} {D : va_G} {cA : Nat → ClassId} {l : Launch} {B b L y m n cells slots : Nat} {lay : ja_Y} {mem : ja_M} {xs : Nat → Int32} (F : ja_F C RL cL_law 4 room_1) (GC : ja_G C l D cA B) (X : ja_X C b L xs) (hL : L = 5) (h : L_fr lay mem n y m) (hc : cells ≤ 1000) (hs : slots ≤ 40000) (J : ∀ (lay2 : ja_Y) (mem2 : ja_M) (n2 cells2 slots2 : Nat), cells2 ≤ 2000 → slots2 ≤ 60000 → ja_W C cells2 slots2 lay2 mem2 n2 1227 [some (.ref b), some (.ref y), some (.ref m), some (.int (ja_I 0))] []) : ja_W C cells slots lay mem n 421 [some (.ref b), some (.ref y), some (.ref m), some (.int (ja_I 0))] [] := by
  obtain ⟨hm, hn, hB, hM, hS1, hS2, hz, hv, hmz⟩ := id h
  have hO := h.BO
  obtain ⟨x1, hx1⟩ : ∃ z, z = (xs (Int.toNat (0 + 1))).toInt := ⟨_, rfl⟩
  have hi1 : ja_in x1 := by rw [hx1]; exact ja_range _
  obtain ⟨i1a, i1b⟩ := id hi1
  refine r_aload_n F rfl rfl dL_law_421 rfl ?_
  refine r_aload_n F rfl rfl dL_law_422 rfl ?_
  refine r_iload_n F rfl rfl dL_law_423 rfl ?_
  refine r_iconst F dL_law_424 rfl ?_
  refine r_iadd F dL_law_425 rfl ?_
  refine r_sld F X (by omega) (by omega) (by omega) dL_law_426 rfl ?_
  refine r_eqz (z := x1) hx1.symm ?_
  refine r_callV F GC (c_X8_arrive l D cA B hB hO hi1 (by omega)) v_L_44 rfl hB.1 rfl ⟨Nat.le_of_ble_eq_true rfl, Nat.le_of_ble_eq_true rfl⟩ ⟨Nat.le_trans (Nat.add_le_add_right hc _) (Nat.le_of_ble_eq_true rfl), Nat.le_trans (Nat.add_le_add_right hs _) (Nat.le_of_ble_eq_true rfl)⟩ (Nat.le_of_ble_eq_true rfl) rfl dL_law_427 rfl (fun v L1 M1 n1 hp => ?_)
  have hc1 : cells + rm_X8_arrive.cells ≤ 2000 := Nat.le_trans (Nat.add_le_add_right hc _) (Nat.le_of_ble_eq_true rfl)
  have hs1 : slots + rm_X8_arrive.slots ≤ 60000 := Nat.le_trans (Nat.add_le_add_right hs _) (Nat.le_of_ble_eq_true rfl)
  obtain ⟨q1, q2, q3, q4⟩ := hp
  subst q1; subst q2; subst q4
  have hf : ∀ q, m ≤ q → q < m + 9 → M1 q = mem q := fun q qa qb => by
      rw [← q3]
      split
      · exact R_af_f (by omega)
      · rfl
  refine r_mem (mem' := ja_rw M1 (m + 1) N_v0) (by rw [← hv, ← hf (m + 1) (by omega) (by omega), ja_rw_self]) ?_
  refine r_aload_n F rfl rfl dL_law_430 rfl ?_
  refine r_aload_n F rfl rfl dL_law_431 rfl ?_
  refine r_iload_n F rfl rfl dL_law_432 rfl ?_
  refine r_iconst F dL_law_433 rfl ?_
  refine r_iadd F dL_law_434 rfl ?_
  refine r_sld F X (by omega) (by omega) (by omega) dL_law_435 rfl ?_
  refine r_eqz (z := x1) hx1.symm ?_
  refine r_callV F GC (c_X9_arrive l D cA B hM N_v0_O (by omega) hi1) v_L_47 rfl hM.1 rfl ⟨Nat.le_of_ble_eq_true rfl, Nat.le_of_ble_eq_true rfl⟩ ⟨Nat.le_trans (Nat.add_le_add_right hc1 _) (Nat.le_of_ble_eq_true rfl), Nat.le_trans (Nat.add_le_add_right hs1 _) (Nat.le_of_ble_eq_true rfl)⟩ (Nat.le_of_ble_eq_true rfl) rfl dL_law_436 rfl (fun v L2 M2 n2 hp => ?_)
  obtain ⟨q5, -⟩ := hp
  subst q5
  exact r_same F (ja_if Iff.rfl (fun q => (Z_an h.R x1).trans (Z_Nan q).symm) rfl) dL_law_439 (by decide) (J _ _ _ _ _ hc1 hs1)
set_option maxRecDepth 100000 in
set_option maxHeartbeats 800000 in
theorem K_8 {C : ja_C} {D : va_G} {cA : Nat → ClassId} {l : Launch} {B b L y m n cells slots : Nat} {lay : ja_Y} {mem : ja_M} {xs : Nat → Int32} (F : ja_F C RL cL_law 4 room_1) (GC : ja_G C l D cA B) (X : ja_X C b L xs) (hL : L = 5) (h : L_fr lay mem n y m) (hc : cells ≤ 1000) (hs : slots ≤ 40000) (J : ∀ (lay2 : ja_Y) (mem2 : ja_M) (n2 cells2 slots2 : Nat), cells2 ≤ 2000 → slots2 ≤ 60000 → ja_W C cells2 slots2 lay2 mem2 n2 1227 [some (.ref b), some (.ref y), some (.ref m), some (.int (ja_I 0))] []) : ja_W C cells slots lay mem n 444 [some (.ref b), some (.ref y), some (.ref m), some (.int (ja_I 0))] [] := by
  obtain ⟨hm, hn, hB, hM, hS1, hS2, hz, hv, hmz⟩ := id h
  have hO := h.BO
  obtain ⟨x1, hx1⟩ : ∃ z, z = (xs (Int.toNat (0 + 1))).toInt := ⟨_, rfl⟩
  have hi1 : ja_in x1 := by rw [hx1]; exact ja_range _
  obtain ⟨i1a, i1b⟩ := id hi1
  obtain ⟨x2, hx2⟩ : ∃ z, z = (xs (Int.toNat (0 + 2))).toInt := ⟨_, rfl⟩
  have hi2 : ja_in x2 := by rw [hx2]; exact ja_range _
  obtain ⟨i2a, i2b⟩ := id hi2
  obtain ⟨x3, hx3⟩ : ∃ z, z = (xs (Int.toNat (0 + 3))).toInt := ⟨_, rfl⟩
  have hi3 : ja_in x3 := by rw [hx3]; exact ja_range _
  obtain ⟨i3a, i3b⟩ := id hi3
  refine r_aload_n F rfl rfl dL_law_444 rfl ?_
  refine r_aload_n F rfl rfl dL_law_445 rfl ?_
  refine r_iload_n F rfl rfl dL_law_446 rfl ?_
  refine r_iconst F dL_law_447 rfl ?_
  refine r_iadd F dL_law_448 rfl ?_
  refine r_sld F X (by omega) (by omega) (by omega) dL_law_449 rfl ?_
  refine r_eqz (z := x1) hx1.symm ?_
  refine r_bool F hi1 dL_law_450 (by decide) dL_law_453 dL_law_454 (by decide) dL_law_457 rfl ?_
  refine r_aload_n F rfl rfl dL_law_458 rfl ?_
  refine r_iload_n F rfl rfl dL_law_459 rfl ?_
  refine r_iconst F dL_law_460 rfl ?_
  refine r_iadd F dL_law_461 rfl ?_
  refine r_sld F X (by omega) (by omega) (by omega) dL_law_462 rfl ?_
  refine r_eqz (z := x2) hx2.symm ?_
  refine r_aload_n F rfl rfl dL_law_463 rfl ?_
  refine r_iload_n F rfl rfl dL_law_464 rfl ?_
  refine r_iconst F dL_law_465 rfl ?_
  refine r_iadd F dL_law_466 rfl ?_
  refine r_sld F X (by omega) (by omega) (by omega) dL_law_467 rfl ?_
  refine r_eqz (z := x3) hx3.symm ?_
  refine r_callV F GC (c_X8_arriveParity l D cA B hB hO ja_b_in hi2 hi3 ja_b_r) v_L_48 rfl hB.1 rfl ⟨Nat.le_of_ble_eq_true rfl, Nat.le_of_ble_eq_true rfl⟩ ⟨Nat.le_trans (Nat.add_le_add_right hc _) (Nat.le_of_ble_eq_true rfl), Nat.le_trans (Nat.add_le_add_right hs _) (Nat.le_of_ble_eq_true rfl)⟩ (Nat.le_of_ble_eq_true rfl) rfl dL_law_468 rfl (fun v L1 M1 n1 hp => ?_)
  have hc1 : cells + rm_X8_arriveParity.cells ≤ 2000 := Nat.le_trans (Nat.add_le_add_right hc _) (Nat.le_of_ble_eq_true rfl)
  have hs1 : slots + rm_X8_arriveParity.slots ≤ 60000 := Nat.le_trans (Nat.add_le_add_right hs _) (Nat.le_of_ble_eq_true rfl)
  obtain ⟨q1, q2, q3, q4⟩ := hp
  subst q1; subst q2; subst q4
  have hf : ∀ q, m ≤ q → q < m + 9 → M1 q = mem q := fun q qa qb => by
      rw [← q3]
      split
      · exact R_ap_f (by omega)
      · rfl
  refine r_mem (mem' := ja_rw M1 (m + 1) N_v0) (by rw [← hv, ← hf (m + 1) (by omega) (by omega), ja_rw_self]) ?_
  refine r_aload_n F rfl rfl dL_law_471 rfl ?_
  refine r_aload_n F rfl rfl dL_law_472 rfl ?_
  refine r_iload_n F rfl rfl dL_law_473 rfl ?_
  refine r_iconst F dL_law_474 rfl ?_
  refine r_iadd F dL_law_475 rfl ?_
  refine r_sld F X (by omega) (by omega) (by omega) dL_law_476 rfl ?_
  refine r_eqz (z := x1) hx1.symm ?_
  refine r_bool F hi1 dL_law_477 (by decide) dL_law_480 dL_law_481 (by decide) dL_law_484 rfl ?_
  refine r_aload_n F rfl rfl dL_law_485 rfl ?_
  refine r_iload_n F rfl rfl dL_law_486 rfl ?_
  refine r_iconst F dL_law_487 rfl ?_
  refine r_iadd F dL_law_488 rfl ?_
  refine r_sld F X (by omega) (by omega) (by omega) dL_law_489 rfl ?_
  refine r_eqz (z := x2) hx2.symm ?_
  refine r_aload_n F rfl rfl dL_law_490 rfl ?_
  refine r_iload_n F rfl rfl dL_law_491 rfl ?_
  refine r_iconst F dL_law_492 rfl ?_
  refine r_iadd F dL_law_493 rfl ?_
  refine r_sld F X (by omega) (by omega) (by omega) dL_law_494 rfl ?_
  refine r_eqz (z := x3) hx3.symm ?_
  refine r_callV F GC (c_X9_arriveParity l D cA B hM N_v0_O (by omega) ja_b_r hi2 hi3) v_L_52 rfl hM.1 rfl ⟨Nat.le_of_ble_eq_true rfl, Nat.le_of_ble_eq_true rfl⟩ ⟨Nat.le_trans (Nat.add_le_add_right hc1 _) (Nat.le_of_ble_eq_true rfl), Nat.le_trans (Nat.add_le_add_right hs1 _) (Nat.le_of_ble_eq_true rfl)⟩ (Nat.le_of_ble_eq_true rfl) rfl dL_law_495 rfl (fun v L2 M2 n2 hp => ?_)
  obtain ⟨q5, -⟩ := hp
  subst q5
  exact r_same F (ja_if (ja_hasP_N (Z_s h) _ _ _) (fun q => (Z_pn h.R ((ja_hasP_N (Z_s h) _ _ _).mpr q)).trans (Z_qn q).symm) rfl) dL_law_498 (by decide) (J _ _ _ _ _ hc1 hs1)
set_option maxRecDepth 100000 in
set_option maxHeartbeats 800000 in
theorem K_9 {C : ja_C} {D : va_G} {cA : Nat → ClassId} {l : Launch} {B b L y m n cells slots : Nat} {lay : ja_Y} {mem : ja_M} {xs : Nat → Int32} (F : ja_F C RL cL_law 4 room_1) (GC : ja_G C l D cA B) (X : ja_X C b L xs) (hL : L = 5) (h : L_fr lay mem n y m) (hc : cells ≤ 1000) (hs : slots ≤ 40000) (J : ∀ (lay2 : ja_Y) (mem2 : ja_M) (n2 cells2 slots2 : Nat), cells2 ≤ 2000 → slots2 ≤ 60000 → ja_W C cells2 slots2 lay2 mem2 n2 1227 [some (.ref b), some (.ref y), some (.ref m), some (.int (ja_I 0))] []) : ja_W C cells slots lay mem n 503 [some (.ref b), some (.ref y), some (.ref m), some (.int (ja_I 0))] [] := by
  obtain ⟨hm, hn, hB, hM, hS1, hS2, hz, hv, hmz⟩ := id h
  have hO := h.BO
  obtain ⟨x1, hx1⟩ : ∃ z, z = (xs (Int.toNat (0 + 1))).toInt := ⟨_, rfl⟩
  have hi1 : ja_in x1 := by rw [hx1]; exact ja_range _
  obtain ⟨i1a, i1b⟩ := id hi1
  refine r_aload_n F rfl rfl dL_law_503 rfl ?_
  refine r_aload_n F rfl rfl dL_law_504 rfl ?_
  refine r_iload_n F rfl rfl dL_law_505 rfl ?_
  refine r_iconst F dL_law_506 rfl ?_
  refine r_iadd F dL_law_507 rfl ?_
  refine r_sld F X (by omega) (by omega) (by omega) dL_law_508 rfl ?_
  refine r_eqz (z := x1) hx1.symm ?_
  refine r_callV F GC (c_X8_advance l D cA B hB hO hi1 (by omega)) v_L_53 rfl hB.1 rfl ⟨Nat.le_of_ble_eq_true rfl, Nat.le_of_ble_eq_true rfl⟩ ⟨Nat.le_trans (Nat.add_le_add_right hc _) (Nat.le_of_ble_eq_true rfl), Nat.le_trans (Nat.add_le_add_right hs _) (Nat.le_of_ble_eq_true rfl)⟩ (Nat.le_of_ble_eq_true rfl) rfl dL_law_509 rfl (fun v L1 M1 n1 hp => ?_)
  have hc1 : cells + rm_X8_advance.cells ≤ 2000 := Nat.le_trans (Nat.add_le_add_right hc _) (Nat.le_of_ble_eq_true rfl)
  have hs1 : slots + rm_X8_advance.slots ≤ 60000 := Nat.le_trans (Nat.add_le_add_right hs _) (Nat.le_of_ble_eq_true rfl)
  obtain ⟨q1, q2, q3, q4⟩ := hp
  subst q1; subst q2; subst q4
  have hf : ∀ q, m ≤ q → q < m + 9 → M1 q = mem q := fun q qa qb => by
      rw [← q3]
      split
      · exact B_adv_f (by omega) _
      · rfl
  refine r_mem (mem' := ja_rw M1 (m + 1) N_v0) (by rw [← hv, ← hf (m + 1) (by omega) (by omega), ja_rw_self]) ?_
  refine r_aload_n F rfl rfl dL_law_512 rfl ?_
  refine r_aload_n F rfl rfl dL_law_513 rfl ?_
  refine r_iload_n F rfl rfl dL_law_514 rfl ?_
  refine r_iconst F dL_law_515 rfl ?_
  refine r_iadd F dL_law_516 rfl ?_
  refine r_sld F X (by omega) (by omega) (by omega) dL_law_517 rfl ?_
  refine r_eqz (z := x1) hx1.symm ?_
  refine r_callV F GC (c_X9_advance l D cA B hM N_v0_O (by omega) hi1) v_L_56 rfl hM.1 rfl ⟨Nat.le_of_ble_eq_true rfl, Nat.le_of_ble_eq_true rfl⟩ ⟨Nat.le_trans (Nat.add_le_add_right hc1 _) (Nat.le_of_ble_eq_true rfl), Nat.le_trans (Nat.add_le_add_right hs1 _) (Nat.le_of_ble_eq_true rfl)⟩ (Nat.le_of_ble_eq_true rfl) rfl dL_law_518 rfl (fun v L2 M2 n2 hp => ?_)
  obtain ⟨q5, -⟩ := hp
  subst q5
  exact r_same F (ja_if Iff.rfl (fun _ => by rw [(Z_adv (Z_I1 h) _).2 _ _ (by omega), Z_at N_v0_J, Int.sub_self]) rfl) dL_law_521 (by decide) (J _ _ _ _ _ hc1 hs1)
set_option maxRecDepth 100000 in
set_option maxHeartbeats 800000 in
theorem K_10 {C : ja_C} {D : va_G} {cA : Nat → ClassId} {l : Launch} {B b L y m n cells slots : Nat} {lay : ja_Y} {mem : ja_M} {xs : Nat → Int32} (F : ja_F C RL cL_law 4 room_1) (GC : ja_G C l D cA B) (X : ja_X C b L xs) (hL : L = 5) (h : L_fr lay mem n y m) (hc : cells ≤ 1000) (hs : slots ≤ 40000) (J : ∀ (lay2 : ja_Y) (mem2 : ja_M) (n2 cells2 slots2 : Nat), cells2 ≤ 2000 → slots2 ≤ 60000 → ja_W C cells2 slots2 lay2 mem2 n2 1227 [some (.ref b), some (.ref y), some (.ref m), some (.int (ja_I 0))] []) : ja_W C cells slots lay mem n 526 [some (.ref b), some (.ref y), some (.ref m), some (.int (ja_I 0))] [] := by
  obtain ⟨hm, hn, hB, hM, hS1, hS2, hz, hv, hmz⟩ := id h
  have hO := h.BO
  refine r_aload_n F rfl rfl dL_law_526 rfl ?_
  refine r_callV F GC (c_X8_time l D cA B hB hO ) v_L_57 rfl hB.1 rfl ⟨Nat.le_of_ble_eq_true rfl, Nat.le_of_ble_eq_true rfl⟩ ⟨Nat.le_trans (Nat.add_le_add_right hc _) (Nat.le_of_ble_eq_true rfl), Nat.le_trans (Nat.add_le_add_right hs _) (Nat.le_of_ble_eq_true rfl)⟩ (Nat.le_of_ble_eq_true rfl) rfl dL_law_527 rfl (fun v L1 M1 n1 hp => ?_)
  have hc1 : cells + rm_X8_time.cells ≤ 2000 := Nat.le_trans (Nat.add_le_add_right hc _) (Nat.le_of_ble_eq_true rfl)
  have hs1 : slots + rm_X8_time.slots ≤ 60000 := Nat.le_trans (Nat.add_le_add_right hs _) (Nat.le_of_ble_eq_true rfl)
  obtain ⟨q1, q2, q3, q4⟩ := hp
  subst q1; subst q2; subst q4
  have hf : ∀ q, m ≤ q → q < m + 9 → M1 q = mem q := fun q qa qb => by rw [← q3]
  refine r_mem (mem' := ja_rw M1 (m + 1) N_v0) (by rw [← hv, ← hf (m + 1) (by omega) (by omega), ja_rw_self]) ?_
  refine r_aload_n F rfl rfl dL_law_530 rfl ?_
  refine r_callV F GC (c_X9_time l D cA B hM N_v0_R) v_L_61 rfl hM.1 rfl ⟨Nat.le_of_ble_eq_true rfl, Nat.le_of_ble_eq_true rfl⟩ ⟨Nat.le_trans (Nat.add_le_add_right hc1 _) (Nat.le_of_ble_eq_true rfl), Nat.le_trans (Nat.add_le_add_right hs1 _) (Nat.le_of_ble_eq_true rfl)⟩ (Nat.le_of_ble_eq_true rfl) rfl dL_law_531 rfl (fun v L2 M2 n2 hp => ?_)
  obtain ⟨q5, -⟩ := hp
  subst q5
  exact r_same F (by rw [show mem (y + 1) 6 = 0 from Z_z h (c := 0) (j := 6) (by omega) (by omega)]; rfl) dL_law_534 (by decide) (J _ _ _ _ _ hc1 hs1)
set_option maxRecDepth 100000 in
set_option maxHeartbeats 800000 in
theorem K_11 {C : ja_C} {D : va_G} {cA : Nat → ClassId} {l : Launch} {B b L y m n cells slots : Nat} {lay : ja_Y} {mem : ja_M} {xs : Nat → Int32} (F : ja_F C RL cL_law 4 room_1) (GC : ja_G C l D cA B) (X : ja_X C b L xs) (hL : L = 5) (h : L_fr lay mem n y m) (hc : cells ≤ 1000) (hs : slots ≤ 40000) (J : ∀ (lay2 : ja_Y) (mem2 : ja_M) (n2 cells2 slots2 : Nat), cells2 ≤ 2000 → slots2 ≤ 60000 → ja_W C cells2 slots2 lay2 mem2 n2 1227 [some (.ref b), some (.ref y), some (.ref m), some (.int (ja_I 0))] []) : ja_W C cells slots lay mem n 539 [some (.ref b), some (.ref y), some (.ref m), some (.int (ja_I 0))] [] := by
  obtain ⟨hm, hn, hB, hM, hS1, hS2, hz, hv, hmz⟩ := id h
  have hO := h.BO
  refine r_aload_n F rfl rfl dL_law_539 rfl ?_
  refine r_callV F GC (c_X8_start l D cA B hB hO ) v_L_62 rfl hB.1 rfl ⟨Nat.le_of_ble_eq_true rfl, Nat.le_of_ble_eq_true rfl⟩ ⟨Nat.le_trans (Nat.add_le_add_right hc _) (Nat.le_of_ble_eq_true rfl), Nat.le_trans (Nat.add_le_add_right hs _) (Nat.le_of_ble_eq_true rfl)⟩ (Nat.le_of_ble_eq_true rfl) rfl dL_law_540 rfl (fun v L1 M1 n1 hp => ?_)
  have hc1 : cells + rm_X8_start.cells ≤ 2000 := Nat.le_trans (Nat.add_le_add_right hc _) (Nat.le_of_ble_eq_true rfl)
  have hs1 : slots + rm_X8_start.slots ≤ 60000 := Nat.le_trans (Nat.add_le_add_right hs _) (Nat.le_of_ble_eq_true rfl)
  obtain ⟨q1, q2, q3, q4⟩ := hp
  subst q1; subst q2; subst q4
  have hf : ∀ q, m ≤ q → q < m + 9 → M1 q = mem q := fun q qa qb => by rw [← q3]
  refine r_mem (mem' := ja_rw M1 (m + 1) N_v0) (by rw [← hv, ← hf (m + 1) (by omega) (by omega), ja_rw_self]) ?_
  refine r_aload_n F rfl rfl dL_law_543 rfl ?_
  refine r_callV F GC (c_X9_start l D cA B hM N_v0_R) v_L_65 rfl hM.1 rfl ⟨Nat.le_of_ble_eq_true rfl, Nat.le_of_ble_eq_true rfl⟩ ⟨Nat.le_trans (Nat.add_le_add_right hc1 _) (Nat.le_of_ble_eq_true rfl), Nat.le_trans (Nat.add_le_add_right hs1 _) (Nat.le_of_ble_eq_true rfl)⟩ (Nat.le_of_ble_eq_true rfl) rfl dL_law_544 rfl (fun v L2 M2 n2 hp => ?_)
  obtain ⟨q5, -⟩ := hp
  subst q5
  exact r_same F (by rw [if_pos (Z_z h (c := 0) (j := 7) (by omega) (by omega)), if_pos (by decide)]) dL_law_547 (by decide) (J _ _ _ _ _ hc1 hs1)
set_option maxRecDepth 100000 in
set_option maxHeartbeats 800000 in
theorem K_12 {C : ja_C} {D : va_G} {cA : Nat → ClassId} {l : Launch} {B b L y m n cells slots : Nat} {lay : ja_Y} {mem : ja_M} {xs : Nat → Int32} (F : ja_F C RL cL_law 4 room_1) (GC : ja_G C l D cA B) (X : ja_X C b L xs) (hL : L = 5) (h : L_fr lay mem n y m) (hc : cells ≤ 1000) (hs : slots ≤ 40000) (J : ∀ (lay2 : ja_Y) (mem2 : ja_M) (n2 cells2 slots2 : Nat), cells2 ≤ 2000 → slots2 ≤ 60000 → ja_W C cells2 slots2 lay2 mem2 n2 1227 [some (.ref b), some (.ref y), some (.ref m), some (.int (ja_I 0))] []) : ja_W C cells slots lay mem n 552 [some (.ref b), some (.ref y), some (.ref m), some (.int (ja_I 0))] [] := by
  obtain ⟨hm, hn, hB, hM, hS1, hS2, hz, hv, hmz⟩ := id h
  have hO := h.BO
  obtain ⟨x1, hx1⟩ : ∃ z, z = (xs (Int.toNat (0 + 1))).toInt := ⟨_, rfl⟩
  have hi1 : ja_in x1 := by rw [hx1]; exact ja_range _
  obtain ⟨i1a, i1b⟩ := id hi1
  refine r_aload_n F rfl rfl dL_law_552 rfl ?_
  refine r_aload_n F rfl rfl dL_law_553 rfl ?_
  refine r_iload_n F rfl rfl dL_law_554 rfl ?_
  refine r_iconst F dL_law_555 rfl ?_
  refine r_iadd F dL_law_556 rfl ?_
  refine r_sld F X (by omega) (by omega) (by omega) dL_law_557 rfl ?_
  refine r_eqz (z := x1) hx1.symm ?_
  refine r_callV F GC (c_X8_output l D cA B hB hO hi1) v_L_66 rfl hB.1 rfl ⟨Nat.le_of_ble_eq_true rfl, Nat.le_of_ble_eq_true rfl⟩ ⟨Nat.le_trans (Nat.add_le_add_right hc _) (Nat.le_of_ble_eq_true rfl), Nat.le_trans (Nat.add_le_add_right hs _) (Nat.le_of_ble_eq_true rfl)⟩ (Nat.le_of_ble_eq_true rfl) rfl dL_law_558 rfl (fun v L1 M1 n1 hp => ?_)
  have hc1 : cells + rm_X8_output.cells ≤ 2000 := Nat.le_trans (Nat.add_le_add_right hc _) (Nat.le_of_ble_eq_true rfl)
  have hs1 : slots + rm_X8_output.slots ≤ 60000 := Nat.le_trans (Nat.add_le_add_right hs _) (Nat.le_of_ble_eq_true rfl)
  obtain ⟨q1, q2, q3, q4⟩ := hp
  subst q1; subst q2; subst q4
  have hf : ∀ q, m ≤ q → q < m + 9 → M1 q = mem q := fun q qa qb => by rw [← q3]
  refine r_mem (mem' := ja_rw M1 (m + 1) N_v0) (by rw [← hv, ← hf (m + 1) (by omega) (by omega), ja_rw_self]) ?_
  refine r_aload_n F rfl rfl dL_law_561 rfl ?_
  refine r_aload_n F rfl rfl dL_law_562 rfl ?_
  refine r_iload_n F rfl rfl dL_law_563 rfl ?_
  refine r_iconst F dL_law_564 rfl ?_
  refine r_iadd F dL_law_565 rfl ?_
  refine r_sld F X (by omega) (by omega) (by omega) dL_law_566 rfl ?_
  refine r_eqz (z := x1) hx1.symm ?_
  refine r_callV F GC (c_X9_output l D cA B hM N_v0_R hi1) v_L_69 rfl hM.1 rfl ⟨Nat.le_of_ble_eq_true rfl, Nat.le_of_ble_eq_true rfl⟩ ⟨Nat.le_trans (Nat.add_le_add_right hc1 _) (Nat.le_of_ble_eq_true rfl), Nat.le_trans (Nat.add_le_add_right hs1 _) (Nat.le_of_ble_eq_true rfl)⟩ (Nat.le_of_ble_eq_true rfl) rfl dL_law_567 rfl (fun v L2 M2 n2 hp => ?_)
  obtain ⟨q5, -⟩ := hp
  subst q5
  exact r_same F (Z_ou h x1) dL_law_570 (by decide) (J _ _ _ _ _ hc1 hs1)
set_option maxRecDepth 100000 in
set_option maxHeartbeats 800000 in
theorem K_13 {C : ja_C} {D : va_G} {cA : Nat → ClassId} {l : Launch} {B b L y m n cells slots : Nat} {lay : ja_Y} {mem : ja_M} {xs : Nat → Int32} (F : ja_F C RL cL_law 4 room_1) (GC : ja_G C l D cA B) (X : ja_X C b L xs) (hL : L = 5) (h : L_fr lay mem n y m) (hc : cells ≤ 1000) (hs : slots ≤ 40000) (J : ∀ (lay2 : ja_Y) (mem2 : ja_M) (n2 cells2 slots2 : Nat), cells2 ≤ 2000 → slots2 ≤ 60000 → ja_W C cells2 slots2 lay2 mem2 n2 1227 [some (.ref b), some (.ref y), some (.ref m), some (.int (ja_I 0))] []) : ja_W C cells slots lay mem n 575 [some (.ref b), some (.ref y), some (.ref m), some (.int (ja_I 0))] [] := by
  obtain ⟨hm, hn, hB, hM, hS1, hS2, hz, hv, hmz⟩ := id h
  have hO := h.BO
  refine r_aload_n F rfl rfl dL_law_575 rfl ?_
  refine r_callV F GC (c_X8_outputs l D cA B hB hO ) v_L_70 rfl hB.1 rfl ⟨Nat.le_of_ble_eq_true rfl, Nat.le_of_ble_eq_true rfl⟩ ⟨Nat.le_trans (Nat.add_le_add_right hc _) (Nat.le_of_ble_eq_true rfl), Nat.le_trans (Nat.add_le_add_right hs _) (Nat.le_of_ble_eq_true rfl)⟩ (Nat.le_of_ble_eq_true rfl) rfl dL_law_576 rfl (fun v L1 M1 n1 hp => ?_)
  have hc1 : cells + rm_X8_outputs.cells ≤ 2000 := Nat.le_trans (Nat.add_le_add_right hc _) (Nat.le_of_ble_eq_true rfl)
  have hs1 : slots + rm_X8_outputs.slots ≤ 60000 := Nat.le_trans (Nat.add_le_add_right hs _) (Nat.le_of_ble_eq_true rfl)
  obtain ⟨q1, q2, q3, q4⟩ := hp
  subst q1; subst q2; subst q4
  have hf : ∀ q, m ≤ q → q < m + 9 → M1 q = mem q := fun q qa qb => by rw [← q3]
  refine r_mem (mem' := ja_rw M1 (m + 1) N_v0) (by rw [← hv, ← hf (m + 1) (by omega) (by omega), ja_rw_self]) ?_
  refine r_aload_n F rfl rfl dL_law_579 rfl ?_
  refine r_callV F GC (c_X9_outputs l D cA B hM N_v0_R) v_L_73 rfl hM.1 rfl ⟨Nat.le_of_ble_eq_true rfl, Nat.le_of_ble_eq_true rfl⟩ ⟨Nat.le_trans (Nat.add_le_add_right hc1 _) (Nat.le_of_ble_eq_true rfl), Nat.le_trans (Nat.add_le_add_right hs1 _) (Nat.le_of_ble_eq_true rfl)⟩ (Nat.le_of_ble_eq_true rfl) rfl dL_law_580 rfl (fun v L2 M2 n2 hp => ?_)
  obtain ⟨q5, -⟩ := hp
  subst q5
  exact r_same F (by rw [show mem (y + 1 + 9) 4 = 0 from Z_z h (c := 9) (j := 4) (by omega) (by omega)]; rfl) dL_law_583 (by decide) (J _ _ _ _ _ hc1 hs1)
set_option maxRecDepth 100000 in
set_option maxHeartbeats 800000 in
theorem K_14 {C : ja_C} {D : va_G} {cA : Nat → ClassId} {l : Launch} {B b L y m n cells slots : Nat} {lay : ja_Y} {mem : ja_M} {xs : Nat → Int32} (F : ja_F C RL cL_law 4 room_1) (GC : ja_G C l D cA B) (X : ja_X C b L xs) (hL : L = 5) (h : L_fr lay mem n y m) (hc : cells ≤ 1000) (hs : slots ≤ 40000) (J : ∀ (lay2 : ja_Y) (mem2 : ja_M) (n2 cells2 slots2 : Nat), cells2 ≤ 2000 → slots2 ≤ 60000 → ja_W C cells2 slots2 lay2 mem2 n2 1227 [some (.ref b), some (.ref y), some (.ref m), some (.int (ja_I 0))] []) : ja_W C cells slots lay mem n 588 [some (.ref b), some (.ref y), some (.ref m), some (.int (ja_I 0))] [] := by
  obtain ⟨hm, hn, hB, hM, hS1, hS2, hz, hv, hmz⟩ := id h
  have hO := h.BO
  refine r_aload_n F rfl rfl dL_law_588 rfl ?_
  refine r_callV F GC (c_X8_left l D cA B hB hO ) v_L_74 rfl hB.1 rfl ⟨Nat.le_of_ble_eq_true rfl, Nat.le_of_ble_eq_true rfl⟩ ⟨Nat.le_trans (Nat.add_le_add_right hc _) (Nat.le_of_ble_eq_true rfl), Nat.le_trans (Nat.add_le_add_right hs _) (Nat.le_of_ble_eq_true rfl)⟩ (Nat.le_of_ble_eq_true rfl) rfl dL_law_589 rfl (fun v L1 M1 n1 hp => ?_)
  have hc1 : cells + rm_X8_left.cells ≤ 2000 := Nat.le_trans (Nat.add_le_add_right hc _) (Nat.le_of_ble_eq_true rfl)
  have hs1 : slots + rm_X8_left.slots ≤ 60000 := Nat.le_trans (Nat.add_le_add_right hs _) (Nat.le_of_ble_eq_true rfl)
  obtain ⟨q1, q2, q3, q4⟩ := hp
  subst q1; subst q2; subst q4
  have hf : ∀ q, m ≤ q → q < m + 9 → M1 q = mem q := fun q qa qb => by rw [← q3]
  refine r_mem (mem' := ja_rw M1 (m + 1) N_v0) (by rw [← hv, ← hf (m + 1) (by omega) (by omega), ja_rw_self]) ?_
  refine r_aload_n F rfl rfl dL_law_592 rfl ?_
  refine r_callV F GC (c_X9_left l D cA B hM N_v0_R) v_L_77 rfl hM.1 rfl ⟨Nat.le_of_ble_eq_true rfl, Nat.le_of_ble_eq_true rfl⟩ ⟨Nat.le_trans (Nat.add_le_add_right hc1 _) (Nat.le_of_ble_eq_true rfl), Nat.le_trans (Nat.add_le_add_right hs1 _) (Nat.le_of_ble_eq_true rfl)⟩ (Nat.le_of_ble_eq_true rfl) rfl dL_law_593 rfl (fun v L2 M2 n2 hp => ?_)
  obtain ⟨q5, -⟩ := hp
  subst q5
  exact r_same F (by rw [Z_z h (c := 9) (j := 1) (by omega) (by omega), Z_z h (c := 9) (j := 2) (by omega) (by omega)]; rfl) dL_law_596 (by decide) (J _ _ _ _ _ hc1 hs1)
