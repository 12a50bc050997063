section
set_option maxRecDepth 100000 in
set_option maxHeartbeats 800000 in
theorem K_0 {C : ja_C} {D : va_G} {cA : Nat → ClassId} {l : Launch} {B b L y n cells slots k : Nat} {i : Int} {lay : ja_Y} {mem : ja_M} {sl : Nat → Option Nat} {xs : Nat → Int32} (F : ja_F C RL cL_law 4 room_1) (GC : ja_G C l D cA B) (X : ja_X C b L xs) (hL : L ≤ 2560) (hi : i = 5 * (k : Int)) (hk : 5 * k + 5 ≤ L) (h : L_In S0 lay mem n y sl (500 * (k : Int))) (hc : cells ≤ 1000 + 20 * k) (hs : slots ≤ 40000 + 1269 * k) (J : ∀ (lay2 : ja_Y) (mem2 : ja_M) (n2 : Nat) (sl2 : Nat → Option Nat) (cells2 slots2 : Nat), L_In S0 lay2 mem2 n2 y sl2 (500 * (k : Int) + 500) → cells2 ≤ 1000 + 20 * k + 20 → slots2 ≤ 40000 + 1269 * k + 1269 → ja_W C cells2 slots2 lay2 mem2 n2 1226 [some (.ref b), some (.ref y), some (.ref (y + 49)), some (.int (ja_I i))] []) : ja_W C cells slots lay mem n 224 [some (.ref b), some (.ref y), some (.ref (y + 49)), some (.int (ja_I i))] [] := by
  obtain ⟨⟨hB, hO, hn, hso, hsd⟩, ⟨hM, hN, hTO, hz4, hkp⟩, hT, hx, hsl⟩ := id h
  have hSOK : S_ok S0 := S0_ok
  have hk512 : k ≤ 512 := by omega
  have hc0 : cells ≤ 500000 := by omega
  have hs0 : slots ≤ 5000000 := by omega
  obtain ⟨x1, hx1⟩ : ∃ z, z = (xs (Int.toNat (i + 1))).toInt := ⟨_, rfl⟩
  have hi1 : ja_in x1 := by rw [hx1]; exact ja_range _
  obtain ⟨i1a, i1b⟩ := id hi1
  refine r_aload_n F rfl rfl dL_law_224 rfl ?_
  refine r_aload_n F rfl rfl dL_law_225 rfl ?_
  refine r_iload_n F rfl rfl dL_law_226 rfl ?_
  refine r_iconst F dL_law_227 rfl ?_
  refine r_iadd F dL_law_228 rfl ?_
  refine r_sld F X (by omega) (by omega) (by omega) dL_law_229 rfl ?_
  refine r_eqz (z := x1) hx1.symm ?_
  refine r_callV F GC (c_X8_setFrame l D cA B hB hO hi1) v_L_13 rfl hB.1 rfl ⟨(Nat.le_of_ble_eq_true rfl), (Nat.le_of_ble_eq_true rfl)⟩ ⟨Nat.le_trans (Nat.add_le_add_right hc0 _) (Nat.le_of_ble_eq_true rfl), Nat.le_trans (Nat.add_le_add_right hs0 _) (Nat.le_of_ble_eq_true rfl)⟩ (Nat.le_of_ble_eq_true rfl) rfl dL_law_230 rfl (fun v L1 M1 n1 hp => ?_)
  have hc1 : cells + rm_X8_setFrame.cells ≤ 1000 + 20 * k + 20 := Nat.add_le_add hc (Nat.le_of_ble_eq_true rfl)
  have hs1 : slots + rm_X8_setFrame.slots ≤ 40000 + 1269 * k + 1269 := Nat.add_le_add hs (Nat.le_of_ble_eq_true rfl)
  have hc2 : cells + rm_X8_setFrame.cells ≤ 500000 := by omega
  have hs2 : slots + rm_X8_setFrame.slots ≤ 5000000 := by omega
  obtain ⟨q1, q2, q3, q4⟩ := hp
  subst q1; subst q2; subst q4
  have cF : ∀ q, y + 41 ≤ q → M1 q = mem q := fun q qa => by
      rw [← q3]
      split
      · exact ja_up_row (by omega)
      · rfl
  have c1 : ∀ q, y + 49 ≤ q → q < y + 58 → M1 q = mem q := fun q qa _ => cF q (by omega)
  have cB : ja_BO M1 y sl (500 * (k : Int) + 500) := by
      rw [← q3]
      split
      · rename_i q
        exact BO_recv (by omega) hO (fun i o hi ho => by have := hso i o hi ho; omega) ((RO_up (j := 0) hO.1 (show 4 ≤ x1 ∧ x1 ≤ 16 by omega) (by omega) (Or.inl ⟨by omega, by omega⟩)).mono (by omega)) (fun q hq => ja_up_row (by omega))
      · exact BO_cg (by omega) hO (fun _ _ _ => rfl) (fun _ _ _ _ _ _ _ => rfl)
  refine r_pop F rfl dL_law_233 rfl ?_
  refine r_mem (mem' := ja_rw M1 (y + 49 + 1) (mem (y + 49 + 1))) (by rw [← c1 (y + 49 + 1) (by omega) (by omega), ja_rw_self]) ?_
  have hTO1 : N_TO M1 (y + 49) := N_TO_c (by rw [c1 _ (by omega) (by omega)]) (c1 _ (by omega) (by omega)) hTO
  have hz1 : ∀ j, 0 ≤ M1 (y + 49 + 4) j ∧ M1 (y + 49 + 4) j ≤ 1 := fun j => by rw [c1 _ (by omega) (by omega)]; exact hz4 j
  refine r_aload_n F rfl rfl dL_law_234 rfl ?_
  refine r_aload_n F rfl rfl dL_law_235 rfl ?_
  refine r_iload_n F rfl rfl dL_law_236 rfl ?_
  refine r_iconst F dL_law_237 rfl ?_
  refine r_iadd F dL_law_238 rfl ?_
  refine r_sld F X (by omega) (by omega) (by omega) dL_law_239 rfl ?_
  refine r_eqz (z := x1) hx1.symm ?_
  refine r_callV F GC (c_X9_setFrame l D cA B hM hN.1 hi1) v_L_17 rfl hM.1 rfl ⟨(Nat.le_of_ble_eq_true rfl), (Nat.le_of_ble_eq_true rfl)⟩ ⟨Nat.le_trans (Nat.add_le_add_right hc2 _) (Nat.le_of_ble_eq_true rfl), Nat.le_trans (Nat.add_le_add_right hs2 _) (Nat.le_of_ble_eq_true rfl)⟩ (Nat.le_of_ble_eq_true rfl) rfl dL_law_240 rfl (fun v L2 M2 n2 hp => ?_)
  obtain ⟨q5, q6, q7, q8⟩ := hp
  subst q5; subst q6; subst q8
  have hIn := In_step2 hSOK h q7 (fun q hq => cF q (by omega)) (by rw [cF _ (by omega)]) (cF _ (by omega)) cB N_rf.rf (by
      split
      · rename_i q
        exact (N_O_up (j := 0) hN (show 4 ≤ x1 ∧ x1 ≤ 16 by omega) (by omega) (Or.inl ⟨by omega, by omega⟩)).mono (by omega)
      · exact hN.mono (by omega)) (by rw [← q3]; exact hSOK.2.2.1 _ _ _ _ _ _ _ (by omega) hO.1 hN hT)
  refine r_pop F rfl dL_law_243 rfl ?_
  refine r_goto F (tgt := 1226) dL_law_244 (by decide) ?_
  exact J _ _ _ _ _ _ hIn (Nat.le_trans (Nat.add_le_add_left ((Nat.le_of_ble_eq_true rfl) : rm_X9_setFrame.cells ≤ 0) _) hc1) (Nat.le_trans (Nat.add_le_add_left ((Nat.le_of_ble_eq_true rfl) : rm_X9_setFrame.slots ≤ 0) _) hs1)
set_option maxRecDepth 100000 in
set_option maxHeartbeats 800000 in
theorem K_1 {C : ja_C} {D : va_G} {cA : Nat → ClassId} {l : Launch} {B b L y n cells slots k : Nat} {i : Int} {lay : ja_Y} {mem : ja_M} {sl : Nat → Option Nat} {xs : Nat → Int32} (F : ja_F C RL cL_law 4 room_1) (GC : ja_G C l D cA B) (X : ja_X C b L xs) (hL : L ≤ 2560) (hi : i = 5 * (k : Int)) (hk : 5 * k + 5 ≤ L) (h : L_In S0 lay mem n y sl (500 * (k : Int))) (hc : cells ≤ 1000 + 20 * k) (hs : slots ≤ 40000 + 1269 * k) (J : ∀ (lay2 : ja_Y) (mem2 : ja_M) (n2 : Nat) (sl2 : Nat → Option Nat) (cells2 slots2 : Nat), L_In S0 lay2 mem2 n2 y sl2 (500 * (k : Int) + 500) → cells2 ≤ 1000 + 20 * k + 20 → slots2 ≤ 40000 + 1269 * k + 1269 → ja_W C cells2 slots2 lay2 mem2 n2 1226 [some (.ref b), some (.ref y), some (.ref (y + 49)), some (.int (ja_I i))] []) : ja_W C cells slots lay mem n 247 [some (.ref b), some (.ref y), some (.ref (y + 49)), some (.int (ja_I i))] [] := by
  obtain ⟨⟨hB, hO, hn, hso, hsd⟩, ⟨hM, hN, hTO, hz4, hkp⟩, hT, hx, hsl⟩ := id h
  have hSOK : S_ok S0 := S0_ok
  have hk512 : k ≤ 512 := by omega
  have hc0 : cells ≤ 500000 := by omega
  have hs0 : slots ≤ 5000000 := by omega
  obtain ⟨x1, hx1⟩ : ∃ z, z = (xs (Int.toNat (i + 1))).toInt := ⟨_, rfl⟩
  have hi1 : ja_in x1 := by rw [hx1]; exact ja_range _
  obtain ⟨i1a, i1b⟩ := id hi1
  obtain ⟨x2, hx2⟩ : ∃ z, z = (xs (Int.toNat (i + 2))).toInt := ⟨_, rfl⟩
  have hi2 : ja_in x2 := by rw [hx2]; exact ja_range _
  obtain ⟨i2a, i2b⟩ := id hi2
  refine r_aload_n F rfl rfl dL_law_247 rfl ?_
  refine r_aload_n F rfl rfl dL_law_248 rfl ?_
  refine r_iload_n F rfl rfl dL_law_249 rfl ?_
  refine r_iconst F dL_law_250 rfl ?_
  refine r_iadd F dL_law_251 rfl ?_
  refine r_sld F X (by omega) (by omega) (by omega) dL_law_252 rfl ?_
  refine r_eqz (z := x1) hx1.symm ?_
  refine r_aload_n F rfl rfl dL_law_253 rfl ?_
  refine r_iload_n F rfl rfl dL_law_254 rfl ?_
  refine r_iconst F dL_law_255 rfl ?_
  refine r_iadd F dL_law_256 rfl ?_
  refine r_sld F X (by omega) (by omega) (by omega) dL_law_257 rfl ?_
  refine r_eqz (z := x2) hx2.symm ?_
  refine r_callV F GC (c_X8_setWave l D cA B hB hO hi1 hi2) v_L_18 rfl hB.1 rfl ⟨(Nat.le_of_ble_eq_true rfl), (Nat.le_of_ble_eq_true rfl)⟩ ⟨Nat.le_trans (Nat.add_le_add_right hc0 _) (Nat.le_of_ble_eq_true rfl), Nat.le_trans (Nat.add_le_add_right hs0 _) (Nat.le_of_ble_eq_true rfl)⟩ (Nat.le_of_ble_eq_true rfl) rfl dL_law_258 rfl (fun v L1 M1 n1 hp => ?_)
  have hc1 : cells + rm_X8_setWave.cells ≤ 1000 + 20 * k + 20 := Nat.add_le_add hc (Nat.le_of_ble_eq_true rfl)
  have hs1 : slots + rm_X8_setWave.slots ≤ 40000 + 1269 * k + 1269 := Nat.add_le_add hs (Nat.le_of_ble_eq_true rfl)
  have hc2 : cells + rm_X8_setWave.cells ≤ 500000 := by omega
  have hs2 : slots + rm_X8_setWave.slots ≤ 5000000 := by omega
  obtain ⟨q1, q2, q3, q4⟩ := hp
  subst q1; subst q2; subst q4
  have cF : ∀ q, y + 41 ≤ q → M1 q = mem q := fun q qa => by
      rw [← q3]
      split
      · rw [ja_up_row (by omega), ja_up_row (by omega)]
      · rfl
  have c1 : ∀ q, y + 49 ≤ q → q < y + 58 → M1 q = mem q := fun q qa _ => cF q (by omega)
  have cB : ja_BO M1 y sl (500 * (k : Int) + 500) := by
      rw [← q3]
      split
      · rename_i q
        exact BO_recv (by omega) hO (fun i o hi ho => by have := hso i o hi ho; omega) ((RO_up (j := 2) (RO_up (j := 1) hO.1 (show 2 ≤ x1 ∧ x1 ≤ 32 by omega) (by omega) (Or.inl ⟨by omega, by omega⟩)) (show 1 ≤ x2 ∧ x2 ≤ 200 by omega) (by omega) (Or.inl ⟨by omega, by omega⟩)).mono (by omega)) (fun q hq => (ja_up_row (by omega)).trans (ja_up_row (by omega)))
      · exact BO_cg (by omega) hO (fun _ _ _ => rfl) (fun _ _ _ _ _ _ _ => rfl)
  refine r_pop F rfl dL_law_261 rfl ?_
  refine r_mem (mem' := ja_rw M1 (y + 49 + 1) (mem (y + 49 + 1))) (by rw [← c1 (y + 49 + 1) (by omega) (by omega), ja_rw_self]) ?_
  have hTO1 : N_TO M1 (y + 49) := N_TO_c (by rw [c1 _ (by omega) (by omega)]) (c1 _ (by omega) (by omega)) hTO
  have hz1 : ∀ j, 0 ≤ M1 (y + 49 + 4) j ∧ M1 (y + 49 + 4) j ≤ 1 := fun j => by rw [c1 _ (by omega) (by omega)]; exact hz4 j
  refine r_aload_n F rfl rfl dL_law_262 rfl ?_
  refine r_aload_n F rfl rfl dL_law_263 rfl ?_
  refine r_iload_n F rfl rfl dL_law_264 rfl ?_
  refine r_iconst F dL_law_265 rfl ?_
  refine r_iadd F dL_law_266 rfl ?_
  refine r_sld F X (by omega) (by omega) (by omega) dL_law_267 rfl ?_
  refine r_eqz (z := x1) hx1.symm ?_
  refine r_aload_n F rfl rfl dL_law_268 rfl ?_
  refine r_iload_n F rfl rfl dL_law_269 rfl ?_
  refine r_iconst F dL_law_270 rfl ?_
  refine r_iadd F dL_law_271 rfl ?_
  refine r_sld F X (by omega) (by omega) (by omega) dL_law_272 rfl ?_
  refine r_eqz (z := x2) hx2.symm ?_
  refine r_callV F GC (c_X9_setWave l D cA B hM hN.1 hi1 hi2) v_L_22 rfl hM.1 rfl ⟨(Nat.le_of_ble_eq_true rfl), (Nat.le_of_ble_eq_true rfl)⟩ ⟨Nat.le_trans (Nat.add_le_add_right hc2 _) (Nat.le_of_ble_eq_true rfl), Nat.le_trans (Nat.add_le_add_right hs2 _) (Nat.le_of_ble_eq_true rfl)⟩ (Nat.le_of_ble_eq_true rfl) rfl dL_law_273 rfl (fun v L2 M2 n2 hp => ?_)
  obtain ⟨q5, q6, q7, q8⟩ := hp
  subst q5; subst q6; subst q8
  have hIn := In_step2 hSOK h q7 (fun q hq => cF q (by omega)) (by rw [cF _ (by omega)]) (cF _ (by omega)) cB N_rf.rf (by
      split
      · rename_i q
        exact (N_O_up (j := 2) (N_O_up (j := 1) hN (show 2 ≤ x1 ∧ x1 ≤ 32 by omega) (by omega) (Or.inl ⟨by omega, by omega⟩)) (show 1 ≤ x2 ∧ x2 ≤ 200 by omega) (by omega) (Or.inl ⟨by omega, by omega⟩)).mono (by omega)
      · exact hN.mono (by omega)) (by rw [← q3]; exact hSOK.2.2.2.1 _ _ _ _ _ _ _ _ _ (by omega) (by omega) hO.1 hN hT)
  refine r_pop F rfl dL_law_276 rfl ?_
  refine r_goto F (tgt := 1226) dL_law_277 (by decide) ?_
  exact J _ _ _ _ _ _ hIn (Nat.le_trans (Nat.add_le_add_left ((Nat.le_of_ble_eq_true rfl) : rm_X9_setWave.cells ≤ 0) _) hc1) (Nat.le_trans (Nat.add_le_add_left ((Nat.le_of_ble_eq_true rfl) : rm_X9_setWave.slots ≤ 0) _) hs1)
set_option maxRecDepth 100000 in
set_option maxHeartbeats 800000 in
theorem K_2 {C : ja_C} {D : va_G} {cA : Nat → ClassId} {l : Launch} {B b L y n cells slots k : Nat} {i : Int} {lay : ja_Y} {mem : ja_M} {sl : Nat → Option Nat} {xs : Nat → Int32} (F : ja_F C RL cL_law 4 room_1) (GC : ja_G C l D cA B) (X : ja_X C b L xs) (hL : L ≤ 2560) (hi : i = 5 * (k : Int)) (hk : 5 * k + 5 ≤ L) (h : L_In S0 lay mem n y sl (500 * (k : Int))) (hc : cells ≤ 1000 + 20 * k) (hs : slots ≤ 40000 + 1269 * k) (J : ∀ (lay2 : ja_Y) (mem2 : ja_M) (n2 : Nat) (sl2 : Nat → Option Nat) (cells2 slots2 : Nat), L_In S0 lay2 mem2 n2 y sl2 (500 * (k : Int) + 500) → cells2 ≤ 1000 + 20 * k + 20 → slots2 ≤ 40000 + 1269 * k + 1269 → ja_W C cells2 slots2 lay2 mem2 n2 1226 [some (.ref b), some (.ref y), some (.ref (y + 49)), some (.int (ja_I i))] []) : ja_W C cells slots lay mem n 280 [some (.ref b), some (.ref y), some (.ref (y + 49)), some (.int (ja_I i))] [] := by
  obtain ⟨⟨hB, hO, hn, hso, hsd⟩, ⟨hM, hN, hTO, hz4, hkp⟩, hT, hx, hsl⟩ := id h
  have hSOK : S_ok S0 := S0_ok
  have hk512 : k ≤ 512 := by omega
  have hc0 : cells ≤ 500000 := by omega
  have hs0 : slots ≤ 5000000 := by omega
  obtain ⟨x1, hx1⟩ : ∃ z, z = (xs (Int.toNat (i + 1))).toInt := ⟨_, rfl⟩
  have hi1 : ja_in x1 := by rw [hx1]; exact ja_range _
  obtain ⟨i1a, i1b⟩ := id hi1
  obtain ⟨x2, hx2⟩ : ∃ z, z = (xs (Int.toNat (i + 2))).toInt := ⟨_, rfl⟩
  have hi2 : ja_in x2 := by rw [hx2]; exact ja_range _
  obtain ⟨i2a, i2b⟩ := id hi2
  refine r_aload_n F rfl rfl dL_law_280 rfl ?_
  refine r_aload_n F rfl rfl dL_law_281 rfl ?_
  refine r_iload_n F rfl rfl dL_law_282 rfl ?_
  refine r_iconst F dL_law_283 rfl ?_
  refine r_iadd F dL_law_284 rfl ?_
  refine r_sld F X (by omega) (by omega) (by omega) dL_law_285 rfl ?_
  refine r_eqz (z := x1) hx1.symm ?_
  refine r_aload_n F rfl rfl dL_law_286 rfl ?_
  refine r_iload_n F rfl rfl dL_law_287 rfl ?_
  refine r_iconst F dL_law_288 rfl ?_
  refine r_iadd F dL_law_289 rfl ?_
  refine r_sld F X (by omega) (by omega) (by omega) dL_law_290 rfl ?_
  refine r_eqz (z := x2) hx2.symm ?_
  refine r_callV F GC (c_X8_setBlock l D cA B hB hO hi1 hi2) v_L_23 rfl hB.1 rfl ⟨(Nat.le_of_ble_eq_true rfl), (Nat.le_of_ble_eq_true rfl)⟩ ⟨Nat.le_trans (Nat.add_le_add_right hc0 _) (Nat.le_of_ble_eq_true rfl), Nat.le_trans (Nat.add_le_add_right hs0 _) (Nat.le_of_ble_eq_true rfl)⟩ (Nat.le_of_ble_eq_true rfl) rfl dL_law_291 rfl (fun v L1 M1 n1 hp => ?_)
  have hc1 : cells + rm_X8_setBlock.cells ≤ 1000 + 20 * k + 20 := Nat.add_le_add hc (Nat.le_of_ble_eq_true rfl)
  have hs1 : slots + rm_X8_setBlock.slots ≤ 40000 + 1269 * k + 1269 := Nat.add_le_add hs (Nat.le_of_ble_eq_true rfl)
  have hc2 : cells + rm_X8_setBlock.cells ≤ 500000 := by omega
  have hs2 : slots + rm_X8_setBlock.slots ≤ 5000000 := by omega
  obtain ⟨q1, q2, q3, q4⟩ := hp
  subst q1; subst q2; subst q4
  have cF : ∀ q, y + 41 ≤ q → M1 q = mem q := fun q qa => by
      rw [← q3]
      split
      · rw [ja_up_row (by omega), ja_up_row (by omega)]
      · rfl
  have c1 : ∀ q, y + 49 ≤ q → q < y + 58 → M1 q = mem q := fun q qa _ => cF q (by omega)
  have cB : ja_BO M1 y sl (500 * (k : Int) + 500) := by
      rw [← q3]
      split
      · rename_i q
        have hbg0 : mem (y + 1 + 15) 4 ≤ 0 := Int.not_lt.mp (fun r => q.2 (Or.inr r))
        exact BO_recv (by omega) hO (fun i o hi ho => by have := hso i o hi ho; omega) ((RO_up (j := 4) (RO_up (j := 3) hO.1 (show 2 ≤ x1 ∧ x1 ≤ 6 by omega) (by omega) (Or.inr hbg0)) (show 2 ≤ x2 ∧ x2 ≤ 6 by omega) (by omega) (Or.inr (by rw [ja_up_a (by omega)]; exact hbg0))).mono (by omega)) (fun q hq => (ja_up_row (by omega)).trans (ja_up_row (by omega)))
      · exact BO_cg (by omega) hO (fun _ _ _ => rfl) (fun _ _ _ _ _ _ _ => rfl)
  refine r_pop F rfl dL_law_294 rfl ?_
  refine r_mem (mem' := ja_rw M1 (y + 49 + 1) (mem (y + 49 + 1))) (by rw [← c1 (y + 49 + 1) (by omega) (by omega), ja_rw_self]) ?_
  have hTO1 : N_TO M1 (y + 49) := N_TO_c (by rw [c1 _ (by omega) (by omega)]) (c1 _ (by omega) (by omega)) hTO
  have hz1 : ∀ j, 0 ≤ M1 (y + 49 + 4) j ∧ M1 (y + 49 + 4) j ≤ 1 := fun j => by rw [c1 _ (by omega) (by omega)]; exact hz4 j
  refine r_aload_n F rfl rfl dL_law_295 rfl ?_
  refine r_aload_n F rfl rfl dL_law_296 rfl ?_
  refine r_iload_n F rfl rfl dL_law_297 rfl ?_
  refine r_iconst F dL_law_298 rfl ?_
  refine r_iadd F dL_law_299 rfl ?_
  refine r_sld F X (by omega) (by omega) (by omega) dL_law_300 rfl ?_
  refine r_eqz (z := x1) hx1.symm ?_
  refine r_aload_n F rfl rfl dL_law_301 rfl ?_
  refine r_iload_n F rfl rfl dL_law_302 rfl ?_
  refine r_iconst F dL_law_303 rfl ?_
  refine r_iadd F dL_law_304 rfl ?_
  refine r_sld F X (by omega) (by omega) (by omega) dL_law_305 rfl ?_
  refine r_eqz (z := x2) hx2.symm ?_
  refine r_callV F GC (c_X9_setBlock l D cA B hM hN.1 hi1 hi2) v_L_26 rfl hM.1 rfl ⟨(Nat.le_of_ble_eq_true rfl), (Nat.le_of_ble_eq_true rfl)⟩ ⟨Nat.le_trans (Nat.add_le_add_right hc2 _) (Nat.le_of_ble_eq_true rfl), Nat.le_trans (Nat.add_le_add_right hs2 _) (Nat.le_of_ble_eq_true rfl)⟩ (Nat.le_of_ble_eq_true rfl) rfl dL_law_306 rfl (fun v L2 M2 n2 hp => ?_)
  obtain ⟨q5, q6, q7, q8⟩ := hp
  subst q5; subst q6; subst q8
  have hIn := In_step2 hSOK h q7 (fun q hq => cF q (by omega)) (by rw [cF _ (by omega)]) (cF _ (by omega)) cB N_rf.rf (by
      split
      · rename_i q
        have hvb0 : (mem (y + 49 + 1)) 25 ≤ 0 := Int.not_lt.mp (fun r => q.2 (Or.inr r))
        exact (N_O_up (j := 4) (N_O_up (j := 3) hN (show 2 ≤ x1 ∧ x1 ≤ 6 by omega) (by omega) (Or.inr hvb0)) (show 2 ≤ x2 ∧ x2 ≤ 6 by omega) (by omega) (Or.inr (by rw [ja_rs_n (by omega)]; exact hvb0))).mono (by omega)
      · exact hN.mono (by omega)) (by rw [← q3]; exact hSOK.2.2.2.1 _ _ _ _ _ _ _ _ _ (by omega) (by omega) hO.1 hN hT)
  refine r_pop F rfl dL_law_309 rfl ?_
  refine r_goto F (tgt := 1226) dL_law_310 (by decide) ?_
  exact J _ _ _ _ _ _ hIn (Nat.le_trans (Nat.add_le_add_left ((Nat.le_of_ble_eq_true rfl) : rm_X9_setBlock.cells ≤ 0) _) hc1) (Nat.le_trans (Nat.add_le_add_left ((Nat.le_of_ble_eq_true rfl) : rm_X9_setBlock.slots ≤ 0) _) hs1)
set_option maxRecDepth 100000 in
set_option maxHeartbeats 800000 in
theorem K_3 {C : ja_C} {D : va_G} {cA : Nat → ClassId} {l : Launch} {B b L y n cells slots k : Nat} {i : Int} {lay : ja_Y} {mem : ja_M} {sl : Nat → Option Nat} {xs : Nat → Int32} (F : ja_F C RL cL_law 4 room_1) (GC : ja_G C l D cA B) (X : ja_X C b L xs) (hL : L ≤ 2560) (hi : i = 5 * (k : Int)) (hk : 5 * k + 5 ≤ L) (h : L_In S0 lay mem n y sl (500 * (k : Int))) (hc : cells ≤ 1000 + 20 * k) (hs : slots ≤ 40000 + 1269 * k) (J : ∀ (lay2 : ja_Y) (mem2 : ja_M) (n2 : Nat) (sl2 : Nat → Option Nat) (cells2 slots2 : Nat), L_In S0 lay2 mem2 n2 y sl2 (500 * (k : Int) + 500) → cells2 ≤ 1000 + 20 * k + 20 → slots2 ≤ 40000 + 1269 * k + 1269 → ja_W C cells2 slots2 lay2 mem2 n2 1226 [some (.ref b), some (.ref y), some (.ref (y + 49)), some (.int (ja_I i))] []) : ja_W C cells slots lay mem n 313 [some (.ref b), some (.ref y), some (.ref (y + 49)), some (.int (ja_I i))] [] := by
  obtain ⟨⟨hB, hO, hn, hso, hsd⟩, ⟨hM, hN, hTO, hz4, hkp⟩, hT, hx, hsl⟩ := id h
  have hSOK : S_ok S0 := S0_ok
  have hk512 : k ≤ 512 := by omega
  have hc0 : cells ≤ 500000 := by omega
  have hs0 : slots ≤ 5000000 := by omega
  obtain ⟨x1, hx1⟩ : ∃ z, z = (xs (Int.toNat (i + 1))).toInt := ⟨_, rfl⟩
  have hi1 : ja_in x1 := by rw [hx1]; exact ja_range _
  obtain ⟨i1a, i1b⟩ := id hi1
  refine r_aload_n F rfl rfl dL_law_313 rfl ?_
  refine r_aload_n F rfl rfl dL_law_314 rfl ?_
  refine r_iload_n F rfl rfl dL_law_315 rfl ?_
  refine r_iconst F dL_law_316 rfl ?_
  refine r_iadd F dL_law_317 rfl ?_
  refine r_sld F X (by omega) (by omega) (by omega) dL_law_318 rfl ?_
  refine r_eqz (z := x1) hx1.symm ?_
  refine r_callV F GC (c_X8_setInitialDelay l D cA B hB hO hi1) v_L_27 rfl hB.1 rfl ⟨(Nat.le_of_ble_eq_true rfl), (Nat.le_of_ble_eq_true rfl)⟩ ⟨Nat.le_trans (Nat.add_le_add_right hc0 _) (Nat.le_of_ble_eq_true rfl), Nat.le_trans (Nat.add_le_add_right hs0 _) (Nat.le_of_ble_eq_true rfl)⟩ (Nat.le_of_ble_eq_true rfl) rfl dL_law_319 rfl (fun v L1 M1 n1 hp => ?_)
  have hc1 : cells + rm_X8_setInitialDelay.cells ≤ 1000 + 20 * k + 20 := Nat.add_le_add hc (Nat.le_of_ble_eq_true rfl)
  have hs1 : slots + rm_X8_setInitialDelay.slots ≤ 40000 + 1269 * k + 1269 := Nat.add_le_add hs (Nat.le_of_ble_eq_true rfl)
  have hc2 : cells + rm_X8_setInitialDelay.cells ≤ 500000 := by omega
  have hs2 : slots + rm_X8_setInitialDelay.slots ≤ 5000000 := by omega
  obtain ⟨q1, q2, q3, q4⟩ := hp
  subst q1; subst q2; subst q4
  have cF : ∀ q, y + 41 ≤ q → M1 q = mem q := fun q qa => by
      rw [← q3]
      split
      · exact ja_up_row (by omega)
      · rfl
  have c1 : ∀ q, y + 49 ≤ q → q < y + 58 → M1 q = mem q := fun q qa _ => cF q (by omega)
  have cB : ja_BO M1 y sl (500 * (k : Int) + 500) := by
      rw [← q3]
      split
      · rename_i q
        exact BO_recv (by omega) hO (fun i o hi ho => by have := hso i o hi ho; omega) ((RO_up (j := 5) hO.1 (show 0 ≤ x1 ∧ x1 ≤ 200 by omega) (by omega) (Or.inl ⟨by omega, by omega⟩)).mono (by omega)) (fun q hq => ja_up_row (by omega))
      · exact BO_cg (by omega) hO (fun _ _ _ => rfl) (fun _ _ _ _ _ _ _ => rfl)
  refine r_pop F rfl dL_law_322 rfl ?_
  refine r_mem (mem' := ja_rw M1 (y + 49 + 1) (mem (y + 49 + 1))) (by rw [← c1 (y + 49 + 1) (by omega) (by omega), ja_rw_self]) ?_
  have hTO1 : N_TO M1 (y + 49) := N_TO_c (by rw [c1 _ (by omega) (by omega)]) (c1 _ (by omega) (by omega)) hTO
  have hz1 : ∀ j, 0 ≤ M1 (y + 49 + 4) j ∧ M1 (y + 49 + 4) j ≤ 1 := fun j => by rw [c1 _ (by omega) (by omega)]; exact hz4 j
  refine r_aload_n F rfl rfl dL_law_323 rfl ?_
  refine r_aload_n F rfl rfl dL_law_324 rfl ?_
  refine r_iload_n F rfl rfl dL_law_325 rfl ?_
  refine r_iconst F dL_law_326 rfl ?_
  refine r_iadd F dL_law_327 rfl ?_
  refine r_sld F X (by omega) (by omega) (by omega) dL_law_328 rfl ?_
  refine r_eqz (z := x1) hx1.symm ?_
  refine r_callV F GC (c_X9_setInitialDelay l D cA B hM hN.1 hi1) v_L_30 rfl hM.1 rfl ⟨(Nat.le_of_ble_eq_true rfl), (Nat.le_of_ble_eq_true rfl)⟩ ⟨Nat.le_trans (Nat.add_le_add_right hc2 _) (Nat.le_of_ble_eq_true rfl), Nat.le_trans (Nat.add_le_add_right hs2 _) (Nat.le_of_ble_eq_true rfl)⟩ (Nat.le_of_ble_eq_true rfl) rfl dL_law_329 rfl (fun v L2 M2 n2 hp => ?_)
  obtain ⟨q5, q6, q7, q8⟩ := hp
  subst q5; subst q6; subst q8
  have hIn := In_step2 hSOK h q7 (fun q hq => cF q (by omega)) (by rw [cF _ (by omega)]) (cF _ (by omega)) cB N_rf.rf (by
      split
      · rename_i q
        exact (N_O_up (j := 5) hN (show 0 ≤ x1 ∧ x1 ≤ 200 by omega) (by omega) (Or.inl ⟨by omega, by omega⟩)).mono (by omega)
      · exact hN.mono (by omega)) (by rw [← q3]; exact hSOK.2.2.1 _ _ _ _ _ _ _ (by omega) hO.1 hN hT)
  refine r_pop F rfl dL_law_332 rfl ?_
  refine r_goto F (tgt := 1226) dL_law_333 (by decide) ?_
  exact J _ _ _ _ _ _ hIn (Nat.le_trans (Nat.add_le_add_left ((Nat.le_of_ble_eq_true rfl) : rm_X9_setInitialDelay.cells ≤ 0) _) hc1) (Nat.le_trans (Nat.add_le_add_left ((Nat.le_of_ble_eq_true rfl) : rm_X9_setInitialDelay.slots ≤ 0) _) hs1)
set_option maxRecDepth 100000 in
set_option maxHeartbeats 800000 in
theorem K_4 {C : ja_C} {D : va_G} {cA : Nat → ClassId} {l : Launch} {B b L y n cells slots k : Nat} {i : Int} {lay : ja_Y} {mem : ja_M} {sl : Nat → Option Nat} {xs : Nat → Int32} (F : ja_F C RL cL_law 4 room_1) (GC : ja_G C l D cA B) (X : ja_X C b L xs) (hL : L ≤ 2560) (hi : i = 5 * (k : Int)) (hk : 5 * k + 5 ≤ L) (h : L_In S0 lay mem n y sl (500 * (k : Int))) (hc : cells ≤ 1000 + 20 * k) (hs : slots ≤ 40000 + 1269 * k) (J : ∀ (lay2 : ja_Y) (mem2 : ja_M) (n2 : Nat) (sl2 : Nat → Option Nat) (cells2 slots2 : Nat), L_In S0 lay2 mem2 n2 y sl2 (500 * (k : Int) + 500) → cells2 ≤ 1000 + 20 * k + 20 → slots2 ≤ 40000 + 1269 * k + 1269 → ja_W C cells2 slots2 lay2 mem2 n2 1226 [some (.ref b), some (.ref y), some (.ref (y + 49)), some (.int (ja_I i))] []) : ja_W C cells slots lay mem n 336 [some (.ref b), some (.ref y), some (.ref (y + 49)), some (.int (ja_I i))] [] := by
  obtain ⟨⟨hB, hO, hn, hso, hsd⟩, ⟨hM, hN, hTO, hz4, hkp⟩, hT, hx, hsl⟩ := id h
  have hSOK : S_ok S0 := S0_ok
  have hk512 : k ≤ 512 := by omega
  have hc0 : cells ≤ 500000 := by omega
  have hs0 : slots ≤ 5000000 := by omega
  obtain ⟨x1, hx1⟩ : ∃ z, z = (xs (Int.toNat (i + 1))).toInt := ⟨_, rfl⟩
  have hi1 : ja_in x1 := by rw [hx1]; exact ja_range _
  obtain ⟨i1a, i1b⟩ := id hi1
  refine r_aload_n F rfl rfl dL_law_336 rfl ?_
  refine r_aload_n F rfl rfl dL_law_337 rfl ?_
  refine r_iload_n F rfl rfl dL_law_338 rfl ?_
  refine r_iconst F dL_law_339 rfl ?_
  refine r_iadd F dL_law_340 rfl ?_
  refine r_sld F X (by omega) (by omega) (by omega) dL_law_341 rfl ?_
  refine r_eqz (z := x1) hx1.symm ?_
  refine r_callV F GC (c_X8_setQuantile l D cA B hB hO hi1) v_L_31 rfl hB.1 rfl ⟨(Nat.le_of_ble_eq_true rfl), (Nat.le_of_ble_eq_true rfl)⟩ ⟨Nat.le_trans (Nat.add_le_add_right hc0 _) (Nat.le_of_ble_eq_true rfl), Nat.le_trans (Nat.add_le_add_right hs0 _) (Nat.le_of_ble_eq_true rfl)⟩ (Nat.le_of_ble_eq_true rfl) rfl dL_law_342 rfl (fun v L1 M1 n1 hp => ?_)
  have hc1 : cells + rm_X8_setQuantile.cells ≤ 1000 + 20 * k + 20 := Nat.add_le_add hc (Nat.le_of_ble_eq_true rfl)
  have hs1 : slots + rm_X8_setQuantile.slots ≤ 40000 + 1269 * k + 1269 := Nat.add_le_add hs (Nat.le_of_ble_eq_true rfl)
  have hc2 : cells + rm_X8_setQuantile.cells ≤ 500000 := by omega
  have hs2 : slots + rm_X8_setQuantile.slots ≤ 5000000 := by omega
  obtain ⟨q1, q2, q3, q4⟩ := hp
  subst q1; subst q2; subst q4
  have cF : ∀ q, y + 41 ≤ q → M1 q = mem q := fun q qa => by
      rw [← q3]
      split
      · exact ja_up_row (by omega)
      · rfl
  have c1 : ∀ q, y + 49 ≤ q → q < y + 58 → M1 q = mem q := fun q qa _ => cF q (by omega)
  have cB : ja_BO M1 y sl (500 * (k : Int) + 500) := by
      rw [← q3]
      split
      · rename_i q
        exact BO_recv (by omega) hO (fun i o hi ho => by have := hso i o hi ho; omega) ((RO_up (j := 6) hO.1 (show 1 ≤ x1 ∧ x1 ≤ 100 by omega) (by omega) (Or.inl ⟨by omega, by omega⟩)).mono (by omega)) (fun q hq => ja_up_row (by omega))
      · exact BO_cg (by omega) hO (fun _ _ _ => rfl) (fun _ _ _ _ _ _ _ => rfl)
  refine r_pop F rfl dL_law_345 rfl ?_
  refine r_mem (mem' := ja_rw M1 (y + 49 + 1) (mem (y + 49 + 1))) (by rw [← c1 (y + 49 + 1) (by omega) (by omega), ja_rw_self]) ?_
  have hTO1 : N_TO M1 (y + 49) := N_TO_c (by rw [c1 _ (by omega) (by omega)]) (c1 _ (by omega) (by omega)) hTO
  have hz1 : ∀ j, 0 ≤ M1 (y + 49 + 4) j ∧ M1 (y + 49 + 4) j ≤ 1 := fun j => by rw [c1 _ (by omega) (by omega)]; exact hz4 j
  refine r_aload_n F rfl rfl dL_law_346 rfl ?_
  refine r_aload_n F rfl rfl dL_law_347 rfl ?_
  refine r_iload_n F rfl rfl dL_law_348 rfl ?_
  refine r_iconst F dL_law_349 rfl ?_
  refine r_iadd F dL_law_350 rfl ?_
  refine r_sld F X (by omega) (by omega) (by omega) dL_law_351 rfl ?_
  refine r_eqz (z := x1) hx1.symm ?_
  refine r_callV F GC (c_X9_setQuantile l D cA B hM hN.1 hi1) v_L_34 rfl hM.1 rfl ⟨(Nat.le_of_ble_eq_true rfl), (Nat.le_of_ble_eq_true rfl)⟩ ⟨Nat.le_trans (Nat.add_le_add_right hc2 _) (Nat.le_of_ble_eq_true rfl), Nat.le_trans (Nat.add_le_add_right hs2 _) (Nat.le_of_ble_eq_true rfl)⟩ (Nat.le_of_ble_eq_true rfl) rfl dL_law_352 rfl (fun v L2 M2 n2 hp => ?_)
  obtain ⟨q5, q6, q7, q8⟩ := hp
  subst q5; subst q6; subst q8
  have hIn := In_step2 hSOK h q7 (fun q hq => cF q (by omega)) (by rw [cF _ (by omega)]) (cF _ (by omega)) cB N_rf.rf (by
      split
      · rename_i q
        exact (N_O_up (j := 6) hN (show 1 ≤ x1 ∧ x1 ≤ 100 by omega) (by omega) (Or.inl ⟨by omega, by omega⟩)).mono (by omega)
      · exact hN.mono (by omega)) (by rw [← q3]; exact hSOK.2.2.2.2.1 _ _ _ _ _ _ (by omega) (by omega) hT)
  refine r_pop F rfl dL_law_355 rfl ?_
  refine r_goto F (tgt := 1226) dL_law_356 (by decide) ?_
  exact J _ _ _ _ _ _ hIn (Nat.le_trans (Nat.add_le_add_left ((Nat.le_of_ble_eq_true rfl) : rm_X9_setQuantile.cells ≤ 0) _) hc1) (Nat.le_trans (Nat.add_le_add_left ((Nat.le_of_ble_eq_true rfl) : rm_X9_setQuantile.slots ≤ 0) _) hs1)
set_option maxRecDepth 100000 in
set_option maxHeartbeats 800000 in
theorem K_5 {C : ja_C} {D : va_G} {cA : Nat → ClassId} {l : Launch} {B b L y n cells slots k : Nat} {i : Int} {lay : ja_Y} {mem : ja_M} {sl : Nat → Option Nat} {xs : Nat → Int32} (F : ja_F C RL cL_law 4 room_1) (GC : ja_G C l D cA B) (X : ja_X C b L xs) (hL : L ≤ 2560) (hi : i = 5 * (k : Int)) (hk : 5 * k + 5 ≤ L) (h : L_In S0 lay mem n y sl (500 * (k : Int))) (hc : cells ≤ 1000 + 20 * k) (hs : slots ≤ 40000 + 1269 * k) (J : ∀ (lay2 : ja_Y) (mem2 : ja_M) (n2 : Nat) (sl2 : Nat → Option Nat) (cells2 slots2 : Nat), L_In S0 lay2 mem2 n2 y sl2 (500 * (k : Int) + 500) → cells2 ≤ 1000 + 20 * k + 20 → slots2 ≤ 40000 + 1269 * k + 1269 → ja_W C cells2 slots2 lay2 mem2 n2 1226 [some (.ref b), some (.ref y), some (.ref (y + 49)), some (.int (ja_I i))] []) : ja_W C cells slots lay mem n 359 [some (.ref b), some (.ref y), some (.ref (y + 49)), some (.int (ja_I i))] [] := by
  obtain ⟨⟨hB, hO, hn, hso, hsd⟩, ⟨hM, hN, hTO, hz4, hkp⟩, hT, hx, hsl⟩ := id h
  have hSOK : S_ok S0 := S0_ok
  have hk512 : k ≤ 512 := by omega
  have hc0 : cells ≤ 500000 := by omega
  have hs0 : slots ≤ 5000000 := by omega
  obtain ⟨x1, hx1⟩ : ∃ z, z = (xs (Int.toNat (i + 1))).toInt := ⟨_, rfl⟩
  have hi1 : ja_in x1 := by rw [hx1]; exact ja_range _
  obtain ⟨i1a, i1b⟩ := id hi1
  refine r_aload_n F rfl rfl dL_law_359 rfl ?_
  refine r_aload_n F rfl rfl dL_law_360 rfl ?_
  refine r_iload_n F rfl rfl dL_law_361 rfl ?_
  refine r_iconst F dL_law_362 rfl ?_
  refine r_iadd F dL_law_363 rfl ?_
  refine r_sld F X (by omega) (by omega) (by omega) dL_law_364 rfl ?_
  refine r_eqz (z := x1) hx1.symm ?_
  refine r_callV F GC (c_X8_setMargin l D cA B hB hO hi1) v_L_35 rfl hB.1 rfl ⟨(Nat.le_of_ble_eq_true rfl), (Nat.le_of_ble_eq_true rfl)⟩ ⟨Nat.le_trans (Nat.add_le_add_right hc0 _) (Nat.le_of_ble_eq_true rfl), Nat.le_trans (Nat.add_le_add_right hs0 _) (Nat.le_of_ble_eq_true rfl)⟩ (Nat.le_of_ble_eq_true rfl) rfl dL_law_365 rfl (fun v L1 M1 n1 hp => ?_)
  have hc1 : cells + rm_X8_setMargin.cells ≤ 1000 + 20 * k + 20 := Nat.add_le_add hc (Nat.le_of_ble_eq_true rfl)
  have hs1 : slots + rm_X8_setMargin.slots ≤ 40000 + 1269 * k + 1269 := Nat.add_le_add hs (Nat.le_of_ble_eq_true rfl)
  have hc2 : cells + rm_X8_setMargin.cells ≤ 500000 := by omega
  have hs2 : slots + rm_X8_setMargin.slots ≤ 5000000 := by omega
  obtain ⟨q1, q2, q3, q4⟩ := hp
  subst q1; subst q2; subst q4
  have cF : ∀ q, y + 41 ≤ q → M1 q = mem q := fun q qa => by
      rw [← q3]
      split
      · exact ja_up_row (by omega)
      · rfl
  have c1 : ∀ q, y + 49 ≤ q → q < y + 58 → M1 q = mem q := fun q qa _ => cF q (by omega)
  have cB : ja_BO M1 y sl (500 * (k : Int) + 500) := by
      rw [← q3]
      split
      · rename_i q
        exact BO_recv (by omega) hO (fun i o hi ho => by have := hso i o hi ho; omega) ((RO_up (j := 7) hO.1 (show 0 ≤ x1 ∧ x1 ≤ 100 by omega) (by omega) (Or.inl ⟨by omega, by omega⟩)).mono (by omega)) (fun q hq => ja_up_row (by omega))
      · exact BO_cg (by omega) hO (fun _ _ _ => rfl) (fun _ _ _ _ _ _ _ => rfl)
  refine r_pop F rfl dL_law_368 rfl ?_
  refine r_mem (mem' := ja_rw M1 (y + 49 + 1) (mem (y + 49 + 1))) (by rw [← c1 (y + 49 + 1) (by omega) (by omega), ja_rw_self]) ?_
  have hTO1 : N_TO M1 (y + 49) := N_TO_c (by rw [c1 _ (by omega) (by omega)]) (c1 _ (by omega) (by omega)) hTO
  have hz1 : ∀ j, 0 ≤ M1 (y + 49 + 4) j ∧ M1 (y + 49 + 4) j ≤ 1 := fun j => by rw [c1 _ (by omega) (by omega)]; exact hz4 j
  refine r_aload_n F rfl rfl dL_law_369 rfl ?_
  refine r_aload_n F rfl rfl dL_law_370 rfl ?_
  refine r_iload_n F rfl rfl dL_law_371 rfl ?_
  refine r_iconst F dL_law_372 rfl ?_
  refine r_iadd F dL_law_373 rfl ?_
  refine r_sld F X (by omega) (by omega) (by omega) dL_law_374 rfl ?_
  refine r_eqz (z := x1) hx1.symm ?_
  refine r_callV F GC (c_X9_setMargin l D cA B hM hN.1 hi1) v_L_38 rfl hM.1 rfl ⟨(Nat.le_of_ble_eq_true rfl), (Nat.le_of_ble_eq_true rfl)⟩ ⟨Nat.le_trans (Nat.add_le_add_right hc2 _) (Nat.le_of_ble_eq_true rfl), Nat.le_trans (Nat.add_le_add_right hs2 _) (Nat.le_of_ble_eq_true rfl)⟩ (Nat.le_of_ble_eq_true rfl) rfl dL_law_375 rfl (fun v L2 M2 n2 hp => ?_)
  obtain ⟨q5, q6, q7, q8⟩ := hp
  subst q5; subst q6; subst q8
  have hIn := In_step2 hSOK h q7 (fun q hq => cF q (by omega)) (by rw [cF _ (by omega)]) (cF _ (by omega)) cB N_rf.rf (by
      split
      · rename_i q
        exact (N_O_up (j := 7) hN (show 0 ≤ x1 ∧ x1 ≤ 100 by omega) (by omega) (Or.inl ⟨by omega, by omega⟩)).mono (by omega)
      · exact hN.mono (by omega)) (by rw [← q3]; exact hSOK.2.2.2.2.1 _ _ _ _ _ _ (by omega) (by omega) hT)
  refine r_pop F rfl dL_law_378 rfl ?_
  refine r_goto F (tgt := 1226) dL_law_379 (by decide) ?_
  exact J _ _ _ _ _ _ hIn (Nat.le_trans (Nat.add_le_add_left ((Nat.le_of_ble_eq_true rfl) : rm_X9_setMargin.cells ≤ 0) _) hc1) (Nat.le_trans (Nat.add_le_add_left ((Nat.le_of_ble_eq_true rfl) : rm_X9_setMargin.slots ≤ 0) _) hs1)
set_option maxRecDepth 100000 in
set_option maxHeartbeats 800000 in
theorem K_6 {C : ja_C} {D : va_G} {cA : Nat → ClassId} {l : Launch} {B b L y n cells slots k : Nat} {i : Int} {lay : ja_Y} {mem : ja_M} {sl : Nat → Option Nat} {xs : Nat → Int32} (F : ja_F C RL cL_law 4 room_1) (GC : ja_G C l D cA B) (X : ja_X C b L xs) (hL : L ≤ 2560) (hi : i = 5 * (k : Int)) (hk : 5 * k + 5 ≤ L) (h : L_In S0 lay mem n y sl (500 * (k : Int))) (hc : cells ≤ 1000 + 20 * k) (hs : slots ≤ 40000 + 1269 * k) (J : ∀ (lay2 : ja_Y) (mem2 : ja_M) (n2 : Nat) (sl2 : Nat → Option Nat) (cells2 slots2 : Nat), L_In S0 lay2 mem2 n2 y sl2 (500 * (k : Int) + 500) → cells2 ≤ 1000 + 20 * k + 20 → slots2 ≤ 40000 + 1269 * k + 1269 → ja_W C cells2 slots2 lay2 mem2 n2 1226 [some (.ref b), some (.ref y), some (.ref (y + 49)), some (.int (ja_I i))] []) : ja_W C cells slots lay mem n 382 [some (.ref b), some (.ref y), some (.ref (y + 49)), some (.int (ja_I i))] [] := by
  obtain ⟨⟨hB, hO, hn, hso, hsd⟩, ⟨hM, hN, hTO, hz4, hkp⟩, hT, hx, hsl⟩ := id h
  have hSOK : S_ok S0 := S0_ok
  have hk512 : k ≤ 512 := by omega
  have hc0 : cells ≤ 500000 := by omega
  have hs0 : slots ≤ 5000000 := by omega
  obtain ⟨x1, hx1⟩ : ∃ z, z = (xs (Int.toNat (i + 1))).toInt := ⟨_, rfl⟩
  have hi1 : ja_in x1 := by rw [hx1]; exact ja_range _
  obtain ⟨i1a, i1b⟩ := id hi1
  refine r_aload_n F rfl rfl dL_law_382 rfl ?_
  refine r_aload_n F rfl rfl dL_law_383 rfl ?_
  refine r_iload_n F rfl rfl dL_law_384 rfl ?_
  refine r_iconst F dL_law_385 rfl ?_
  refine r_iadd F dL_law_386 rfl ?_
  refine r_sld F X (by omega) (by omega) (by omega) dL_law_387 rfl ?_
  refine r_eqz (z := x1) hx1.symm ?_
  refine r_bool F hi1 dL_law_388 (by decide) dL_law_391 dL_law_392 (by decide) dL_law_395 rfl ?_
  refine r_callV F GC (c_X8_setAdapting l D cA B hB hO ja_b_r) v_L_39 rfl hB.1 rfl ⟨(Nat.le_of_ble_eq_true rfl), (Nat.le_of_ble_eq_true rfl)⟩ ⟨Nat.le_trans (Nat.add_le_add_right hc0 _) (Nat.le_of_ble_eq_true rfl), Nat.le_trans (Nat.add_le_add_right hs0 _) (Nat.le_of_ble_eq_true rfl)⟩ (Nat.le_of_ble_eq_true rfl) rfl dL_law_396 rfl (fun v L1 M1 n1 hp => ?_)
  have hc1 : cells + rm_X8_setAdapting.cells ≤ 1000 + 20 * k + 20 := Nat.add_le_add hc (Nat.le_of_ble_eq_true rfl)
  have hs1 : slots + rm_X8_setAdapting.slots ≤ 40000 + 1269 * k + 1269 := Nat.add_le_add hs (Nat.le_of_ble_eq_true rfl)
  have hc2 : cells + rm_X8_setAdapting.cells ≤ 500000 := by omega
  have hs2 : slots + rm_X8_setAdapting.slots ≤ 5000000 := by omega
  obtain ⟨q1, q2, q3, q4⟩ := hp
  subst q1; subst q2; subst q4
  have cF : ∀ q, y + 41 ≤ q → M1 q = mem q := fun q qa => by rw [← q3]; exact ja_up_row (by omega)
  have c1 : ∀ q, y + 49 ≤ q → q < y + 58 → M1 q = mem q := fun q qa _ => cF q (by omega)
  have cB : ja_BO M1 y sl (500 * (k : Int) + 500) := by rw [← q3]; exact BO_recv (by omega) hO (fun i o hi ho => by have := hso i o hi ho; omega) ((RO_up (j := 8) hO.1 ja_b_r (by omega) (Or.inl ⟨by omega, by omega⟩)).mono (by omega)) (fun q hq => ja_up_row (by omega))
  refine r_pop F rfl dL_law_399 rfl ?_
  refine r_mem (mem' := ja_rw M1 (y + 49 + 1) (mem (y + 49 + 1))) (by rw [← c1 (y + 49 + 1) (by omega) (by omega), ja_rw_self]) ?_
  have hTO1 : N_TO M1 (y + 49) := N_TO_c (by rw [c1 _ (by omega) (by omega)]) (c1 _ (by omega) (by omega)) hTO
  have hz1 : ∀ j, 0 ≤ M1 (y + 49 + 4) j ∧ M1 (y + 49 + 4) j ≤ 1 := fun j => by rw [c1 _ (by omega) (by omega)]; exact hz4 j
  refine r_aload_n F rfl rfl dL_law_400 rfl ?_
  refine r_aload_n F rfl rfl dL_law_401 rfl ?_
  refine r_iload_n F rfl rfl dL_law_402 rfl ?_
  refine r_iconst F dL_law_403 rfl ?_
  refine r_iadd F dL_law_404 rfl ?_
  refine r_sld F X (by omega) (by omega) (by omega) dL_law_405 rfl ?_
  refine r_eqz (z := x1) hx1.symm ?_
  refine r_bool F hi1 dL_law_406 (by decide) dL_law_409 dL_law_410 (by decide) dL_law_413 rfl ?_
  refine r_callV F GC (c_X9_setAdapting l D cA B hM hN.1 ja_b_r) v_L_43 rfl hM.1 rfl ⟨(Nat.le_of_ble_eq_true rfl), (Nat.le_of_ble_eq_true rfl)⟩ ⟨Nat.le_trans (Nat.add_le_add_right hc2 _) (Nat.le_of_ble_eq_true rfl), Nat.le_trans (Nat.add_le_add_right hs2 _) (Nat.le_of_ble_eq_true rfl)⟩ (Nat.le_of_ble_eq_true rfl) rfl dL_law_414 rfl (fun v L2 M2 n2 hp => ?_)
  obtain ⟨q5, q6, q7, q8⟩ := hp
  subst q5; subst q6; subst q8
  have hIn := In_step2 hSOK h q7 (fun q hq => cF q (by omega)) (by rw [cF _ (by omega)]) (cF _ (by omega)) cB N_rf.rf ((N_O_up (j := 8) hN ja_b_r (by omega) (Or.inl ⟨by omega, by omega⟩)).mono (by omega)) (by rw [← q3]; have h0 := hSOK.2.2.2.2.1 mem (y + 1) (mem (y + 49 + 1)) True 8 (ja_b (¬ x1 = 0)) (by omega) (by omega) hT; rw [if_pos trivial, if_pos trivial] at h0; exact h0)
  refine r_pop F rfl dL_law_417 rfl ?_
  refine r_goto F (tgt := 1226) dL_law_418 (by decide) ?_
  exact J _ _ _ _ _ _ hIn (Nat.le_trans (Nat.add_le_add_left ((Nat.le_of_ble_eq_true rfl) : rm_X9_setAdapting.cells ≤ 0) _) hc1) (Nat.le_trans (Nat.add_le_add_left ((Nat.le_of_ble_eq_true rfl) : rm_X9_setAdapting.slots ≤ 0) _) hs1)
set_option maxRecDepth 100000 in
set_option maxHeartbeats 800000 in
theorem K_7 {C : ja_C} {D : va_G} {cA : Nat → ClassId} {l : Launch} {B b L y n cells slots k : Nat} {i : Int} {lay : ja_Y} {mem : ja_M} {sl : Nat → Option Nat} {xs : Nat → Int32} (F : ja_F C RL cL_law 4 room_1) (GC : ja_G C l D cA B) (X : ja_X C b L xs) (hL : L ≤ 2560) (hi : i = 5 * (k : Int)) (hk : 5 * k + 5 ≤ L) (h : L_In S0 lay mem n y sl (500 * (k : Int))) (hc : cells ≤ 1000 + 20 * k) (hs : slots ≤ 40000 + 1269 * k) (J : ∀ (lay2 : ja_Y) (mem2 : ja_M) (n2 : Nat) (sl2 : Nat → Option Nat) (cells2 slots2 : Nat), L_In S0 lay2 mem2 n2 y sl2 (500 * (k : Int) + 500) → cells2 ≤ 1000 + 20 * k + 20 → slots2 ≤ 40000 + 1269 * k + 1269 → ja_W C cells2 slots2 lay2 mem2 n2 1226 [some (.ref b), some (.ref y), some (.ref (y + 49)), some (.int (ja_I i))] []) : ja_W C cells slots lay mem n 421 [some (.ref b), some (.ref y), some (.ref (y + 49)), some (.int (ja_I i))] [] := by
  obtain ⟨⟨hB, hO, hn, hso, hsd⟩, ⟨hM, hN, hTO, hz4, hkp⟩, hT, hx, hsl⟩ := id h
  have hSOK : S_ok S0 := S0_ok
  have hk512 : k ≤ 512 := by omega
  have hc0 : cells ≤ 500000 := by omega
  have hs0 : slots ≤ 5000000 := by omega
  obtain ⟨x1, hx1⟩ : ∃ z, z = (xs (Int.toNat (i + 1))).toInt := ⟨_, rfl⟩
  have hi1 : ja_in x1 := by rw [hx1]; exact ja_range _
  obtain ⟨i1a, i1b⟩ := id hi1
  refine r_aload_n F rfl rfl dL_law_421 rfl ?_
  refine r_aload_n F rfl rfl dL_law_422 rfl ?_
  refine r_iload_n F rfl rfl dL_law_423 rfl ?_
  refine r_iconst F dL_law_424 rfl ?_
  refine r_iadd F dL_law_425 rfl ?_
  refine r_sld F X (by omega) (by omega) (by omega) dL_law_426 rfl ?_
  refine r_eqz (z := x1) hx1.symm ?_
  refine r_callV F GC (c_X8_arrive l D cA B hB hO hi1 (by omega)) v_L_44 rfl hB.1 rfl ⟨(Nat.le_of_ble_eq_true rfl), (Nat.le_of_ble_eq_true rfl)⟩ ⟨Nat.le_trans (Nat.add_le_add_right hc0 _) (Nat.le_of_ble_eq_true rfl), Nat.le_trans (Nat.add_le_add_right hs0 _) (Nat.le_of_ble_eq_true rfl)⟩ (Nat.le_of_ble_eq_true rfl) rfl dL_law_427 rfl (fun v L1 M1 n1 hp => ?_)
  have hc1 : cells + rm_X8_arrive.cells ≤ 1000 + 20 * k + 20 := Nat.add_le_add hc (Nat.le_of_ble_eq_true rfl)
  have hs1 : slots + rm_X8_arrive.slots ≤ 40000 + 1269 * k + 1269 := Nat.add_le_add hs (Nat.le_of_ble_eq_true rfl)
  have hc2 : cells + rm_X8_arrive.cells ≤ 500000 := by omega
  have hs2 : slots + rm_X8_arrive.slots ≤ 5000000 := by omega
  obtain ⟨q1, q2, q3, q4⟩ := hp
  subst q1; subst q2; subst q4
  have cF : ∀ q, y + 41 ≤ q → M1 q = mem q := fun q qa => by
      rw [← q3]
      split
      · exact R_af_f (by omega)
      · rfl
  have c1 : ∀ q, y + 49 ≤ q → q < y + 58 → M1 q = mem q := fun q qa _ => cF q (by omega)
  have cB : ja_BO M1 y sl (500 * (k : Int) + 500) := by
      rw [← q3]
      split
      · rename_i q
        exact BO_recv (by omega) hO (fun i o hi ho => by have := hso i o hi ho; omega) ((R_af_RO hO.1 (by omega) q).mono (by omega)) (fun q hq => R_af_f (by omega))
      · exact BO_cg (by omega) hO (fun _ _ _ => rfl) (fun _ _ _ _ _ _ _ => rfl)
  refine r_pop F rfl dL_law_430 rfl ?_
  refine r_mem (mem' := ja_rw M1 (y + 49 + 1) (mem (y + 49 + 1))) (by rw [← c1 (y + 49 + 1) (by omega) (by omega), ja_rw_self]) ?_
  have hTO1 : N_TO M1 (y + 49) := N_TO_c (by rw [c1 _ (by omega) (by omega)]) (c1 _ (by omega) (by omega)) hTO
  have hz1 : ∀ j, 0 ≤ M1 (y + 49 + 4) j ∧ M1 (y + 49 + 4) j ≤ 1 := fun j => by rw [c1 _ (by omega) (by omega)]; exact hz4 j
  refine r_aload_n F rfl rfl dL_law_431 rfl ?_
  refine r_aload_n F rfl rfl dL_law_432 rfl ?_
  refine r_iload_n F rfl rfl dL_law_433 rfl ?_
  refine r_iconst F dL_law_434 rfl ?_
  refine r_iadd F dL_law_435 rfl ?_
  refine r_sld F X (by omega) (by omega) (by omega) dL_law_436 rfl ?_
  refine r_eqz (z := x1) hx1.symm ?_
  refine r_callV F GC (c_X9_arrive l D cA B hM hN (by omega) hi1) v_L_47 rfl hM.1 rfl ⟨(Nat.le_of_ble_eq_true rfl), (Nat.le_of_ble_eq_true rfl)⟩ ⟨Nat.le_trans (Nat.add_le_add_right hc2 _) (Nat.le_of_ble_eq_true rfl), Nat.le_trans (Nat.add_le_add_right hs2 _) (Nat.le_of_ble_eq_true rfl)⟩ (Nat.le_of_ble_eq_true rfl) rfl dL_law_437 rfl (fun v L2 M2 n2 hp => ?_)
  obtain ⟨q5, q6, q7, q8⟩ := hp
  subst q5; subst q6; subst q8
  have hIn := In_step2 hSOK h q7 (fun q hq => cF q (by omega)) (by rw [cF _ (by omega)]) (cF _ (by omega)) cB N_rf.rf (by
      split
      · rename_i q
        exact (N_av_O hN (by omega) q).1.mono (by omega)
      · exact hN.mono (by omega)) (by
      rw [← q3]
      by_cases q : 0 ≤ x1 ∧ x1 ≤ 999
      · rw [if_pos q, if_pos q]
        exact hSOK.2.2.2.2.2.1 _ _ _ _ _ hO.1 hN (by omega) q hT
      · rw [if_neg q, if_neg q]
        exact hT)
  refine r_pop F rfl dL_law_440 rfl ?_
  refine r_goto F (tgt := 1226) dL_law_441 (by decide) ?_
  exact J _ _ _ _ _ _ hIn (Nat.le_trans (Nat.add_le_add_left ((Nat.le_of_ble_eq_true rfl) : rm_X9_arrive.cells ≤ 0) _) hc1) (Nat.le_trans (Nat.add_le_add_left ((Nat.le_of_ble_eq_true rfl) : rm_X9_arrive.slots ≤ 0) _) hs1)
end
section
set_option maxRecDepth 100000 in
set_option maxHeartbeats 800000 in
theorem K_8 {C : ja_C} {D : va_G} {cA : Nat → ClassId} {l : Launch} {B b L y n cells slots k : Nat} {i : Int} {lay : ja_Y} {mem : ja_M} {sl : Nat → Option Nat} {xs : Nat → Int32} (F : ja_F C RL cL_law 4 room_1) (GC : ja_G C l D cA B) (X : ja_X C b L xs) (hL : L ≤ 2560) (hi : i = 5 * (k : Int)) (hk : 5 * k + 5 ≤ L) (h : L_In S0 lay mem n y sl (500 * (k : Int))) (hc : cells ≤ 1000 + 20 * k) (hs : slots ≤ 40000 + 1269 * k) (J : ∀ (lay2 : ja_Y) (mem2 : ja_M) (n2 : Nat) (sl2 : Nat → Option Nat) (cells2 slots2 : Nat), L_In S0 lay2 mem2 n2 y sl2 (500 * (k : Int) + 500) → cells2 ≤ 1000 + 20 * k + 20 → slots2 ≤ 40000 + 1269 * k + 1269 → ja_W C cells2 slots2 lay2 mem2 n2 1226 [some (.ref b), some (.ref y), some (.ref (y + 49)), some (.int (ja_I i))] []) : ja_W C cells slots lay mem n 444 [some (.ref b), some (.ref y), some (.ref (y + 49)), some (.int (ja_I i))] [] := by
  obtain ⟨⟨hB, hO, hn, hso, hsd⟩, ⟨hM, hN, hTO, hz4, hkp⟩, hT, hx, hsl⟩ := id h
  have hSOK : S_ok S0 := S0_ok
  have hk512 : k ≤ 512 := by omega
  have hc0 : cells ≤ 500000 := by omega
  have hs0 : slots ≤ 5000000 := by omega
  obtain ⟨x1, hx1⟩ : ∃ z, z = (xs (Int.toNat (i + 1))).toInt := ⟨_, rfl⟩
  have hi1 : ja_in x1 := by rw [hx1]; exact ja_range _
  obtain ⟨i1a, i1b⟩ := id hi1
  obtain ⟨x2, hx2⟩ : ∃ z, z = (xs (Int.toNat (i + 2))).toInt := ⟨_, rfl⟩
  have hi2 : ja_in x2 := by rw [hx2]; exact ja_range _
  obtain ⟨i2a, i2b⟩ := id hi2
  obtain ⟨x3, hx3⟩ : ∃ z, z = (xs (Int.toNat (i + 3))).toInt := ⟨_, rfl⟩
  have hi3 : ja_in x3 := by rw [hx3]; exact ja_range _
  obtain ⟨i3a, i3b⟩ := id hi3
  refine r_aload_n F rfl rfl dL_law_444 rfl ?_
  refine r_aload_n F rfl rfl dL_law_445 rfl ?_
  refine r_iload_n F rfl rfl dL_law_446 rfl ?_
  refine r_iconst F dL_law_447 rfl ?_
  refine r_iadd F dL_law_448 rfl ?_
  refine r_sld F X (by omega) (by omega) (by omega) dL_law_449 rfl ?_
  refine r_eqz (z := x1) hx1.symm ?_
  refine r_bool F hi1 dL_law_450 (by decide) dL_law_453 dL_law_454 (by decide) dL_law_457 rfl ?_
  refine r_aload_n F rfl rfl dL_law_458 rfl ?_
  refine r_iload_n F rfl rfl dL_law_459 rfl ?_
  refine r_iconst F dL_law_460 rfl ?_
  refine r_iadd F dL_law_461 rfl ?_
  refine r_sld F X (by omega) (by omega) (by omega) dL_law_462 rfl ?_
  refine r_eqz (z := x2) hx2.symm ?_
  refine r_aload_n F rfl rfl dL_law_463 rfl ?_
  refine r_iload_n F rfl rfl dL_law_464 rfl ?_
  refine r_iconst F dL_law_465 rfl ?_
  refine r_iadd F dL_law_466 rfl ?_
  refine r_sld F X (by omega) (by omega) (by omega) dL_law_467 rfl ?_
  refine r_eqz (z := x3) hx3.symm ?_
  refine r_callV F GC (c_X8_arriveParity l D cA B hB hO ja_b_in hi2 hi3 ja_b_r) v_L_48 rfl hB.1 rfl ⟨(Nat.le_of_ble_eq_true rfl), (Nat.le_of_ble_eq_true rfl)⟩ ⟨Nat.le_trans (Nat.add_le_add_right hc0 _) (Nat.le_of_ble_eq_true rfl), Nat.le_trans (Nat.add_le_add_right hs0 _) (Nat.le_of_ble_eq_true rfl)⟩ (Nat.le_of_ble_eq_true rfl) rfl dL_law_468 rfl (fun v L1 M1 n1 hp => ?_)
  have hc1 : cells + rm_X8_arriveParity.cells ≤ 1000 + 20 * k + 20 := Nat.add_le_add hc (Nat.le_of_ble_eq_true rfl)
  have hs1 : slots + rm_X8_arriveParity.slots ≤ 40000 + 1269 * k + 1269 := Nat.add_le_add hs (Nat.le_of_ble_eq_true rfl)
  have hc2 : cells + rm_X8_arriveParity.cells ≤ 500000 := by omega
  have hs2 : slots + rm_X8_arriveParity.slots ≤ 5000000 := by omega
  obtain ⟨q1, q2, q3, q4⟩ := hp
  subst q1; subst q2; subst q4
  have cF : ∀ q, y + 41 ≤ q → M1 q = mem q := fun q qa => by
      rw [← q3]
      split
      · exact R_ap_f (by omega)
      · rfl
  have c1 : ∀ q, y + 49 ≤ q → q < y + 58 → M1 q = mem q := fun q qa _ => cF q (by omega)
  have cB : ja_BO M1 y sl (500 * (k : Int) + 500) := by
      rw [← q3]
      split
      · exact BO_recv (by omega) hO (fun i o hi ho => by have := hso i o hi ho; omega) ((R_ap_RO hO.1).mono (by omega)) (fun q hq => R_ap_f (by omega))
      · exact BO_cg (by omega) hO (fun _ _ _ => rfl) (fun _ _ _ _ _ _ _ => rfl)
  refine r_pop F rfl dL_law_471 rfl ?_
  refine r_mem (mem' := ja_rw M1 (y + 49 + 1) (mem (y + 49 + 1))) (by rw [← c1 (y + 49 + 1) (by omega) (by omega), ja_rw_self]) ?_
  have hTO1 : N_TO M1 (y + 49) := N_TO_c (by rw [c1 _ (by omega) (by omega)]) (c1 _ (by omega) (by omega)) hTO
  have hz1 : ∀ j, 0 ≤ M1 (y + 49 + 4) j ∧ M1 (y + 49 + 4) j ≤ 1 := fun j => by rw [c1 _ (by omega) (by omega)]; exact hz4 j
  refine r_aload_n F rfl rfl dL_law_472 rfl ?_
  refine r_aload_n F rfl rfl dL_law_473 rfl ?_
  refine r_iload_n F rfl rfl dL_law_474 rfl ?_
  refine r_iconst F dL_law_475 rfl ?_
  refine r_iadd F dL_law_476 rfl ?_
  refine r_sld F X (by omega) (by omega) (by omega) dL_law_477 rfl ?_
  refine r_eqz (z := x1) hx1.symm ?_
  refine r_bool F hi1 dL_law_478 (by decide) dL_law_481 dL_law_482 (by decide) dL_law_485 rfl ?_
  refine r_aload_n F rfl rfl dL_law_486 rfl ?_
  refine r_iload_n F rfl rfl dL_law_487 rfl ?_
  refine r_iconst F dL_law_488 rfl ?_
  refine r_iadd F dL_law_489 rfl ?_
  refine r_sld F X (by omega) (by omega) (by omega) dL_law_490 rfl ?_
  refine r_eqz (z := x2) hx2.symm ?_
  refine r_aload_n F rfl rfl dL_law_491 rfl ?_
  refine r_iload_n F rfl rfl dL_law_492 rfl ?_
  refine r_iconst F dL_law_493 rfl ?_
  refine r_iadd F dL_law_494 rfl ?_
  refine r_sld F X (by omega) (by omega) (by omega) dL_law_495 rfl ?_
  refine r_eqz (z := x3) hx3.symm ?_
  refine r_callV F GC (c_X9_arriveParity l D cA B hM hN (by omega) ja_b_r hi2 hi3) v_L_52 rfl hM.1 rfl ⟨(Nat.le_of_ble_eq_true rfl), (Nat.le_of_ble_eq_true rfl)⟩ ⟨Nat.le_trans (Nat.add_le_add_right hc2 _) (Nat.le_of_ble_eq_true rfl), Nat.le_trans (Nat.add_le_add_right hs2 _) (Nat.le_of_ble_eq_true rfl)⟩ (Nat.le_of_ble_eq_true rfl) rfl dL_law_496 rfl (fun v L2 M2 n2 hp => ?_)
  obtain ⟨q5, q6, q7, q8⟩ := hp
  subst q5; subst q6; subst q8
  have hIn := In_step2 hSOK h q7 (fun q hq => cF q (by omega)) (by rw [cF _ (by omega)]) (cF _ (by omega)) cB N_rf.rf (by
      split
      · rename_i q
        exact (N_qv_O hN (by omega) q.1 (N_hP_6 hN.1.S q)).1.mono (by omega)
      · exact hN.mono (by omega)) (by rw [← q3]; exact hSOK.2.2.2.2.2.2.1 _ _ _ _ _ _ _ hO.1 hN (by omega) ja_b_r hT)
  refine r_pop F rfl dL_law_499 rfl ?_
  refine r_goto F (tgt := 1226) dL_law_500 (by decide) ?_
  exact J _ _ _ _ _ _ hIn (Nat.le_trans (Nat.add_le_add_left ((Nat.le_of_ble_eq_true rfl) : rm_X9_arriveParity.cells ≤ 0) _) hc1) (Nat.le_trans (Nat.add_le_add_left ((Nat.le_of_ble_eq_true rfl) : rm_X9_arriveParity.slots ≤ 0) _) hs1)
set_option maxRecDepth 100000 in
set_option maxHeartbeats 800000 in
theorem K_9 {C : ja_C} {D : va_G} {cA : Nat → ClassId} {l : Launch} {B b L y n cells slots k : Nat} {i : Int} {lay : ja_Y} {mem : ja_M} {sl : Nat → Option Nat} {xs : Nat → Int32} (F : ja_F C RL cL_law 4 room_1) (GC : ja_G C l D cA B) (X : ja_X C b L xs) (hL : L ≤ 2560) (hi : i = 5 * (k : Int)) (hk : 5 * k + 5 ≤ L) (h : L_In S0 lay mem n y sl (500 * (k : Int))) (hc : cells ≤ 1000 + 20 * k) (hs : slots ≤ 40000 + 1269 * k) (J : ∀ (lay2 : ja_Y) (mem2 : ja_M) (n2 : Nat) (sl2 : Nat → Option Nat) (cells2 slots2 : Nat), L_In S0 lay2 mem2 n2 y sl2 (500 * (k : Int) + 500) → cells2 ≤ 1000 + 20 * k + 20 → slots2 ≤ 40000 + 1269 * k + 1269 → ja_W C cells2 slots2 lay2 mem2 n2 1226 [some (.ref b), some (.ref y), some (.ref (y + 49)), some (.int (ja_I i))] []) : ja_W C cells slots lay mem n 503 [some (.ref b), some (.ref y), some (.ref (y + 49)), some (.int (ja_I i))] [] := by
  obtain ⟨⟨hB, hO, hn, hso, hsd⟩, ⟨hM, hN, hTO, hz4, hkp⟩, hT, hx, hsl⟩ := id h
  have hSOK : S_ok S0 := S0_ok
  have hk512 : k ≤ 512 := by omega
  have hc0 : cells ≤ 500000 := by omega
  have hs0 : slots ≤ 5000000 := by omega
  obtain ⟨x1, hx1⟩ : ∃ z, z = (xs (Int.toNat (i + 1))).toInt := ⟨_, rfl⟩
  have hi1 : ja_in x1 := by rw [hx1]; exact ja_range _
  obtain ⟨i1a, i1b⟩ := id hi1
  refine r_aload_n F rfl rfl dL_law_503 rfl ?_
  refine r_aload_n F rfl rfl dL_law_504 rfl ?_
  refine r_iload_n F rfl rfl dL_law_505 rfl ?_
  refine r_iconst F dL_law_506 rfl ?_
  refine r_iadd F dL_law_507 rfl ?_
  refine r_sld F X (by omega) (by omega) (by omega) dL_law_508 rfl ?_
  refine r_eqz (z := x1) hx1.symm ?_
  refine r_callV F GC (c_X8_advance l D cA B hB hO hi1 (by omega)) v_L_53 rfl hB.1 rfl ⟨(Nat.le_of_ble_eq_true rfl), (Nat.le_of_ble_eq_true rfl)⟩ ⟨Nat.le_trans (Nat.add_le_add_right hc0 _) (Nat.le_of_ble_eq_true rfl), Nat.le_trans (Nat.add_le_add_right hs0 _) (Nat.le_of_ble_eq_true rfl)⟩ (Nat.le_of_ble_eq_true rfl) rfl dL_law_509 rfl (fun v L1 M1 n1 hp => ?_)
  have hc1 : cells + rm_X8_advance.cells ≤ 1000 + 20 * k + 20 := Nat.add_le_add hc (Nat.le_of_ble_eq_true rfl)
  have hs1 : slots + rm_X8_advance.slots ≤ 40000 + 1269 * k + 1269 := Nat.add_le_add hs (Nat.le_of_ble_eq_true rfl)
  have hc2 : cells + rm_X8_advance.cells ≤ 500000 := by omega
  have hs2 : slots + rm_X8_advance.slots ≤ 5000000 := by omega
  obtain ⟨q1, q2, q3, q4⟩ := hp
  subst q1; subst q2; subst q4
  have cF : ∀ q, y + 41 ≤ q → M1 q = mem q := fun q qa => by
      rw [← q3]
      split
      · exact B_adv_f (by omega) _
      · rfl
  have c1 : ∀ q, y + 49 ≤ q → q < y + 58 → M1 q = mem q := fun q qa _ => cF q (by omega)
  have cB : ja_BO M1 y sl (500 * (k : Int) + 500) := by
      rw [← q3]
      split
      · rename_i q
        exact BO_recv (by omega) hO (fun i o hi ho => by have := hso i o hi ho; omega) ((B_adv_RO hO.1 x1.toNat (by omega)).mono (by omega)) (fun q hq => B_adv_f (by omega) _)
      · exact BO_cg (by omega) hO (fun _ _ _ => rfl) (fun _ _ _ _ _ _ _ => rfl)
  refine r_pop F rfl dL_law_512 rfl ?_
  refine r_mem (mem' := ja_rw M1 (y + 49 + 1) (mem (y + 49 + 1))) (by rw [← c1 (y + 49 + 1) (by omega) (by omega), ja_rw_self]) ?_
  have hTO1 : N_TO M1 (y + 49) := N_TO_c (by rw [c1 _ (by omega) (by omega)]) (c1 _ (by omega) (by omega)) hTO
  have hz1 : ∀ j, 0 ≤ M1 (y + 49 + 4) j ∧ M1 (y + 49 + 4) j ≤ 1 := fun j => by rw [c1 _ (by omega) (by omega)]; exact hz4 j
  refine r_aload_n F rfl rfl dL_law_513 rfl ?_
  refine r_aload_n F rfl rfl dL_law_514 rfl ?_
  refine r_iload_n F rfl rfl dL_law_515 rfl ?_
  refine r_iconst F dL_law_516 rfl ?_
  refine r_iadd F dL_law_517 rfl ?_
  refine r_sld F X (by omega) (by omega) (by omega) dL_law_518 rfl ?_
  refine r_eqz (z := x1) hx1.symm ?_
  refine r_callV F GC (c_X9_advance l D cA B hM hN (by omega) hi1) v_L_56 rfl hM.1 rfl ⟨(Nat.le_of_ble_eq_true rfl), (Nat.le_of_ble_eq_true rfl)⟩ ⟨Nat.le_trans (Nat.add_le_add_right hc2 _) (Nat.le_of_ble_eq_true rfl), Nat.le_trans (Nat.add_le_add_right hs2 _) (Nat.le_of_ble_eq_true rfl)⟩ (Nat.le_of_ble_eq_true rfl) rfl dL_law_519 rfl (fun v L2 M2 n2 hp => ?_)
  obtain ⟨q5, q6, q8, G2, hg, q7⟩ := hp
  subst q5; subst q6; subst q8
  have hIn := In_step2 hSOK h q7.symm (fun q hq => cF q (by omega)) (by rw [cF _ (by omega)]) (cF _ (by omega)) cB hg.f (by
      split
      · rename_i q
        exact (N_ad_O hN x1.toNat (by omega)).mono (by omega)
      · exact hN.mono (by omega)) (by
      rw [← q3]
      by_cases q : 1 ≤ x1 ∧ x1 ≤ 500
      · rw [if_pos q, if_pos q]
        exact S_adv hSOK.2.2.2.2.2.2.2.1 hO.1 hN hT x1.toNat (by omega)
      · rw [if_neg q, if_neg q]
        exact hT)
  refine r_pop F rfl dL_law_522 rfl ?_
  refine r_goto F (tgt := 1226) dL_law_523 (by decide) ?_
  exact J _ _ _ _ _ _ hIn (Nat.le_trans (Nat.add_le_add_left ((Nat.le_of_ble_eq_true rfl) : rm_X9_advance.cells ≤ 0) _) hc1) (Nat.le_trans (Nat.add_le_add_left ((Nat.le_of_ble_eq_true rfl) : rm_X9_advance.slots ≤ 0) _) hs1)
set_option maxRecDepth 100000 in
set_option maxHeartbeats 800000 in
theorem K_10 {C : ja_C} {D : va_G} {cA : Nat → ClassId} {l : Launch} {B b L y n cells slots k : Nat} {i : Int} {lay : ja_Y} {mem : ja_M} {sl : Nat → Option Nat} {xs : Nat → Int32} (F : ja_F C RL cL_law 4 room_1) (GC : ja_G C l D cA B) (X : ja_X C b L xs) (hL : L ≤ 2560) (hi : i = 5 * (k : Int)) (hk : 5 * k + 5 ≤ L) (h : L_In S0 lay mem n y sl (500 * (k : Int))) (hc : cells ≤ 1000 + 20 * k) (hs : slots ≤ 40000 + 1269 * k) (J : ∀ (lay2 : ja_Y) (mem2 : ja_M) (n2 : Nat) (sl2 : Nat → Option Nat) (cells2 slots2 : Nat), L_In S0 lay2 mem2 n2 y sl2 (500 * (k : Int) + 500) → cells2 ≤ 1000 + 20 * k + 20 → slots2 ≤ 40000 + 1269 * k + 1269 → ja_W C cells2 slots2 lay2 mem2 n2 1226 [some (.ref b), some (.ref y), some (.ref (y + 49)), some (.int (ja_I i))] []) : ja_W C cells slots lay mem n 526 [some (.ref b), some (.ref y), some (.ref (y + 49)), some (.int (ja_I i))] [] := by
  obtain ⟨⟨hB, hO, hn, hso, hsd⟩, ⟨hM, hN, hTO, hz4, hkp⟩, hT, hx, hsl⟩ := id h
  have hSOK : S_ok S0 := S0_ok
  have hk512 : k ≤ 512 := by omega
  have hc0 : cells ≤ 500000 := by omega
  have hs0 : slots ≤ 5000000 := by omega
  refine r_aload_n F rfl rfl dL_law_526 rfl ?_
  refine r_callV F GC (c_X8_time l D cA B hB hO ) v_L_57 rfl hB.1 rfl ⟨(Nat.le_of_ble_eq_true rfl), (Nat.le_of_ble_eq_true rfl)⟩ ⟨Nat.le_trans (Nat.add_le_add_right hc0 _) (Nat.le_of_ble_eq_true rfl), Nat.le_trans (Nat.add_le_add_right hs0 _) (Nat.le_of_ble_eq_true rfl)⟩ (Nat.le_of_ble_eq_true rfl) rfl dL_law_527 rfl (fun v L1 M1 n1 hp => ?_)
  have hc1 : cells + rm_X8_time.cells ≤ 1000 + 20 * k + 20 := Nat.add_le_add hc (Nat.le_of_ble_eq_true rfl)
  have hs1 : slots + rm_X8_time.slots ≤ 40000 + 1269 * k + 1269 := Nat.add_le_add hs (Nat.le_of_ble_eq_true rfl)
  have hc2 : cells + rm_X8_time.cells ≤ 500000 := by omega
  have hs2 : slots + rm_X8_time.slots ≤ 5000000 := by omega
  obtain ⟨q1, q2, q3, q4⟩ := hp
  subst q1; subst q2; subst q4
  have cF : ∀ q, y + 41 ≤ q → M1 q = mem q := fun q qa => by rw [← q3]
  have c1 : ∀ q, y + 49 ≤ q → q < y + 58 → M1 q = mem q := fun q qa _ => cF q (by omega)
  have cB : ja_BO M1 y sl (500 * (k : Int) + 500) := by rw [← q3]; exact BO_cg (by omega) hO (fun _ _ _ => rfl) (fun _ _ _ _ _ _ _ => rfl)
  refine r_pop F rfl dL_law_530 rfl ?_
  refine r_mem (mem' := ja_rw M1 (y + 49 + 1) (mem (y + 49 + 1))) (by rw [← c1 (y + 49 + 1) (by omega) (by omega), ja_rw_self]) ?_
  have hTO1 : N_TO M1 (y + 49) := N_TO_c (by rw [c1 _ (by omega) (by omega)]) (c1 _ (by omega) (by omega)) hTO
  have hz1 : ∀ j, 0 ≤ M1 (y + 49 + 4) j ∧ M1 (y + 49 + 4) j ≤ 1 := fun j => by rw [c1 _ (by omega) (by omega)]; exact hz4 j
  refine r_aload_n F rfl rfl dL_law_531 rfl ?_
  refine r_callV F GC (c_X9_time l D cA B hM hN.1) v_L_61 rfl hM.1 rfl ⟨(Nat.le_of_ble_eq_true rfl), (Nat.le_of_ble_eq_true rfl)⟩ ⟨Nat.le_trans (Nat.add_le_add_right hc2 _) (Nat.le_of_ble_eq_true rfl), Nat.le_trans (Nat.add_le_add_right hs2 _) (Nat.le_of_ble_eq_true rfl)⟩ (Nat.le_of_ble_eq_true rfl) rfl dL_law_532 rfl (fun v L2 M2 n2 hp => ?_)
  obtain ⟨q5, q6, q7, q8⟩ := hp
  subst q5; subst q6; subst q8
  have hIn := In_step2 hSOK h q7 (fun q hq => cF q (by omega)) (by rw [cF _ (by omega)]) (cF _ (by omega)) cB N_rf.rf (hN.mono (by omega)) (by rw [← q3]; exact hT)
  refine r_pop F rfl dL_law_535 rfl ?_
  refine r_goto F (tgt := 1226) dL_law_536 (by decide) ?_
  exact J _ _ _ _ _ _ hIn (Nat.le_trans (Nat.add_le_add_left ((Nat.le_of_ble_eq_true rfl) : rm_X9_time.cells ≤ 0) _) hc1) (Nat.le_trans (Nat.add_le_add_left ((Nat.le_of_ble_eq_true rfl) : rm_X9_time.slots ≤ 0) _) hs1)
set_option maxRecDepth 100000 in
set_option maxHeartbeats 800000 in
theorem K_11 {C : ja_C} {D : va_G} {cA : Nat → ClassId} {l : Launch} {B b L y n cells slots k : Nat} {i : Int} {lay : ja_Y} {mem : ja_M} {sl : Nat → Option Nat} {xs : Nat → Int32} (F : ja_F C RL cL_law 4 room_1) (GC : ja_G C l D cA B) (X : ja_X C b L xs) (hL : L ≤ 2560) (hi : i = 5 * (k : Int)) (hk : 5 * k + 5 ≤ L) (h : L_In S0 lay mem n y sl (500 * (k : Int))) (hc : cells ≤ 1000 + 20 * k) (hs : slots ≤ 40000 + 1269 * k) (J : ∀ (lay2 : ja_Y) (mem2 : ja_M) (n2 : Nat) (sl2 : Nat → Option Nat) (cells2 slots2 : Nat), L_In S0 lay2 mem2 n2 y sl2 (500 * (k : Int) + 500) → cells2 ≤ 1000 + 20 * k + 20 → slots2 ≤ 40000 + 1269 * k + 1269 → ja_W C cells2 slots2 lay2 mem2 n2 1226 [some (.ref b), some (.ref y), some (.ref (y + 49)), some (.int (ja_I i))] []) : ja_W C cells slots lay mem n 539 [some (.ref b), some (.ref y), some (.ref (y + 49)), some (.int (ja_I i))] [] := by
  obtain ⟨⟨hB, hO, hn, hso, hsd⟩, ⟨hM, hN, hTO, hz4, hkp⟩, hT, hx, hsl⟩ := id h
  have hSOK : S_ok S0 := S0_ok
  have hk512 : k ≤ 512 := by omega
  have hc0 : cells ≤ 500000 := by omega
  have hs0 : slots ≤ 5000000 := by omega
  refine r_aload_n F rfl rfl dL_law_539 rfl ?_
  refine r_callV F GC (c_X8_start l D cA B hB hO ) v_L_62 rfl hB.1 rfl ⟨(Nat.le_of_ble_eq_true rfl), (Nat.le_of_ble_eq_true rfl)⟩ ⟨Nat.le_trans (Nat.add_le_add_right hc0 _) (Nat.le_of_ble_eq_true rfl), Nat.le_trans (Nat.add_le_add_right hs0 _) (Nat.le_of_ble_eq_true rfl)⟩ (Nat.le_of_ble_eq_true rfl) rfl dL_law_540 rfl (fun v L1 M1 n1 hp => ?_)
  have hc1 : cells + rm_X8_start.cells ≤ 1000 + 20 * k + 20 := Nat.add_le_add hc (Nat.le_of_ble_eq_true rfl)
  have hs1 : slots + rm_X8_start.slots ≤ 40000 + 1269 * k + 1269 := Nat.add_le_add hs (Nat.le_of_ble_eq_true rfl)
  have hc2 : cells + rm_X8_start.cells ≤ 500000 := by omega
  have hs2 : slots + rm_X8_start.slots ≤ 5000000 := by omega
  obtain ⟨q1, q2, q3, q4⟩ := hp
  subst q1; subst q2; subst q4
  have cF : ∀ q, y + 41 ≤ q → M1 q = mem q := fun q qa => by rw [← q3]
  have c1 : ∀ q, y + 49 ≤ q → q < y + 58 → M1 q = mem q := fun q qa _ => cF q (by omega)
  have cB : ja_BO M1 y sl (500 * (k : Int) + 500) := by rw [← q3]; exact BO_cg (by omega) hO (fun _ _ _ => rfl) (fun _ _ _ _ _ _ _ => rfl)
  refine r_pop F rfl dL_law_543 rfl ?_
  refine r_mem (mem' := ja_rw M1 (y + 49 + 1) (mem (y + 49 + 1))) (by rw [← c1 (y + 49 + 1) (by omega) (by omega), ja_rw_self]) ?_
  have hTO1 : N_TO M1 (y + 49) := N_TO_c (by rw [c1 _ (by omega) (by omega)]) (c1 _ (by omega) (by omega)) hTO
  have hz1 : ∀ j, 0 ≤ M1 (y + 49 + 4) j ∧ M1 (y + 49 + 4) j ≤ 1 := fun j => by rw [c1 _ (by omega) (by omega)]; exact hz4 j
  refine r_aload_n F rfl rfl dL_law_544 rfl ?_
  refine r_callV F GC (c_X9_start l D cA B hM hN.1) v_L_65 rfl hM.1 rfl ⟨(Nat.le_of_ble_eq_true rfl), (Nat.le_of_ble_eq_true rfl)⟩ ⟨Nat.le_trans (Nat.add_le_add_right hc2 _) (Nat.le_of_ble_eq_true rfl), Nat.le_trans (Nat.add_le_add_right hs2 _) (Nat.le_of_ble_eq_true rfl)⟩ (Nat.le_of_ble_eq_true rfl) rfl dL_law_545 rfl (fun v L2 M2 n2 hp => ?_)
  obtain ⟨q5, q6, q7, q8⟩ := hp
  subst q5; subst q6; subst q8
  have hIn := In_step2 hSOK h q7 (fun q hq => cF q (by omega)) (by rw [cF _ (by omega)]) (cF _ (by omega)) cB N_rf.rf (hN.mono (by omega)) (by rw [← q3]; exact hT)
  refine r_pop F rfl dL_law_548 rfl ?_
  refine r_goto F (tgt := 1226) dL_law_549 (by decide) ?_
  exact J _ _ _ _ _ _ hIn (Nat.le_trans (Nat.add_le_add_left ((Nat.le_of_ble_eq_true rfl) : rm_X9_start.cells ≤ 0) _) hc1) (Nat.le_trans (Nat.add_le_add_left ((Nat.le_of_ble_eq_true rfl) : rm_X9_start.slots ≤ 0) _) hs1)
set_option maxRecDepth 100000 in
set_option maxHeartbeats 800000 in
theorem K_12 {C : ja_C} {D : va_G} {cA : Nat → ClassId} {l : Launch} {B b L y n cells slots k : Nat} {i : Int} {lay : ja_Y} {mem : ja_M} {sl : Nat → Option Nat} {xs : Nat → Int32} (F : ja_F C RL cL_law 4 room_1) (GC : ja_G C l D cA B) (X : ja_X C b L xs) (hL : L ≤ 2560) (hi : i = 5 * (k : Int)) (hk : 5 * k + 5 ≤ L) (h : L_In S0 lay mem n y sl (500 * (k : Int))) (hc : cells ≤ 1000 + 20 * k) (hs : slots ≤ 40000 + 1269 * k) (J : ∀ (lay2 : ja_Y) (mem2 : ja_M) (n2 : Nat) (sl2 : Nat → Option Nat) (cells2 slots2 : Nat), L_In S0 lay2 mem2 n2 y sl2 (500 * (k : Int) + 500) → cells2 ≤ 1000 + 20 * k + 20 → slots2 ≤ 40000 + 1269 * k + 1269 → ja_W C cells2 slots2 lay2 mem2 n2 1226 [some (.ref b), some (.ref y), some (.ref (y + 49)), some (.int (ja_I i))] []) : ja_W C cells slots lay mem n 552 [some (.ref b), some (.ref y), some (.ref (y + 49)), some (.int (ja_I i))] [] := by
  obtain ⟨⟨hB, hO, hn, hso, hsd⟩, ⟨hM, hN, hTO, hz4, hkp⟩, hT, hx, hsl⟩ := id h
  have hSOK : S_ok S0 := S0_ok
  have hk512 : k ≤ 512 := by omega
  have hc0 : cells ≤ 500000 := by omega
  have hs0 : slots ≤ 5000000 := by omega
  obtain ⟨x1, hx1⟩ : ∃ z, z = (xs (Int.toNat (i + 1))).toInt := ⟨_, rfl⟩
  have hi1 : ja_in x1 := by rw [hx1]; exact ja_range _
  obtain ⟨i1a, i1b⟩ := id hi1
  refine r_aload_n F rfl rfl dL_law_552 rfl ?_
  refine r_aload_n F rfl rfl dL_law_553 rfl ?_
  refine r_iload_n F rfl rfl dL_law_554 rfl ?_
  refine r_iconst F dL_law_555 rfl ?_
  refine r_iadd F dL_law_556 rfl ?_
  refine r_sld F X (by omega) (by omega) (by omega) dL_law_557 rfl ?_
  refine r_eqz (z := x1) hx1.symm ?_
  refine r_callV F GC (c_X8_output l D cA B hB hO hi1) v_L_66 rfl hB.1 rfl ⟨(Nat.le_of_ble_eq_true rfl), (Nat.le_of_ble_eq_true rfl)⟩ ⟨Nat.le_trans (Nat.add_le_add_right hc0 _) (Nat.le_of_ble_eq_true rfl), Nat.le_trans (Nat.add_le_add_right hs0 _) (Nat.le_of_ble_eq_true rfl)⟩ (Nat.le_of_ble_eq_true rfl) rfl dL_law_558 rfl (fun v L1 M1 n1 hp => ?_)
  have hc1 : cells + rm_X8_output.cells ≤ 1000 + 20 * k + 20 := Nat.add_le_add hc (Nat.le_of_ble_eq_true rfl)
  have hs1 : slots + rm_X8_output.slots ≤ 40000 + 1269 * k + 1269 := Nat.add_le_add hs (Nat.le_of_ble_eq_true rfl)
  have hc2 : cells + rm_X8_output.cells ≤ 500000 := by omega
  have hs2 : slots + rm_X8_output.slots ≤ 5000000 := by omega
  obtain ⟨q1, q2, q3, q4⟩ := hp
  subst q1; subst q2; subst q4
  have cF : ∀ q, y + 41 ≤ q → M1 q = mem q := fun q qa => by rw [← q3]
  have c1 : ∀ q, y + 49 ≤ q → q < y + 58 → M1 q = mem q := fun q qa _ => cF q (by omega)
  have cB : ja_BO M1 y sl (500 * (k : Int) + 500) := by rw [← q3]; exact BO_cg (by omega) hO (fun _ _ _ => rfl) (fun _ _ _ _ _ _ _ => rfl)
  refine r_pop F rfl dL_law_561 rfl ?_
  refine r_mem (mem' := ja_rw M1 (y + 49 + 1) (mem (y + 49 + 1))) (by rw [← c1 (y + 49 + 1) (by omega) (by omega), ja_rw_self]) ?_
  have hTO1 : N_TO M1 (y + 49) := N_TO_c (by rw [c1 _ (by omega) (by omega)]) (c1 _ (by omega) (by omega)) hTO
  have hz1 : ∀ j, 0 ≤ M1 (y + 49 + 4) j ∧ M1 (y + 49 + 4) j ≤ 1 := fun j => by rw [c1 _ (by omega) (by omega)]; exact hz4 j
  refine r_aload_n F rfl rfl dL_law_562 rfl ?_
  refine r_aload_n F rfl rfl dL_law_563 rfl ?_
  refine r_iload_n F rfl rfl dL_law_564 rfl ?_
  refine r_iconst F dL_law_565 rfl ?_
  refine r_iadd F dL_law_566 rfl ?_
  refine r_sld F X (by omega) (by omega) (by omega) dL_law_567 rfl ?_
  refine r_eqz (z := x1) hx1.symm ?_
  refine r_callV F GC (c_X9_output l D cA B hM hN.1 hi1) v_L_69 rfl hM.1 rfl ⟨(Nat.le_of_ble_eq_true rfl), (Nat.le_of_ble_eq_true rfl)⟩ ⟨Nat.le_trans (Nat.add_le_add_right hc2 _) (Nat.le_of_ble_eq_true rfl), Nat.le_trans (Nat.add_le_add_right hs2 _) (Nat.le_of_ble_eq_true rfl)⟩ (Nat.le_of_ble_eq_true rfl) rfl dL_law_568 rfl (fun v L2 M2 n2 hp => ?_)
  obtain ⟨q5, q6, q7, q8⟩ := hp
  subst q5; subst q6; subst q8
  have hIn := In_step2 hSOK h q7 (fun q hq => cF q (by omega)) (by rw [cF _ (by omega)]) (cF _ (by omega)) cB N_rf.rf (hN.mono (by omega)) (by rw [← q3]; exact hT)
  refine r_pop F rfl dL_law_571 rfl ?_
  refine r_goto F (tgt := 1226) dL_law_572 (by decide) ?_
  exact J _ _ _ _ _ _ hIn (Nat.le_trans (Nat.add_le_add_left ((Nat.le_of_ble_eq_true rfl) : rm_X9_output.cells ≤ 0) _) hc1) (Nat.le_trans (Nat.add_le_add_left ((Nat.le_of_ble_eq_true rfl) : rm_X9_output.slots ≤ 0) _) hs1)
set_option maxRecDepth 100000 in
set_option maxHeartbeats 800000 in
theorem K_13 {C : ja_C} {D : va_G} {cA : Nat → ClassId} {l : Launch} {B b L y n cells slots k : Nat} {i : Int} {lay : ja_Y} {mem : ja_M} {sl : Nat → Option Nat} {xs : Nat → Int32} (F : ja_F C RL cL_law 4 room_1) (GC : ja_G C l D cA B) (X : ja_X C b L xs) (hL : L ≤ 2560) (hi : i = 5 * (k : Int)) (hk : 5 * k + 5 ≤ L) (h : L_In S0 lay mem n y sl (500 * (k : Int))) (hc : cells ≤ 1000 + 20 * k) (hs : slots ≤ 40000 + 1269 * k) (J : ∀ (lay2 : ja_Y) (mem2 : ja_M) (n2 : Nat) (sl2 : Nat → Option Nat) (cells2 slots2 : Nat), L_In S0 lay2 mem2 n2 y sl2 (500 * (k : Int) + 500) → cells2 ≤ 1000 + 20 * k + 20 → slots2 ≤ 40000 + 1269 * k + 1269 → ja_W C cells2 slots2 lay2 mem2 n2 1226 [some (.ref b), some (.ref y), some (.ref (y + 49)), some (.int (ja_I i))] []) : ja_W C cells slots lay mem n 575 [some (.ref b), some (.ref y), some (.ref (y + 49)), some (.int (ja_I i))] [] := by
  obtain ⟨⟨hB, hO, hn, hso, hsd⟩, ⟨hM, hN, hTO, hz4, hkp⟩, hT, hx, hsl⟩ := id h
  have hSOK : S_ok S0 := S0_ok
  have hk512 : k ≤ 512 := by omega
  have hc0 : cells ≤ 500000 := by omega
  have hs0 : slots ≤ 5000000 := by omega
  refine r_aload_n F rfl rfl dL_law_575 rfl ?_
  refine r_callV F GC (c_X8_outputs l D cA B hB hO ) v_L_70 rfl hB.1 rfl ⟨(Nat.le_of_ble_eq_true rfl), (Nat.le_of_ble_eq_true rfl)⟩ ⟨Nat.le_trans (Nat.add_le_add_right hc0 _) (Nat.le_of_ble_eq_true rfl), Nat.le_trans (Nat.add_le_add_right hs0 _) (Nat.le_of_ble_eq_true rfl)⟩ (Nat.le_of_ble_eq_true rfl) rfl dL_law_576 rfl (fun v L1 M1 n1 hp => ?_)
  have hc1 : cells + rm_X8_outputs.cells ≤ 1000 + 20 * k + 20 := Nat.add_le_add hc (Nat.le_of_ble_eq_true rfl)
  have hs1 : slots + rm_X8_outputs.slots ≤ 40000 + 1269 * k + 1269 := Nat.add_le_add hs (Nat.le_of_ble_eq_true rfl)
  have hc2 : cells + rm_X8_outputs.cells ≤ 500000 := by omega
  have hs2 : slots + rm_X8_outputs.slots ≤ 5000000 := by omega
  obtain ⟨q1, q2, q3, q4⟩ := hp
  subst q1; subst q2; subst q4
  have cF : ∀ q, y + 41 ≤ q → M1 q = mem q := fun q qa => by rw [← q3]
  have c1 : ∀ q, y + 49 ≤ q → q < y + 58 → M1 q = mem q := fun q qa _ => cF q (by omega)
  have cB : ja_BO M1 y sl (500 * (k : Int) + 500) := by rw [← q3]; exact BO_cg (by omega) hO (fun _ _ _ => rfl) (fun _ _ _ _ _ _ _ => rfl)
  refine r_pop F rfl dL_law_579 rfl ?_
  refine r_mem (mem' := ja_rw M1 (y + 49 + 1) (mem (y + 49 + 1))) (by rw [← c1 (y + 49 + 1) (by omega) (by omega), ja_rw_self]) ?_
  have hTO1 : N_TO M1 (y + 49) := N_TO_c (by rw [c1 _ (by omega) (by omega)]) (c1 _ (by omega) (by omega)) hTO
  have hz1 : ∀ j, 0 ≤ M1 (y + 49 + 4) j ∧ M1 (y + 49 + 4) j ≤ 1 := fun j => by rw [c1 _ (by omega) (by omega)]; exact hz4 j
  refine r_aload_n F rfl rfl dL_law_580 rfl ?_
  refine r_callV F GC (c_X9_outputs l D cA B hM hN.1) v_L_73 rfl hM.1 rfl ⟨(Nat.le_of_ble_eq_true rfl), (Nat.le_of_ble_eq_true rfl)⟩ ⟨Nat.le_trans (Nat.add_le_add_right hc2 _) (Nat.le_of_ble_eq_true rfl), Nat.le_trans (Nat.add_le_add_right hs2 _) (Nat.le_of_ble_eq_true rfl)⟩ (Nat.le_of_ble_eq_true rfl) rfl dL_law_581 rfl (fun v L2 M2 n2 hp => ?_)
  obtain ⟨q5, q6, q7, q8⟩ := hp
  subst q5; subst q6; subst q8
  have hIn := In_step2 hSOK h q7 (fun q hq => cF q (by omega)) (by rw [cF _ (by omega)]) (cF _ (by omega)) cB N_rf.rf (hN.mono (by omega)) (by rw [← q3]; exact hT)
  refine r_pop F rfl dL_law_584 rfl ?_
  refine r_goto F (tgt := 1226) dL_law_585 (by decide) ?_
  exact J _ _ _ _ _ _ hIn (Nat.le_trans (Nat.add_le_add_left ((Nat.le_of_ble_eq_true rfl) : rm_X9_outputs.cells ≤ 0) _) hc1) (Nat.le_trans (Nat.add_le_add_left ((Nat.le_of_ble_eq_true rfl) : rm_X9_outputs.slots ≤ 0) _) hs1)
set_option maxRecDepth 100000 in
set_option maxHeartbeats 800000 in
theorem K_14 {C : ja_C} {D : va_G} {cA : Nat → ClassId} {l : Launch} {B b L y n cells slots k : Nat} {i : Int} {lay : ja_Y} {mem : ja_M} {sl : Nat → Option Nat} {xs : Nat → Int32} (F : ja_F C RL cL_law 4 room_1) (GC : ja_G C l D cA B) (X : ja_X C b L xs) (hL : L ≤ 2560) (hi : i = 5 * (k : Int)) (hk : 5 * k + 5 ≤ L) (h : L_In S0 lay mem n y sl (500 * (k : Int))) (hc : cells ≤ 1000 + 20 * k) (hs : slots ≤ 40000 + 1269 * k) (J : ∀ (lay2 : ja_Y) (mem2 : ja_M) (n2 : Nat) (sl2 : Nat → Option Nat) (cells2 slots2 : Nat), L_In S0 lay2 mem2 n2 y sl2 (500 * (k : Int) + 500) → cells2 ≤ 1000 + 20 * k + 20 → slots2 ≤ 40000 + 1269 * k + 1269 → ja_W C cells2 slots2 lay2 mem2 n2 1226 [some (.ref b), some (.ref y), some (.ref (y + 49)), some (.int (ja_I i))] []) : ja_W C cells slots lay mem n 588 [some (.ref b), some (.ref y), some (.ref (y + 49)), some (.int (ja_I i))] [] := by
  obtain ⟨⟨hB, hO, hn, hso, hsd⟩, ⟨hM, hN, hTO, hz4, hkp⟩, hT, hx, hsl⟩ := id h
  have hSOK : S_ok S0 := S0_ok
  have hk512 : k ≤ 512 := by omega
  have hc0 : cells ≤ 500000 := by omega
  have hs0 : slots ≤ 5000000 := by omega
  refine r_aload_n F rfl rfl dL_law_588 rfl ?_
  refine r_callV F GC (c_X8_left l D cA B hB hO ) v_L_74 rfl hB.1 rfl ⟨(Nat.le_of_ble_eq_true rfl), (Nat.le_of_ble_eq_true rfl)⟩ ⟨Nat.le_trans (Nat.add_le_add_right hc0 _) (Nat.le_of_ble_eq_true rfl), Nat.le_trans (Nat.add_le_add_right hs0 _) (Nat.le_of_ble_eq_true rfl)⟩ (Nat.le_of_ble_eq_true rfl) rfl dL_law_589 rfl (fun v L1 M1 n1 hp => ?_)
  have hc1 : cells + rm_X8_left.cells ≤ 1000 + 20 * k + 20 := Nat.add_le_add hc (Nat.le_of_ble_eq_true rfl)
  have hs1 : slots + rm_X8_left.slots ≤ 40000 + 1269 * k + 1269 := Nat.add_le_add hs (Nat.le_of_ble_eq_true rfl)
  have hc2 : cells + rm_X8_left.cells ≤ 500000 := by omega
  have hs2 : slots + rm_X8_left.slots ≤ 5000000 := by omega
  obtain ⟨q1, q2, q3, q4⟩ := hp
  subst q1; subst q2; subst q4
  have cF : ∀ q, y + 41 ≤ q → M1 q = mem q := fun q qa => by rw [← q3]
  have c1 : ∀ q, y + 49 ≤ q → q < y + 58 → M1 q = mem q := fun q qa _ => cF q (by omega)
  have cB : ja_BO M1 y sl (500 * (k : Int) + 500) := by rw [← q3]; exact BO_cg (by omega) hO (fun _ _ _ => rfl) (fun _ _ _ _ _ _ _ => rfl)
  refine r_pop F rfl dL_law_592 rfl ?_
  refine r_mem (mem' := ja_rw M1 (y + 49 + 1) (mem (y + 49 + 1))) (by rw [← c1 (y + 49 + 1) (by omega) (by omega), ja_rw_self]) ?_
  have hTO1 : N_TO M1 (y + 49) := N_TO_c (by rw [c1 _ (by omega) (by omega)]) (c1 _ (by omega) (by omega)) hTO
  have hz1 : ∀ j, 0 ≤ M1 (y + 49 + 4) j ∧ M1 (y + 49 + 4) j ≤ 1 := fun j => by rw [c1 _ (by omega) (by omega)]; exact hz4 j
  refine r_aload_n F rfl rfl dL_law_593 rfl ?_
  refine r_callV F GC (c_X9_left l D cA B hM hN.1) v_L_77 rfl hM.1 rfl ⟨(Nat.le_of_ble_eq_true rfl), (Nat.le_of_ble_eq_true rfl)⟩ ⟨Nat.le_trans (Nat.add_le_add_right hc2 _) (Nat.le_of_ble_eq_true rfl), Nat.le_trans (Nat.add_le_add_right hs2 _) (Nat.le_of_ble_eq_true rfl)⟩ (Nat.le_of_ble_eq_true rfl) rfl dL_law_594 rfl (fun v L2 M2 n2 hp => ?_)
  obtain ⟨q5, q6, q7, q8⟩ := hp
  subst q5; subst q6; subst q8
  have hIn := In_step2 hSOK h q7 (fun q hq => cF q (by omega)) (by rw [cF _ (by omega)]) (cF _ (by omega)) cB N_rf.rf (hN.mono (by omega)) (by rw [← q3]; exact hT)
  refine r_pop F rfl dL_law_597 rfl ?_
  refine r_goto F (tgt := 1226) dL_law_598 (by decide) ?_
  exact J _ _ _ _ _ _ hIn (Nat.le_trans (Nat.add_le_add_left ((Nat.le_of_ble_eq_true rfl) : rm_X9_left.cells ≤ 0) _) hc1) (Nat.le_trans (Nat.add_le_add_left ((Nat.le_of_ble_eq_true rfl) : rm_X9_left.slots ≤ 0) _) hs1)
set_option maxRecDepth 100000 in
set_option maxHeartbeats 800000 in
theorem K_15 {C : ja_C} {D : va_G} {cA : Nat → ClassId} {l : Launch} {B b L y n cells slots k : Nat} {i : Int} {lay : ja_Y} {mem : ja_M} {sl : Nat → Option Nat} {xs : Nat → Int32} (F : ja_F C RL cL_law 4 room_1) (GC : ja_G C l D cA B) (X : ja_X C b L xs) (hL : L ≤ 2560) (hi : i = 5 * (k : Int)) (hk : 5 * k + 5 ≤ L) (h : L_In S0 lay mem n y sl (500 * (k : Int))) (hc : cells ≤ 1000 + 20 * k) (hs : slots ≤ 40000 + 1269 * k) (J : ∀ (lay2 : ja_Y) (mem2 : ja_M) (n2 : Nat) (sl2 : Nat → Option Nat) (cells2 slots2 : Nat), L_In S0 lay2 mem2 n2 y sl2 (500 * (k : Int) + 500) → cells2 ≤ 1000 + 20 * k + 20 → slots2 ≤ 40000 + 1269 * k + 1269 → ja_W C cells2 slots2 lay2 mem2 n2 1226 [some (.ref b), some (.ref y), some (.ref (y + 49)), some (.int (ja_I i))] []) : ja_W C cells slots lay mem n 601 [some (.ref b), some (.ref y), some (.ref (y + 49)), some (.int (ja_I i))] [] := by
  obtain ⟨⟨hB, hO, hn, hso, hsd⟩, ⟨hM, hN, hTO, hz4, hkp⟩, hT, hx, hsl⟩ := id h
  have hSOK : S_ok S0 := S0_ok
  have hk512 : k ≤ 512 := by omega
  have hc0 : cells ≤ 500000 := by omega
  have hs0 : slots ≤ 5000000 := by omega
  refine r_aload_n F rfl rfl dL_law_601 rfl ?_
  refine r_callV F GC (c_X8_next l D cA B hB hO ) v_L_78 rfl hB.1 rfl ⟨(Nat.le_of_ble_eq_true rfl), (Nat.le_of_ble_eq_true rfl)⟩ ⟨Nat.le_trans (Nat.add_le_add_right hc0 _) (Nat.le_of_ble_eq_true rfl), Nat.le_trans (Nat.add_le_add_right hs0 _) (Nat.le_of_ble_eq_true rfl)⟩ (Nat.le_of_ble_eq_true rfl) rfl dL_law_602 rfl (fun v L1 M1 n1 hp => ?_)
  have hc1 : cells + rm_X8_next.cells ≤ 1000 + 20 * k + 20 := Nat.add_le_add hc (Nat.le_of_ble_eq_true rfl)
  have hs1 : slots + rm_X8_next.slots ≤ 40000 + 1269 * k + 1269 := Nat.add_le_add hs (Nat.le_of_ble_eq_true rfl)
  have hc2 : cells + rm_X8_next.cells ≤ 500000 := by omega
  have hs2 : slots + rm_X8_next.slots ≤ 5000000 := by omega
  obtain ⟨q1, q2, q3, q4⟩ := hp
  subst q1; subst q2; subst q4
  have cF : ∀ q, y + 41 ≤ q → M1 q = mem q := fun q qa => by rw [← q3]
  have c1 : ∀ q, y + 49 ≤ q → q < y + 58 → M1 q = mem q := fun q qa _ => cF q (by omega)
  have cB : ja_BO M1 y sl (500 * (k : Int) + 500) := by rw [← q3]; exact BO_cg (by omega) hO (fun _ _ _ => rfl) (fun _ _ _ _ _ _ _ => rfl)
  refine r_pop F rfl dL_law_605 rfl ?_
  refine r_mem (mem' := ja_rw M1 (y + 49 + 1) (mem (y + 49 + 1))) (by rw [← c1 (y + 49 + 1) (by omega) (by omega), ja_rw_self]) ?_
  have hTO1 : N_TO M1 (y + 49) := N_TO_c (by rw [c1 _ (by omega) (by omega)]) (c1 _ (by omega) (by omega)) hTO
  have hz1 : ∀ j, 0 ≤ M1 (y + 49 + 4) j ∧ M1 (y + 49 + 4) j ≤ 1 := fun j => by rw [c1 _ (by omega) (by omega)]; exact hz4 j
  refine r_aload_n F rfl rfl dL_law_606 rfl ?_
  refine r_callV F GC (c_X9_next l D cA B hM hN.1) v_L_81 rfl hM.1 rfl ⟨(Nat.le_of_ble_eq_true rfl), (Nat.le_of_ble_eq_true rfl)⟩ ⟨Nat.le_trans (Nat.add_le_add_right hc2 _) (Nat.le_of_ble_eq_true rfl), Nat.le_trans (Nat.add_le_add_right hs2 _) (Nat.le_of_ble_eq_true rfl)⟩ (Nat.le_of_ble_eq_true rfl) rfl dL_law_607 rfl (fun v L2 M2 n2 hp => ?_)
  obtain ⟨q5, q6, q7, q8⟩ := hp
  subst q5; subst q6; subst q8
  have hIn := In_step2 hSOK h q7 (fun q hq => cF q (by omega)) (by rw [cF _ (by omega)]) (cF _ (by omega)) cB N_rf.rf (hN.mono (by omega)) (by rw [← q3]; exact hT)
  refine r_pop F rfl dL_law_610 rfl ?_
  refine r_goto F (tgt := 1226) dL_law_611 (by decide) ?_
  exact J _ _ _ _ _ _ hIn (Nat.le_trans (Nat.add_le_add_left ((Nat.le_of_ble_eq_true rfl) : rm_X9_next.cells ≤ 0) _) hc1) (Nat.le_trans (Nat.add_le_add_left ((Nat.le_of_ble_eq_true rfl) : rm_X9_next.slots ≤ 0) _) hs1)
end
section
set_option maxRecDepth 100000 in
set_option maxHeartbeats 800000 in
theorem K_16 {C : ja_C} {D : va_G} {cA : Nat → ClassId} {l : Launch} {B b L y n cells slots k : Nat} {i : Int} {lay : ja_Y} {mem : ja_M} {sl : Nat → Option Nat} {xs : Nat → Int32} (F : ja_F C RL cL_law 4 room_1) (GC : ja_G C l D cA B) (X : ja_X C b L xs) (hL : L ≤ 2560) (hi : i = 5 * (k : Int)) (hk : 5 * k + 5 ≤ L) (h : L_In S0 lay mem n y sl (500 * (k : Int))) (hc : cells ≤ 1000 + 20 * k) (hs : slots ≤ 40000 + 1269 * k) (J : ∀ (lay2 : ja_Y) (mem2 : ja_M) (n2 : Nat) (sl2 : Nat → Option Nat) (cells2 slots2 : Nat), L_In S0 lay2 mem2 n2 y sl2 (500 * (k : Int) + 500) → cells2 ≤ 1000 + 20 * k + 20 → slots2 ≤ 40000 + 1269 * k + 1269 → ja_W C cells2 slots2 lay2 mem2 n2 1226 [some (.ref b), some (.ref y), some (.ref (y + 49)), some (.int (ja_I i))] []) : ja_W C cells slots lay mem n 614 [some (.ref b), some (.ref y), some (.ref (y + 49)), some (.int (ja_I i))] [] := by
  obtain ⟨⟨hB, hO, hn, hso, hsd⟩, ⟨hM, hN, hTO, hz4, hkp⟩, hT, hx, hsl⟩ := id h
  have hSOK : S_ok S0 := S0_ok
  have hk512 : k ≤ 512 := by omega
  have hc0 : cells ≤ 500000 := by omega
  have hs0 : slots ≤ 5000000 := by omega
  obtain ⟨x1, hx1⟩ : ∃ z, z = (xs (Int.toNat (i + 1))).toInt := ⟨_, rfl⟩
  have hi1 : ja_in x1 := by rw [hx1]; exact ja_range _
  obtain ⟨i1a, i1b⟩ := id hi1
  refine r_aload_n F rfl rfl dL_law_614 rfl ?_
  refine r_aload_n F rfl rfl dL_law_615 rfl ?_
  refine r_iload_n F rfl rfl dL_law_616 rfl ?_
  refine r_iconst F dL_law_617 rfl ?_
  refine r_iadd F dL_law_618 rfl ?_
  refine r_sld F X (by omega) (by omega) (by omega) dL_law_619 rfl ?_
  refine r_eqz (z := x1) hx1.symm ?_
  refine r_callV F GC (c_X8_kind l D cA B hB hO hi1) v_L_82 rfl hB.1 rfl ⟨(Nat.le_of_ble_eq_true rfl), (Nat.le_of_ble_eq_true rfl)⟩ ⟨Nat.le_trans (Nat.add_le_add_right hc0 _) (Nat.le_of_ble_eq_true rfl), Nat.le_trans (Nat.add_le_add_right hs0 _) (Nat.le_of_ble_eq_true rfl)⟩ (Nat.le_of_ble_eq_true rfl) rfl dL_law_620 rfl (fun v L1 M1 n1 hp => ?_)
  have hc1 : cells + rm_X8_kind.cells ≤ 1000 + 20 * k + 20 := Nat.add_le_add hc (Nat.le_of_ble_eq_true rfl)
  have hs1 : slots + rm_X8_kind.slots ≤ 40000 + 1269 * k + 1269 := Nat.add_le_add hs (Nat.le_of_ble_eq_true rfl)
  have hc2 : cells + rm_X8_kind.cells ≤ 500000 := by omega
  have hs2 : slots + rm_X8_kind.slots ≤ 5000000 := by omega
  obtain ⟨q1, q2, q3, q4⟩ := hp
  subst q1; subst q2; subst q4
  have cF : ∀ q, y + 41 ≤ q → M1 q = mem q := fun q qa => by rw [← q3]
  have c1 : ∀ q, y + 49 ≤ q → q < y + 58 → M1 q = mem q := fun q qa _ => cF q (by omega)
  have cB : ja_BO M1 y sl (500 * (k : Int) + 500) := by rw [← q3]; exact BO_cg (by omega) hO (fun _ _ _ => rfl) (fun _ _ _ _ _ _ _ => rfl)
  refine r_pop F rfl dL_law_623 rfl ?_
  refine r_mem (mem' := ja_rw M1 (y + 49 + 1) (mem (y + 49 + 1))) (by rw [← c1 (y + 49 + 1) (by omega) (by omega), ja_rw_self]) ?_
  have hTO1 : N_TO M1 (y + 49) := N_TO_c (by rw [c1 _ (by omega) (by omega)]) (c1 _ (by omega) (by omega)) hTO
  have hz1 : ∀ j, 0 ≤ M1 (y + 49 + 4) j ∧ M1 (y + 49 + 4) j ≤ 1 := fun j => by rw [c1 _ (by omega) (by omega)]; exact hz4 j
  refine r_aload_n F rfl rfl dL_law_624 rfl ?_
  refine r_aload_n F rfl rfl dL_law_625 rfl ?_
  refine r_iload_n F rfl rfl dL_law_626 rfl ?_
  refine r_iconst F dL_law_627 rfl ?_
  refine r_iadd F dL_law_628 rfl ?_
  refine r_sld F X (by omega) (by omega) (by omega) dL_law_629 rfl ?_
  refine r_eqz (z := x1) hx1.symm ?_
  refine r_callV F GC (c_X9_kind l D cA B hM hN.1 hi1) v_L_85 rfl hM.1 rfl ⟨(Nat.le_of_ble_eq_true rfl), (Nat.le_of_ble_eq_true rfl)⟩ ⟨Nat.le_trans (Nat.add_le_add_right hc2 _) (Nat.le_of_ble_eq_true rfl), Nat.le_trans (Nat.add_le_add_right hs2 _) (Nat.le_of_ble_eq_true rfl)⟩ (Nat.le_of_ble_eq_true rfl) rfl dL_law_630 rfl (fun v L2 M2 n2 hp => ?_)
  obtain ⟨q5, q6, q7, q8⟩ := hp
  subst q5; subst q6; subst q8
  have hIn := In_step2 hSOK h q7 (fun q hq => cF q (by omega)) (by rw [cF _ (by omega)]) (cF _ (by omega)) cB N_rf.rf (hN.mono (by omega)) (by rw [← q3]; exact hT)
  refine r_pop F rfl dL_law_633 rfl ?_
  refine r_goto F (tgt := 1226) dL_law_634 (by decide) ?_
  exact J _ _ _ _ _ _ hIn (Nat.le_trans (Nat.add_le_add_left ((Nat.le_of_ble_eq_true rfl) : rm_X9_kind.cells ≤ 0) _) hc1) (Nat.le_trans (Nat.add_le_add_left ((Nat.le_of_ble_eq_true rfl) : rm_X9_kind.slots ≤ 0) _) hs1)
set_option maxRecDepth 100000 in
set_option maxHeartbeats 800000 in
theorem K_17 {C : ja_C} {D : va_G} {cA : Nat → ClassId} {l : Launch} {B b L y n cells slots k : Nat} {i : Int} {lay : ja_Y} {mem : ja_M} {sl : Nat → Option Nat} {xs : Nat → Int32} (F : ja_F C RL cL_law 4 room_1) (GC : ja_G C l D cA B) (X : ja_X C b L xs) (hL : L ≤ 2560) (hi : i = 5 * (k : Int)) (hk : 5 * k + 5 ≤ L) (h : L_In S0 lay mem n y sl (500 * (k : Int))) (hc : cells ≤ 1000 + 20 * k) (hs : slots ≤ 40000 + 1269 * k) (J : ∀ (lay2 : ja_Y) (mem2 : ja_M) (n2 : Nat) (sl2 : Nat → Option Nat) (cells2 slots2 : Nat), L_In S0 lay2 mem2 n2 y sl2 (500 * (k : Int) + 500) → cells2 ≤ 1000 + 20 * k + 20 → slots2 ≤ 40000 + 1269 * k + 1269 → ja_W C cells2 slots2 lay2 mem2 n2 1226 [some (.ref b), some (.ref y), some (.ref (y + 49)), some (.int (ja_I i))] []) : ja_W C cells slots lay mem n 637 [some (.ref b), some (.ref y), some (.ref (y + 49)), some (.int (ja_I i))] [] := by
  obtain ⟨⟨hB, hO, hn, hso, hsd⟩, ⟨hM, hN, hTO, hz4, hkp⟩, hT, hx, hsl⟩ := id h
  have hSOK : S_ok S0 := S0_ok
  have hk512 : k ≤ 512 := by omega
  have hc0 : cells ≤ 500000 := by omega
  have hs0 : slots ≤ 5000000 := by omega
  obtain ⟨x1, hx1⟩ : ∃ z, z = (xs (Int.toNat (i + 1))).toInt := ⟨_, rfl⟩
  have hi1 : ja_in x1 := by rw [hx1]; exact ja_range _
  obtain ⟨i1a, i1b⟩ := id hi1
  refine r_aload_n F rfl rfl dL_law_637 rfl ?_
  refine r_aload_n F rfl rfl dL_law_638 rfl ?_
  refine r_iload_n F rfl rfl dL_law_639 rfl ?_
  refine r_iconst F dL_law_640 rfl ?_
  refine r_iadd F dL_law_641 rfl ?_
  refine r_sld F X (by omega) (by omega) (by omega) dL_law_642 rfl ?_
  refine r_eqz (z := x1) hx1.symm ?_
  refine r_callV F GC (c_X8_state l D cA B hB hO hi1) v_L_86 rfl hB.1 rfl ⟨(Nat.le_of_ble_eq_true rfl), (Nat.le_of_ble_eq_true rfl)⟩ ⟨Nat.le_trans (Nat.add_le_add_right hc0 _) (Nat.le_of_ble_eq_true rfl), Nat.le_trans (Nat.add_le_add_right hs0 _) (Nat.le_of_ble_eq_true rfl)⟩ (Nat.le_of_ble_eq_true rfl) rfl dL_law_643 rfl (fun v L1 M1 n1 hp => ?_)
  have hc1 : cells + rm_X8_state.cells ≤ 1000 + 20 * k + 20 := Nat.add_le_add hc (Nat.le_of_ble_eq_true rfl)
  have hs1 : slots + rm_X8_state.slots ≤ 40000 + 1269 * k + 1269 := Nat.add_le_add hs (Nat.le_of_ble_eq_true rfl)
  have hc2 : cells + rm_X8_state.cells ≤ 500000 := by omega
  have hs2 : slots + rm_X8_state.slots ≤ 5000000 := by omega
  obtain ⟨q1, q2, q3, q4⟩ := hp
  subst q1; subst q2; subst q4
  have cF : ∀ q, y + 41 ≤ q → M1 q = mem q := fun q qa => by rw [← q3]
  have c1 : ∀ q, y + 49 ≤ q → q < y + 58 → M1 q = mem q := fun q qa _ => cF q (by omega)
  have cB : ja_BO M1 y sl (500 * (k : Int) + 500) := by rw [← q3]; exact BO_cg (by omega) hO (fun _ _ _ => rfl) (fun _ _ _ _ _ _ _ => rfl)
  refine r_pop F rfl dL_law_646 rfl ?_
  refine r_mem (mem' := ja_rw M1 (y + 49 + 1) (mem (y + 49 + 1))) (by rw [← c1 (y + 49 + 1) (by omega) (by omega), ja_rw_self]) ?_
  have hTO1 : N_TO M1 (y + 49) := N_TO_c (by rw [c1 _ (by omega) (by omega)]) (c1 _ (by omega) (by omega)) hTO
  have hz1 : ∀ j, 0 ≤ M1 (y + 49 + 4) j ∧ M1 (y + 49 + 4) j ≤ 1 := fun j => by rw [c1 _ (by omega) (by omega)]; exact hz4 j
  refine r_aload_n F rfl rfl dL_law_647 rfl ?_
  refine r_aload_n F rfl rfl dL_law_648 rfl ?_
  refine r_iload_n F rfl rfl dL_law_649 rfl ?_
  refine r_iconst F dL_law_650 rfl ?_
  refine r_iadd F dL_law_651 rfl ?_
  refine r_sld F X (by omega) (by omega) (by omega) dL_law_652 rfl ?_
  refine r_eqz (z := x1) hx1.symm ?_
  refine r_callV F GC (c_X9_state l D cA B hM hN.1 hi1) v_L_89 rfl hM.1 rfl ⟨(Nat.le_of_ble_eq_true rfl), (Nat.le_of_ble_eq_true rfl)⟩ ⟨Nat.le_trans (Nat.add_le_add_right hc2 _) (Nat.le_of_ble_eq_true rfl), Nat.le_trans (Nat.add_le_add_right hs2 _) (Nat.le_of_ble_eq_true rfl)⟩ (Nat.le_of_ble_eq_true rfl) rfl dL_law_653 rfl (fun v L2 M2 n2 hp => ?_)
  obtain ⟨q5, q6, q7, q8⟩ := hp
  subst q5; subst q6; subst q8
  have hIn := In_step2 hSOK h q7 (fun q hq => cF q (by omega)) (by rw [cF _ (by omega)]) (cF _ (by omega)) cB N_rf.rf (hN.mono (by omega)) (by rw [← q3]; exact hT)
  refine r_pop F rfl dL_law_656 rfl ?_
  refine r_goto F (tgt := 1226) dL_law_657 (by decide) ?_
  exact J _ _ _ _ _ _ hIn (Nat.le_trans (Nat.add_le_add_left ((Nat.le_of_ble_eq_true rfl) : rm_X9_state.cells ≤ 0) _) hc1) (Nat.le_trans (Nat.add_le_add_left ((Nat.le_of_ble_eq_true rfl) : rm_X9_state.slots ≤ 0) _) hs1)
set_option maxRecDepth 100000 in
set_option maxHeartbeats 800000 in
theorem K_18 {C : ja_C} {D : va_G} {cA : Nat → ClassId} {l : Launch} {B b L y n cells slots k : Nat} {i : Int} {lay : ja_Y} {mem : ja_M} {sl : Nat → Option Nat} {xs : Nat → Int32} (F : ja_F C RL cL_law 4 room_1) (GC : ja_G C l D cA B) (X : ja_X C b L xs) (hL : L ≤ 2560) (hi : i = 5 * (k : Int)) (hk : 5 * k + 5 ≤ L) (h : L_In S0 lay mem n y sl (500 * (k : Int))) (hc : cells ≤ 1000 + 20 * k) (hs : slots ≤ 40000 + 1269 * k) (J : ∀ (lay2 : ja_Y) (mem2 : ja_M) (n2 : Nat) (sl2 : Nat → Option Nat) (cells2 slots2 : Nat), L_In S0 lay2 mem2 n2 y sl2 (500 * (k : Int) + 500) → cells2 ≤ 1000 + 20 * k + 20 → slots2 ≤ 40000 + 1269 * k + 1269 → ja_W C cells2 slots2 lay2 mem2 n2 1226 [some (.ref b), some (.ref y), some (.ref (y + 49)), some (.int (ja_I i))] []) : ja_W C cells slots lay mem n 660 [some (.ref b), some (.ref y), some (.ref (y + 49)), some (.int (ja_I i))] [] := by
  obtain ⟨⟨hB, hO, hn, hso, hsd⟩, ⟨hM, hN, hTO, hz4, hkp⟩, hT, hx, hsl⟩ := id h
  have hSOK : S_ok S0 := S0_ok
  have hk512 : k ≤ 512 := by omega
  have hc0 : cells ≤ 500000 := by omega
  have hs0 : slots ≤ 5000000 := by omega
  obtain ⟨x1, hx1⟩ : ∃ z, z = (xs (Int.toNat (i + 1))).toInt := ⟨_, rfl⟩
  have hi1 : ja_in x1 := by rw [hx1]; exact ja_range _
  obtain ⟨i1a, i1b⟩ := id hi1
  obtain ⟨x2, hx2⟩ : ∃ z, z = (xs (Int.toNat (i + 2))).toInt := ⟨_, rfl⟩
  have hi2 : ja_in x2 := by rw [hx2]; exact ja_range _
  obtain ⟨i2a, i2b⟩ := id hi2
  refine r_aload_n F rfl rfl dL_law_660 rfl ?_
  refine r_aload_n F rfl rfl dL_law_661 rfl ?_
  refine r_iload_n F rfl rfl dL_law_662 rfl ?_
  refine r_iconst F dL_law_663 rfl ?_
  refine r_iadd F dL_law_664 rfl ?_
  refine r_sld F X (by omega) (by omega) (by omega) dL_law_665 rfl ?_
  refine r_eqz (z := x1) hx1.symm ?_
  refine r_aload_n F rfl rfl dL_law_666 rfl ?_
  refine r_iload_n F rfl rfl dL_law_667 rfl ?_
  refine r_iconst F dL_law_668 rfl ?_
  refine r_iadd F dL_law_669 rfl ?_
  refine r_sld F X (by omega) (by omega) (by omega) dL_law_670 rfl ?_
  refine r_eqz (z := x2) hx2.symm ?_
  refine r_callV F GC (c_X8_sample l D cA B hB hO hi1 hi2) v_L_90 rfl hB.1 rfl ⟨(Nat.le_of_ble_eq_true rfl), (Nat.le_of_ble_eq_true rfl)⟩ ⟨Nat.le_trans (Nat.add_le_add_right hc0 _) (Nat.le_of_ble_eq_true rfl), Nat.le_trans (Nat.add_le_add_right hs0 _) (Nat.le_of_ble_eq_true rfl)⟩ (Nat.le_of_ble_eq_true rfl) rfl dL_law_671 rfl (fun v L1 M1 n1 hp => ?_)
  have hc1 : cells + rm_X8_sample.cells ≤ 1000 + 20 * k + 20 := Nat.add_le_add hc (Nat.le_of_ble_eq_true rfl)
  have hs1 : slots + rm_X8_sample.slots ≤ 40000 + 1269 * k + 1269 := Nat.add_le_add hs (Nat.le_of_ble_eq_true rfl)
  have hc2 : cells + rm_X8_sample.cells ≤ 500000 := by omega
  have hs2 : slots + rm_X8_sample.slots ≤ 5000000 := by omega
  obtain ⟨q1, q2, q3, q4⟩ := hp
  subst q1; subst q2; subst q4
  have cF : ∀ q, y + 41 ≤ q → M1 q = mem q := fun q qa => by rw [← q3]
  have c1 : ∀ q, y + 49 ≤ q → q < y + 58 → M1 q = mem q := fun q qa _ => cF q (by omega)
  have cB : ja_BO M1 y sl (500 * (k : Int) + 500) := by rw [← q3]; exact BO_cg (by omega) hO (fun _ _ _ => rfl) (fun _ _ _ _ _ _ _ => rfl)
  refine r_pop F rfl dL_law_674 rfl ?_
  refine r_mem (mem' := ja_rw M1 (y + 49 + 1) (mem (y + 49 + 1))) (by rw [← c1 (y + 49 + 1) (by omega) (by omega), ja_rw_self]) ?_
  have hTO1 : N_TO M1 (y + 49) := N_TO_c (by rw [c1 _ (by omega) (by omega)]) (c1 _ (by omega) (by omega)) hTO
  have hz1 : ∀ j, 0 ≤ M1 (y + 49 + 4) j ∧ M1 (y + 49 + 4) j ≤ 1 := fun j => by rw [c1 _ (by omega) (by omega)]; exact hz4 j
  refine r_aload_n F rfl rfl dL_law_675 rfl ?_
  refine r_aload_n F rfl rfl dL_law_676 rfl ?_
  refine r_iload_n F rfl rfl dL_law_677 rfl ?_
  refine r_iconst F dL_law_678 rfl ?_
  refine r_iadd F dL_law_679 rfl ?_
  refine r_sld F X (by omega) (by omega) (by omega) dL_law_680 rfl ?_
  refine r_eqz (z := x1) hx1.symm ?_
  refine r_aload_n F rfl rfl dL_law_681 rfl ?_
  refine r_iload_n F rfl rfl dL_law_682 rfl ?_
  refine r_iconst F dL_law_683 rfl ?_
  refine r_iadd F dL_law_684 rfl ?_
  refine r_sld F X (by omega) (by omega) (by omega) dL_law_685 rfl ?_
  refine r_eqz (z := x2) hx2.symm ?_
  refine r_callV F GC (c_X9_sample l D cA B hM hN.1 hi1 hi2) v_L_93 rfl hM.1 rfl ⟨(Nat.le_of_ble_eq_true rfl), (Nat.le_of_ble_eq_true rfl)⟩ ⟨Nat.le_trans (Nat.add_le_add_right hc2 _) (Nat.le_of_ble_eq_true rfl), Nat.le_trans (Nat.add_le_add_right hs2 _) (Nat.le_of_ble_eq_true rfl)⟩ (Nat.le_of_ble_eq_true rfl) rfl dL_law_686 rfl (fun v L2 M2 n2 hp => ?_)
  obtain ⟨q5, q6, q7, q8⟩ := hp
  subst q5; subst q6; subst q8
  have hIn := In_step2 hSOK h q7 (fun q hq => cF q (by omega)) (by rw [cF _ (by omega)]) (cF _ (by omega)) cB N_rf.rf (hN.mono (by omega)) (by rw [← q3]; exact hT)
  refine r_pop F rfl dL_law_689 rfl ?_
  refine r_goto F (tgt := 1226) dL_law_690 (by decide) ?_
  exact J _ _ _ _ _ _ hIn (Nat.le_trans (Nat.add_le_add_left ((Nat.le_of_ble_eq_true rfl) : rm_X9_sample.cells ≤ 0) _) hc1) (Nat.le_trans (Nat.add_le_add_left ((Nat.le_of_ble_eq_true rfl) : rm_X9_sample.slots ≤ 0) _) hs1)
set_option maxRecDepth 100000 in
set_option maxHeartbeats 800000 in
theorem K_19 {C : ja_C} {D : va_G} {cA : Nat → ClassId} {l : Launch} {B b L y n cells slots k : Nat} {i : Int} {lay : ja_Y} {mem : ja_M} {sl : Nat → Option Nat} {xs : Nat → Int32} (F : ja_F C RL cL_law 4 room_1) (GC : ja_G C l D cA B) (X : ja_X C b L xs) (hL : L ≤ 2560) (hi : i = 5 * (k : Int)) (hk : 5 * k + 5 ≤ L) (h : L_In S0 lay mem n y sl (500 * (k : Int))) (hc : cells ≤ 1000 + 20 * k) (hs : slots ≤ 40000 + 1269 * k) (J : ∀ (lay2 : ja_Y) (mem2 : ja_M) (n2 : Nat) (sl2 : Nat → Option Nat) (cells2 slots2 : Nat), L_In S0 lay2 mem2 n2 y sl2 (500 * (k : Int) + 500) → cells2 ≤ 1000 + 20 * k + 20 → slots2 ≤ 40000 + 1269 * k + 1269 → ja_W C cells2 slots2 lay2 mem2 n2 1226 [some (.ref b), some (.ref y), some (.ref (y + 49)), some (.int (ja_I i))] []) : ja_W C cells slots lay mem n 693 [some (.ref b), some (.ref y), some (.ref (y + 49)), some (.int (ja_I i))] [] := by
  obtain ⟨⟨hB, hO, hn, hso, hsd⟩, ⟨hM, hN, hTO, hz4, hkp⟩, hT, hx, hsl⟩ := id h
  have hSOK : S_ok S0 := S0_ok
  have hk512 : k ≤ 512 := by omega
  have hc0 : cells ≤ 500000 := by omega
  have hs0 : slots ≤ 5000000 := by omega
  obtain ⟨x1, hx1⟩ : ∃ z, z = (xs (Int.toNat (i + 1))).toInt := ⟨_, rfl⟩
  have hi1 : ja_in x1 := by rw [hx1]; exact ja_range _
  obtain ⟨i1a, i1b⟩ := id hi1
  obtain ⟨x2, hx2⟩ : ∃ z, z = (xs (Int.toNat (i + 2))).toInt := ⟨_, rfl⟩
  have hi2 : ja_in x2 := by rw [hx2]; exact ja_range _
  obtain ⟨i2a, i2b⟩ := id hi2
  obtain ⟨x3, hx3⟩ : ∃ z, z = (xs (Int.toNat (i + 3))).toInt := ⟨_, rfl⟩
  have hi3 : ja_in x3 := by rw [hx3]; exact ja_range _
  obtain ⟨i3a, i3b⟩ := id hi3
  refine r_aload_n F rfl rfl dL_law_693 rfl ?_
  refine r_aload_n F rfl rfl dL_law_694 rfl ?_
  refine r_iload_n F rfl rfl dL_law_695 rfl ?_
  refine r_iconst F dL_law_696 rfl ?_
  refine r_iadd F dL_law_697 rfl ?_
  refine r_sld F X (by omega) (by omega) (by omega) dL_law_698 rfl ?_
  refine r_eqz (z := x1) hx1.symm ?_
  refine r_bool F hi1 dL_law_699 (by decide) dL_law_702 dL_law_703 (by decide) dL_law_706 rfl ?_
  refine r_aload_n F rfl rfl dL_law_707 rfl ?_
  refine r_iload_n F rfl rfl dL_law_708 rfl ?_
  refine r_iconst F dL_law_709 rfl ?_
  refine r_iadd F dL_law_710 rfl ?_
  refine r_sld F X (by omega) (by omega) (by omega) dL_law_711 rfl ?_
  refine r_eqz (z := x2) hx2.symm ?_
  refine r_aload_n F rfl rfl dL_law_712 rfl ?_
  refine r_iload_n F rfl rfl dL_law_713 rfl ?_
  refine r_iconst F dL_law_714 rfl ?_
  refine r_iadd F dL_law_715 rfl ?_
  refine r_sld F X (by omega) (by omega) (by omega) dL_law_716 rfl ?_
  refine r_eqz (z := x3) hx3.symm ?_
  refine r_callV F GC (c_X8_missing l D cA B hB hO ja_b_in hi2 hi3 ja_b_r) v_L_94 rfl hB.1 rfl ⟨(Nat.le_of_ble_eq_true rfl), (Nat.le_of_ble_eq_true rfl)⟩ ⟨Nat.le_trans (Nat.add_le_add_right hc0 _) (Nat.le_of_ble_eq_true rfl), Nat.le_trans (Nat.add_le_add_right hs0 _) (Nat.le_of_ble_eq_true rfl)⟩ (Nat.le_of_ble_eq_true rfl) rfl dL_law_717 rfl (fun v L1 M1 n1 hp => ?_)
  have hc1 : cells + rm_X8_missing.cells ≤ 1000 + 20 * k + 20 := Nat.add_le_add hc (Nat.le_of_ble_eq_true rfl)
  have hs1 : slots + rm_X8_missing.slots ≤ 40000 + 1269 * k + 1269 := Nat.add_le_add hs (Nat.le_of_ble_eq_true rfl)
  have hc2 : cells + rm_X8_missing.cells ≤ 500000 := by omega
  have hs2 : slots + rm_X8_missing.slots ≤ 5000000 := by omega
  obtain ⟨q1, q2, q3, q4⟩ := hp
  subst q1; subst q2; subst q4
  have cF : ∀ q, y + 41 ≤ q → M1 q = mem q := fun q qa => by rw [← q3]
  have c1 : ∀ q, y + 49 ≤ q → q < y + 58 → M1 q = mem q := fun q qa _ => cF q (by omega)
  have cB : ja_BO M1 y sl (500 * (k : Int) + 500) := by rw [← q3]; exact BO_cg (by omega) hO (fun _ _ _ => rfl) (fun _ _ _ _ _ _ _ => rfl)
  refine r_pop F rfl dL_law_720 rfl ?_
  refine r_mem (mem' := ja_rw M1 (y + 49 + 1) (mem (y + 49 + 1))) (by rw [← c1 (y + 49 + 1) (by omega) (by omega), ja_rw_self]) ?_
  have hTO1 : N_TO M1 (y + 49) := N_TO_c (by rw [c1 _ (by omega) (by omega)]) (c1 _ (by omega) (by omega)) hTO
  have hz1 : ∀ j, 0 ≤ M1 (y + 49 + 4) j ∧ M1 (y + 49 + 4) j ≤ 1 := fun j => by rw [c1 _ (by omega) (by omega)]; exact hz4 j
  refine r_aload_n F rfl rfl dL_law_721 rfl ?_
  refine r_aload_n F rfl rfl dL_law_722 rfl ?_
  refine r_iload_n F rfl rfl dL_law_723 rfl ?_
  refine r_iconst F dL_law_724 rfl ?_
  refine r_iadd F dL_law_725 rfl ?_
  refine r_sld F X (by omega) (by omega) (by omega) dL_law_726 rfl ?_
  refine r_eqz (z := x1) hx1.symm ?_
  refine r_bool F hi1 dL_law_727 (by decide) dL_law_730 dL_law_731 (by decide) dL_law_734 rfl ?_
  refine r_aload_n F rfl rfl dL_law_735 rfl ?_
  refine r_iload_n F rfl rfl dL_law_736 rfl ?_
  refine r_iconst F dL_law_737 rfl ?_
  refine r_iadd F dL_law_738 rfl ?_
  refine r_sld F X (by omega) (by omega) (by omega) dL_law_739 rfl ?_
  refine r_eqz (z := x2) hx2.symm ?_
  refine r_aload_n F rfl rfl dL_law_740 rfl ?_
  refine r_iload_n F rfl rfl dL_law_741 rfl ?_
  refine r_iconst F dL_law_742 rfl ?_
  refine r_iadd F dL_law_743 rfl ?_
  refine r_sld F X (by omega) (by omega) (by omega) dL_law_744 rfl ?_
  refine r_eqz (z := x3) hx3.symm ?_
  refine r_callV F GC (c_X9_missing l D cA B hM hN.1 ja_b_r hi2 hi3) v_L_97 rfl hM.1 rfl ⟨(Nat.le_of_ble_eq_true rfl), (Nat.le_of_ble_eq_true rfl)⟩ ⟨Nat.le_trans (Nat.add_le_add_right hc2 _) (Nat.le_of_ble_eq_true rfl), Nat.le_trans (Nat.add_le_add_right hs2 _) (Nat.le_of_ble_eq_true rfl)⟩ (Nat.le_of_ble_eq_true rfl) rfl dL_law_745 rfl (fun v L2 M2 n2 hp => ?_)
  obtain ⟨q5, q6, q7, q8⟩ := hp
  subst q5; subst q6; subst q8
  have hIn := In_step2 hSOK h q7 (fun q hq => cF q (by omega)) (by rw [cF _ (by omega)]) (cF _ (by omega)) cB N_rf.rf (hN.mono (by omega)) (by rw [← q3]; exact hT)
  refine r_pop F rfl dL_law_748 rfl ?_
  refine r_goto F (tgt := 1226) dL_law_749 (by decide) ?_
  exact J _ _ _ _ _ _ hIn (Nat.le_trans (Nat.add_le_add_left ((Nat.le_of_ble_eq_true rfl) : rm_X9_missing.cells ≤ 0) _) hc1) (Nat.le_trans (Nat.add_le_add_left ((Nat.le_of_ble_eq_true rfl) : rm_X9_missing.slots ≤ 0) _) hs1)
set_option maxRecDepth 100000 in
set_option maxHeartbeats 800000 in
theorem K_20 {C : ja_C} {D : va_G} {cA : Nat → ClassId} {l : Launch} {B b L y n cells slots k : Nat} {i : Int} {lay : ja_Y} {mem : ja_M} {sl : Nat → Option Nat} {xs : Nat → Int32} (F : ja_F C RL cL_law 4 room_1) (GC : ja_G C l D cA B) (X : ja_X C b L xs) (hL : L ≤ 2560) (hi : i = 5 * (k : Int)) (hk : 5 * k + 5 ≤ L) (h : L_In S0 lay mem n y sl (500 * (k : Int))) (hc : cells ≤ 1000 + 20 * k) (hs : slots ≤ 40000 + 1269 * k) (J : ∀ (lay2 : ja_Y) (mem2 : ja_M) (n2 : Nat) (sl2 : Nat → Option Nat) (cells2 slots2 : Nat), L_In S0 lay2 mem2 n2 y sl2 (500 * (k : Int) + 500) → cells2 ≤ 1000 + 20 * k + 20 → slots2 ≤ 40000 + 1269 * k + 1269 → ja_W C cells2 slots2 lay2 mem2 n2 1226 [some (.ref b), some (.ref y), some (.ref (y + 49)), some (.int (ja_I i))] []) : ja_W C cells slots lay mem n 752 [some (.ref b), some (.ref y), some (.ref (y + 49)), some (.int (ja_I i))] [] := by
  obtain ⟨⟨hB, hO, hn, hso, hsd⟩, ⟨hM, hN, hTO, hz4, hkp⟩, hT, hx, hsl⟩ := id h
  have hSOK : S_ok S0 := S0_ok
  have hk512 : k ≤ 512 := by omega
  have hc0 : cells ≤ 500000 := by omega
  have hs0 : slots ≤ 5000000 := by omega
  obtain ⟨x1, hx1⟩ : ∃ z, z = (xs (Int.toNat (i + 1))).toInt := ⟨_, rfl⟩
  have hi1 : ja_in x1 := by rw [hx1]; exact ja_range _
  obtain ⟨i1a, i1b⟩ := id hi1
  refine r_aload_n F rfl rfl dL_law_752 rfl ?_
  refine r_aload_n F rfl rfl dL_law_753 rfl ?_
  refine r_iload_n F rfl rfl dL_law_754 rfl ?_
  refine r_iconst F dL_law_755 rfl ?_
  refine r_iadd F dL_law_756 rfl ?_
  refine r_sld F X (by omega) (by omega) (by omega) dL_law_757 rfl ?_
  refine r_eqz (z := x1) hx1.symm ?_
  refine r_callV F GC (c_X8_unrestorable l D cA B hB hO hi1) v_L_98 rfl hB.1 rfl ⟨(Nat.le_of_ble_eq_true rfl), (Nat.le_of_ble_eq_true rfl)⟩ ⟨Nat.le_trans (Nat.add_le_add_right hc0 _) (Nat.le_of_ble_eq_true rfl), Nat.le_trans (Nat.add_le_add_right hs0 _) (Nat.le_of_ble_eq_true rfl)⟩ (Nat.le_of_ble_eq_true rfl) rfl dL_law_758 rfl (fun v L1 M1 n1 hp => ?_)
  have hc1 : cells + rm_X8_unrestorable.cells ≤ 1000 + 20 * k + 20 := Nat.add_le_add hc (Nat.le_of_ble_eq_true rfl)
  have hs1 : slots + rm_X8_unrestorable.slots ≤ 40000 + 1269 * k + 1269 := Nat.add_le_add hs (Nat.le_of_ble_eq_true rfl)
  have hc2 : cells + rm_X8_unrestorable.cells ≤ 500000 := by omega
  have hs2 : slots + rm_X8_unrestorable.slots ≤ 5000000 := by omega
  obtain ⟨q1, q2, q3, q4⟩ := hp
  subst q1; subst q2; subst q4
  have cF : ∀ q, y + 41 ≤ q → M1 q = mem q := fun q qa => by rw [← q3]
  have c1 : ∀ q, y + 49 ≤ q → q < y + 58 → M1 q = mem q := fun q qa _ => cF q (by omega)
  have cB : ja_BO M1 y sl (500 * (k : Int) + 500) := by rw [← q3]; exact BO_cg (by omega) hO (fun _ _ _ => rfl) (fun _ _ _ _ _ _ _ => rfl)
  refine r_pop F rfl dL_law_761 rfl ?_
  refine r_mem (mem' := ja_rw M1 (y + 49 + 1) (mem (y + 49 + 1))) (by rw [← c1 (y + 49 + 1) (by omega) (by omega), ja_rw_self]) ?_
  have hTO1 : N_TO M1 (y + 49) := N_TO_c (by rw [c1 _ (by omega) (by omega)]) (c1 _ (by omega) (by omega)) hTO
  have hz1 : ∀ j, 0 ≤ M1 (y + 49 + 4) j ∧ M1 (y + 49 + 4) j ≤ 1 := fun j => by rw [c1 _ (by omega) (by omega)]; exact hz4 j
  refine r_aload_n F rfl rfl dL_law_762 rfl ?_
  refine r_aload_n F rfl rfl dL_law_763 rfl ?_
  refine r_iload_n F rfl rfl dL_law_764 rfl ?_
  refine r_iconst F dL_law_765 rfl ?_
  refine r_iadd F dL_law_766 rfl ?_
  refine r_sld F X (by omega) (by omega) (by omega) dL_law_767 rfl ?_
  refine r_eqz (z := x1) hx1.symm ?_
  refine r_callV F GC (c_X9_unrestorable l D cA B hM hN.1 hi1) v_L_101 rfl hM.1 rfl ⟨(Nat.le_of_ble_eq_true rfl), (Nat.le_of_ble_eq_true rfl)⟩ ⟨Nat.le_trans (Nat.add_le_add_right hc2 _) (Nat.le_of_ble_eq_true rfl), Nat.le_trans (Nat.add_le_add_right hs2 _) (Nat.le_of_ble_eq_true rfl)⟩ (Nat.le_of_ble_eq_true rfl) rfl dL_law_768 rfl (fun v L2 M2 n2 hp => ?_)
  obtain ⟨q5, q6, q8, G2, hg, q7⟩ := hp
  subst q5; subst q6; subst q8
  have hIn := In_step2 hSOK h q7.symm (fun q hq => cF q (by omega)) (by rw [cF _ (by omega)]) (cF _ (by omega)) cB hg.f (hN.mono (by omega)) (by rw [← q3]; exact hT)
  refine r_pop F rfl dL_law_771 rfl ?_
  refine r_goto F (tgt := 1226) dL_law_772 (by decide) ?_
  exact J _ _ _ _ _ _ hIn (Nat.le_trans (Nat.add_le_add_left ((Nat.le_of_ble_eq_true rfl) : rm_X9_unrestorable.cells ≤ 0) _) hc1) (Nat.le_trans (Nat.add_le_add_left ((Nat.le_of_ble_eq_true rfl) : rm_X9_unrestorable.slots ≤ 0) _) hs1)
set_option maxRecDepth 100000 in
set_option maxHeartbeats 800000 in
theorem K_21 {C : ja_C} {D : va_G} {cA : Nat → ClassId} {l : Launch} {B b L y n cells slots k : Nat} {i : Int} {lay : ja_Y} {mem : ja_M} {sl : Nat → Option Nat} {xs : Nat → Int32} (F : ja_F C RL cL_law 4 room_1) (GC : ja_G C l D cA B) (X : ja_X C b L xs) (hL : L ≤ 2560) (hi : i = 5 * (k : Int)) (hk : 5 * k + 5 ≤ L) (h : L_In S0 lay mem n y sl (500 * (k : Int))) (hc : cells ≤ 1000 + 20 * k) (hs : slots ≤ 40000 + 1269 * k) (J : ∀ (lay2 : ja_Y) (mem2 : ja_M) (n2 : Nat) (sl2 : Nat → Option Nat) (cells2 slots2 : Nat), L_In S0 lay2 mem2 n2 y sl2 (500 * (k : Int) + 500) → cells2 ≤ 1000 + 20 * k + 20 → slots2 ≤ 40000 + 1269 * k + 1269 → ja_W C cells2 slots2 lay2 mem2 n2 1226 [some (.ref b), some (.ref y), some (.ref (y + 49)), some (.int (ja_I i))] []) : ja_W C cells slots lay mem n 775 [some (.ref b), some (.ref y), some (.ref (y + 49)), some (.int (ja_I i))] [] := by
  obtain ⟨⟨hB, hO, hn, hso, hsd⟩, ⟨hM, hN, hTO, hz4, hkp⟩, hT, hx, hsl⟩ := id h
  have hSOK : S_ok S0 := S0_ok
  have hk512 : k ≤ 512 := by omega
  have hc0 : cells ≤ 500000 := by omega
  have hs0 : slots ≤ 5000000 := by omega
  obtain ⟨x1, hx1⟩ : ∃ z, z = (xs (Int.toNat (i + 1))).toInt := ⟨_, rfl⟩
  have hi1 : ja_in x1 := by rw [hx1]; exact ja_range _
  obtain ⟨i1a, i1b⟩ := id hi1
  obtain ⟨x2, hx2⟩ : ∃ z, z = (xs (Int.toNat (i + 2))).toInt := ⟨_, rfl⟩
  have hi2 : ja_in x2 := by rw [hx2]; exact ja_range _
  obtain ⟨i2a, i2b⟩ := id hi2
  obtain ⟨x3, hx3⟩ : ∃ z, z = (xs (Int.toNat (i + 3))).toInt := ⟨_, rfl⟩
  have hi3 : ja_in x3 := by rw [hx3]; exact ja_range _
  obtain ⟨i3a, i3b⟩ := id hi3
  obtain ⟨x4, hx4⟩ : ∃ z, z = (xs (Int.toNat (i + 4))).toInt := ⟨_, rfl⟩
  have hi4 : ja_in x4 := by rw [hx4]; exact ja_range _
  obtain ⟨i4a, i4b⟩ := id hi4
  refine r_aload_n F rfl rfl dL_law_775 rfl ?_
  refine r_aload_n F rfl rfl dL_law_776 rfl ?_
  refine r_iload_n F rfl rfl dL_law_777 rfl ?_
  refine r_iconst F dL_law_778 rfl ?_
  refine r_iadd F dL_law_779 rfl ?_
  refine r_sld F X (by omega) (by omega) (by omega) dL_law_780 rfl ?_
  refine r_eqz (z := x1) hx1.symm ?_
  refine r_bool F hi1 dL_law_781 (by decide) dL_law_784 dL_law_785 (by decide) dL_law_788 rfl ?_
  refine r_aload_n F rfl rfl dL_law_789 rfl ?_
  refine r_iload_n F rfl rfl dL_law_790 rfl ?_
  refine r_iconst F dL_law_791 rfl ?_
  refine r_iadd F dL_law_792 rfl ?_
  refine r_sld F X (by omega) (by omega) (by omega) dL_law_793 rfl ?_
  refine r_eqz (z := x2) hx2.symm ?_
  refine r_aload_n F rfl rfl dL_law_794 rfl ?_
  refine r_iload_n F rfl rfl dL_law_795 rfl ?_
  refine r_iconst F dL_law_796 rfl ?_
  refine r_iadd F dL_law_797 rfl ?_
  refine r_sld F X (by omega) (by omega) (by omega) dL_law_798 rfl ?_
  refine r_eqz (z := x3) hx3.symm ?_
  refine r_aload_n F rfl rfl dL_law_799 rfl ?_
  refine r_iload_n F rfl rfl dL_law_800 rfl ?_
  refine r_iconst F dL_law_801 rfl ?_
  refine r_iadd F dL_law_802 rfl ?_
  refine r_sld F X (by omega) (by omega) (by omega) dL_law_803 rfl ?_
  refine r_eqz (z := x4) hx4.symm ?_
  refine r_callV F GC (c_X8_paritySample l D cA B hB hO ja_b_in hi2 hi3 hi4 ja_b_r) v_L_102 rfl hB.1 rfl ⟨(Nat.le_of_ble_eq_true rfl), (Nat.le_of_ble_eq_true rfl)⟩ ⟨Nat.le_trans (Nat.add_le_add_right hc0 _) (Nat.le_of_ble_eq_true rfl), Nat.le_trans (Nat.add_le_add_right hs0 _) (Nat.le_of_ble_eq_true rfl)⟩ (Nat.le_of_ble_eq_true rfl) rfl dL_law_804 rfl (fun v L1 M1 n1 hp => ?_)
  have hc1 : cells + rm_X8_paritySample.cells ≤ 1000 + 20 * k + 20 := Nat.add_le_add hc (Nat.le_of_ble_eq_true rfl)
  have hs1 : slots + rm_X8_paritySample.slots ≤ 40000 + 1269 * k + 1269 := Nat.add_le_add hs (Nat.le_of_ble_eq_true rfl)
  have hc2 : cells + rm_X8_paritySample.cells ≤ 500000 := by omega
  have hs2 : slots + rm_X8_paritySample.slots ≤ 5000000 := by omega
  obtain ⟨q1, q2, q3, q4⟩ := hp
  subst q1; subst q2; subst q4
  have cF : ∀ q, y + 41 ≤ q → M1 q = mem q := fun q qa => by rw [← q3]
  have c1 : ∀ q, y + 49 ≤ q → q < y + 58 → M1 q = mem q := fun q qa _ => cF q (by omega)
  have cB : ja_BO M1 y sl (500 * (k : Int) + 500) := by rw [← q3]; exact BO_cg (by omega) hO (fun _ _ _ => rfl) (fun _ _ _ _ _ _ _ => rfl)
  refine r_pop F rfl dL_law_807 rfl ?_
  refine r_mem (mem' := ja_rw M1 (y + 49 + 1) (mem (y + 49 + 1))) (by rw [← c1 (y + 49 + 1) (by omega) (by omega), ja_rw_self]) ?_
  have hTO1 : N_TO M1 (y + 49) := N_TO_c (by rw [c1 _ (by omega) (by omega)]) (c1 _ (by omega) (by omega)) hTO
  have hz1 : ∀ j, 0 ≤ M1 (y + 49 + 4) j ∧ M1 (y + 49 + 4) j ≤ 1 := fun j => by rw [c1 _ (by omega) (by omega)]; exact hz4 j
  refine r_aload_n F rfl rfl dL_law_808 rfl ?_
  refine r_aload_n F rfl rfl dL_law_809 rfl ?_
  refine r_iload_n F rfl rfl dL_law_810 rfl ?_
  refine r_iconst F dL_law_811 rfl ?_
  refine r_iadd F dL_law_812 rfl ?_
  refine r_sld F X (by omega) (by omega) (by omega) dL_law_813 rfl ?_
  refine r_eqz (z := x1) hx1.symm ?_
  refine r_bool F hi1 dL_law_814 (by decide) dL_law_817 dL_law_818 (by decide) dL_law_821 rfl ?_
  refine r_aload_n F rfl rfl dL_law_822 rfl ?_
  refine r_iload_n F rfl rfl dL_law_823 rfl ?_
  refine r_iconst F dL_law_824 rfl ?_
  refine r_iadd F dL_law_825 rfl ?_
  refine r_sld F X (by omega) (by omega) (by omega) dL_law_826 rfl ?_
  refine r_eqz (z := x2) hx2.symm ?_
  refine r_aload_n F rfl rfl dL_law_827 rfl ?_
  refine r_iload_n F rfl rfl dL_law_828 rfl ?_
  refine r_iconst F dL_law_829 rfl ?_
  refine r_iadd F dL_law_830 rfl ?_
  refine r_sld F X (by omega) (by omega) (by omega) dL_law_831 rfl ?_
  refine r_eqz (z := x3) hx3.symm ?_
  refine r_aload_n F rfl rfl dL_law_832 rfl ?_
  refine r_iload_n F rfl rfl dL_law_833 rfl ?_
  refine r_iconst F dL_law_834 rfl ?_
  refine r_iadd F dL_law_835 rfl ?_
  refine r_sld F X (by omega) (by omega) (by omega) dL_law_836 rfl ?_
  refine r_eqz (z := x4) hx4.symm ?_
  refine r_callV F GC (c_X9_paritySample l D cA B hM hN.1 ja_b_r hi2 hi3 hi4) v_L_106 rfl hM.1 rfl ⟨(Nat.le_of_ble_eq_true rfl), (Nat.le_of_ble_eq_true rfl)⟩ ⟨Nat.le_trans (Nat.add_le_add_right hc2 _) (Nat.le_of_ble_eq_true rfl), Nat.le_trans (Nat.add_le_add_right hs2 _) (Nat.le_of_ble_eq_true rfl)⟩ (Nat.le_of_ble_eq_true rfl) rfl dL_law_837 rfl (fun v L2 M2 n2 hp => ?_)
  obtain ⟨q5, q6, q7, q8⟩ := hp
  subst q5; subst q6; subst q8
  have hIn := In_step2 hSOK h q7 (fun q hq => cF q (by omega)) (by rw [cF _ (by omega)]) (cF _ (by omega)) cB N_rf.rf (hN.mono (by omega)) (by rw [← q3]; exact hT)
  refine r_pop F rfl dL_law_840 rfl ?_
  refine r_goto F (tgt := 1226) dL_law_841 (by decide) ?_
  exact J _ _ _ _ _ _ hIn (Nat.le_trans (Nat.add_le_add_left ((Nat.le_of_ble_eq_true rfl) : rm_X9_paritySample.cells ≤ 0) _) hc1) (Nat.le_trans (Nat.add_le_add_left ((Nat.le_of_ble_eq_true rfl) : rm_X9_paritySample.slots ≤ 0) _) hs1)
set_option maxRecDepth 100000 in
set_option maxHeartbeats 800000 in
theorem K_22 {C : ja_C} {D : va_G} {cA : Nat → ClassId} {l : Launch} {B b L y n cells slots k : Nat} {i : Int} {lay : ja_Y} {mem : ja_M} {sl : Nat → Option Nat} {xs : Nat → Int32} (F : ja_F C RL cL_law 4 room_1) (GC : ja_G C l D cA B) (X : ja_X C b L xs) (hL : L ≤ 2560) (hi : i = 5 * (k : Int)) (hk : 5 * k + 5 ≤ L) (h : L_In S0 lay mem n y sl (500 * (k : Int))) (hc : cells ≤ 1000 + 20 * k) (hs : slots ≤ 40000 + 1269 * k) (J : ∀ (lay2 : ja_Y) (mem2 : ja_M) (n2 : Nat) (sl2 : Nat → Option Nat) (cells2 slots2 : Nat), L_In S0 lay2 mem2 n2 y sl2 (500 * (k : Int) + 500) → cells2 ≤ 1000 + 20 * k + 20 → slots2 ≤ 40000 + 1269 * k + 1269 → ja_W C cells2 slots2 lay2 mem2 n2 1226 [some (.ref b), some (.ref y), some (.ref (y + 49)), some (.int (ja_I i))] []) : ja_W C cells slots lay mem n 844 [some (.ref b), some (.ref y), some (.ref (y + 49)), some (.int (ja_I i))] [] := by
  obtain ⟨⟨hB, hO, hn, hso, hsd⟩, ⟨hM, hN, hTO, hz4, hkp⟩, hT, hx, hsl⟩ := id h
  have hSOK : S_ok S0 := S0_ok
  have hk512 : k ≤ 512 := by omega
  have hc0 : cells ≤ 500000 := by omega
  have hs0 : slots ≤ 5000000 := by omega
  refine r_aload_n F rfl rfl dL_law_844 rfl ?_
  refine r_callV F GC (c_X8_transits l D cA B hB hO ) v_L_107 rfl hB.1 rfl ⟨(Nat.le_of_ble_eq_true rfl), (Nat.le_of_ble_eq_true rfl)⟩ ⟨Nat.le_trans (Nat.add_le_add_right hc0 _) (Nat.le_of_ble_eq_true rfl), Nat.le_trans (Nat.add_le_add_right hs0 _) (Nat.le_of_ble_eq_true rfl)⟩ (Nat.le_of_ble_eq_true rfl) rfl dL_law_845 rfl (fun v L1 M1 n1 hp => ?_)
  have hc1 : cells + rm_X8_transits.cells ≤ 1000 + 20 * k + 20 := Nat.add_le_add hc (Nat.le_of_ble_eq_true rfl)
  have hs1 : slots + rm_X8_transits.slots ≤ 40000 + 1269 * k + 1269 := Nat.add_le_add hs (Nat.le_of_ble_eq_true rfl)
  have hc2 : cells + rm_X8_transits.cells ≤ 500000 := by omega
  have hs2 : slots + rm_X8_transits.slots ≤ 5000000 := by omega
  obtain ⟨q1, q2, q3, q4⟩ := hp
  subst q1; subst q2; subst q4
  have cF : ∀ q, y + 41 ≤ q → M1 q = mem q := fun q qa => by rw [← q3]
  have c1 : ∀ q, y + 49 ≤ q → q < y + 58 → M1 q = mem q := fun q qa _ => cF q (by omega)
  have cB : ja_BO M1 y sl (500 * (k : Int) + 500) := by rw [← q3]; exact BO_cg (by omega) hO (fun _ _ _ => rfl) (fun _ _ _ _ _ _ _ => rfl)
  refine r_pop F rfl dL_law_848 rfl ?_
  refine r_mem (mem' := ja_rw M1 (y + 49 + 1) (mem (y + 49 + 1))) (by rw [← c1 (y + 49 + 1) (by omega) (by omega), ja_rw_self]) ?_
  have hTO1 : N_TO M1 (y + 49) := N_TO_c (by rw [c1 _ (by omega) (by omega)]) (c1 _ (by omega) (by omega)) hTO
  have hz1 : ∀ j, 0 ≤ M1 (y + 49 + 4) j ∧ M1 (y + 49 + 4) j ≤ 1 := fun j => by rw [c1 _ (by omega) (by omega)]; exact hz4 j
  refine r_aload_n F rfl rfl dL_law_849 rfl ?_
  refine r_callV F GC (c_X9_transits l D cA B hM hN.1) v_L_110 rfl hM.1 rfl ⟨(Nat.le_of_ble_eq_true rfl), (Nat.le_of_ble_eq_true rfl)⟩ ⟨Nat.le_trans (Nat.add_le_add_right hc2 _) (Nat.le_of_ble_eq_true rfl), Nat.le_trans (Nat.add_le_add_right hs2 _) (Nat.le_of_ble_eq_true rfl)⟩ (Nat.le_of_ble_eq_true rfl) rfl dL_law_850 rfl (fun v L2 M2 n2 hp => ?_)
  obtain ⟨q5, q6, q7, q8⟩ := hp
  subst q5; subst q6; subst q8
  have hIn := In_step2 hSOK h q7 (fun q hq => cF q (by omega)) (by rw [cF _ (by omega)]) (cF _ (by omega)) cB N_rf.rf (hN.mono (by omega)) (by rw [← q3]; exact hT)
  refine r_pop F rfl dL_law_853 rfl ?_
  refine r_goto F (tgt := 1226) dL_law_854 (by decide) ?_
  exact J _ _ _ _ _ _ hIn (Nat.le_trans (Nat.add_le_add_left ((Nat.le_of_ble_eq_true rfl) : rm_X9_transits.cells ≤ 0) _) hc1) (Nat.le_trans (Nat.add_le_add_left ((Nat.le_of_ble_eq_true rfl) : rm_X9_transits.slots ≤ 0) _) hs1)
set_option maxRecDepth 100000 in
set_option maxHeartbeats 800000 in
theorem K_23 {C : ja_C} {D : va_G} {cA : Nat → ClassId} {l : Launch} {B b L y n cells slots k : Nat} {i : Int} {lay : ja_Y} {mem : ja_M} {sl : Nat → Option Nat} {xs : Nat → Int32} (F : ja_F C RL cL_law 4 room_1) (GC : ja_G C l D cA B) (X : ja_X C b L xs) (hL : L ≤ 2560) (hi : i = 5 * (k : Int)) (hk : 5 * k + 5 ≤ L) (h : L_In S0 lay mem n y sl (500 * (k : Int))) (hc : cells ≤ 1000 + 20 * k) (hs : slots ≤ 40000 + 1269 * k) (J : ∀ (lay2 : ja_Y) (mem2 : ja_M) (n2 : Nat) (sl2 : Nat → Option Nat) (cells2 slots2 : Nat), L_In S0 lay2 mem2 n2 y sl2 (500 * (k : Int) + 500) → cells2 ≤ 1000 + 20 * k + 20 → slots2 ≤ 40000 + 1269 * k + 1269 → ja_W C cells2 slots2 lay2 mem2 n2 1226 [some (.ref b), some (.ref y), some (.ref (y + 49)), some (.int (ja_I i))] []) : ja_W C cells slots lay mem n 857 [some (.ref b), some (.ref y), some (.ref (y + 49)), some (.int (ja_I i))] [] := by
  obtain ⟨⟨hB, hO, hn, hso, hsd⟩, ⟨hM, hN, hTO, hz4, hkp⟩, hT, hx, hsl⟩ := id h
  have hSOK : S_ok S0 := S0_ok
  have hk512 : k ≤ 512 := by omega
  have hc0 : cells ≤ 500000 := by omega
  have hs0 : slots ≤ 5000000 := by omega
  obtain ⟨x1, hx1⟩ : ∃ z, z = (xs (Int.toNat (i + 1))).toInt := ⟨_, rfl⟩
  have hi1 : ja_in x1 := by rw [hx1]; exact ja_range _
  obtain ⟨i1a, i1b⟩ := id hi1
  refine r_aload_n F rfl rfl dL_law_857 rfl ?_
  refine r_aload_n F rfl rfl dL_law_858 rfl ?_
  refine r_iload_n F rfl rfl dL_law_859 rfl ?_
  refine r_iconst F dL_law_860 rfl ?_
  refine r_iadd F dL_law_861 rfl ?_
  refine r_sld F X (by omega) (by omega) (by omega) dL_law_862 rfl ?_
  refine r_eqz (z := x1) hx1.symm ?_
  refine r_callV F GC (c_X8_transit l D cA B hB hO hi1) v_L_111 rfl hB.1 rfl ⟨(Nat.le_of_ble_eq_true rfl), (Nat.le_of_ble_eq_true rfl)⟩ ⟨Nat.le_trans (Nat.add_le_add_right hc0 _) (Nat.le_of_ble_eq_true rfl), Nat.le_trans (Nat.add_le_add_right hs0 _) (Nat.le_of_ble_eq_true rfl)⟩ (Nat.le_of_ble_eq_true rfl) rfl dL_law_863 rfl (fun v L1 M1 n1 hp => ?_)
  have hc1 : cells + rm_X8_transit.cells ≤ 1000 + 20 * k + 20 := Nat.add_le_add hc (Nat.le_of_ble_eq_true rfl)
  have hs1 : slots + rm_X8_transit.slots ≤ 40000 + 1269 * k + 1269 := Nat.add_le_add hs (Nat.le_of_ble_eq_true rfl)
  have hc2 : cells + rm_X8_transit.cells ≤ 500000 := by omega
  have hs2 : slots + rm_X8_transit.slots ≤ 5000000 := by omega
  obtain ⟨q1, q2, q3, q4⟩ := hp
  subst q1; subst q2; subst q4
  have cF : ∀ q, y + 41 ≤ q → M1 q = mem q := fun q qa => by rw [← q3]
  have c1 : ∀ q, y + 49 ≤ q → q < y + 58 → M1 q = mem q := fun q qa _ => cF q (by omega)
  have cB : ja_BO M1 y sl (500 * (k : Int) + 500) := by rw [← q3]; exact BO_cg (by omega) hO (fun _ _ _ => rfl) (fun _ _ _ _ _ _ _ => rfl)
  refine r_pop F rfl dL_law_866 rfl ?_
  refine r_mem (mem' := ja_rw M1 (y + 49 + 1) (mem (y + 49 + 1))) (by rw [← c1 (y + 49 + 1) (by omega) (by omega), ja_rw_self]) ?_
  have hTO1 : N_TO M1 (y + 49) := N_TO_c (by rw [c1 _ (by omega) (by omega)]) (c1 _ (by omega) (by omega)) hTO
  have hz1 : ∀ j, 0 ≤ M1 (y + 49 + 4) j ∧ M1 (y + 49 + 4) j ≤ 1 := fun j => by rw [c1 _ (by omega) (by omega)]; exact hz4 j
  refine r_aload_n F rfl rfl dL_law_867 rfl ?_
  refine r_aload_n F rfl rfl dL_law_868 rfl ?_
  refine r_iload_n F rfl rfl dL_law_869 rfl ?_
  refine r_iconst F dL_law_870 rfl ?_
  refine r_iadd F dL_law_871 rfl ?_
  refine r_sld F X (by omega) (by omega) (by omega) dL_law_872 rfl ?_
  refine r_eqz (z := x1) hx1.symm ?_
  refine r_callV F GC (c_X9_transit l D cA B hM hN.1 hi1) v_L_114 rfl hM.1 rfl ⟨(Nat.le_of_ble_eq_true rfl), (Nat.le_of_ble_eq_true rfl)⟩ ⟨Nat.le_trans (Nat.add_le_add_right hc2 _) (Nat.le_of_ble_eq_true rfl), Nat.le_trans (Nat.add_le_add_right hs2 _) (Nat.le_of_ble_eq_true rfl)⟩ (Nat.le_of_ble_eq_true rfl) rfl dL_law_873 rfl (fun v L2 M2 n2 hp => ?_)
  obtain ⟨q5, q6, q8, G2, hg, q7⟩ := hp
  subst q5; subst q6; subst q8
  have hIn := In_step2 hSOK h q7.symm (fun q hq => cF q (by omega)) (by rw [cF _ (by omega)]) (cF _ (by omega)) cB hg.f (hN.mono (by omega)) (by rw [← q3]; exact hT)
  refine r_pop F rfl dL_law_876 rfl ?_
  refine r_goto F (tgt := 1226) dL_law_877 (by decide) ?_
  exact J _ _ _ _ _ _ hIn (Nat.le_trans (Nat.add_le_add_left ((Nat.le_of_ble_eq_true rfl) : rm_X9_transit.cells ≤ 0) _) hc1) (Nat.le_trans (Nat.add_le_add_left ((Nat.le_of_ble_eq_true rfl) : rm_X9_transit.slots ≤ 0) _) hs1)
end
section
set_option maxRecDepth 100000 in
set_option maxHeartbeats 800000 in
theorem K_24 {C : ja_C} {D : va_G} {cA : Nat → ClassId} {l : Launch} {B b L y n cells slots k : Nat} {i : Int} {lay : ja_Y} {mem : ja_M} {sl : Nat → Option Nat} {xs : Nat → Int32} (F : ja_F C RL cL_law 4 room_1) (GC : ja_G C l D cA B) (X : ja_X C b L xs) (hL : L ≤ 2560) (hi : i = 5 * (k : Int)) (hk : 5 * k + 5 ≤ L) (h : L_In S0 lay mem n y sl (500 * (k : Int))) (hc : cells ≤ 1000 + 20 * k) (hs : slots ≤ 40000 + 1269 * k) (J : ∀ (lay2 : ja_Y) (mem2 : ja_M) (n2 : Nat) (sl2 : Nat → Option Nat) (cells2 slots2 : Nat), L_In S0 lay2 mem2 n2 y sl2 (500 * (k : Int) + 500) → cells2 ≤ 1000 + 20 * k + 20 → slots2 ≤ 40000 + 1269 * k + 1269 → ja_W C cells2 slots2 lay2 mem2 n2 1226 [some (.ref b), some (.ref y), some (.ref (y + 49)), some (.int (ja_I i))] []) : ja_W C cells slots lay mem n 880 [some (.ref b), some (.ref y), some (.ref (y + 49)), some (.int (ja_I i))] [] := by
  obtain ⟨⟨hB, hO, hn, hso, hsd⟩, ⟨hM, hN, hTO, hz4, hkp⟩, hT, hx, hsl⟩ := id h
  have hSOK : S_ok S0 := S0_ok
  have hk512 : k ≤ 512 := by omega
  have hc0 : cells ≤ 500000 := by omega
  have hs0 : slots ≤ 5000000 := by omega
  refine r_aload_n F rfl rfl dL_law_880 rfl ?_
  refine r_callV F GC (c_X8_target l D cA B hB hO ) v_L_115 rfl hB.1 rfl ⟨(Nat.le_of_ble_eq_true rfl), (Nat.le_of_ble_eq_true rfl)⟩ ⟨Nat.le_trans (Nat.add_le_add_right hc0 _) (Nat.le_of_ble_eq_true rfl), Nat.le_trans (Nat.add_le_add_right hs0 _) (Nat.le_of_ble_eq_true rfl)⟩ (Nat.le_of_ble_eq_true rfl) rfl dL_law_881 rfl (fun v L1 M1 n1 hp => ?_)
  have hc1 : cells + rm_X8_target.cells ≤ 1000 + 20 * k + 20 := Nat.add_le_add hc (Nat.le_of_ble_eq_true rfl)
  have hs1 : slots + rm_X8_target.slots ≤ 40000 + 1269 * k + 1269 := Nat.add_le_add hs (Nat.le_of_ble_eq_true rfl)
  have hc2 : cells + rm_X8_target.cells ≤ 500000 := by omega
  have hs2 : slots + rm_X8_target.slots ≤ 5000000 := by omega
  obtain ⟨q1, q2, q3, q4⟩ := hp
  subst q1; subst q2; subst q4
  have cF : ∀ q, y + 41 ≤ q → M1 q = mem q := fun q qa => by rw [← q3]
  have c1 : ∀ q, y + 49 ≤ q → q < y + 58 → M1 q = mem q := fun q qa _ => cF q (by omega)
  have cB : ja_BO M1 y sl (500 * (k : Int) + 500) := by rw [← q3]; exact BO_cg (by omega) hO (fun _ _ _ => rfl) (fun _ _ _ _ _ _ _ => rfl)
  refine r_pop F rfl dL_law_884 rfl ?_
  refine r_mem (mem' := ja_rw M1 (y + 49 + 1) (mem (y + 49 + 1))) (by rw [← c1 (y + 49 + 1) (by omega) (by omega), ja_rw_self]) ?_
  have hTO1 : N_TO M1 (y + 49) := N_TO_c (by rw [c1 _ (by omega) (by omega)]) (c1 _ (by omega) (by omega)) hTO
  have hz1 : ∀ j, 0 ≤ M1 (y + 49 + 4) j ∧ M1 (y + 49 + 4) j ≤ 1 := fun j => by rw [c1 _ (by omega) (by omega)]; exact hz4 j
  refine r_aload_n F rfl rfl dL_law_885 rfl ?_
  refine r_callV F GC (c_X9_target l D cA B hM hN.1) v_L_118 rfl hM.1 rfl ⟨(Nat.le_of_ble_eq_true rfl), (Nat.le_of_ble_eq_true rfl)⟩ ⟨Nat.le_trans (Nat.add_le_add_right hc2 _) (Nat.le_of_ble_eq_true rfl), Nat.le_trans (Nat.add_le_add_right hs2 _) (Nat.le_of_ble_eq_true rfl)⟩ (Nat.le_of_ble_eq_true rfl) rfl dL_law_886 rfl (fun v L2 M2 n2 hp => ?_)
  obtain ⟨q5, q6, q8, G2, hg, q7⟩ := hp
  subst q5; subst q6; subst q8
  have hIn := In_step2 hSOK h q7.symm (fun q hq => cF q (by omega)) (by rw [cF _ (by omega)]) (cF _ (by omega)) cB hg.f (hN.mono (by omega)) (by rw [← q3]; exact hT)
  refine r_pop F rfl dL_law_889 rfl ?_
  refine r_goto F (tgt := 1226) dL_law_890 (by decide) ?_
  exact J _ _ _ _ _ _ hIn (Nat.le_trans (Nat.add_le_add_left ((Nat.le_of_ble_eq_true rfl) : rm_X9_target.cells ≤ 0) _) hc1) (Nat.le_trans (Nat.add_le_add_left ((Nat.le_of_ble_eq_true rfl) : rm_X9_target.slots ≤ 0) _) hs1)
set_option maxRecDepth 100000 in
set_option maxHeartbeats 800000 in
theorem K_25 {C : ja_C} {D : va_G} {cA : Nat → ClassId} {l : Launch} {B b L y n cells slots k : Nat} {i : Int} {lay : ja_Y} {mem : ja_M} {sl : Nat → Option Nat} {xs : Nat → Int32} (F : ja_F C RL cL_law 4 room_1) (GC : ja_G C l D cA B) (X : ja_X C b L xs) (hL : L ≤ 2560) (hi : i = 5 * (k : Int)) (hk : 5 * k + 5 ≤ L) (h : L_In S0 lay mem n y sl (500 * (k : Int))) (hc : cells ≤ 1000 + 20 * k) (hs : slots ≤ 40000 + 1269 * k) (J : ∀ (lay2 : ja_Y) (mem2 : ja_M) (n2 : Nat) (sl2 : Nat → Option Nat) (cells2 slots2 : Nat), L_In S0 lay2 mem2 n2 y sl2 (500 * (k : Int) + 500) → cells2 ≤ 1000 + 20 * k + 20 → slots2 ≤ 40000 + 1269 * k + 1269 → ja_W C cells2 slots2 lay2 mem2 n2 1226 [some (.ref b), some (.ref y), some (.ref (y + 49)), some (.int (ja_I i))] []) : ja_W C cells slots lay mem n 893 [some (.ref b), some (.ref y), some (.ref (y + 49)), some (.int (ja_I i))] [] := by
  obtain ⟨⟨hB, hO, hn, hso, hsd⟩, ⟨hM, hN, hTO, hz4, hkp⟩, hT, hx, hsl⟩ := id h
  have hSOK : S_ok S0 := S0_ok
  have hk512 : k ≤ 512 := by omega
  have hc0 : cells ≤ 500000 := by omega
  have hs0 : slots ≤ 5000000 := by omega
  refine r_aload_n F rfl rfl dL_law_893 rfl ?_
  refine r_callV F GC (c_X8_level l D cA B hB hO ) v_L_119 rfl hB.1 rfl ⟨(Nat.le_of_ble_eq_true rfl), (Nat.le_of_ble_eq_true rfl)⟩ ⟨Nat.le_trans (Nat.add_le_add_right hc0 _) (Nat.le_of_ble_eq_true rfl), Nat.le_trans (Nat.add_le_add_right hs0 _) (Nat.le_of_ble_eq_true rfl)⟩ (Nat.le_of_ble_eq_true rfl) rfl dL_law_894 rfl (fun v L1 M1 n1 hp => ?_)
  have hc1 : cells + rm_X8_level.cells ≤ 1000 + 20 * k + 20 := Nat.add_le_add hc (Nat.le_of_ble_eq_true rfl)
  have hs1 : slots + rm_X8_level.slots ≤ 40000 + 1269 * k + 1269 := Nat.add_le_add hs (Nat.le_of_ble_eq_true rfl)
  have hc2 : cells + rm_X8_level.cells ≤ 500000 := by omega
  have hs2 : slots + rm_X8_level.slots ≤ 5000000 := by omega
  obtain ⟨q1, q2, q3, q4⟩ := hp
  subst q1; subst q2; subst q4
  have cF : ∀ q, y + 41 ≤ q → M1 q = mem q := fun q qa => by rw [← q3]
  have c1 : ∀ q, y + 49 ≤ q → q < y + 58 → M1 q = mem q := fun q qa _ => cF q (by omega)
  have cB : ja_BO M1 y sl (500 * (k : Int) + 500) := by rw [← q3]; exact BO_cg (by omega) hO (fun _ _ _ => rfl) (fun _ _ _ _ _ _ _ => rfl)
  refine r_pop F rfl dL_law_897 rfl ?_
  refine r_mem (mem' := ja_rw M1 (y + 49 + 1) (mem (y + 49 + 1))) (by rw [← c1 (y + 49 + 1) (by omega) (by omega), ja_rw_self]) ?_
  have hTO1 : N_TO M1 (y + 49) := N_TO_c (by rw [c1 _ (by omega) (by omega)]) (c1 _ (by omega) (by omega)) hTO
  have hz1 : ∀ j, 0 ≤ M1 (y + 49 + 4) j ∧ M1 (y + 49 + 4) j ≤ 1 := fun j => by rw [c1 _ (by omega) (by omega)]; exact hz4 j
  refine r_aload_n F rfl rfl dL_law_898 rfl ?_
  refine r_callV F GC (c_X9_level l D cA B hM hN.1) v_L_122 rfl hM.1 rfl ⟨(Nat.le_of_ble_eq_true rfl), (Nat.le_of_ble_eq_true rfl)⟩ ⟨Nat.le_trans (Nat.add_le_add_right hc2 _) (Nat.le_of_ble_eq_true rfl), Nat.le_trans (Nat.add_le_add_right hs2 _) (Nat.le_of_ble_eq_true rfl)⟩ (Nat.le_of_ble_eq_true rfl) rfl dL_law_899 rfl (fun v L2 M2 n2 hp => ?_)
  obtain ⟨q5, q6, q7, q8⟩ := hp
  subst q5; subst q6; subst q8
  have hIn := In_step2 hSOK h q7 (fun q hq => cF q (by omega)) (by rw [cF _ (by omega)]) (cF _ (by omega)) cB N_rf.rf (hN.mono (by omega)) (by rw [← q3]; exact hT)
  refine r_pop F rfl dL_law_902 rfl ?_
  refine r_goto F (tgt := 1226) dL_law_903 (by decide) ?_
  exact J _ _ _ _ _ _ hIn (Nat.le_trans (Nat.add_le_add_left ((Nat.le_of_ble_eq_true rfl) : rm_X9_level.cells ≤ 0) _) hc1) (Nat.le_trans (Nat.add_le_add_left ((Nat.le_of_ble_eq_true rfl) : rm_X9_level.slots ≤ 0) _) hs1)
set_option maxRecDepth 100000 in
set_option maxHeartbeats 800000 in
theorem K_26 {C : ja_C} {D : va_G} {cA : Nat → ClassId} {l : Launch} {B b L y n cells slots k : Nat} {i : Int} {lay : ja_Y} {mem : ja_M} {sl : Nat → Option Nat} {xs : Nat → Int32} (F : ja_F C RL cL_law 4 room_1) (GC : ja_G C l D cA B) (X : ja_X C b L xs) (hL : L ≤ 2560) (hi : i = 5 * (k : Int)) (hk : 5 * k + 5 ≤ L) (h : L_In S0 lay mem n y sl (500 * (k : Int))) (hc : cells ≤ 1000 + 20 * k) (hs : slots ≤ 40000 + 1269 * k) (J : ∀ (lay2 : ja_Y) (mem2 : ja_M) (n2 : Nat) (sl2 : Nat → Option Nat) (cells2 slots2 : Nat), L_In S0 lay2 mem2 n2 y sl2 (500 * (k : Int) + 500) → cells2 ≤ 1000 + 20 * k + 20 → slots2 ≤ 40000 + 1269 * k + 1269 → ja_W C cells2 slots2 lay2 mem2 n2 1226 [some (.ref b), some (.ref y), some (.ref (y + 49)), some (.int (ja_I i))] []) : ja_W C cells slots lay mem n 906 [some (.ref b), some (.ref y), some (.ref (y + 49)), some (.int (ja_I i))] [] := by
  obtain ⟨⟨hB, hO, hn, hso, hsd⟩, ⟨hM, hN, hTO, hz4, hkp⟩, hT, hx, hsl⟩ := id h
  have hSOK : S_ok S0 := S0_ok
  have hk512 : k ≤ 512 := by omega
  have hc0 : cells ≤ 500000 := by omega
  have hs0 : slots ≤ 5000000 := by omega
  obtain ⟨x1, hx1⟩ : ∃ z, z = (xs (Int.toNat (i + 1))).toInt := ⟨_, rfl⟩
  have hi1 : ja_in x1 := by rw [hx1]; exact ja_range _
  obtain ⟨i1a, i1b⟩ := id hi1
  refine r_aload_n F rfl rfl dL_law_906 rfl ?_
  refine r_aload_n F rfl rfl dL_law_907 rfl ?_
  refine r_iload_n F rfl rfl dL_law_908 rfl ?_
  refine r_iconst F dL_law_909 rfl ?_
  refine r_iadd F dL_law_910 rfl ?_
  refine r_sld F X (by omega) (by omega) (by omega) dL_law_911 rfl ?_
  refine r_eqz (z := x1) hx1.symm ?_
  refine r_callV F GC (c_X8_taken l D cA B hB hO hi1) v_L_123 rfl hB.1 rfl ⟨(Nat.le_of_ble_eq_true rfl), (Nat.le_of_ble_eq_true rfl)⟩ ⟨Nat.le_trans (Nat.add_le_add_right hc0 _) (Nat.le_of_ble_eq_true rfl), Nat.le_trans (Nat.add_le_add_right hs0 _) (Nat.le_of_ble_eq_true rfl)⟩ (Nat.le_of_ble_eq_true rfl) rfl dL_law_912 rfl (fun v L1 M1 n1 hp => ?_)
  have hc1 : cells + rm_X8_taken.cells ≤ 1000 + 20 * k + 20 := Nat.add_le_add hc (Nat.le_of_ble_eq_true rfl)
  have hs1 : slots + rm_X8_taken.slots ≤ 40000 + 1269 * k + 1269 := Nat.add_le_add hs (Nat.le_of_ble_eq_true rfl)
  have hc2 : cells + rm_X8_taken.cells ≤ 500000 := by omega
  have hs2 : slots + rm_X8_taken.slots ≤ 5000000 := by omega
  obtain ⟨q1, q2, q3, q4⟩ := hp
  subst q1; subst q2; subst q4
  have cF : ∀ q, y + 41 ≤ q → M1 q = mem q := fun q qa => by rw [← q3]
  have c1 : ∀ q, y + 49 ≤ q → q < y + 58 → M1 q = mem q := fun q qa _ => cF q (by omega)
  have cB : ja_BO M1 y sl (500 * (k : Int) + 500) := by rw [← q3]; exact BO_cg (by omega) hO (fun _ _ _ => rfl) (fun _ _ _ _ _ _ _ => rfl)
  refine r_pop F rfl dL_law_915 rfl ?_
  refine r_mem (mem' := ja_rw M1 (y + 49 + 1) (mem (y + 49 + 1))) (by rw [← c1 (y + 49 + 1) (by omega) (by omega), ja_rw_self]) ?_
  have hTO1 : N_TO M1 (y + 49) := N_TO_c (by rw [c1 _ (by omega) (by omega)]) (c1 _ (by omega) (by omega)) hTO
  have hz1 : ∀ j, 0 ≤ M1 (y + 49 + 4) j ∧ M1 (y + 49 + 4) j ≤ 1 := fun j => by rw [c1 _ (by omega) (by omega)]; exact hz4 j
  refine r_aload_n F rfl rfl dL_law_916 rfl ?_
  refine r_aload_n F rfl rfl dL_law_917 rfl ?_
  refine r_iload_n F rfl rfl dL_law_918 rfl ?_
  refine r_iconst F dL_law_919 rfl ?_
  refine r_iadd F dL_law_920 rfl ?_
  refine r_sld F X (by omega) (by omega) (by omega) dL_law_921 rfl ?_
  refine r_eqz (z := x1) hx1.symm ?_
  refine r_callV F GC (c_X9_taken l D cA B hM hN.1 hi1) v_L_126 rfl hM.1 rfl ⟨(Nat.le_of_ble_eq_true rfl), (Nat.le_of_ble_eq_true rfl)⟩ ⟨Nat.le_trans (Nat.add_le_add_right hc2 _) (Nat.le_of_ble_eq_true rfl), Nat.le_trans (Nat.add_le_add_right hs2 _) (Nat.le_of_ble_eq_true rfl)⟩ (Nat.le_of_ble_eq_true rfl) rfl dL_law_922 rfl (fun v L2 M2 n2 hp => ?_)
  obtain ⟨q5, q6, q7, q8⟩ := hp
  subst q5; subst q6; subst q8
  have hIn := In_step2 hSOK h q7 (fun q hq => cF q (by omega)) (by rw [cF _ (by omega)]) (cF _ (by omega)) cB N_rf.rf (hN.mono (by omega)) (by rw [← q3]; exact hT)
  refine r_pop F rfl dL_law_925 rfl ?_
  refine r_goto F (tgt := 1226) dL_law_926 (by decide) ?_
  exact J _ _ _ _ _ _ hIn (Nat.le_trans (Nat.add_le_add_left ((Nat.le_of_ble_eq_true rfl) : rm_X9_taken.cells ≤ 0) _) hc1) (Nat.le_trans (Nat.add_le_add_left ((Nat.le_of_ble_eq_true rfl) : rm_X9_taken.slots ≤ 0) _) hs1)
set_option maxRecDepth 100000 in
set_option maxHeartbeats 800000 in
theorem K_27 {C : ja_C} {D : va_G} {cA : Nat → ClassId} {l : Launch} {B b L y n cells slots k : Nat} {i : Int} {lay : ja_Y} {mem : ja_M} {sl : Nat → Option Nat} {xs : Nat → Int32} (F : ja_F C RL cL_law 4 room_1) (GC : ja_G C l D cA B) (X : ja_X C b L xs) (hL : L ≤ 2560) (hi : i = 5 * (k : Int)) (hk : 5 * k + 5 ≤ L) (h : L_In S0 lay mem n y sl (500 * (k : Int))) (hc : cells ≤ 1000 + 20 * k) (hs : slots ≤ 40000 + 1269 * k) (J : ∀ (lay2 : ja_Y) (mem2 : ja_M) (n2 : Nat) (sl2 : Nat → Option Nat) (cells2 slots2 : Nat), L_In S0 lay2 mem2 n2 y sl2 (500 * (k : Int) + 500) → cells2 ≤ 1000 + 20 * k + 20 → slots2 ≤ 40000 + 1269 * k + 1269 → ja_W C cells2 slots2 lay2 mem2 n2 1226 [some (.ref b), some (.ref y), some (.ref (y + 49)), some (.int (ja_I i))] []) : ja_W C cells slots lay mem n 929 [some (.ref b), some (.ref y), some (.ref (y + 49)), some (.int (ja_I i))] [] := by
  obtain ⟨⟨hB, hO, hn, hso, hsd⟩, ⟨hM, hN, hTO, hz4, hkp⟩, hT, hx, hsl⟩ := id h
  have hSOK : S_ok S0 := S0_ok
  have hk512 : k ≤ 512 := by omega
  have hc0 : cells ≤ 500000 := by omega
  have hs0 : slots ≤ 5000000 := by omega
  refine r_aload_n F rfl rfl dL_law_929 rfl ?_
  refine r_callV F GC (c_X8_stretched l D cA B hB hO ) v_L_127 rfl hB.1 rfl ⟨(Nat.le_of_ble_eq_true rfl), (Nat.le_of_ble_eq_true rfl)⟩ ⟨Nat.le_trans (Nat.add_le_add_right hc0 _) (Nat.le_of_ble_eq_true rfl), Nat.le_trans (Nat.add_le_add_right hs0 _) (Nat.le_of_ble_eq_true rfl)⟩ (Nat.le_of_ble_eq_true rfl) rfl dL_law_930 rfl (fun v L1 M1 n1 hp => ?_)
  have hc1 : cells + rm_X8_stretched.cells ≤ 1000 + 20 * k + 20 := Nat.add_le_add hc (Nat.le_of_ble_eq_true rfl)
  have hs1 : slots + rm_X8_stretched.slots ≤ 40000 + 1269 * k + 1269 := Nat.add_le_add hs (Nat.le_of_ble_eq_true rfl)
  have hc2 : cells + rm_X8_stretched.cells ≤ 500000 := by omega
  have hs2 : slots + rm_X8_stretched.slots ≤ 5000000 := by omega
  obtain ⟨q1, q2, q3, q4⟩ := hp
  subst q1; subst q2; subst q4
  have cF : ∀ q, y + 41 ≤ q → M1 q = mem q := fun q qa => by rw [← q3]
  have c1 : ∀ q, y + 49 ≤ q → q < y + 58 → M1 q = mem q := fun q qa _ => cF q (by omega)
  have cB : ja_BO M1 y sl (500 * (k : Int) + 500) := by rw [← q3]; exact BO_cg (by omega) hO (fun _ _ _ => rfl) (fun _ _ _ _ _ _ _ => rfl)
  refine r_pop F rfl dL_law_933 rfl ?_
  refine r_mem (mem' := ja_rw M1 (y + 49 + 1) (mem (y + 49 + 1))) (by rw [← c1 (y + 49 + 1) (by omega) (by omega), ja_rw_self]) ?_
  have hTO1 : N_TO M1 (y + 49) := N_TO_c (by rw [c1 _ (by omega) (by omega)]) (c1 _ (by omega) (by omega)) hTO
  have hz1 : ∀ j, 0 ≤ M1 (y + 49 + 4) j ∧ M1 (y + 49 + 4) j ≤ 1 := fun j => by rw [c1 _ (by omega) (by omega)]; exact hz4 j
  refine r_aload_n F rfl rfl dL_law_934 rfl ?_
  refine r_callV F GC (c_X9_stretched l D cA B hM hN.1) v_L_130 rfl hM.1 rfl ⟨(Nat.le_of_ble_eq_true rfl), (Nat.le_of_ble_eq_true rfl)⟩ ⟨Nat.le_trans (Nat.add_le_add_right hc2 _) (Nat.le_of_ble_eq_true rfl), Nat.le_trans (Nat.add_le_add_right hs2 _) (Nat.le_of_ble_eq_true rfl)⟩ (Nat.le_of_ble_eq_true rfl) rfl dL_law_935 rfl (fun v L2 M2 n2 hp => ?_)
  obtain ⟨q5, q6, q7, q8⟩ := hp
  subst q5; subst q6; subst q8
  have hIn := In_step2 hSOK h q7 (fun q hq => cF q (by omega)) (by rw [cF _ (by omega)]) (cF _ (by omega)) cB N_rf.rf (hN.mono (by omega)) (by rw [← q3]; exact hT)
  refine r_pop F rfl dL_law_938 rfl ?_
  refine r_goto F (tgt := 1226) dL_law_939 (by decide) ?_
  exact J _ _ _ _ _ _ hIn (Nat.le_trans (Nat.add_le_add_left ((Nat.le_of_ble_eq_true rfl) : rm_X9_stretched.cells ≤ 0) _) hc1) (Nat.le_trans (Nat.add_le_add_left ((Nat.le_of_ble_eq_true rfl) : rm_X9_stretched.slots ≤ 0) _) hs1)
set_option maxRecDepth 100000 in
set_option maxHeartbeats 800000 in
theorem K_28 {C : ja_C} {D : va_G} {cA : Nat → ClassId} {l : Launch} {B b L y n cells slots k : Nat} {i : Int} {lay : ja_Y} {mem : ja_M} {sl : Nat → Option Nat} {xs : Nat → Int32} (F : ja_F C RL cL_law 4 room_1) (GC : ja_G C l D cA B) (X : ja_X C b L xs) (hL : L ≤ 2560) (hi : i = 5 * (k : Int)) (hk : 5 * k + 5 ≤ L) (h : L_In S0 lay mem n y sl (500 * (k : Int))) (hc : cells ≤ 1000 + 20 * k) (hs : slots ≤ 40000 + 1269 * k) (J : ∀ (lay2 : ja_Y) (mem2 : ja_M) (n2 : Nat) (sl2 : Nat → Option Nat) (cells2 slots2 : Nat), L_In S0 lay2 mem2 n2 y sl2 (500 * (k : Int) + 500) → cells2 ≤ 1000 + 20 * k + 20 → slots2 ≤ 40000 + 1269 * k + 1269 → ja_W C cells2 slots2 lay2 mem2 n2 1226 [some (.ref b), some (.ref y), some (.ref (y + 49)), some (.int (ja_I i))] []) : ja_W C cells slots lay mem n 942 [some (.ref b), some (.ref y), some (.ref (y + 49)), some (.int (ja_I i))] [] := by
  obtain ⟨⟨hB, hO, hn, hso, hsd⟩, ⟨hM, hN, hTO, hz4, hkp⟩, hT, hx, hsl⟩ := id h
  have hSOK : S_ok S0 := S0_ok
  have hk512 : k ≤ 512 := by omega
  have hc0 : cells ≤ 500000 := by omega
  have hs0 : slots ≤ 5000000 := by omega
  refine r_aload_n F rfl rfl dL_law_942 rfl ?_
  refine r_callV F GC (c_X8_compressed l D cA B hB hO ) v_L_131 rfl hB.1 rfl ⟨(Nat.le_of_ble_eq_true rfl), (Nat.le_of_ble_eq_true rfl)⟩ ⟨Nat.le_trans (Nat.add_le_add_right hc0 _) (Nat.le_of_ble_eq_true rfl), Nat.le_trans (Nat.add_le_add_right hs0 _) (Nat.le_of_ble_eq_true rfl)⟩ (Nat.le_of_ble_eq_true rfl) rfl dL_law_943 rfl (fun v L1 M1 n1 hp => ?_)
  have hc1 : cells + rm_X8_compressed.cells ≤ 1000 + 20 * k + 20 := Nat.add_le_add hc (Nat.le_of_ble_eq_true rfl)
  have hs1 : slots + rm_X8_compressed.slots ≤ 40000 + 1269 * k + 1269 := Nat.add_le_add hs (Nat.le_of_ble_eq_true rfl)
  have hc2 : cells + rm_X8_compressed.cells ≤ 500000 := by omega
  have hs2 : slots + rm_X8_compressed.slots ≤ 5000000 := by omega
  obtain ⟨q1, q2, q3, q4⟩ := hp
  subst q1; subst q2; subst q4
  have cF : ∀ q, y + 41 ≤ q → M1 q = mem q := fun q qa => by rw [← q3]
  have c1 : ∀ q, y + 49 ≤ q → q < y + 58 → M1 q = mem q := fun q qa _ => cF q (by omega)
  have cB : ja_BO M1 y sl (500 * (k : Int) + 500) := by rw [← q3]; exact BO_cg (by omega) hO (fun _ _ _ => rfl) (fun _ _ _ _ _ _ _ => rfl)
  refine r_pop F rfl dL_law_946 rfl ?_
  refine r_mem (mem' := ja_rw M1 (y + 49 + 1) (mem (y + 49 + 1))) (by rw [← c1 (y + 49 + 1) (by omega) (by omega), ja_rw_self]) ?_
  have hTO1 : N_TO M1 (y + 49) := N_TO_c (by rw [c1 _ (by omega) (by omega)]) (c1 _ (by omega) (by omega)) hTO
  have hz1 : ∀ j, 0 ≤ M1 (y + 49 + 4) j ∧ M1 (y + 49 + 4) j ≤ 1 := fun j => by rw [c1 _ (by omega) (by omega)]; exact hz4 j
  refine r_aload_n F rfl rfl dL_law_947 rfl ?_
  refine r_callV F GC (c_X9_compressed l D cA B hM hN.1) v_L_134 rfl hM.1 rfl ⟨(Nat.le_of_ble_eq_true rfl), (Nat.le_of_ble_eq_true rfl)⟩ ⟨Nat.le_trans (Nat.add_le_add_right hc2 _) (Nat.le_of_ble_eq_true rfl), Nat.le_trans (Nat.add_le_add_right hs2 _) (Nat.le_of_ble_eq_true rfl)⟩ (Nat.le_of_ble_eq_true rfl) rfl dL_law_948 rfl (fun v L2 M2 n2 hp => ?_)
  obtain ⟨q5, q6, q7, q8⟩ := hp
  subst q5; subst q6; subst q8
  have hIn := In_step2 hSOK h q7 (fun q hq => cF q (by omega)) (by rw [cF _ (by omega)]) (cF _ (by omega)) cB N_rf.rf (hN.mono (by omega)) (by rw [← q3]; exact hT)
  refine r_pop F rfl dL_law_951 rfl ?_
  refine r_goto F (tgt := 1226) dL_law_952 (by decide) ?_
  exact J _ _ _ _ _ _ hIn (Nat.le_trans (Nat.add_le_add_left ((Nat.le_of_ble_eq_true rfl) : rm_X9_compressed.cells ≤ 0) _) hc1) (Nat.le_trans (Nat.add_le_add_left ((Nat.le_of_ble_eq_true rfl) : rm_X9_compressed.slots ≤ 0) _) hs1)
set_option maxRecDepth 100000 in
set_option maxHeartbeats 800000 in
theorem K_29 {C : ja_C} {D : va_G} {cA : Nat → ClassId} {l : Launch} {B b L y n cells slots k : Nat} {i : Int} {lay : ja_Y} {mem : ja_M} {sl : Nat → Option Nat} {xs : Nat → Int32} (F : ja_F C RL cL_law 4 room_1) (GC : ja_G C l D cA B) (X : ja_X C b L xs) (hL : L ≤ 2560) (hi : i = 5 * (k : Int)) (hk : 5 * k + 5 ≤ L) (h : L_In S0 lay mem n y sl (500 * (k : Int))) (hc : cells ≤ 1000 + 20 * k) (hs : slots ≤ 40000 + 1269 * k) (J : ∀ (lay2 : ja_Y) (mem2 : ja_M) (n2 : Nat) (sl2 : Nat → Option Nat) (cells2 slots2 : Nat), L_In S0 lay2 mem2 n2 y sl2 (500 * (k : Int) + 500) → cells2 ≤ 1000 + 20 * k + 20 → slots2 ≤ 40000 + 1269 * k + 1269 → ja_W C cells2 slots2 lay2 mem2 n2 1226 [some (.ref b), some (.ref y), some (.ref (y + 49)), some (.int (ja_I i))] []) : ja_W C cells slots lay mem n 955 [some (.ref b), some (.ref y), some (.ref (y + 49)), some (.int (ja_I i))] [] := by
  obtain ⟨⟨hB, hO, hn, hso, hsd⟩, ⟨hM, hN, hTO, hz4, hkp⟩, hT, hx, hsl⟩ := id h
  have hSOK : S_ok S0 := S0_ok
  have hk512 : k ≤ 512 := by omega
  have hc0 : cells ≤ 500000 := by omega
  have hs0 : slots ≤ 5000000 := by omega
  refine r_aload_n F rfl rfl dL_law_955 rfl ?_
  refine r_callV F GC (c_X8_late l D cA B hB hO ) v_L_135 rfl hB.1 rfl ⟨(Nat.le_of_ble_eq_true rfl), (Nat.le_of_ble_eq_true rfl)⟩ ⟨Nat.le_trans (Nat.add_le_add_right hc0 _) (Nat.le_of_ble_eq_true rfl), Nat.le_trans (Nat.add_le_add_right hs0 _) (Nat.le_of_ble_eq_true rfl)⟩ (Nat.le_of_ble_eq_true rfl) rfl dL_law_956 rfl (fun v L1 M1 n1 hp => ?_)
  have hc1 : cells + rm_X8_late.cells ≤ 1000 + 20 * k + 20 := Nat.add_le_add hc (Nat.le_of_ble_eq_true rfl)
  have hs1 : slots + rm_X8_late.slots ≤ 40000 + 1269 * k + 1269 := Nat.add_le_add hs (Nat.le_of_ble_eq_true rfl)
  have hc2 : cells + rm_X8_late.cells ≤ 500000 := by omega
  have hs2 : slots + rm_X8_late.slots ≤ 5000000 := by omega
  obtain ⟨q1, q2, q3, q4⟩ := hp
  subst q1; subst q2; subst q4
  have cF : ∀ q, y + 41 ≤ q → M1 q = mem q := fun q qa => by rw [← q3]
  have c1 : ∀ q, y + 49 ≤ q → q < y + 58 → M1 q = mem q := fun q qa _ => cF q (by omega)
  have cB : ja_BO M1 y sl (500 * (k : Int) + 500) := by rw [← q3]; exact BO_cg (by omega) hO (fun _ _ _ => rfl) (fun _ _ _ _ _ _ _ => rfl)
  refine r_pop F rfl dL_law_959 rfl ?_
  refine r_mem (mem' := ja_rw M1 (y + 49 + 1) (mem (y + 49 + 1))) (by rw [← c1 (y + 49 + 1) (by omega) (by omega), ja_rw_self]) ?_
  have hTO1 : N_TO M1 (y + 49) := N_TO_c (by rw [c1 _ (by omega) (by omega)]) (c1 _ (by omega) (by omega)) hTO
  have hz1 : ∀ j, 0 ≤ M1 (y + 49 + 4) j ∧ M1 (y + 49 + 4) j ≤ 1 := fun j => by rw [c1 _ (by omega) (by omega)]; exact hz4 j
  refine r_aload_n F rfl rfl dL_law_960 rfl ?_
  refine r_callV F GC (c_X9_late l D cA B hM hN.1) v_L_138 rfl hM.1 rfl ⟨(Nat.le_of_ble_eq_true rfl), (Nat.le_of_ble_eq_true rfl)⟩ ⟨Nat.le_trans (Nat.add_le_add_right hc2 _) (Nat.le_of_ble_eq_true rfl), Nat.le_trans (Nat.add_le_add_right hs2 _) (Nat.le_of_ble_eq_true rfl)⟩ (Nat.le_of_ble_eq_true rfl) rfl dL_law_961 rfl (fun v L2 M2 n2 hp => ?_)
  obtain ⟨q5, q6, q7, q8⟩ := hp
  subst q5; subst q6; subst q8
  have hIn := In_step2 hSOK h q7 (fun q hq => cF q (by omega)) (by rw [cF _ (by omega)]) (cF _ (by omega)) cB N_rf.rf (hN.mono (by omega)) (by rw [← q3]; exact hT)
  refine r_pop F rfl dL_law_964 rfl ?_
  refine r_goto F (tgt := 1226) dL_law_965 (by decide) ?_
  exact J _ _ _ _ _ _ hIn (Nat.le_trans (Nat.add_le_add_left ((Nat.le_of_ble_eq_true rfl) : rm_X9_late.cells ≤ 0) _) hc1) (Nat.le_trans (Nat.add_le_add_left ((Nat.le_of_ble_eq_true rfl) : rm_X9_late.slots ≤ 0) _) hs1)
set_option maxRecDepth 100000 in
set_option maxHeartbeats 800000 in
theorem K_30 {C : ja_C} {D : va_G} {cA : Nat → ClassId} {l : Launch} {B b L y n cells slots k : Nat} {i : Int} {lay : ja_Y} {mem : ja_M} {sl : Nat → Option Nat} {xs : Nat → Int32} (F : ja_F C RL cL_law 4 room_1) (GC : ja_G C l D cA B) (X : ja_X C b L xs) (hL : L ≤ 2560) (hi : i = 5 * (k : Int)) (hk : 5 * k + 5 ≤ L) (h : L_In S0 lay mem n y sl (500 * (k : Int))) (hc : cells ≤ 1000 + 20 * k) (hs : slots ≤ 40000 + 1269 * k) (J : ∀ (lay2 : ja_Y) (mem2 : ja_M) (n2 : Nat) (sl2 : Nat → Option Nat) (cells2 slots2 : Nat), L_In S0 lay2 mem2 n2 y sl2 (500 * (k : Int) + 500) → cells2 ≤ 1000 + 20 * k + 20 → slots2 ≤ 40000 + 1269 * k + 1269 → ja_W C cells2 slots2 lay2 mem2 n2 1226 [some (.ref b), some (.ref y), some (.ref (y + 49)), some (.int (ja_I i))] []) : ja_W C cells slots lay mem n 968 [some (.ref b), some (.ref y), some (.ref (y + 49)), some (.int (ja_I i))] [] := by
  obtain ⟨⟨hB, hO, hn, hso, hsd⟩, ⟨hM, hN, hTO, hz4, hkp⟩, hT, hx, hsl⟩ := id h
  have hSOK : S_ok S0 := S0_ok
  have hk512 : k ≤ 512 := by omega
  have hc0 : cells ≤ 500000 := by omega
  have hs0 : slots ≤ 5000000 := by omega
  refine r_aload_n F rfl rfl dL_law_968 rfl ?_
  refine r_callV F GC (c_X8_duplicates l D cA B hB hO ) v_L_139 rfl hB.1 rfl ⟨(Nat.le_of_ble_eq_true rfl), (Nat.le_of_ble_eq_true rfl)⟩ ⟨Nat.le_trans (Nat.add_le_add_right hc0 _) (Nat.le_of_ble_eq_true rfl), Nat.le_trans (Nat.add_le_add_right hs0 _) (Nat.le_of_ble_eq_true rfl)⟩ (Nat.le_of_ble_eq_true rfl) rfl dL_law_969 rfl (fun v L1 M1 n1 hp => ?_)
  have hc1 : cells + rm_X8_duplicates.cells ≤ 1000 + 20 * k + 20 := Nat.add_le_add hc (Nat.le_of_ble_eq_true rfl)
  have hs1 : slots + rm_X8_duplicates.slots ≤ 40000 + 1269 * k + 1269 := Nat.add_le_add hs (Nat.le_of_ble_eq_true rfl)
  have hc2 : cells + rm_X8_duplicates.cells ≤ 500000 := by omega
  have hs2 : slots + rm_X8_duplicates.slots ≤ 5000000 := by omega
  obtain ⟨q1, q2, q3, q4⟩ := hp
  subst q1; subst q2; subst q4
  have cF : ∀ q, y + 41 ≤ q → M1 q = mem q := fun q qa => by rw [← q3]
  have c1 : ∀ q, y + 49 ≤ q → q < y + 58 → M1 q = mem q := fun q qa _ => cF q (by omega)
  have cB : ja_BO M1 y sl (500 * (k : Int) + 500) := by rw [← q3]; exact BO_cg (by omega) hO (fun _ _ _ => rfl) (fun _ _ _ _ _ _ _ => rfl)
  refine r_pop F rfl dL_law_972 rfl ?_
  refine r_mem (mem' := ja_rw M1 (y + 49 + 1) (mem (y + 49 + 1))) (by rw [← c1 (y + 49 + 1) (by omega) (by omega), ja_rw_self]) ?_
  have hTO1 : N_TO M1 (y + 49) := N_TO_c (by rw [c1 _ (by omega) (by omega)]) (c1 _ (by omega) (by omega)) hTO
  have hz1 : ∀ j, 0 ≤ M1 (y + 49 + 4) j ∧ M1 (y + 49 + 4) j ≤ 1 := fun j => by rw [c1 _ (by omega) (by omega)]; exact hz4 j
  refine r_aload_n F rfl rfl dL_law_973 rfl ?_
  refine r_callV F GC (c_X9_duplicates l D cA B hM hN.1) v_L_142 rfl hM.1 rfl ⟨(Nat.le_of_ble_eq_true rfl), (Nat.le_of_ble_eq_true rfl)⟩ ⟨Nat.le_trans (Nat.add_le_add_right hc2 _) (Nat.le_of_ble_eq_true rfl), Nat.le_trans (Nat.add_le_add_right hs2 _) (Nat.le_of_ble_eq_true rfl)⟩ (Nat.le_of_ble_eq_true rfl) rfl dL_law_974 rfl (fun v L2 M2 n2 hp => ?_)
  obtain ⟨q5, q6, q7, q8⟩ := hp
  subst q5; subst q6; subst q8
  have hIn := In_step2 hSOK h q7 (fun q hq => cF q (by omega)) (by rw [cF _ (by omega)]) (cF _ (by omega)) cB N_rf.rf (hN.mono (by omega)) (by rw [← q3]; exact hT)
  refine r_pop F rfl dL_law_977 rfl ?_
  refine r_goto F (tgt := 1226) dL_law_978 (by decide) ?_
  exact J _ _ _ _ _ _ hIn (Nat.le_trans (Nat.add_le_add_left ((Nat.le_of_ble_eq_true rfl) : rm_X9_duplicates.cells ≤ 0) _) hc1) (Nat.le_trans (Nat.add_le_add_left ((Nat.le_of_ble_eq_true rfl) : rm_X9_duplicates.slots ≤ 0) _) hs1)
set_option maxRecDepth 100000 in
set_option maxHeartbeats 800000 in
theorem K_31 {C : ja_C} {D : va_G} {cA : Nat → ClassId} {l : Launch} {B b L y n cells slots k : Nat} {i : Int} {lay : ja_Y} {mem : ja_M} {sl : Nat → Option Nat} {xs : Nat → Int32} (F : ja_F C RL cL_law 4 room_1) (GC : ja_G C l D cA B) (X : ja_X C b L xs) (hL : L ≤ 2560) (hi : i = 5 * (k : Int)) (hk : 5 * k + 5 ≤ L) (h : L_In S0 lay mem n y sl (500 * (k : Int))) (hc : cells ≤ 1000 + 20 * k) (hs : slots ≤ 40000 + 1269 * k) (J : ∀ (lay2 : ja_Y) (mem2 : ja_M) (n2 : Nat) (sl2 : Nat → Option Nat) (cells2 slots2 : Nat), L_In S0 lay2 mem2 n2 y sl2 (500 * (k : Int) + 500) → cells2 ≤ 1000 + 20 * k + 20 → slots2 ≤ 40000 + 1269 * k + 1269 → ja_W C cells2 slots2 lay2 mem2 n2 1226 [some (.ref b), some (.ref y), some (.ref (y + 49)), some (.int (ja_I i))] []) : ja_W C cells slots lay mem n 981 [some (.ref b), some (.ref y), some (.ref (y + 49)), some (.int (ja_I i))] [] := by
  obtain ⟨⟨hB, hO, hn, hso, hsd⟩, ⟨hM, hN, hTO, hz4, hkp⟩, hT, hx, hsl⟩ := id h
  have hSOK : S_ok S0 := S0_ok
  have hk512 : k ≤ 512 := by omega
  have hc0 : cells ≤ 500000 := by omega
  have hs0 : slots ≤ 5000000 := by omega
  obtain ⟨x1, hx1⟩ : ∃ z, z = (xs (Int.toNat (i + 1))).toInt := ⟨_, rfl⟩
  have hi1 : ja_in x1 := by rw [hx1]; exact ja_range _
  obtain ⟨i1a, i1b⟩ := id hi1
  refine r_aload_n F rfl rfl dL_law_981 rfl ?_
  refine r_aload_n F rfl rfl dL_law_982 rfl ?_
  refine r_iload_n F rfl rfl dL_law_983 rfl ?_
  refine r_iconst F dL_law_984 rfl ?_
  refine r_iadd F dL_law_985 rfl ?_
  refine r_sld F X (by omega) (by omega) (by omega) dL_law_986 rfl ?_
  refine r_eqz (z := x1) hx1.symm ?_
  refine r_bool F hi1 dL_law_987 (by decide) dL_law_990 dL_law_991 (by decide) dL_law_994 rfl ?_
  refine r_callV F GC (c_X8_loss l D cA B hB hO ja_b_r) v_L_143 rfl hB.1 rfl ⟨(Nat.le_of_ble_eq_true rfl), (Nat.le_of_ble_eq_true rfl)⟩ ⟨Nat.le_trans (Nat.add_le_add_right hc0 _) (Nat.le_of_ble_eq_true rfl), Nat.le_trans (Nat.add_le_add_right hs0 _) (Nat.le_of_ble_eq_true rfl)⟩ (Nat.le_of_ble_eq_true rfl) rfl dL_law_995 rfl (fun v L1 M1 n1 hp => ?_)
  have hc1 : cells + rm_X8_loss.cells ≤ 1000 + 20 * k + 20 := Nat.add_le_add hc (Nat.le_of_ble_eq_true rfl)
  have hs1 : slots + rm_X8_loss.slots ≤ 40000 + 1269 * k + 1269 := Nat.add_le_add hs (Nat.le_of_ble_eq_true rfl)
  have hc2 : cells + rm_X8_loss.cells ≤ 500000 := by omega
  have hs2 : slots + rm_X8_loss.slots ≤ 5000000 := by omega
  obtain ⟨q1, q2, q3, q4⟩ := hp
  subst q1; subst q2; subst q4
  have cF : ∀ q, y + 41 ≤ q → M1 q = mem q := fun q qa => by rw [← q3]
  have c1 : ∀ q, y + 49 ≤ q → q < y + 58 → M1 q = mem q := fun q qa _ => cF q (by omega)
  have cB : ja_BO M1 y sl (500 * (k : Int) + 500) := by rw [← q3]; exact BO_cg (by omega) hO (fun _ _ _ => rfl) (fun _ _ _ _ _ _ _ => rfl)
  refine r_pop F rfl dL_law_998 rfl ?_
  refine r_mem (mem' := ja_rw M1 (y + 49 + 1) (mem (y + 49 + 1))) (by rw [← c1 (y + 49 + 1) (by omega) (by omega), ja_rw_self]) ?_
  have hTO1 : N_TO M1 (y + 49) := N_TO_c (by rw [c1 _ (by omega) (by omega)]) (c1 _ (by omega) (by omega)) hTO
  have hz1 : ∀ j, 0 ≤ M1 (y + 49 + 4) j ∧ M1 (y + 49 + 4) j ≤ 1 := fun j => by rw [c1 _ (by omega) (by omega)]; exact hz4 j
  refine r_aload_n F rfl rfl dL_law_999 rfl ?_
  refine r_aload_n F rfl rfl dL_law_1000 rfl ?_
  refine r_iload_n F rfl rfl dL_law_1001 rfl ?_
  refine r_iconst F dL_law_1002 rfl ?_
  refine r_iadd F dL_law_1003 rfl ?_
  refine r_sld F X (by omega) (by omega) (by omega) dL_law_1004 rfl ?_
  refine r_eqz (z := x1) hx1.symm ?_
  refine r_bool F hi1 dL_law_1005 (by decide) dL_law_1008 dL_law_1009 (by decide) dL_law_1012 rfl ?_
  refine r_callV F GC (c_X9_loss l D cA B hM hN.1 ja_b_r) v_L_146 rfl hM.1 rfl ⟨(Nat.le_of_ble_eq_true rfl), (Nat.le_of_ble_eq_true rfl)⟩ ⟨Nat.le_trans (Nat.add_le_add_right hc2 _) (Nat.le_of_ble_eq_true rfl), Nat.le_trans (Nat.add_le_add_right hs2 _) (Nat.le_of_ble_eq_true rfl)⟩ (Nat.le_of_ble_eq_true rfl) rfl dL_law_1013 rfl (fun v L2 M2 n2 hp => ?_)
  obtain ⟨q5, q6, q7, q8⟩ := hp
  subst q5; subst q6; subst q8
  have hIn := In_step2 hSOK h q7 (fun q hq => cF q (by omega)) (by rw [cF _ (by omega)]) (cF _ (by omega)) cB N_rf.rf (hN.mono (by omega)) (by rw [← q3]; exact hT)
  refine r_pop F rfl dL_law_1016 rfl ?_
  refine r_goto F (tgt := 1226) dL_law_1017 (by decide) ?_
  exact J _ _ _ _ _ _ hIn (Nat.le_trans (Nat.add_le_add_left ((Nat.le_of_ble_eq_true rfl) : rm_X9_loss.cells ≤ 0) _) hc1) (Nat.le_trans (Nat.add_le_add_left ((Nat.le_of_ble_eq_true rfl) : rm_X9_loss.slots ≤ 0) _) hs1)
end
section
set_option maxRecDepth 100000 in
set_option maxHeartbeats 800000 in
theorem K_32 {C : ja_C} {D : va_G} {cA : Nat → ClassId} {l : Launch} {B b L y n cells slots k : Nat} {i : Int} {lay : ja_Y} {mem : ja_M} {sl : Nat → Option Nat} {xs : Nat → Int32} (F : ja_F C RL cL_law 4 room_1) (GC : ja_G C l D cA B) (X : ja_X C b L xs) (hL : L ≤ 2560) (hi : i = 5 * (k : Int)) (hk : 5 * k + 5 ≤ L) (h : L_In S0 lay mem n y sl (500 * (k : Int))) (hc : cells ≤ 1000 + 20 * k) (hs : slots ≤ 40000 + 1269 * k) (J : ∀ (lay2 : ja_Y) (mem2 : ja_M) (n2 : Nat) (sl2 : Nat → Option Nat) (cells2 slots2 : Nat), L_In S0 lay2 mem2 n2 y sl2 (500 * (k : Int) + 500) → cells2 ≤ 1000 + 20 * k + 20 → slots2 ≤ 40000 + 1269 * k + 1269 → ja_W C cells2 slots2 lay2 mem2 n2 1226 [some (.ref b), some (.ref y), some (.ref (y + 49)), some (.int (ja_I i))] []) : ja_W C cells slots lay mem n 1020 [some (.ref b), some (.ref y), some (.ref (y + 49)), some (.int (ja_I i))] [] := by
  obtain ⟨⟨hB, hO, hn, hso, hsd⟩, ⟨hM, hN, hTO, hz4, hkp⟩, hT, hx, hsl⟩ := id h
  have hSOK : S_ok S0 := S0_ok
  have hk512 : k ≤ 512 := by omega
  have hc0 : cells ≤ 500000 := by omega
  have hs0 : slots ≤ 5000000 := by omega
  refine r_aload_n F rfl rfl dL_law_1020 rfl ?_
  refine r_callV F GC (c_X8_longestGap l D cA B hB hO ) v_L_147 rfl hB.1 rfl ⟨(Nat.le_of_ble_eq_true rfl), (Nat.le_of_ble_eq_true rfl)⟩ ⟨Nat.le_trans (Nat.add_le_add_right hc0 _) (Nat.le_of_ble_eq_true rfl), Nat.le_trans (Nat.add_le_add_right hs0 _) (Nat.le_of_ble_eq_true rfl)⟩ (Nat.le_of_ble_eq_true rfl) rfl dL_law_1021 rfl (fun v L1 M1 n1 hp => ?_)
  have hc1 : cells + rm_X8_longestGap.cells ≤ 1000 + 20 * k + 20 := Nat.add_le_add hc (Nat.le_of_ble_eq_true rfl)
  have hs1 : slots + rm_X8_longestGap.slots ≤ 40000 + 1269 * k + 1269 := Nat.add_le_add hs (Nat.le_of_ble_eq_true rfl)
  have hc2 : cells + rm_X8_longestGap.cells ≤ 500000 := by omega
  have hs2 : slots + rm_X8_longestGap.slots ≤ 5000000 := by omega
  obtain ⟨q1, q2, q3, q4⟩ := hp
  subst q1; subst q2; subst q4
  have cF : ∀ q, y + 41 ≤ q → M1 q = mem q := fun q qa => by rw [← q3]
  have c1 : ∀ q, y + 49 ≤ q → q < y + 58 → M1 q = mem q := fun q qa _ => cF q (by omega)
  have cB : ja_BO M1 y sl (500 * (k : Int) + 500) := by rw [← q3]; exact BO_cg (by omega) hO (fun _ _ _ => rfl) (fun _ _ _ _ _ _ _ => rfl)
  refine r_pop F rfl dL_law_1024 rfl ?_
  refine r_mem (mem' := ja_rw M1 (y + 49 + 1) (mem (y + 49 + 1))) (by rw [← c1 (y + 49 + 1) (by omega) (by omega), ja_rw_self]) ?_
  have hTO1 : N_TO M1 (y + 49) := N_TO_c (by rw [c1 _ (by omega) (by omega)]) (c1 _ (by omega) (by omega)) hTO
  have hz1 : ∀ j, 0 ≤ M1 (y + 49 + 4) j ∧ M1 (y + 49 + 4) j ≤ 1 := fun j => by rw [c1 _ (by omega) (by omega)]; exact hz4 j
  refine r_aload_n F rfl rfl dL_law_1025 rfl ?_
  refine r_callV F GC (c_X9_longestGap l D cA B hM hN.1) v_L_150 rfl hM.1 rfl ⟨(Nat.le_of_ble_eq_true rfl), (Nat.le_of_ble_eq_true rfl)⟩ ⟨Nat.le_trans (Nat.add_le_add_right hc2 _) (Nat.le_of_ble_eq_true rfl), Nat.le_trans (Nat.add_le_add_right hs2 _) (Nat.le_of_ble_eq_true rfl)⟩ (Nat.le_of_ble_eq_true rfl) rfl dL_law_1026 rfl (fun v L2 M2 n2 hp => ?_)
  obtain ⟨q5, q6, q7, q8⟩ := hp
  subst q5; subst q6; subst q8
  have hIn := In_step2 hSOK h q7 (fun q hq => cF q (by omega)) (by rw [cF _ (by omega)]) (cF _ (by omega)) cB N_rf.rf (hN.mono (by omega)) (by rw [← q3]; exact hT)
  refine r_pop F rfl dL_law_1029 rfl ?_
  refine r_goto F (tgt := 1226) dL_law_1030 (by decide) ?_
  exact J _ _ _ _ _ _ hIn (Nat.le_trans (Nat.add_le_add_left ((Nat.le_of_ble_eq_true rfl) : rm_X9_longestGap.cells ≤ 0) _) hc1) (Nat.le_trans (Nat.add_le_add_left ((Nat.le_of_ble_eq_true rfl) : rm_X9_longestGap.slots ≤ 0) _) hs1)
set_option maxRecDepth 100000 in
set_option maxHeartbeats 800000 in
theorem K_33 {C : ja_C} {D : va_G} {cA : Nat → ClassId} {l : Launch} {B b L y n cells slots k : Nat} {i : Int} {lay : ja_Y} {mem : ja_M} {sl : Nat → Option Nat} {xs : Nat → Int32} (F : ja_F C RL cL_law 4 room_1) (GC : ja_G C l D cA B) (X : ja_X C b L xs) (hL : L ≤ 2560) (hi : i = 5 * (k : Int)) (hk : 5 * k + 5 ≤ L) (h : L_In S0 lay mem n y sl (500 * (k : Int))) (hc : cells ≤ 1000 + 20 * k) (hs : slots ≤ 40000 + 1269 * k) (J : ∀ (lay2 : ja_Y) (mem2 : ja_M) (n2 : Nat) (sl2 : Nat → Option Nat) (cells2 slots2 : Nat), L_In S0 lay2 mem2 n2 y sl2 (500 * (k : Int) + 500) → cells2 ≤ 1000 + 20 * k + 20 → slots2 ≤ 40000 + 1269 * k + 1269 → ja_W C cells2 slots2 lay2 mem2 n2 1226 [some (.ref b), some (.ref y), some (.ref (y + 49)), some (.int (ja_I i))] []) : ja_W C cells slots lay mem n 1033 [some (.ref b), some (.ref y), some (.ref (y + 49)), some (.int (ja_I i))] [] := by
  obtain ⟨⟨hB, hO, hn, hso, hsd⟩, ⟨hM, hN, hTO, hz4, hkp⟩, hT, hx, hsl⟩ := id h
  have hSOK : S_ok S0 := S0_ok
  have hk512 : k ≤ 512 := by omega
  have hc0 : cells ≤ 500000 := by omega
  have hs0 : slots ≤ 5000000 := by omega
  refine r_aload_n F rfl rfl dL_law_1033 rfl ?_
  refine r_callV F GC (c_X8_ticksToGap l D cA B hB hO (by omega)) v_L_151 rfl hB.1 rfl ⟨(Nat.le_of_ble_eq_true rfl), (Nat.le_of_ble_eq_true rfl)⟩ ⟨Nat.le_trans (Nat.add_le_add_right hc0 _) (Nat.le_of_ble_eq_true rfl), Nat.le_trans (Nat.add_le_add_right hs0 _) (Nat.le_of_ble_eq_true rfl)⟩ (Nat.le_of_ble_eq_true rfl) rfl dL_law_1034 rfl (fun v L1 M1 n1 hp => ?_)
  have hc1 : cells + rm_X8_ticksToGap.cells ≤ 1000 + 20 * k + 20 := Nat.add_le_add hc (Nat.le_of_ble_eq_true rfl)
  have hs1 : slots + rm_X8_ticksToGap.slots ≤ 40000 + 1269 * k + 1269 := Nat.add_le_add hs (Nat.le_of_ble_eq_true rfl)
  have hc2 : cells + rm_X8_ticksToGap.cells ≤ 500000 := by omega
  have hs2 : slots + rm_X8_ticksToGap.slots ≤ 5000000 := by omega
  obtain ⟨q1, q2, q3, q4⟩ := hp
  subst q1; subst q2; subst q4
  have cF : ∀ q, y + 41 ≤ q → M1 q = mem q := fun q qa => by rw [← q3, B_gap_f (by omega), R_cp_o (by omega)]
  have c1 : ∀ q, y + 49 ≤ q → q < y + 58 → M1 q = mem q := fun q qa _ => cF q (by omega)
  have cB : ja_BO M1 y sl (500 * (k : Int) + 500) := by rw [← q3]; exact BO_fore (by omega) hO (fun i o hi ho => by have := hso i o hi ho; omega) (B_gap_RO _ _ _ _ (R_cp_RO hO.1 hO.2.1.choose_spec (by omega)) (by omega)) (fun q hq => by rw [B_gap_f (by omega), R_cp_o (by omega)])
  refine r_pop F rfl dL_law_1037 rfl ?_
  refine r_mem (mem' := ja_rw M1 (y + 49 + 1) (mem (y + 49 + 1))) (by rw [← c1 (y + 49 + 1) (by omega) (by omega), ja_rw_self]) ?_
  have hTO1 : N_TO M1 (y + 49) := N_TO_c (by rw [c1 _ (by omega) (by omega)]) (c1 _ (by omega) (by omega)) hTO
  have hz1 : ∀ j, 0 ≤ M1 (y + 49 + 4) j ∧ M1 (y + 49 + 4) j ≤ 1 := fun j => by rw [c1 _ (by omega) (by omega)]; exact hz4 j
  refine r_aload_n F rfl rfl dL_law_1038 rfl ?_
  refine r_callV F GC (c_X9_ticksToGap l D cA B hM hN (by omega)) v_L_154 rfl hM.1 rfl ⟨(Nat.le_of_ble_eq_true rfl), (Nat.le_of_ble_eq_true rfl)⟩ ⟨Nat.le_trans (Nat.add_le_add_right hc2 _) (Nat.le_of_ble_eq_true rfl), Nat.le_trans (Nat.add_le_add_right hs2 _) (Nat.le_of_ble_eq_true rfl)⟩ (Nat.le_of_ble_eq_true rfl) rfl dL_law_1039 rfl (fun v L2 M2 n2 hp => ?_)
  obtain ⟨q5, q6, q8, G2, hg, q7⟩ := hp
  subst q5; subst q6; subst q8
  have hIn := In_step2 hSOK h q7.symm (fun q hq => cF q (by omega)) (by rw [cF _ (by omega)]) (cF _ (by omega)) cB hg.f (hN.mono (by omega)) (by rw [← q3]; exact hSOK.1 mem _ _ _ _ (fun q qa qb => by rw [B_gap_f (by omega), R_cp_o (by omega)]) (fun _ _ => rfl) hT)
  refine r_pop F rfl dL_law_1042 rfl ?_
  refine r_goto F (tgt := 1226) dL_law_1043 (by decide) ?_
  exact J _ _ _ _ _ _ hIn (Nat.le_trans (Nat.add_le_add_left ((Nat.le_of_ble_eq_true rfl) : rm_X9_ticksToGap.cells ≤ 0) _) hc1) (Nat.le_trans (Nat.add_le_add_left ((Nat.le_of_ble_eq_true rfl) : rm_X9_ticksToGap.slots ≤ 0) _) hs1)
set_option maxRecDepth 100000 in
set_option maxHeartbeats 800000 in
theorem K_34 {C : ja_C} {D : va_G} {cA : Nat → ClassId} {l : Launch} {B b L y n cells slots k : Nat} {i : Int} {lay : ja_Y} {mem : ja_M} {sl : Nat → Option Nat} {xs : Nat → Int32} (F : ja_F C RL cL_law 4 room_1) (GC : ja_G C l D cA B) (X : ja_X C b L xs) (hL : L ≤ 2560) (hi : i = 5 * (k : Int)) (hk : 5 * k + 5 ≤ L) (h : L_In S0 lay mem n y sl (500 * (k : Int))) (hc : cells ≤ 1000 + 20 * k) (hs : slots ≤ 40000 + 1269 * k) (J : ∀ (lay2 : ja_Y) (mem2 : ja_M) (n2 : Nat) (sl2 : Nat → Option Nat) (cells2 slots2 : Nat), L_In S0 lay2 mem2 n2 y sl2 (500 * (k : Int) + 500) → cells2 ≤ 1000 + 20 * k + 20 → slots2 ≤ 40000 + 1269 * k + 1269 → ja_W C cells2 slots2 lay2 mem2 n2 1226 [some (.ref b), some (.ref y), some (.ref (y + 49)), some (.int (ja_I i))] []) : ja_W C cells slots lay mem n 1046 [some (.ref b), some (.ref y), some (.ref (y + 49)), some (.int (ja_I i))] [] := by
  obtain ⟨⟨hB, hO, hn, hso, hsd⟩, ⟨hM, hN, hTO, hz4, hkp⟩, hT, hx, hsl⟩ := id h
  have hSOK : S_ok S0 := S0_ok
  have hk512 : k ≤ 512 := by omega
  have hc0 : cells ≤ 500000 := by omega
  have hs0 : slots ≤ 5000000 := by omega
  obtain ⟨x1, hx1⟩ : ∃ z, z = (xs (Int.toNat (i + 1))).toInt := ⟨_, rfl⟩
  have hi1 : ja_in x1 := by rw [hx1]; exact ja_range _
  obtain ⟨i1a, i1b⟩ := id hi1
  refine r_aload_n F rfl rfl dL_law_1046 rfl ?_
  refine r_aload_n F rfl rfl dL_law_1047 rfl ?_
  refine r_iload_n F rfl rfl dL_law_1048 rfl ?_
  refine r_iconst F dL_law_1049 rfl ?_
  refine r_iadd F dL_law_1050 rfl ?_
  refine r_sld F X (by omega) (by omega) (by omega) dL_law_1051 rfl ?_
  refine r_eqz (z := x1) hx1.symm ?_
  refine r_callV F GC (c_X8_gapsIn l D cA B hB hO hi1 (by omega)) v_L_155 rfl hB.1 rfl ⟨(Nat.le_of_ble_eq_true rfl), (Nat.le_of_ble_eq_true rfl)⟩ ⟨Nat.le_trans (Nat.add_le_add_right hc0 _) (Nat.le_of_ble_eq_true rfl), Nat.le_trans (Nat.add_le_add_right hs0 _) (Nat.le_of_ble_eq_true rfl)⟩ (Nat.le_of_ble_eq_true rfl) rfl dL_law_1052 rfl (fun v L1 M1 n1 hp => ?_)
  have hc1 : cells + rm_X8_gapsIn.cells ≤ 1000 + 20 * k + 20 := Nat.add_le_add hc (Nat.le_of_ble_eq_true rfl)
  have hs1 : slots + rm_X8_gapsIn.slots ≤ 40000 + 1269 * k + 1269 := Nat.add_le_add hs (Nat.le_of_ble_eq_true rfl)
  have hc2 : cells + rm_X8_gapsIn.cells ≤ 500000 := by omega
  have hs2 : slots + rm_X8_gapsIn.slots ≤ 5000000 := by omega
  obtain ⟨q1, q2, q3, q4⟩ := hp
  subst q1; subst q2; subst q4
  have cF : ∀ q, y + 41 ≤ q → M1 q = mem q := fun q qa => by
      rw [← q3]
      split
      · exact (B_adv_f (by omega) _).trans (R_cp_o (by omega))
      · rfl
  have c1 : ∀ q, y + 49 ≤ q → q < y + 58 → M1 q = mem q := fun q qa _ => cF q (by omega)
  have cB : ja_BO M1 y sl (500 * (k : Int) + 500) := by
      rw [← q3]
      split
      · rename_i q
        exact BO_fore (by omega) hO (fun i o hi ho => by have := hso i o hi ho; omega) (⟨_, B_adv_RO (R_cp_RO hO.1 hO.2.1.choose_spec (by omega)) x1.toNat (by omega)⟩) (fun q hq => (B_adv_f (by omega) _).trans (R_cp_o (by omega)))
      · exact BO_cg (by omega) hO (fun _ _ _ => rfl) (fun _ _ _ _ _ _ _ => rfl)
  refine r_pop F rfl dL_law_1055 rfl ?_
  refine r_mem (mem' := ja_rw M1 (y + 49 + 1) (mem (y + 49 + 1))) (by rw [← c1 (y + 49 + 1) (by omega) (by omega), ja_rw_self]) ?_
  have hTO1 : N_TO M1 (y + 49) := N_TO_c (by rw [c1 _ (by omega) (by omega)]) (c1 _ (by omega) (by omega)) hTO
  have hz1 : ∀ j, 0 ≤ M1 (y + 49 + 4) j ∧ M1 (y + 49 + 4) j ≤ 1 := fun j => by rw [c1 _ (by omega) (by omega)]; exact hz4 j
  refine r_aload_n F rfl rfl dL_law_1056 rfl ?_
  refine r_aload_n F rfl rfl dL_law_1057 rfl ?_
  refine r_iload_n F rfl rfl dL_law_1058 rfl ?_
  refine r_iconst F dL_law_1059 rfl ?_
  refine r_iadd F dL_law_1060 rfl ?_
  refine r_sld F X (by omega) (by omega) (by omega) dL_law_1061 rfl ?_
  refine r_eqz (z := x1) hx1.symm ?_
  refine r_callV F GC (c_X9_gapsIn l D cA B hM hN (by omega) hi1) v_L_158 rfl hM.1 rfl ⟨(Nat.le_of_ble_eq_true rfl), (Nat.le_of_ble_eq_true rfl)⟩ ⟨Nat.le_trans (Nat.add_le_add_right hc2 _) (Nat.le_of_ble_eq_true rfl), Nat.le_trans (Nat.add_le_add_right hs2 _) (Nat.le_of_ble_eq_true rfl)⟩ (Nat.le_of_ble_eq_true rfl) rfl dL_law_1062 rfl (fun v L2 M2 n2 hp => ?_)
  obtain ⟨q5, q6, q8, G2, hg, q7⟩ := hp
  subst q5; subst q6; subst q8
  have hIn := In_step2 hSOK h q7.symm (fun q hq => cF q (by omega)) (by rw [cF _ (by omega)]) (cF _ (by omega)) cB hg.f (hN.mono (by omega)) (by
      rw [← q3]
      split
      · exact hSOK.1 mem _ _ _ _ (fun q qa qb => (B_adv_f (by omega) _).trans (R_cp_o (by omega))) (fun _ _ => rfl) hT
      · exact hT)
  refine r_pop F rfl dL_law_1065 rfl ?_
  refine r_goto F (tgt := 1226) dL_law_1066 (by decide) ?_
  exact J _ _ _ _ _ _ hIn (Nat.le_trans (Nat.add_le_add_left ((Nat.le_of_ble_eq_true rfl) : rm_X9_gapsIn.cells ≤ 0) _) hc1) (Nat.le_trans (Nat.add_le_add_left ((Nat.le_of_ble_eq_true rfl) : rm_X9_gapsIn.slots ≤ 0) _) hs1)
set_option maxRecDepth 100000 in
set_option maxHeartbeats 800000 in
theorem K_35 {C : ja_C} {D : va_G} {cA : Nat → ClassId} {l : Launch} {B b L y n cells slots k : Nat} {i : Int} {lay : ja_Y} {mem : ja_M} {sl : Nat → Option Nat} {xs : Nat → Int32} (F : ja_F C RL cL_law 4 room_1) (GC : ja_G C l D cA B) (X : ja_X C b L xs) (hL : L ≤ 2560) (hi : i = 5 * (k : Int)) (hk : 5 * k + 5 ≤ L) (h : L_In S0 lay mem n y sl (500 * (k : Int))) (hc : cells ≤ 1000 + 20 * k) (hs : slots ≤ 40000 + 1269 * k) (J : ∀ (lay2 : ja_Y) (mem2 : ja_M) (n2 : Nat) (sl2 : Nat → Option Nat) (cells2 slots2 : Nat), L_In S0 lay2 mem2 n2 y sl2 (500 * (k : Int) + 500) → cells2 ≤ 1000 + 20 * k + 20 → slots2 ≤ 40000 + 1269 * k + 1269 → ja_W C cells2 slots2 lay2 mem2 n2 1226 [some (.ref b), some (.ref y), some (.ref (y + 49)), some (.int (ja_I i))] []) : ja_W C cells slots lay mem n 1069 [some (.ref b), some (.ref y), some (.ref (y + 49)), some (.int (ja_I i))] [] := by
  obtain ⟨⟨hB, hO, hn, hso, hsd⟩, ⟨hM, hN, hTO, hz4, hkp⟩, hT, hx, hsl⟩ := id h
  have hSOK : S_ok S0 := S0_ok
  have hk512 : k ≤ 512 := by omega
  have hc0 : cells ≤ 500000 := by omega
  have hs0 : slots ≤ 5000000 := by omega
  obtain ⟨x1, hx1⟩ : ∃ z, z = (xs (Int.toNat (i + 1))).toInt := ⟨_, rfl⟩
  have hi1 : ja_in x1 := by rw [hx1]; exact ja_range _
  obtain ⟨i1a, i1b⟩ := id hi1
  refine r_aload_n F rfl rfl dL_law_1069 rfl ?_
  refine r_aload_n F rfl rfl dL_law_1070 rfl ?_
  refine r_iload_n F rfl rfl dL_law_1071 rfl ?_
  refine r_iconst F dL_law_1072 rfl ?_
  refine r_iadd F dL_law_1073 rfl ?_
  refine r_sld F X (by omega) (by omega) (by omega) dL_law_1074 rfl ?_
  refine r_eqz (z := x1) hx1.symm ?_
  refine r_callV F GC (c_X8_ticksToFrame l D cA B hB hO hi1 (by omega)) v_L_159 rfl hB.1 rfl ⟨(Nat.le_of_ble_eq_true rfl), (Nat.le_of_ble_eq_true rfl)⟩ ⟨Nat.le_trans (Nat.add_le_add_right hc0 _) (Nat.le_of_ble_eq_true rfl), Nat.le_trans (Nat.add_le_add_right hs0 _) (Nat.le_of_ble_eq_true rfl)⟩ (Nat.le_of_ble_eq_true rfl) rfl dL_law_1075 rfl (fun v L1 M1 n1 hp => ?_)
  have hc1 : cells + rm_X8_ticksToFrame.cells ≤ 1000 + 20 * k + 20 := Nat.add_le_add hc (Nat.le_of_ble_eq_true rfl)
  have hs1 : slots + rm_X8_ticksToFrame.slots ≤ 40000 + 1269 * k + 1269 := Nat.add_le_add hs (Nat.le_of_ble_eq_true rfl)
  have hc2 : cells + rm_X8_ticksToFrame.cells ≤ 500000 := by omega
  have hs2 : slots + rm_X8_ticksToFrame.slots ≤ 5000000 := by omega
  obtain ⟨q1, q2, q3, q4⟩ := hp
  subst q1; subst q2; subst q4
  have cF : ∀ q, y + 41 ≤ q → M1 q = mem q := fun q qa => by
      rw [← q3]
      split
      · split
        · rfl
        · exact (B_fra_f (by omega) _ _ _).trans (R_cp_o (by omega))
      · rfl
  have c1 : ∀ q, y + 49 ≤ q → q < y + 58 → M1 q = mem q := fun q qa _ => cF q (by omega)
  have cB : ja_BO M1 y sl (500 * (k : Int) + 500) := by
      rw [← q3]
      split
      · split
        · exact BO_cg (by omega) hO (fun _ _ _ => rfl) (fun _ _ _ _ _ _ _ => rfl)
        · exact BO_fore (by omega) hO (fun i o hi ho => by have := hso i o hi ho; omega) (B_fra_RO _ _ _ _ (R_cp_RO hO.1 hO.2.1.choose_spec (by omega)) (by omega)) (fun q hq => (B_fra_f (by omega) _ _ _).trans (R_cp_o (by omega)))
      · exact BO_cg (by omega) hO (fun _ _ _ => rfl) (fun _ _ _ _ _ _ _ => rfl)
  refine r_pop F rfl dL_law_1078 rfl ?_
  refine r_mem (mem' := ja_rw M1 (y + 49 + 1) (mem (y + 49 + 1))) (by rw [← c1 (y + 49 + 1) (by omega) (by omega), ja_rw_self]) ?_
  have hTO1 : N_TO M1 (y + 49) := N_TO_c (by rw [c1 _ (by omega) (by omega)]) (c1 _ (by omega) (by omega)) hTO
  have hz1 : ∀ j, 0 ≤ M1 (y + 49 + 4) j ∧ M1 (y + 49 + 4) j ≤ 1 := fun j => by rw [c1 _ (by omega) (by omega)]; exact hz4 j
  refine r_aload_n F rfl rfl dL_law_1079 rfl ?_
  refine r_aload_n F rfl rfl dL_law_1080 rfl ?_
  refine r_iload_n F rfl rfl dL_law_1081 rfl ?_
  refine r_iconst F dL_law_1082 rfl ?_
  refine r_iadd F dL_law_1083 rfl ?_
  refine r_sld F X (by omega) (by omega) (by omega) dL_law_1084 rfl ?_
  refine r_eqz (z := x1) hx1.symm ?_
  refine r_callV F GC (c_X9_ticksToFrame l D cA B hM hN (by omega) hi1) v_L_162 rfl hM.1 rfl ⟨(Nat.le_of_ble_eq_true rfl), (Nat.le_of_ble_eq_true rfl)⟩ ⟨Nat.le_trans (Nat.add_le_add_right hc2 _) (Nat.le_of_ble_eq_true rfl), Nat.le_trans (Nat.add_le_add_right hs2 _) (Nat.le_of_ble_eq_true rfl)⟩ (Nat.le_of_ble_eq_true rfl) rfl dL_law_1085 rfl (fun v L2 M2 n2 hp => ?_)
  obtain ⟨q5, q6, q8, G2, hg, q7⟩ := hp
  subst q5; subst q6; subst q8
  have hIn := In_step2 hSOK h q7.symm (fun q hq => cF q (by omega)) (by rw [cF _ (by omega)]) (cF _ (by omega)) cB hg.f (hN.mono (by omega)) (by
      rw [← q3]
      split
      · split
        · exact hT
        · exact hSOK.1 mem _ _ _ _ (fun q qa qb => (B_fra_f (by omega) _ _ _).trans (R_cp_o (by omega))) (fun _ _ => rfl) hT
      · exact hT)
  refine r_pop F rfl dL_law_1088 rfl ?_
  refine r_goto F (tgt := 1226) dL_law_1089 (by decide) ?_
  exact J _ _ _ _ _ _ hIn (Nat.le_trans (Nat.add_le_add_left ((Nat.le_of_ble_eq_true rfl) : rm_X9_ticksToFrame.cells ≤ 0) _) hc1) (Nat.le_trans (Nat.add_le_add_left ((Nat.le_of_ble_eq_true rfl) : rm_X9_ticksToFrame.slots ≤ 0) _) hs1)
set_option maxRecDepth 100000 in
set_option maxHeartbeats 800000 in
theorem K_36 {C : ja_C} {D : va_G} {cA : Nat → ClassId} {l : Launch} {B b L y n cells slots k : Nat} {i : Int} {lay : ja_Y} {mem : ja_M} {sl : Nat → Option Nat} {xs : Nat → Int32} (F : ja_F C RL cL_law 4 room_1) (GC : ja_G C l D cA B) (X : ja_X C b L xs) (hL : L ≤ 2560) (hi : i = 5 * (k : Int)) (hk : 5 * k + 5 ≤ L) (h : L_In S0 lay mem n y sl (500 * (k : Int))) (hc : cells ≤ 1000 + 20 * k) (hs : slots ≤ 40000 + 1269 * k) (J : ∀ (lay2 : ja_Y) (mem2 : ja_M) (n2 : Nat) (sl2 : Nat → Option Nat) (cells2 slots2 : Nat), L_In S0 lay2 mem2 n2 y sl2 (500 * (k : Int) + 500) → cells2 ≤ 1000 + 20 * k + 20 → slots2 ≤ 40000 + 1269 * k + 1269 → ja_W C cells2 slots2 lay2 mem2 n2 1226 [some (.ref b), some (.ref y), some (.ref (y + 49)), some (.int (ja_I i))] []) : ja_W C cells slots lay mem n 1092 [some (.ref b), some (.ref y), some (.ref (y + 49)), some (.int (ja_I i))] [] := by
  obtain ⟨⟨hB, hO, hn, hso, hsd⟩, ⟨hM, hN, hTO, hz4, hkp⟩, hT, hx, hsl⟩ := id h
  have hSOK : S_ok S0 := S0_ok
  have hk512 : k ≤ 512 := by omega
  have hc0 : cells ≤ 500000 := by omega
  have hs0 : slots ≤ 5000000 := by omega
  obtain ⟨x1, hx1⟩ : ∃ z, z = (xs (Int.toNat (i + 1))).toInt := ⟨_, rfl⟩
  have hi1 : ja_in x1 := by rw [hx1]; exact ja_range _
  obtain ⟨i1a, i1b⟩ := id hi1
  refine r_aload_n F rfl rfl dL_law_1092 rfl ?_
  refine r_aload_n F rfl rfl dL_law_1093 rfl ?_
  refine r_iload_n F rfl rfl dL_law_1094 rfl ?_
  refine r_iconst F dL_law_1095 rfl ?_
  refine r_iadd F dL_law_1096 rfl ?_
  refine r_sld F X (by omega) (by omega) (by omega) dL_law_1097 rfl ?_
  refine r_eqz (z := x1) hx1.symm ?_
  refine r_callV F GC (c_X8_append l D cA B hB hO hi1) v_L_163 rfl hB.1 rfl ⟨(Nat.le_of_ble_eq_true rfl), (Nat.le_of_ble_eq_true rfl)⟩ ⟨Nat.le_trans (Nat.add_le_add_right hc0 _) (Nat.le_of_ble_eq_true rfl), Nat.le_trans (Nat.add_le_add_right hs0 _) (Nat.le_of_ble_eq_true rfl)⟩ (Nat.le_of_ble_eq_true rfl) rfl dL_law_1098 rfl (fun v L1 M1 n1 hp => ?_)
  have hc1 : cells + rm_X8_append.cells ≤ 1000 + 20 * k + 20 := Nat.add_le_add hc (Nat.le_of_ble_eq_true rfl)
  have hs1 : slots + rm_X8_append.slots ≤ 40000 + 1269 * k + 1269 := Nat.add_le_add hs (Nat.le_of_ble_eq_true rfl)
  have hc2 : cells + rm_X8_append.cells ≤ 500000 := by omega
  have hs2 : slots + rm_X8_append.slots ≤ 5000000 := by omega
  obtain ⟨q1, q2, q3, q4⟩ := hp
  subst q1; subst q2; subst q4
  have c1 : ∀ q, y + 49 ≤ q → q < y + 58 → M1 q = mem q := fun q qa qb => by
    rw [← q3]
    split
    · rw [ja_up_row (by omega), ja_up_row (by omega)]
    · rfl
  refine r_pop F rfl dL_law_1101 rfl ?_
  refine r_mem (mem' := ja_rw M1 (y + 49 + 1) (mem (y + 49 + 1))) (by rw [← c1 (y + 49 + 1) (by omega) (by omega), ja_rw_self]) ?_
  have hTO1 : N_TO M1 (y + 49) := N_TO_c (by rw [c1 _ (by omega) (by omega)]) (c1 _ (by omega) (by omega)) hTO
  have hz1 : ∀ j, 0 ≤ M1 (y + 49 + 4) j ∧ M1 (y + 49 + 4) j ≤ 1 := fun j => by rw [c1 _ (by omega) (by omega)]; exact hz4 j
  refine r_aload_n F rfl rfl dL_law_1102 rfl ?_
  refine r_aload_n F rfl rfl dL_law_1103 rfl ?_
  refine r_iload_n F rfl rfl dL_law_1104 rfl ?_
  refine r_iconst F dL_law_1105 rfl ?_
  refine r_iadd F dL_law_1106 rfl ?_
  refine r_sld F X (by omega) (by omega) (by omega) dL_law_1107 rfl ?_
  refine r_eqz (z := x1) hx1.symm ?_
  refine r_callV F GC (c_X9_append l D cA B hM hTO1 hi1) v_L_166 rfl hM.1 rfl ⟨(Nat.le_of_ble_eq_true rfl), (Nat.le_of_ble_eq_true rfl)⟩ ⟨Nat.le_trans (Nat.add_le_add_right hc2 _) (Nat.le_of_ble_eq_true rfl), Nat.le_trans (Nat.add_le_add_right hs2 _) (Nat.le_of_ble_eq_true rfl)⟩ (Nat.le_of_ble_eq_true rfl) rfl dL_law_1108 rfl (fun v L2 M2 n2 hp => ?_)
  obtain ⟨q5, q6, q7, q8⟩ := hp
  subst q5; subst q6; subst q8
  have hIn := In_append hSOK h q3
  rw [q7] at hIn
  refine r_pop F rfl dL_law_1111 rfl ?_
  refine r_goto F (tgt := 1226) dL_law_1112 (by decide) ?_
  exact J _ _ _ _ _ _ hIn (Nat.le_trans (Nat.add_le_add_left ((Nat.le_of_ble_eq_true rfl) : rm_X9_append.cells ≤ 0) _) hc1) (Nat.le_trans (Nat.add_le_add_left ((Nat.le_of_ble_eq_true rfl) : rm_X9_append.slots ≤ 0) _) hs1)
set_option maxRecDepth 100000 in
set_option maxHeartbeats 800000 in
theorem K_37 {C : ja_C} {D : va_G} {cA : Nat → ClassId} {l : Launch} {B b L y n cells slots k : Nat} {i : Int} {lay : ja_Y} {mem : ja_M} {sl : Nat → Option Nat} {xs : Nat → Int32} (F : ja_F C RL cL_law 4 room_1) (GC : ja_G C l D cA B) (X : ja_X C b L xs) (hL : L ≤ 2560) (hi : i = 5 * (k : Int)) (hk : 5 * k + 5 ≤ L) (h : L_In S0 lay mem n y sl (500 * (k : Int))) (hc : cells ≤ 1000 + 20 * k) (hs : slots ≤ 40000 + 1269 * k) (J : ∀ (lay2 : ja_Y) (mem2 : ja_M) (n2 : Nat) (sl2 : Nat → Option Nat) (cells2 slots2 : Nat), L_In S0 lay2 mem2 n2 y sl2 (500 * (k : Int) + 500) → cells2 ≤ 1000 + 20 * k + 20 → slots2 ≤ 40000 + 1269 * k + 1269 → ja_W C cells2 slots2 lay2 mem2 n2 1226 [some (.ref b), some (.ref y), some (.ref (y + 49)), some (.int (ja_I i))] []) : ja_W C cells slots lay mem n 1115 [some (.ref b), some (.ref y), some (.ref (y + 49)), some (.int (ja_I i))] [] := by
  obtain ⟨⟨hB, hO, hn, hso, hsd⟩, ⟨hM, hN, hTO, hz4, hkp⟩, hT, hx, hsl⟩ := id h
  have hSOK : S_ok S0 := S0_ok
  have hk512 : k ≤ 512 := by omega
  have hc0 : cells ≤ 500000 := by omega
  have hs0 : slots ≤ 5000000 := by omega
  refine r_aload_n F rfl rfl dL_law_1115 rfl ?_
  refine r_callV F GC (c_X8_clearText l D cA B hB hO ) v_L_167 rfl hB.1 rfl ⟨(Nat.le_of_ble_eq_true rfl), (Nat.le_of_ble_eq_true rfl)⟩ ⟨Nat.le_trans (Nat.add_le_add_right hc0 _) (Nat.le_of_ble_eq_true rfl), Nat.le_trans (Nat.add_le_add_right hs0 _) (Nat.le_of_ble_eq_true rfl)⟩ (Nat.le_of_ble_eq_true rfl) rfl dL_law_1116 rfl (fun v L1 M1 n1 hp => ?_)
  have hc1 : cells + rm_X8_clearText.cells ≤ 1000 + 20 * k + 20 := Nat.add_le_add hc (Nat.le_of_ble_eq_true rfl)
  have hs1 : slots + rm_X8_clearText.slots ≤ 40000 + 1269 * k + 1269 := Nat.add_le_add hs (Nat.le_of_ble_eq_true rfl)
  have hc2 : cells + rm_X8_clearText.cells ≤ 500000 := by omega
  have hs2 : slots + rm_X8_clearText.slots ≤ 5000000 := by omega
  obtain ⟨q1, q2, q3, q4⟩ := hp
  subst q1; subst q2; subst q4
  have c1 : ∀ q, y + 49 ≤ q → q < y + 58 → M1 q = mem q := fun q qa qb => by rw [← q3]; exact ja_up_row (by omega)
  refine r_pop F rfl dL_law_1119 rfl ?_
  refine r_mem (mem' := ja_rw M1 (y + 49 + 1) (mem (y + 49 + 1))) (by rw [← c1 (y + 49 + 1) (by omega) (by omega), ja_rw_self]) ?_
  have hTO1 : N_TO M1 (y + 49) := N_TO_c (by rw [c1 _ (by omega) (by omega)]) (c1 _ (by omega) (by omega)) hTO
  have hz1 : ∀ j, 0 ≤ M1 (y + 49 + 4) j ∧ M1 (y + 49 + 4) j ≤ 1 := fun j => by rw [c1 _ (by omega) (by omega)]; exact hz4 j
  refine r_aload_n F rfl rfl dL_law_1120 rfl ?_
  refine r_callV F GC (c_X9_clearText l D cA B hM hTO1) v_L_170 rfl hM.1 rfl ⟨(Nat.le_of_ble_eq_true rfl), (Nat.le_of_ble_eq_true rfl)⟩ ⟨Nat.le_trans (Nat.add_le_add_right hc2 _) (Nat.le_of_ble_eq_true rfl), Nat.le_trans (Nat.add_le_add_right hs2 _) (Nat.le_of_ble_eq_true rfl)⟩ (Nat.le_of_ble_eq_true rfl) rfl dL_law_1121 rfl (fun v L2 M2 n2 hp => ?_)
  obtain ⟨q5, q6, q7, q8⟩ := hp
  subst q5; subst q6; subst q8
  have hIn := In_clear hSOK h q3
  rw [q7] at hIn
  refine r_pop F rfl dL_law_1124 rfl ?_
  refine r_goto F (tgt := 1226) dL_law_1125 (by decide) ?_
  exact J _ _ _ _ _ _ hIn (Nat.le_trans (Nat.add_le_add_left ((Nat.le_of_ble_eq_true rfl) : rm_X9_clearText.cells ≤ 0) _) hc1) (Nat.le_trans (Nat.add_le_add_left ((Nat.le_of_ble_eq_true rfl) : rm_X9_clearText.slots ≤ 0) _) hs1)
set_option maxRecDepth 100000 in
set_option maxHeartbeats 800000 in
theorem K_38 {C : ja_C} {D : va_G} {cA : Nat → ClassId} {l : Launch} {B b L y n cells slots k : Nat} {i : Int} {lay : ja_Y} {mem : ja_M} {sl : Nat → Option Nat} {xs : Nat → Int32} (F : ja_F C RL cL_law 4 room_1) (GC : ja_G C l D cA B) (X : ja_X C b L xs) (hL : L ≤ 2560) (hi : i = 5 * (k : Int)) (hk : 5 * k + 5 ≤ L) (h : L_In S0 lay mem n y sl (500 * (k : Int))) (hc : cells ≤ 1000 + 20 * k) (hs : slots ≤ 40000 + 1269 * k) (J : ∀ (lay2 : ja_Y) (mem2 : ja_M) (n2 : Nat) (sl2 : Nat → Option Nat) (cells2 slots2 : Nat), L_In S0 lay2 mem2 n2 y sl2 (500 * (k : Int) + 500) → cells2 ≤ 1000 + 20 * k + 20 → slots2 ≤ 40000 + 1269 * k + 1269 → ja_W C cells2 slots2 lay2 mem2 n2 1226 [some (.ref b), some (.ref y), some (.ref (y + 49)), some (.int (ja_I i))] []) : ja_W C cells slots lay mem n 1128 [some (.ref b), some (.ref y), some (.ref (y + 49)), some (.int (ja_I i))] [] := by
  obtain ⟨⟨hB, hO, hn, hso, hsd⟩, ⟨hM, hN, hTO, hz4, hkp⟩, hT, hx, hsl⟩ := id h
  have hSOK : S_ok S0 := S0_ok
  have hk512 : k ≤ 512 := by omega
  have hc0 : cells ≤ 500000 := by omega
  have hs0 : slots ≤ 5000000 := by omega
  refine r_aload_n F rfl rfl dL_law_1128 rfl ?_
  refine r_callV F GC (c_X8_faultPosition l D cA B hB hO ) v_L_171 rfl hB.1 rfl ⟨(Nat.le_of_ble_eq_true rfl), (Nat.le_of_ble_eq_true rfl)⟩ ⟨Nat.le_trans (Nat.add_le_add_right hc0 _) (Nat.le_of_ble_eq_true rfl), Nat.le_trans (Nat.add_le_add_right hs0 _) (Nat.le_of_ble_eq_true rfl)⟩ (Nat.le_of_ble_eq_true rfl) rfl dL_law_1129 rfl (fun v L1 M1 n1 hp => ?_)
  have hc1 : cells + rm_X8_faultPosition.cells ≤ 1000 + 20 * k + 20 := Nat.add_le_add hc (Nat.le_of_ble_eq_true rfl)
  have hs1 : slots + rm_X8_faultPosition.slots ≤ 40000 + 1269 * k + 1269 := Nat.add_le_add hs (Nat.le_of_ble_eq_true rfl)
  have hc2 : cells + rm_X8_faultPosition.cells ≤ 500000 := by omega
  have hs2 : slots + rm_X8_faultPosition.slots ≤ 5000000 := by omega
  obtain ⟨q1, q2, q3, q4⟩ := hp
  subst q1; subst q2; subst q4
  obtain ⟨u1, u2, u3⟩ := B_rd_all hO.2.2.1 hO.2.2.2.1
  obtain ⟨u4, u5⟩ := B_rd_x hO.2.2.1 hO.2.2.2.1
  rw [q3] at u1 u2 u3 u4 u5
  have cB : ja_BO M1 y sl (500 * (k : Int) + 500) := BO_text (by omega) hO (fun i o hi ho => by have := hso i o hi ho; omega) (ja_RO_all (fun q qa qb => u3 q (by omega)) (hO.1.mono (by omega))) u2 u1 (fun q hq => u3 q (by omega))
  have hS1 : S0 M1 (y + 1) (mem (y + 49 + 1)) := hSOK.1 mem M1 _ _ _ (fun q qa qb => u3 q (by omega)) (fun _ _ => rfl) hT
  have c1 : ∀ q, y + 49 ≤ q → q < y + 58 → M1 q = mem q := fun q qa _ => u3 q (by omega)
  refine r_pop F rfl dL_law_1132 rfl ?_
  refine r_mem (mem' := ja_rw M1 (y + 49 + 1) (mem (y + 49 + 1))) (by rw [← c1 (y + 49 + 1) (by omega) (by omega), ja_rw_self]) ?_
  have hTO1 : N_TO M1 (y + 49) := N_TO_c (by rw [c1 _ (by omega) (by omega)]) (c1 _ (by omega) (by omega)) hTO
  have hz1 : ∀ j, 0 ≤ M1 (y + 49 + 4) j ∧ M1 (y + 49 + 4) j ≤ 1 := fun j => by rw [c1 _ (by omega) (by omega)]; exact hz4 j
  refine r_aload_n F rfl rfl dL_law_1133 rfl ?_
  refine r_callV F GC (c_X9_faultPosition l D cA B hM hTO1) v_L_174 rfl hM.1 rfl ⟨(Nat.le_of_ble_eq_true rfl), (Nat.le_of_ble_eq_true rfl)⟩ ⟨Nat.le_trans (Nat.add_le_add_right hc2 _) (Nat.le_of_ble_eq_true rfl), Nat.le_trans (Nat.add_le_add_right hs2 _) (Nat.le_of_ble_eq_true rfl)⟩ (Nat.le_of_ble_eq_true rfl) rfl dL_law_1134 rfl (fun v L2 M2 n2 hp => ?_)
  obtain ⟨q5, q6, q7, q8⟩ := hp
  subst q5; subst q6; subst q8
  have hIn := In_step2 hSOK h q7 (fun q hq => u3 q (by omega)) u4 u5 cB N_tG.f (hN.mono (by omega)) hS1
  refine r_pop F rfl dL_law_1137 rfl ?_
  refine r_goto F (tgt := 1226) dL_law_1138 (by decide) ?_
  exact J _ _ _ _ _ _ hIn (Nat.le_trans (Nat.add_le_add_left ((Nat.le_of_ble_eq_true rfl) : rm_X9_faultPosition.cells ≤ 0) _) hc1) (Nat.le_trans (Nat.add_le_add_left ((Nat.le_of_ble_eq_true rfl) : rm_X9_faultPosition.slots ≤ 0) _) hs1)
set_option maxRecDepth 100000 in
set_option maxHeartbeats 800000 in
theorem K_39 {C : ja_C} {D : va_G} {cA : Nat → ClassId} {l : Launch} {B b L y n cells slots k : Nat} {i : Int} {lay : ja_Y} {mem : ja_M} {sl : Nat → Option Nat} {xs : Nat → Int32} (F : ja_F C RL cL_law 4 room_1) (GC : ja_G C l D cA B) (X : ja_X C b L xs) (hL : L ≤ 2560) (hi : i = 5 * (k : Int)) (hk : 5 * k + 5 ≤ L) (h : L_In S0 lay mem n y sl (500 * (k : Int))) (hc : cells ≤ 1000 + 20 * k) (hs : slots ≤ 40000 + 1269 * k) (J : ∀ (lay2 : ja_Y) (mem2 : ja_M) (n2 : Nat) (sl2 : Nat → Option Nat) (cells2 slots2 : Nat), L_In S0 lay2 mem2 n2 y sl2 (500 * (k : Int) + 500) → cells2 ≤ 1000 + 20 * k + 20 → slots2 ≤ 40000 + 1269 * k + 1269 → ja_W C cells2 slots2 lay2 mem2 n2 1226 [some (.ref b), some (.ref y), some (.ref (y + 49)), some (.int (ja_I i))] []) : ja_W C cells slots lay mem n 1141 [some (.ref b), some (.ref y), some (.ref (y + 49)), some (.int (ja_I i))] [] := by
  obtain ⟨⟨hB, hO, hn, hso, hsd⟩, ⟨hM, hN, hTO, hz4, hkp⟩, hT, hx, hsl⟩ := id h
  have hSOK : S_ok S0 := S0_ok
  have hk512 : k ≤ 512 := by omega
  have hc0 : cells ≤ 500000 := by omega
  have hs0 : slots ≤ 5000000 := by omega
  refine r_aload_n F rfl rfl dL_law_1141 rfl ?_
  refine r_callV F GC (c_X8_schedule l D cA B hB hO (by omega)) v_L_175 rfl hB.1 rfl ⟨(Nat.le_of_ble_eq_true rfl), (Nat.le_of_ble_eq_true rfl)⟩ ⟨Nat.le_trans (Nat.add_le_add_right hc0 _) (Nat.le_of_ble_eq_true rfl), Nat.le_trans (Nat.add_le_add_right hs0 _) (Nat.le_of_ble_eq_true rfl)⟩ (Nat.le_of_ble_eq_true rfl) rfl dL_law_1142 rfl (fun v L1 M1 n1 hp => ?_)
  have hc1 : cells + rm_X8_schedule.cells ≤ 1000 + 20 * k + 20 := Nat.add_le_add hc (Nat.le_of_ble_eq_true rfl)
  have hs1 : slots + rm_X8_schedule.slots ≤ 40000 + 1269 * k + 1269 := Nat.add_le_add hs (Nat.le_of_ble_eq_true rfl)
  have hc2 : cells + rm_X8_schedule.cells ≤ 500000 := by omega
  have hs2 : slots + rm_X8_schedule.slots ≤ 5000000 := by omega
  obtain ⟨q1, q2, q3, q4⟩ := hp
  subst q1; subst q2; subst q4
  obtain ⟨u0, u2, u1⟩ := B_sc_RO hO.1 hO.2.2.1 hO.2.2.2.1
  obtain ⟨u4, u5⟩ := B_sc_x hO.2.2.1 hO.2.2.2.1
  have u3 : ∀ q, (q < y + 16 ∨ (y + 21 ≤ q ∧ q < y + 42) ∨ y + 49 ≤ q) → (B_sc mem y).2 q = mem q := fun q hq => B_sc_f hO.2.2.1 hO.2.2.2.1 hq
  have hxG : L_x mem y M1 (y + 49) := by
    unfold L_x
    rw [← q3, u3 (y + 49) (by omega), u3 (y + 49 + 5) (by omega)]
    exact hx
  rw [q3] at u0 u1 u2 u3 u4 u5
  have cB : ja_BO M1 y sl (500 * (k : Int) + 500) := BO_text (by omega) hO (fun i o hi ho => by have := hso i o hi ho; omega) (u0.mono (by omega)) u2 u1 (fun q hq => u3 q (by omega))
  have c1 : ∀ q, y + 49 ≤ q → q < y + 58 → M1 q = mem q := fun q qa _ => u3 q (by omega)
  refine r_pop F rfl dL_law_1145 rfl ?_
  refine r_mem (mem' := ja_rw M1 (y + 49 + 1) (mem (y + 49 + 1))) (by rw [← c1 (y + 49 + 1) (by omega) (by omega), ja_rw_self]) ?_
  have hTO1 : N_TO M1 (y + 49) := N_TO_c (by rw [c1 _ (by omega) (by omega)]) (c1 _ (by omega) (by omega)) hTO
  have hz1 : ∀ j, 0 ≤ M1 (y + 49 + 4) j ∧ M1 (y + 49 + 4) j ≤ 1 := fun j => by rw [c1 _ (by omega) (by omega)]; exact hz4 j
  refine r_aload_n F rfl rfl dL_law_1146 rfl ?_
  refine r_callV F GC (c_X9_schedule l D cA B hM hN.1 hTO1) v_L_178 rfl hM.1 rfl ⟨(Nat.le_of_ble_eq_true rfl), (Nat.le_of_ble_eq_true rfl)⟩ ⟨Nat.le_trans (Nat.add_le_add_right hc2 _) (Nat.le_of_ble_eq_true rfl), Nat.le_trans (Nat.add_le_add_right hs2 _) (Nat.le_of_ble_eq_true rfl)⟩ (Nat.le_of_ble_eq_true rfl) rfl dL_law_1147 rfl (fun v L2 M2 n2 hp => ?_)
  obtain ⟨q5, q6, q7, q8⟩ := hp
  subst q5; subst q6; subst q8
  have hS1 := hSOK.2.2.2.2.2.2.2.2.1 mem M1 y (y + 49) (mem (y + 49 + 1)) _ hO.1 hO.2.2.1 hO.2.2.2.1 hN hTO1 hxG hT
  rw [q3] at hS1
  have hIn := In_step2 hSOK h q7 (fun q hq => u3 q (by omega)) u4 u5 cB N_tG.f ((N_sw_O hN hTO1).mono (by omega)) hS1
  refine r_pop F rfl dL_law_1150 rfl ?_
  refine r_goto F (tgt := 1226) dL_law_1151 (by decide) ?_
  exact J _ _ _ _ _ _ hIn (Nat.le_trans (Nat.add_le_add_left ((Nat.le_of_ble_eq_true rfl) : rm_X9_schedule.cells ≤ 0) _) hc1) (Nat.le_trans (Nat.add_le_add_left ((Nat.le_of_ble_eq_true rfl) : rm_X9_schedule.slots ≤ 0) _) hs1)
end
section
set_option maxRecDepth 100000 in
set_option maxHeartbeats 800000 in
theorem K_40 {C : ja_C} {D : va_G} {cA : Nat → ClassId} {l : Launch} {B b L y n cells slots k : Nat} {i : Int} {lay : ja_Y} {mem : ja_M} {sl : Nat → Option Nat} {xs : Nat → Int32} (F : ja_F C RL cL_law 4 room_1) (GC : ja_G C l D cA B) (X : ja_X C b L xs) (hL : L ≤ 2560) (hi : i = 5 * (k : Int)) (hk : 5 * k + 5 ≤ L) (h : L_In S0 lay mem n y sl (500 * (k : Int))) (hc : cells ≤ 1000 + 20 * k) (hs : slots ≤ 40000 + 1269 * k) (J : ∀ (lay2 : ja_Y) (mem2 : ja_M) (n2 : Nat) (sl2 : Nat → Option Nat) (cells2 slots2 : Nat), L_In S0 lay2 mem2 n2 y sl2 (500 * (k : Int) + 500) → cells2 ≤ 1000 + 20 * k + 20 → slots2 ≤ 40000 + 1269 * k + 1269 → ja_W C cells2 slots2 lay2 mem2 n2 1226 [some (.ref b), some (.ref y), some (.ref (y + 49)), some (.int (ja_I i))] []) : ja_W C cells slots lay mem n 1154 [some (.ref b), some (.ref y), some (.ref (y + 49)), some (.int (ja_I i))] [] := by
  obtain ⟨⟨hB, hO, hn, hso, hsd⟩, ⟨hM, hN, hTO, hz4, hkp⟩, hT, hx, hsl⟩ := id h
  have hSOK : S_ok S0 := S0_ok
  have hk512 : k ≤ 512 := by omega
  have hc0 : cells ≤ 500000 := by omega
  have hs0 : slots ≤ 5000000 := by omega
  refine r_aload_n F rfl rfl dL_law_1154 rfl ?_
  refine r_callV F GC (c_X8_scheduled l D cA B hB hO ) v_L_179 rfl hB.1 rfl ⟨(Nat.le_of_ble_eq_true rfl), (Nat.le_of_ble_eq_true rfl)⟩ ⟨Nat.le_trans (Nat.add_le_add_right hc0 _) (Nat.le_of_ble_eq_true rfl), Nat.le_trans (Nat.add_le_add_right hs0 _) (Nat.le_of_ble_eq_true rfl)⟩ (Nat.le_of_ble_eq_true rfl) rfl dL_law_1155 rfl (fun v L1 M1 n1 hp => ?_)
  have hc1 : cells + rm_X8_scheduled.cells ≤ 1000 + 20 * k + 20 := Nat.add_le_add hc (Nat.le_of_ble_eq_true rfl)
  have hs1 : slots + rm_X8_scheduled.slots ≤ 40000 + 1269 * k + 1269 := Nat.add_le_add hs (Nat.le_of_ble_eq_true rfl)
  have hc2 : cells + rm_X8_scheduled.cells ≤ 500000 := by omega
  have hs2 : slots + rm_X8_scheduled.slots ≤ 5000000 := by omega
  obtain ⟨q1, q2, q3, q4⟩ := hp
  subst q1; subst q2; subst q4
  have cF : ∀ q, y + 41 ≤ q → M1 q = mem q := fun q qa => by rw [← q3]
  have c1 : ∀ q, y + 49 ≤ q → q < y + 58 → M1 q = mem q := fun q qa _ => cF q (by omega)
  have cB : ja_BO M1 y sl (500 * (k : Int) + 500) := by rw [← q3]; exact BO_cg (by omega) hO (fun _ _ _ => rfl) (fun _ _ _ _ _ _ _ => rfl)
  refine r_pop F rfl dL_law_1158 rfl ?_
  refine r_mem (mem' := ja_rw M1 (y + 49 + 1) (mem (y + 49 + 1))) (by rw [← c1 (y + 49 + 1) (by omega) (by omega), ja_rw_self]) ?_
  have hTO1 : N_TO M1 (y + 49) := N_TO_c (by rw [c1 _ (by omega) (by omega)]) (c1 _ (by omega) (by omega)) hTO
  have hz1 : ∀ j, 0 ≤ M1 (y + 49 + 4) j ∧ M1 (y + 49 + 4) j ≤ 1 := fun j => by rw [c1 _ (by omega) (by omega)]; exact hz4 j
  refine r_aload_n F rfl rfl dL_law_1159 rfl ?_
  refine r_callV F GC (c_X9_scheduled l D cA B hM hN.1) v_L_182 rfl hM.1 rfl ⟨(Nat.le_of_ble_eq_true rfl), (Nat.le_of_ble_eq_true rfl)⟩ ⟨Nat.le_trans (Nat.add_le_add_right hc2 _) (Nat.le_of_ble_eq_true rfl), Nat.le_trans (Nat.add_le_add_right hs2 _) (Nat.le_of_ble_eq_true rfl)⟩ (Nat.le_of_ble_eq_true rfl) rfl dL_law_1160 rfl (fun v L2 M2 n2 hp => ?_)
  obtain ⟨q5, q6, q7, q8⟩ := hp
  subst q5; subst q6; subst q8
  have hIn := In_step2 hSOK h q7 (fun q hq => cF q (by omega)) (by rw [cF _ (by omega)]) (cF _ (by omega)) cB N_rf.rf (hN.mono (by omega)) (by rw [← q3]; exact hT)
  refine r_pop F rfl dL_law_1163 rfl ?_
  refine r_goto F (tgt := 1226) dL_law_1164 (by decide) ?_
  exact J _ _ _ _ _ _ hIn (Nat.le_trans (Nat.add_le_add_left ((Nat.le_of_ble_eq_true rfl) : rm_X9_scheduled.cells ≤ 0) _) hc1) (Nat.le_trans (Nat.add_le_add_left ((Nat.le_of_ble_eq_true rfl) : rm_X9_scheduled.slots ≤ 0) _) hs1)
set_option maxRecDepth 100000 in
set_option maxHeartbeats 800000 in
theorem K_41 {C : ja_C} {D : va_G} {cA : Nat → ClassId} {l : Launch} {B b L y n cells slots k : Nat} {i : Int} {lay : ja_Y} {mem : ja_M} {sl : Nat → Option Nat} {xs : Nat → Int32} (F : ja_F C RL cL_law 4 room_1) (GC : ja_G C l D cA B) (X : ja_X C b L xs) (hL : L ≤ 2560) (hi : i = 5 * (k : Int)) (hk : 5 * k + 5 ≤ L) (h : L_In S0 lay mem n y sl (500 * (k : Int))) (hc : cells ≤ 1000 + 20 * k) (hs : slots ≤ 40000 + 1269 * k) (J : ∀ (lay2 : ja_Y) (mem2 : ja_M) (n2 : Nat) (sl2 : Nat → Option Nat) (cells2 slots2 : Nat), L_In S0 lay2 mem2 n2 y sl2 (500 * (k : Int) + 500) → cells2 ≤ 1000 + 20 * k + 20 → slots2 ≤ 40000 + 1269 * k + 1269 → ja_W C cells2 slots2 lay2 mem2 n2 1226 [some (.ref b), some (.ref y), some (.ref (y + 49)), some (.int (ja_I i))] []) : ja_W C cells slots lay mem n 1167 [some (.ref b), some (.ref y), some (.ref (y + 49)), some (.int (ja_I i))] [] := by
  obtain ⟨⟨hB, hO, hn, hso, hsd⟩, ⟨hM, hN, hTO, hz4, hkp⟩, hT, hx, hsl⟩ := id h
  have hSOK : S_ok S0 := S0_ok
  have hk512 : k ≤ 512 := by omega
  have hc0 : cells ≤ 500000 := by omega
  have hs0 : slots ≤ 5000000 := by omega
  obtain ⟨x1, hx1⟩ : ∃ z, z = (xs (Int.toNat (i + 1))).toInt := ⟨_, rfl⟩
  have hi1 : ja_in x1 := by rw [hx1]; exact ja_range _
  obtain ⟨i1a, i1b⟩ := id hi1
  refine r_aload_n F rfl rfl dL_law_1167 rfl ?_
  refine r_aload_n F rfl rfl dL_law_1168 rfl ?_
  refine r_iload_n F rfl rfl dL_law_1169 rfl ?_
  refine r_iconst F dL_law_1170 rfl ?_
  refine r_iadd F dL_law_1171 rfl ?_
  refine r_sld F X (by omega) (by omega) (by omega) dL_law_1172 rfl ?_
  refine r_eqz (z := x1) hx1.symm ?_
  refine r_callV F GC (c_X8_keep l D cA B hB hO hi1 (by omega) (fun i o hi ho => (hso i o hi ho).2)) v_L_183 rfl hB.1 rfl ⟨(Nat.le_of_ble_eq_true rfl), (Nat.le_of_ble_eq_true rfl)⟩ ⟨Nat.le_trans (Nat.add_le_add_right hc0 _) (Nat.le_of_ble_eq_true rfl), Nat.le_trans (Nat.add_le_add_right hs0 _) (Nat.le_of_ble_eq_true rfl)⟩ (Nat.le_of_ble_eq_true rfl) rfl dL_law_1173 rfl (fun v L1 M1 n1 hp => ?_)
  have hc1 : cells + rm_X8_keep.cells ≤ 1000 + 20 * k + 20 := Nat.add_le_add hc (Nat.le_of_ble_eq_true rfl)
  have hs1 : slots + rm_X8_keep.slots ≤ 40000 + 1269 * k + 1269 := Nat.add_le_add hs (Nat.le_of_ble_eq_true rfl)
  have hc2 : cells + rm_X8_keep.cells ≤ 500000 := by omega
  have hs2 : slots + rm_X8_keep.slots ≤ 5000000 := by omega
  rcases hp with ⟨hkk, q1, q2, q3, q4⟩ | ⟨o, m0, hkk, q1, q3, hm0, ⟨hso1, q2, q4, q5⟩ | ⟨hsn, ho, hn1, hLR, hlq, hl41, hSo, hZo⟩⟩
  · subst q1; subst q2; subst q4
    have c1 : ∀ q, y + 49 ≤ q → q < y + 58 → M1 q = mem q := fun q _ _ => by rw [← q3]
    refine r_pop F rfl dL_law_1176 rfl ?_
    refine r_mem (mem' := ja_rw M1 (y + 49 + 1) (mem (y + 49 + 1))) (by rw [← c1 (y + 49 + 1) (by omega) (by omega), ja_rw_self]) ?_
    have hTO1 : N_TO M1 (y + 49) := N_TO_c (by rw [c1 _ (by omega) (by omega)]) (c1 _ (by omega) (by omega)) hTO
    have hz1 : ∀ j, 0 ≤ M1 (y + 49 + 4) j ∧ M1 (y + 49 + 4) j ≤ 1 := fun j => by rw [c1 _ (by omega) (by omega)]; exact hz4 j
    refine r_aload_n F rfl rfl dL_law_1177 rfl ?_
    refine r_aload_n F rfl rfl dL_law_1178 rfl ?_
    refine r_iload_n F rfl rfl dL_law_1179 rfl ?_
    refine r_iconst F dL_law_1180 rfl ?_
    refine r_iadd F dL_law_1181 rfl ?_
    refine r_sld F X (by omega) (by omega) (by omega) dL_law_1182 rfl ?_
    refine r_eqz (z := x1) hx1.symm ?_
    refine r_callV F GC (c_X9_keep l D cA B hM hN.1 hi1) v_L_186 rfl hM.1 rfl ⟨(Nat.le_of_ble_eq_true rfl), (Nat.le_of_ble_eq_true rfl)⟩ ⟨Nat.le_trans (Nat.add_le_add_right hc2 _) (Nat.le_of_ble_eq_true rfl), Nat.le_trans (Nat.add_le_add_right hs2 _) (Nat.le_of_ble_eq_true rfl)⟩ (Nat.le_of_ble_eq_true rfl) rfl dL_law_1183 rfl (fun v L2 M2 n2 hp => ?_)
    obtain ⟨q5, q6, q7, q8⟩ := hp
    subst q5; subst q6; subst q8
    rw [if_neg hkk] at q7
    have hIn := In_step2 hSOK h q7 (fun q _ => by rw [← q3]) (by rw [← q3]) (by rw [← q3]) (by rw [← q3]; exact BO_cg (by omega) hO (fun _ _ _ => rfl) (fun _ _ _ _ _ _ _ => rfl)) N_rf.rf (hN.mono (by omega)) (by rw [← q3]; exact hT)
    refine r_pop F rfl dL_law_1186 rfl ?_
    refine r_goto F (tgt := 1226) dL_law_1187 (by decide) ?_
    exact J _ _ _ _ _ _ hIn (Nat.le_trans (Nat.add_le_add_left ((Nat.le_of_ble_eq_true rfl) : rm_X9_keep.cells ≤ 0) _) hc1) (Nat.le_trans (Nat.add_le_add_left ((Nat.le_of_ble_eq_true rfl) : rm_X9_keep.slots ≤ 0) _) hs1)
  · subst q1; subst q2; subst q4
    have q5_ : m0 = mem := q5
    have hdis : ∀ (s o' : Nat), s < 2 → (s : Int) ≠ x1 → sl s = some o' → o' + 20 ≤ o ∨ o + 20 ≤ o' := fun s o' s2 hne hs => by
      rcases (show x1.toNat = 0 ∨ x1.toNat = 1 by omega) with h0 | h0
      · rw [h0] at hso1
        have : s = 1 := by omega
        subst this
        have := hsd _ _ hso1 hs
        omega
      · rw [h0] at hso1
        have : s = 0 := by omega
        subst this
        exact hsd _ _ hs hso1
    obtain ⟨ho1, ho2⟩ := hso _ _ (by omega) hso1
    have c1 : ∀ q, y + 49 ≤ q → q < y + 58 → M1 q = mem q := fun q qa qb => by rw [q3, R_cp_o (by omega), hm0 q (by omega)]
    refine r_pop F rfl dL_law_1176 rfl ?_
    refine r_mem (mem' := ja_rw M1 (y + 49 + 1) (mem (y + 49 + 1))) (by rw [← c1 (y + 49 + 1) (by omega) (by omega), ja_rw_self]) ?_
    have hTO1 : N_TO M1 (y + 49) := N_TO_c (by rw [c1 _ (by omega) (by omega)]) (c1 _ (by omega) (by omega)) hTO
    have hz1 : ∀ j, 0 ≤ M1 (y + 49 + 4) j ∧ M1 (y + 49 + 4) j ≤ 1 := fun j => by rw [c1 _ (by omega) (by omega)]; exact hz4 j
    refine r_aload_n F rfl rfl dL_law_1177 rfl ?_
    refine r_aload_n F rfl rfl dL_law_1178 rfl ?_
    refine r_iload_n F rfl rfl dL_law_1179 rfl ?_
    refine r_iconst F dL_law_1180 rfl ?_
    refine r_iadd F dL_law_1181 rfl ?_
    refine r_sld F X (by omega) (by omega) (by omega) dL_law_1182 rfl ?_
    refine r_eqz (z := x1) hx1.symm ?_
    refine r_callV F GC (c_X9_keep l D cA B hM hN.1 hi1) v_L_186 rfl hM.1 rfl ⟨(Nat.le_of_ble_eq_true rfl), (Nat.le_of_ble_eq_true rfl)⟩ ⟨Nat.le_trans (Nat.add_le_add_right hc2 _) (Nat.le_of_ble_eq_true rfl), Nat.le_trans (Nat.add_le_add_right hs2 _) (Nat.le_of_ble_eq_true rfl)⟩ (Nat.le_of_ble_eq_true rfl) rfl dL_law_1183 rfl (fun v L2 M2 n2 hp => ?_)
    obtain ⟨q5, q6, q7, q8⟩ := hp
    subst q5; subst q6; subst q8
    rw [if_pos hkk] at q7
    have hIn := In_keep hSOK h hkk q3 hm0 (Nat.le_refl _) ⟨ho1, ho2⟩ ⟨_, by rw [q5_]; exact hO.2.2.2.2 _ _ (by omega) hso1⟩ hB hM hso1 (fun _ _ _ => rfl) hdis
    rw [q7] at hIn
    refine r_pop F rfl dL_law_1186 rfl ?_
    refine r_goto F (tgt := 1226) dL_law_1187 (by decide) ?_
    exact J _ _ _ _ _ _ hIn (Nat.le_trans (Nat.add_le_add_left ((Nat.le_of_ble_eq_true rfl) : rm_X9_keep.cells ≤ 0) _) hc1) (Nat.le_trans (Nat.add_le_add_left ((Nat.le_of_ble_eq_true rfl) : rm_X9_keep.slots ≤ 0) _) hs1)
  · subst q1; subst hn1; subst ho
    have c1 : ∀ q, y + 49 ≤ q → q < y + 58 → M1 q = mem q := fun q qa qb => by rw [q3, R_cp_o (by omega), hm0 q (by omega)]
    have hM1 : ja_LM L1 (y + 49) := ja_LM_c (fun q qa qb => hlq q (by omega) (by omega)) hM
    have hsu : ∀ s : Nat, s < 2 → (s : Int) ≠ x1 → va_up sl x1.toNat (some o) s = sl s := fun s s2 hne => by
      unfold va_up
      rw [if_neg (by omega)]
    have hsk : va_up sl x1.toNat (some o) x1.toNat = some o := by
      unfold va_up
      rw [if_pos rfl]
    have hlB : ja_LB L1 y (va_up sl x1.toNat (some o)) := ja_LB_c (fun q qa qb qc => hlq q (by omega) qc) hl41 (fun s o' s2 hs => by
      by_cases hne : (s : Int) = x1
      · rw [show s = x1.toNat by omega, hsk] at hs
        cases hs
        exact ⟨by omega, hLR⟩
      · rw [hsu s s2 hne] at hs
        have ho1 := hso s o' s2 hs
        exact ⟨by omega, ja_LR_c (fun q qa qb => hlq q (by omega) (by omega)) (hB.2.2.2.2.2.2 s o' s2 hs).2⟩) hB
    refine r_pop F rfl dL_law_1176 rfl ?_
    refine r_mem (mem' := ja_rw M1 (y + 49 + 1) (mem (y + 49 + 1))) (by rw [← c1 (y + 49 + 1) (by omega) (by omega), ja_rw_self]) ?_
    have hTO1 : N_TO M1 (y + 49) := N_TO_c (by rw [c1 _ (by omega) (by omega)]) (c1 _ (by omega) (by omega)) hTO
    have hz1 : ∀ j, 0 ≤ M1 (y + 49 + 4) j ∧ M1 (y + 49 + 4) j ≤ 1 := fun j => by rw [c1 _ (by omega) (by omega)]; exact hz4 j
    refine r_aload_n F rfl rfl dL_law_1177 rfl ?_
    refine r_aload_n F rfl rfl dL_law_1178 rfl ?_
    refine r_iload_n F rfl rfl dL_law_1179 rfl ?_
    refine r_iconst F dL_law_1180 rfl ?_
    refine r_iadd F dL_law_1181 rfl ?_
    refine r_sld F X (by omega) (by omega) (by omega) dL_law_1182 rfl ?_
    refine r_eqz (z := x1) hx1.symm ?_
    refine r_callV F GC (c_X9_keep l D cA B hM1 hN.1 hi1) v_L_186 rfl hM1.1 rfl ⟨(Nat.le_of_ble_eq_true rfl), (Nat.le_of_ble_eq_true rfl)⟩ ⟨Nat.le_trans (Nat.add_le_add_right hc2 _) (Nat.le_of_ble_eq_true rfl), Nat.le_trans (Nat.add_le_add_right hs2 _) (Nat.le_of_ble_eq_true rfl)⟩ (Nat.le_of_ble_eq_true rfl) rfl dL_law_1183 rfl (fun v L2 M2 n2 hp => ?_)
    obtain ⟨q5, q6, q7, q8⟩ := hp
    subst q5; subst q6; subst q8
    rw [if_pos hkk] at q7
    have hIn := In_keep (n1 := o + 20) hSOK h hkk q3 hm0 (by omega) ⟨by omega, by omega⟩ ⟨_, RO_0 hSo (fun q j a1 a2 a3 => hZo q j a1 a2 a3)⟩ hlB hM1 hsk hsu (fun s o' s2 hne hs => Or.inl (hso s o' s2 hs).2)
    rw [q7] at hIn
    refine r_pop F rfl dL_law_1186 rfl ?_
    refine r_goto F (tgt := 1226) dL_law_1187 (by decide) ?_
    exact J _ _ _ _ _ _ hIn (Nat.le_trans (Nat.add_le_add_left ((Nat.le_of_ble_eq_true rfl) : rm_X9_keep.cells ≤ 0) _) hc1) (Nat.le_trans (Nat.add_le_add_left ((Nat.le_of_ble_eq_true rfl) : rm_X9_keep.slots ≤ 0) _) hs1)
set_option maxRecDepth 100000 in
set_option maxHeartbeats 800000 in
theorem K_42 {C : ja_C} {D : va_G} {cA : Nat → ClassId} {l : Launch} {B b L y n cells slots k : Nat} {i : Int} {lay : ja_Y} {mem : ja_M} {sl : Nat → Option Nat} {xs : Nat → Int32} (F : ja_F C RL cL_law 4 room_1) (GC : ja_G C l D cA B) (X : ja_X C b L xs) (hL : L ≤ 2560) (hi : i = 5 * (k : Int)) (hk : 5 * k + 5 ≤ L) (h : L_In S0 lay mem n y sl (500 * (k : Int))) (hc : cells ≤ 1000 + 20 * k) (hs : slots ≤ 40000 + 1269 * k) (J : ∀ (lay2 : ja_Y) (mem2 : ja_M) (n2 : Nat) (sl2 : Nat → Option Nat) (cells2 slots2 : Nat), L_In S0 lay2 mem2 n2 y sl2 (500 * (k : Int) + 500) → cells2 ≤ 1000 + 20 * k + 20 → slots2 ≤ 40000 + 1269 * k + 1269 → ja_W C cells2 slots2 lay2 mem2 n2 1226 [some (.ref b), some (.ref y), some (.ref (y + 49)), some (.int (ja_I i))] []) : ja_W C cells slots lay mem n 1190 [some (.ref b), some (.ref y), some (.ref (y + 49)), some (.int (ja_I i))] [] := by
  obtain ⟨⟨hB, hO, hn, hso, hsd⟩, ⟨hM, hN, hTO, hz4, hkp⟩, hT, hx, hsl⟩ := id h
  have hSOK : S_ok S0 := S0_ok
  have hk512 : k ≤ 512 := by omega
  have hc0 : cells ≤ 500000 := by omega
  have hs0 : slots ≤ 5000000 := by omega
  obtain ⟨x1, hx1⟩ : ∃ z, z = (xs (Int.toNat (i + 1))).toInt := ⟨_, rfl⟩
  have hi1 : ja_in x1 := by rw [hx1]; exact ja_range _
  obtain ⟨i1a, i1b⟩ := id hi1
  refine r_aload_n F rfl rfl dL_law_1190 rfl ?_
  refine r_aload_n F rfl rfl dL_law_1191 rfl ?_
  refine r_iload_n F rfl rfl dL_law_1192 rfl ?_
  refine r_iconst F dL_law_1193 rfl ?_
  refine r_iadd F dL_law_1194 rfl ?_
  refine r_sld F X (by omega) (by omega) (by omega) dL_law_1195 rfl ?_
  refine r_eqz (z := x1) hx1.symm ?_
  refine r_callV F GC (c_X8_restore l D cA B hB hO hi1) v_L_187 rfl hB.1 rfl ⟨(Nat.le_of_ble_eq_true rfl), (Nat.le_of_ble_eq_true rfl)⟩ ⟨Nat.le_trans (Nat.add_le_add_right hc0 _) (Nat.le_of_ble_eq_true rfl), Nat.le_trans (Nat.add_le_add_right hs0 _) (Nat.le_of_ble_eq_true rfl)⟩ (Nat.le_of_ble_eq_true rfl) rfl dL_law_1196 rfl (fun v L1 M1 n1 hp => ?_)
  have hc1 : cells + rm_X8_restore.cells ≤ 1000 + 20 * k + 20 := Nat.add_le_add hc (Nat.le_of_ble_eq_true rfl)
  have hs1 : slots + rm_X8_restore.slots ≤ 40000 + 1269 * k + 1269 := Nat.add_le_add hs (Nat.le_of_ble_eq_true rfl)
  have hc2 : cells + rm_X8_restore.cells ≤ 500000 := by omega
  have hs2 : slots + rm_X8_restore.slots ≤ 5000000 := by omega
  obtain ⟨q2, q4, hp⟩ := hp
  subst q2; subst q4
  rcases hp with ⟨hkk, q1, q3⟩ | ⟨hkk, hsn, q1, q3⟩ | ⟨o, hkk, hso1, q1, q3⟩
  · subst q1
    have c1 : ∀ q, y + 49 ≤ q → q < y + 58 → M1 q = mem q := fun q _ _ => by rw [← q3]
    refine r_mem (mem' := ja_rw M1 (y + 49 + 1) (mem (y + 49 + 1))) (by rw [← c1 (y + 49 + 1) (by omega) (by omega), ja_rw_self]) ?_
    have hTO1 : N_TO M1 (y + 49) := N_TO_c (by rw [c1 _ (by omega) (by omega)]) (c1 _ (by omega) (by omega)) hTO
    have hz1 : ∀ j, 0 ≤ M1 (y + 49 + 4) j ∧ M1 (y + 49 + 4) j ≤ 1 := fun j => by rw [c1 _ (by omega) (by omega)]; exact hz4 j
    refine r_aload_n F rfl rfl dL_law_1199 rfl ?_
    refine r_aload_n F rfl rfl dL_law_1200 rfl ?_
    refine r_iload_n F rfl rfl dL_law_1201 rfl ?_
    refine r_iconst F dL_law_1202 rfl ?_
    refine r_iadd F dL_law_1203 rfl ?_
    refine r_sld F X (by omega) (by omega) (by omega) dL_law_1204 rfl ?_
    refine r_eqz (z := x1) hx1.symm ?_
    refine r_callV F GC (c_X9_restore l D cA B hM hN.1 hz1 hi1) v_L_190 rfl hM.1 rfl ⟨(Nat.le_of_ble_eq_true rfl), (Nat.le_of_ble_eq_true rfl)⟩ ⟨Nat.le_trans (Nat.add_le_add_right hc2 _) (Nat.le_of_ble_eq_true rfl), Nat.le_trans (Nat.add_le_add_right hs2 _) (Nat.le_of_ble_eq_true rfl)⟩ (Nat.le_of_ble_eq_true rfl) rfl dL_law_1205 rfl (fun v L2 M2 n2 hp => ?_)
    obtain ⟨q5, q6, q7, q8⟩ := hp
    subst q5; subst q6; subst q8
    rw [if_neg (fun q => hkk q.1)] at q7
    have hIn := In_step2 hSOK h q7 (fun q _ => by rw [← q3]) (by rw [← q3]) (by rw [← q3]) (by rw [← q3]; exact BO_cg (by omega) hO (fun _ _ _ => rfl) (fun _ _ _ _ _ _ _ => rfl)) N_rf.rf (hN.mono (by omega)) (by rw [← q3]; exact hT)
    exact r_same F (by rw [if_neg hkk]) dL_law_1208 (by decide) (J _ _ _ _ _ _ hIn (Nat.le_trans (Nat.add_le_add_left ((Nat.le_of_ble_eq_true rfl) : rm_X9_restore.cells ≤ 0) _) hc1) (Nat.le_trans (Nat.add_le_add_left ((Nat.le_of_ble_eq_true rfl) : rm_X9_restore.slots ≤ 0) _) hs1))
  · subst q1
    have c1 : ∀ q, y + 49 ≤ q → q < y + 58 → M1 q = mem q := fun q _ _ => by rw [← q3]
    have hf0 : M1 (y + 49 + 4) x1.toNat = 0 := by rw [c1 _ (by omega) (by omega)]; exact (hsl x1.toNat (by omega)).1 hsn
    refine r_mem (mem' := ja_rw M1 (y + 49 + 1) (mem (y + 49 + 1))) (by rw [← c1 (y + 49 + 1) (by omega) (by omega), ja_rw_self]) ?_
    have hTO1 : N_TO M1 (y + 49) := N_TO_c (by rw [c1 _ (by omega) (by omega)]) (c1 _ (by omega) (by omega)) hTO
    have hz1 : ∀ j, 0 ≤ M1 (y + 49 + 4) j ∧ M1 (y + 49 + 4) j ≤ 1 := fun j => by rw [c1 _ (by omega) (by omega)]; exact hz4 j
    refine r_aload_n F rfl rfl dL_law_1199 rfl ?_
    refine r_aload_n F rfl rfl dL_law_1200 rfl ?_
    refine r_iload_n F rfl rfl dL_law_1201 rfl ?_
    refine r_iconst F dL_law_1202 rfl ?_
    refine r_iadd F dL_law_1203 rfl ?_
    refine r_sld F X (by omega) (by omega) (by omega) dL_law_1204 rfl ?_
    refine r_eqz (z := x1) hx1.symm ?_
    refine r_callV F GC (c_X9_restore l D cA B hM hN.1 hz1 hi1) v_L_190 rfl hM.1 rfl ⟨(Nat.le_of_ble_eq_true rfl), (Nat.le_of_ble_eq_true rfl)⟩ ⟨Nat.le_trans (Nat.add_le_add_right hc2 _) (Nat.le_of_ble_eq_true rfl), Nat.le_trans (Nat.add_le_add_right hs2 _) (Nat.le_of_ble_eq_true rfl)⟩ (Nat.le_of_ble_eq_true rfl) rfl dL_law_1205 rfl (fun v L2 M2 n2 hp => ?_)
    obtain ⟨q5, q6, q7, q8⟩ := hp
    subst q5; subst q6; subst q8
    rw [if_neg (fun q => q.2 hf0)] at q7
    have hIn := In_step2 hSOK h q7 (fun q _ => by rw [← q3]) (by rw [← q3]) (by rw [← q3]) (by rw [← q3]; exact BO_cg (by omega) hO (fun _ _ _ => rfl) (fun _ _ _ _ _ _ _ => rfl)) N_rf.rf (hN.mono (by omega)) (by rw [← q3]; exact hT)
    exact r_same F (by rw [if_pos hkk, if_pos hf0]) dL_law_1208 (by decide) (J _ _ _ _ _ _ hIn (Nat.le_trans (Nat.add_le_add_left ((Nat.le_of_ble_eq_true rfl) : rm_X9_restore.cells ≤ 0) _) hc1) (Nat.le_trans (Nat.add_le_add_left ((Nat.le_of_ble_eq_true rfl) : rm_X9_restore.slots ≤ 0) _) hs1))
  · subst q1
    have ho1 := hso _ _ (by omega) hso1
    have c1 : ∀ q, y + 49 ≤ q → q < y + 58 → M1 q = mem q := fun q qa qb => by rw [← q3, R_cp_o (by omega)]
    have hf1 : ¬ M1 (y + 49 + 4) x1.toNat = 0 := by rw [c1 _ (by omega) (by omega), ((hsl x1.toNat (by omega)).2 o hso1).1]; decide
    refine r_mem (mem' := ja_rw M1 (y + 49 + 1) (mem (y + 49 + 1))) (by rw [← c1 (y + 49 + 1) (by omega) (by omega), ja_rw_self]) ?_
    have hTO1 : N_TO M1 (y + 49) := N_TO_c (by rw [c1 _ (by omega) (by omega)]) (c1 _ (by omega) (by omega)) hTO
    have hz1 : ∀ j, 0 ≤ M1 (y + 49 + 4) j ∧ M1 (y + 49 + 4) j ≤ 1 := fun j => by rw [c1 _ (by omega) (by omega)]; exact hz4 j
    refine r_aload_n F rfl rfl dL_law_1199 rfl ?_
    refine r_aload_n F rfl rfl dL_law_1200 rfl ?_
    refine r_iload_n F rfl rfl dL_law_1201 rfl ?_
    refine r_iconst F dL_law_1202 rfl ?_
    refine r_iadd F dL_law_1203 rfl ?_
    refine r_sld F X (by omega) (by omega) (by omega) dL_law_1204 rfl ?_
    refine r_eqz (z := x1) hx1.symm ?_
    refine r_callV F GC (c_X9_restore l D cA B hM hN.1 hz1 hi1) v_L_190 rfl hM.1 rfl ⟨(Nat.le_of_ble_eq_true rfl), (Nat.le_of_ble_eq_true rfl)⟩ ⟨Nat.le_trans (Nat.add_le_add_right hc2 _) (Nat.le_of_ble_eq_true rfl), Nat.le_trans (Nat.add_le_add_right hs2 _) (Nat.le_of_ble_eq_true rfl)⟩ (Nat.le_of_ble_eq_true rfl) rfl dL_law_1205 rfl (fun v L2 M2 n2 hp => ?_)
    obtain ⟨q5, q6, q7, q8⟩ := hp
    subst q5; subst q6; subst q8
    rw [if_pos ⟨hkk, hf1⟩] at q7
    have hIn := In_restore hSOK h (by omega) hso1 q3 (v' := fun j => M1 (y + 49 + 3) ((2484 * x1).toNat + j)) (fun j hj => by rw [c1 _ (by omega) (by omega), show (2484 * x1).toNat = 2484 * x1.toNat by omega])
    rw [q7] at hIn
    exact r_same F (by rw [if_pos hkk, if_neg hf1, c1 _ (by omega) (by omega), show (2484 * x1).toNat = 2484 * x1.toNat by omega]; exact ((hsl x1.toNat (by omega)).2 o hso1).2.1) dL_law_1208 (by decide) (J _ _ _ _ _ _ hIn (Nat.le_trans (Nat.add_le_add_left ((Nat.le_of_ble_eq_true rfl) : rm_X9_restore.cells ≤ 0) _) hc1) (Nat.le_trans (Nat.add_le_add_left ((Nat.le_of_ble_eq_true rfl) : rm_X9_restore.slots ≤ 0) _) hs1))
set_option maxRecDepth 100000 in
set_option maxHeartbeats 800000 in
theorem K_43 {C : ja_C} {D : va_G} {cA : Nat → ClassId} {l : Launch} {B b L y n cells slots k : Nat} {i : Int} {lay : ja_Y} {mem : ja_M} {sl : Nat → Option Nat} {xs : Nat → Int32} (F : ja_F C RL cL_law 4 room_1) (GC : ja_G C l D cA B) (X : ja_X C b L xs) (hL : L ≤ 2560) (hi : i = 5 * (k : Int)) (hk : 5 * k + 5 ≤ L) (h : L_In S0 lay mem n y sl (500 * (k : Int))) (hc : cells ≤ 1000 + 20 * k) (hs : slots ≤ 40000 + 1269 * k) (J : ∀ (lay2 : ja_Y) (mem2 : ja_M) (n2 : Nat) (sl2 : Nat → Option Nat) (cells2 slots2 : Nat), L_In S0 lay2 mem2 n2 y sl2 (500 * (k : Int) + 500) → cells2 ≤ 1000 + 20 * k + 20 → slots2 ≤ 40000 + 1269 * k + 1269 → ja_W C cells2 slots2 lay2 mem2 n2 1226 [some (.ref b), some (.ref y), some (.ref (y + 49)), some (.int (ja_I i))] []) : ja_W C cells slots lay mem n 1213 [some (.ref b), some (.ref y), some (.ref (y + 49)), some (.int (ja_I i))] [] := by
  obtain ⟨⟨hB, hO, hn, hso, hsd⟩, ⟨hM, hN, hTO, hz4, hkp⟩, hT, hx, hsl⟩ := id h
  have hSOK : S_ok S0 := S0_ok
  have hk512 : k ≤ 512 := by omega
  have hc0 : cells ≤ 500000 := by omega
  have hs0 : slots ≤ 5000000 := by omega
  refine r_aload_n F rfl rfl dL_law_1213 rfl ?_
  refine r_callV F GC (c_X8_checksum l D cA B hB hO ) v_L_191 rfl hB.1 rfl ⟨(Nat.le_of_ble_eq_true rfl), (Nat.le_of_ble_eq_true rfl)⟩ ⟨Nat.le_trans (Nat.add_le_add_right hc0 _) (Nat.le_of_ble_eq_true rfl), Nat.le_trans (Nat.add_le_add_right hs0 _) (Nat.le_of_ble_eq_true rfl)⟩ (Nat.le_of_ble_eq_true rfl) rfl dL_law_1214 rfl (fun v L1 M1 n1 hp => ?_)
  have hc1 : cells + rm_X8_checksum.cells ≤ 1000 + 20 * k + 20 := Nat.add_le_add hc (Nat.le_of_ble_eq_true rfl)
  have hs1 : slots + rm_X8_checksum.slots ≤ 40000 + 1269 * k + 1269 := Nat.add_le_add hs (Nat.le_of_ble_eq_true rfl)
  have hc2 : cells + rm_X8_checksum.cells ≤ 500000 := by omega
  have hs2 : slots + rm_X8_checksum.slots ≤ 5000000 := by omega
  obtain ⟨q1, q2, q3, q4⟩ := hp
  subst q1; subst q2; subst q4
  have cF : ∀ q, y + 41 ≤ q → M1 q = mem q := fun q qa => by rw [← q3]
  have c1 : ∀ q, y + 49 ≤ q → q < y + 58 → M1 q = mem q := fun q qa _ => cF q (by omega)
  have cB : ja_BO M1 y sl (500 * (k : Int) + 500) := by rw [← q3]; exact BO_cg (by omega) hO (fun _ _ _ => rfl) (fun _ _ _ _ _ _ _ => rfl)
  refine r_pop2 F rfl dL_law_1217 rfl ?_
  refine r_mem (mem' := ja_rw M1 (y + 49 + 1) (mem (y + 49 + 1))) (by rw [← c1 (y + 49 + 1) (by omega) (by omega), ja_rw_self]) ?_
  have hTO1 : N_TO M1 (y + 49) := N_TO_c (by rw [c1 _ (by omega) (by omega)]) (c1 _ (by omega) (by omega)) hTO
  have hz1 : ∀ j, 0 ≤ M1 (y + 49 + 4) j ∧ M1 (y + 49 + 4) j ≤ 1 := fun j => by rw [c1 _ (by omega) (by omega)]; exact hz4 j
  refine r_aload_n F rfl rfl dL_law_1218 rfl ?_
  refine r_callV F GC (c_X9_checksum l D cA B hM hN.1) v_L_195 rfl hM.1 rfl ⟨(Nat.le_of_ble_eq_true rfl), (Nat.le_of_ble_eq_true rfl)⟩ ⟨Nat.le_trans (Nat.add_le_add_right hc2 _) (Nat.le_of_ble_eq_true rfl), Nat.le_trans (Nat.add_le_add_right hs2 _) (Nat.le_of_ble_eq_true rfl)⟩ (Nat.le_of_ble_eq_true rfl) rfl dL_law_1219 rfl (fun v L2 M2 n2 hp => ?_)
  obtain ⟨q5, q6, q8, G2, hg, q7⟩ := hp
  subst q5; subst q6; subst q8
  have hIn := In_step2 hSOK h q7.symm (fun q hq => cF q (by omega)) (by rw [cF _ (by omega)]) (cF _ (by omega)) cB hg.f (hN.mono (by omega)) (by rw [← q3]; exact hT)
  refine r_pop2 F rfl dL_law_1222 rfl ?_
  refine r_goto F (tgt := 1226) dL_law_1223 (by decide) ?_
  exact J _ _ _ _ _ _ hIn (Nat.le_trans (Nat.add_le_add_left ((Nat.le_of_ble_eq_true rfl) : rm_X9_checksum.cells ≤ 0) _) hc1) (Nat.le_trans (Nat.add_le_add_left ((Nat.le_of_ble_eq_true rfl) : rm_X9_checksum.slots ≤ 0) _) hs1)
end
