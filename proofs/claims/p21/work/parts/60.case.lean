set_option maxRecDepth 100000 in
set_option maxHeartbeats 800000 in
theorem K_0 {C : ja_C} {D : va_G} {cA : Nat → ClassId} {l : Launch} {B b L y n cells slots k : Nat} {i : Int} {lay : ja_Y} {mem : ja_M} {sl : Nat → Option Nat} {xs : Nat → Int32} (F : ja_F C RL cL_law 4 room_1) (GC : ja_G C l D cA B) (X : ja_X C b L xs) (hL : L ≤ 2560) (hi : i = 5 * (k : Int)) (hk : 5 * k + 5 ≤ L) (h : L_In S1 lay mem n y sl (500 * (k : Int))) (hc : cells ≤ 1000 + 20 * k) (hs : slots ≤ 40000 + 1269 * k) (J : ∀ (lay2 : ja_Y) (mem2 : ja_M) (n2 : Nat) (sl2 : Nat → Option Nat) (cells2 slots2 : Nat), L_In S1 lay2 mem2 n2 y sl2 (500 * (k : Int) + 500) → cells2 ≤ 1000 + 20 * k + 20 → slots2 ≤ 40000 + 1269 * k + 1269 → ja_W C cells2 slots2 lay2 mem2 n2 1226 [some (.ref b), some (.ref y), some (.ref (y + 49)), some (.int (ja_I i))] []) : ja_W C cells slots lay mem n 224 [some (.ref b), some (.ref y), some (.ref (y + 49)), some (.int (ja_I i))] [] := by
  obtain ⟨⟨hB, hO, hn, hso, hsd⟩, ⟨hM, hN, hTO, hz4, hkp⟩, hT, hx, hsl⟩ := id h
  have hSOK : S_ok S1 := S1_ok
  have hk512 : k ≤ 512 := by omega
  have hc0 : cells ≤ 500000 := by omega
  have hs0 : slots ≤ 5000000 := by omega
  obtain ⟨x1, hx1⟩ : ∃ z, z = (xs (Int.toNat (i + 1))).toInt := ⟨_, rfl⟩
  have hi1 : ja_in x1 := by rw [hx1]; exact ja_range _
  obtain ⟨i1a, i1b⟩ := id hi1
  refine r_aload_n F rfl rfl dL_law_224 rfl ?_
  refine r_aload_n F rfl rfl dL_law_225 rfl ?_
  refine r_iload_n F rfl rfl dL_law_226 rfl ?_
  refine r_iconst F dL_law_227 rfl ?_
  refine r_iadd F dL_law_228 rfl ?_
  refine r_sld F X (by omega) (by omega) (by omega) dL_law_229 rfl ?_
  refine r_eqz (z := x1) hx1.symm ?_
  refine r_callV F GC (c_X8_setFrame l D cA B hB hO hi1) v_L_13 rfl hB.1 rfl ⟨(Nat.le_of_ble_eq_true rfl), (Nat.le_of_ble_eq_true rfl)⟩ ⟨Nat.le_trans (Nat.add_le_add_right hc0 _) (Nat.le_of_ble_eq_true rfl), Nat.le_trans (Nat.add_le_add_right hs0 _) (Nat.le_of_ble_eq_true rfl)⟩ (Nat.le_of_ble_eq_true rfl) rfl dL_law_230 rfl (fun v L1 M1 n1 hp => ?_)
  have hc1 : cells + rm_X8_setFrame.cells ≤ 1000 + 20 * k + 20 := Nat.add_le_add hc (Nat.le_of_ble_eq_true rfl)
  have hs1 : slots + rm_X8_setFrame.slots ≤ 40000 + 1269 * k + 1269 := Nat.add_le_add hs (Nat.le_of_ble_eq_true rfl)
  have hc2 : cells + rm_X8_setFrame.cells ≤ 500000 := by omega
  have hs2 : slots + rm_X8_setFrame.slots ≤ 5000000 := by omega
  obtain ⟨q1, q2, q3, q4⟩ := hp
  subst q1; subst q2; subst q4
  have cF : ∀ q, y + 41 ≤ q → M1 q = mem q := fun q qa => by
      rw [← q3]
      split
      · exact ja_up_row (by omega)
      · rfl
  have c1 : ∀ q, y + 49 ≤ q → q < y + 58 → M1 q = mem q := fun q qa _ => cF q (by omega)
  have cB : ja_BO M1 y sl (500 * (k : Int) + 500) := by
      rw [← q3]
      split
      · rename_i q
        exact BO_recv (by omega) hO (fun i o hi ho => by have := hso i o hi ho; omega) ((RO_up (j := 0) hO.1 (show 4 ≤ x1 ∧ x1 ≤ 16 by omega) (by omega) (Or.inl ⟨by omega, by omega⟩)).mono (by omega)) (fun q hq => ja_up_row (by omega))
      · exact BO_cg (by omega) hO (fun _ _ _ => rfl) (fun _ _ _ _ _ _ _ => rfl)
  refine r_pop F rfl dL_law_233 rfl ?_
  refine r_mem (mem' := ja_rw M1 (y + 49 + 1) (mem (y + 49 + 1))) (by rw [← c1 (y + 49 + 1) (by omega) (by omega), ja_rw_self]) ?_
  have hTO1 : N_TO M1 (y + 49) := N_TO_c (by rw [c1 _ (by omega) (by omega)]) (c1 _ (by omega) (by omega)) hTO
  have hz1 : ∀ j, 0 ≤ M1 (y + 49 + 4) j ∧ M1 (y + 49 + 4) j ≤ 1 := fun j => by rw [c1 _ (by omega) (by omega)]; exact hz4 j
  refine r_aload_n F rfl rfl dL_law_234 rfl ?_
  refine r_aload_n F rfl rfl dL_law_235 rfl ?_
  refine r_iload_n F rfl rfl dL_law_236 rfl ?_
  refine r_iconst F dL_law_237 rfl ?_
  refine r_iadd F dL_law_238 rfl ?_
  refine r_sld F X (by omega) (by omega) (by omega) dL_law_239 rfl ?_
  refine r_eqz (z := x1) hx1.symm ?_
  refine r_callV F GC (c_X9_setFrame l D cA B hM hN.1 hi1) v_L_17 rfl hM.1 rfl ⟨(Nat.le_of_ble_eq_true rfl), (Nat.le_of_ble_eq_true rfl)⟩ ⟨Nat.le_trans (Nat.add_le_add_right hc2 _) (Nat.le_of_ble_eq_true rfl), Nat.le_trans (Nat.add_le_add_right hs2 _) (Nat.le_of_ble_eq_true rfl)⟩ (Nat.le_of_ble_eq_true rfl) rfl dL_law_240 rfl (fun v L2 M2 n2 hp => ?_)
  obtain ⟨q5, q6, q7, q8⟩ := hp
  subst q5; subst q6; subst q8
  have hIn := In_step2 hSOK h q7 (fun q hq => cF q (by omega)) (by rw [cF _ (by omega)]) (cF _ (by omega)) cB N_rf.rf (by
      split
      · rename_i q
        exact (N_O_up (j := 0) hN (show 4 ≤ x1 ∧ x1 ≤ 16 by omega) (by omega) (Or.inl ⟨by omega, by omega⟩)).mono (by omega)
      · exact hN.mono (by omega)) (by rw [← q3]; exact hSOK.2.2.1 _ _ _ _ _ _ _ (by omega) hO.1 hN hT)
  refine r_pop F rfl dL_law_243 rfl ?_
  refine r_goto F (tgt := 1226) dL_law_244 (by decide) ?_
  exact J _ _ _ _ _ _ hIn (Nat.le_trans (Nat.add_le_add_left ((Nat.le_of_ble_eq_true rfl) : rm_X9_setFrame.cells ≤ 0) _) hc1) (Nat.le_trans (Nat.add_le_add_left ((Nat.le_of_ble_eq_true rfl) : rm_X9_setFrame.slots ≤ 0) _) hs1)
set_option maxRecDepth 100000 in
set_option maxHeartbeats 800000 in
theorem K_1 {C : ja_C} {D : va_G} {cA : Nat → ClassId} {l : Launch} {B b L y n cells slots k : Nat} {i : Int} {lay : ja_Y} {mem : ja_M} {sl : Nat → Option Nat} {xs : Nat → Int32} (F : ja_F C RL cL_law 4 room_1) (GC : ja_G C l D cA B) (X : ja_X C b L xs) (hL : L ≤ 2560) (hi : i = 5 * (k : Int)) (hk : 5 * k + 5 ≤ L) (h : L_In S1 lay mem n y sl (500 * (k : Int))) (hc : cells ≤ 1000 + 20 * k) (hs : slots ≤ 40000 + 1269 * k) (J : ∀ (lay2 : ja_Y) (mem2 : ja_M) (n2 : Nat) (sl2 : Nat → Option Nat) (cells2 slots2 : Nat), L_In S1 lay2 mem2 n2 y sl2 (500 * (k : Int) + 500) → cells2 ≤ 1000 + 20 * k + 20 → slots2 ≤ 40000 + 1269 * k + 1269 → ja_W C cells2 slots2 lay2 mem2 n2 1226 [some (.ref b), some (.ref y), some (.ref (y + 49)), some (.int (ja_I i))] []) : ja_W C cells slots lay mem n 247 [some (.ref b), some (.ref y), some (.ref (y + 49)), some (.int (ja_I i))] [] := by
  obtain ⟨⟨hB, hO, hn, hso, hsd⟩, ⟨hM, hN, hTO, hz4, hkp⟩, hT, hx, hsl⟩ := id h
  have hSOK : S_ok S1 := S1_ok
  have hk512 : k ≤ 512 := by omega
  have hc0 : cells ≤ 500000 := by omega
  have hs0 : slots ≤ 5000000 := by omega
  obtain ⟨x1, hx1⟩ : ∃ z, z = (xs (Int.toNat (i + 1))).toInt := ⟨_, rfl⟩
  have hi1 : ja_in x1 := by rw [hx1]; exact ja_range _
  obtain ⟨i1a, i1b⟩ := id hi1
  obtain ⟨x2, hx2⟩ : ∃ z, z = (xs (Int.toNat (i + 2))).toInt := ⟨_, rfl⟩
  have hi2 : ja_in x2 := by rw [hx2]; exact ja_range _
  obtain ⟨i2a, i2b⟩ := id hi2
  refine r_aload_n F rfl rfl dL_law_247 rfl ?_
  refine r_aload_n F rfl rfl dL_law_248 rfl ?_
  refine r_iload_n F rfl rfl dL_law_249 rfl ?_
  refine r_iconst F dL_law_250 rfl ?_
  refine r_iadd F dL_law_251 rfl ?_
  refine r_sld F X (by omega) (by omega) (by omega) dL_law_252 rfl ?_
  refine r_eqz (z := x1) hx1.symm ?_
  refine r_aload_n F rfl rfl dL_law_253 rfl ?_
  refine r_iload_n F rfl rfl dL_law_254 rfl ?_
  refine r_iconst F dL_law_255 rfl ?_
  refine r_iadd F dL_law_256 rfl ?_
  refine r_sld F X (by omega) (by omega) (by omega) dL_law_257 rfl ?_
  refine r_eqz (z := x2) hx2.symm ?_
  refine r_callV F GC (c_X8_setWave l D cA B hB hO hi1 hi2) v_L_18 rfl hB.1 rfl ⟨(Nat.le_of_ble_eq_true rfl), (Nat.le_of_ble_eq_true rfl)⟩ ⟨Nat.le_trans (Nat.add_le_add_right hc0 _) (Nat.le_of_ble_eq_true rfl), Nat.le_trans (Nat.add_le_add_right hs0 _) (Nat.le_of_ble_eq_true rfl)⟩ (Nat.le_of_ble_eq_true rfl) rfl dL_law_258 rfl (fun v L1 M1 n1 hp => ?_)
  have hc1 : cells + rm_X8_setWave.cells ≤ 1000 + 20 * k + 20 := Nat.add_le_add hc (Nat.le_of_ble_eq_true rfl)
  have hs1 : slots + rm_X8_setWave.slots ≤ 40000 + 1269 * k + 1269 := Nat.add_le_add hs (Nat.le_of_ble_eq_true rfl)
  have hc2 : cells + rm_X8_setWave.cells ≤ 500000 := by omega
  have hs2 : slots + rm_X8_setWave.slots ≤ 5000000 := by omega
  obtain ⟨q1, q2, q3, q4⟩ := hp
  subst q1; subst q2; subst q4
  have cF : ∀ q, y + 41 ≤ q → M1 q = mem q := fun q qa => by
      rw [← q3]
      split
      · rw [ja_up_row (by omega), ja_up_row (by omega)]
      · rfl
  have c1 : ∀ q, y + 49 ≤ q → q < y + 58 → M1 q = mem q := fun q qa _ => cF q (by omega)
  have cB : ja_BO M1 y sl (500 * (k : Int) + 500) := by
      rw [← q3]
      split
      · rename_i q
        exact BO_recv (by omega) hO (fun i o hi ho => by have := hso i o hi ho; omega) ((RO_up (j := 2) (RO_up (j := 1) hO.1 (show 2 ≤ x1 ∧ x1 ≤ 32 by omega) (by omega) (Or.inl ⟨by omega, by omega⟩)) (show 1 ≤ x2 ∧ x2 ≤ 200 by omega) (by omega) (Or.inl ⟨by omega, by omega⟩)).mono (by omega)) (fun q hq => (ja_up_row (by omega)).trans (ja_up_row (by omega)))
      · exact BO_cg (by omega) hO (fun _ _ _ => rfl) (fun _ _ _ _ _ _ _ => rfl)
  refine r_pop F rfl dL_law_261 rfl ?_
  refine r_mem (mem' := ja_rw M1 (y + 49 + 1) (mem (y + 49 + 1))) (by rw [← c1 (y + 49 + 1) (by omega) (by omega), ja_rw_self]) ?_
  have hTO1 : N_TO M1 (y + 49) := N_TO_c (by rw [c1 _ (by omega) (by omega)]) (c1 _ (by omega) (by omega)) hTO
  have hz1 : ∀ j, 0 ≤ M1 (y + 49 + 4) j ∧ M1 (y + 49 + 4) j ≤ 1 := fun j => by rw [c1 _ (by omega) (by omega)]; exact hz4 j
  refine r_aload_n F rfl rfl dL_law_262 rfl ?_
  refine r_aload_n F rfl rfl dL_law_263 rfl ?_
  refine r_iload_n F rfl rfl dL_law_264 rfl ?_
  refine r_iconst F dL_law_265 rfl ?_
  refine r_iadd F dL_law_266 rfl ?_
  refine r_sld F X (by omega) (by omega) (by omega) dL_law_267 rfl ?_
  refine r_eqz (z := x1) hx1.symm ?_
  refine r_aload_n F rfl rfl dL_law_268 rfl ?_
  refine r_iload_n F rfl rfl dL_law_269 rfl ?_
  refine r_iconst F dL_law_270 rfl ?_
  refine r_iadd F dL_law_271 rfl ?_
  refine r_sld F X (by omega) (by omega) (by omega) dL_law_272 rfl ?_
  refine r_eqz (z := x2) hx2.symm ?_
  refine r_callV F GC (c_X9_setWave l D cA B hM hN.1 hi1 hi2) v_L_22 rfl hM.1 rfl ⟨(Nat.le_of_ble_eq_true rfl), (Nat.le_of_ble_eq_true rfl)⟩ ⟨Nat.le_trans (Nat.add_le_add_right hc2 _) (Nat.le_of_ble_eq_true rfl), Nat.le_trans (Nat.add_le_add_right hs2 _) (Nat.le_of_ble_eq_true rfl)⟩ (Nat.le_of_ble_eq_true rfl) rfl dL_law_273 rfl (fun v L2 M2 n2 hp => ?_)
  obtain ⟨q5, q6, q7, q8⟩ := hp
  subst q5; subst q6; subst q8
  have hIn := In_step2 hSOK h q7 (fun q hq => cF q (by omega)) (by rw [cF _ (by omega)]) (cF _ (by omega)) cB N_rf.rf (by
      split
      · rename_i q
        exact (N_O_up (j := 2) (N_O_up (j := 1) hN (show 2 ≤ x1 ∧ x1 ≤ 32 by omega) (by omega) (Or.inl ⟨by omega, by omega⟩)) (show 1 ≤ x2 ∧ x2 ≤ 200 by omega) (by omega) (Or.inl ⟨by omega, by omega⟩)).mono (by omega)
      · exact hN.mono (by omega)) (by rw [← q3]; exact hSOK.2.2.2.1 _ _ _ _ _ _ _ _ _ (by omega) (by omega) hO.1 hN hT)
  refine r_pop F rfl dL_law_276 rfl ?_
  refine r_goto F (tgt := 1226) dL_law_277 (by decide) ?_
  exact J _ _ _ _ _ _ hIn (Nat.le_trans (Nat.add_le_add_left ((Nat.le_of_ble_eq_true rfl) : rm_X9_setWave.cells ≤ 0) _) hc1) (Nat.le_trans (Nat.add_le_add_left ((Nat.le_of_ble_eq_true rfl) : rm_X9_setWave.slots ≤ 0) _) hs1)
set_option maxRecDepth 100000 in
set_option maxHeartbeats 800000 in
theorem K_2 {C : ja_C} {D : va_G} {cA : Nat → ClassId} {l : Launch} {B b L y n cells slots k : Nat} {i : Int} {lay : ja_Y} {mem : ja_M} {sl : Nat → Option Nat} {xs : Nat → Int32} (F : ja_F C RL cL_law 4 room_1) (GC : ja_G C l D cA B) (X : ja_X C b L xs) (hL : L ≤ 2560) (hi : i = 5 * (k : Int)) (hk : 5 * k + 5 ≤ L) (h : L_In S1 lay mem n y sl (500 * (k : Int))) (hc : cells ≤ 1000 + 20 * k) (hs : slots ≤ 40000 + 1269 * k) (J : ∀ (lay2 : ja_Y) (mem2 : ja_M) (n2 : Nat) (sl2 : Nat → Option Nat) (cells2 slots2 : Nat), L_In S1 lay2 mem2 n2 y sl2 (500 * (k : Int) + 500) → cells2 ≤ 1000 + 20 * k + 20 → slots2 ≤ 40000 + 1269 * k + 1269 → ja_W C cells2 slots2 lay2 mem2 n2 1226 [some (.ref b), some (.ref y), some (.ref (y + 49)), some (.int (ja_I i))] []) : ja_W C cells slots lay mem n 280 [some (.ref b), some (.ref y), some (.ref (y + 49)), some (.int (ja_I i))] [] := by
  obtain ⟨⟨hB, hO, hn, hso, hsd⟩, ⟨hM, hN, hTO, hz4, hkp⟩, hT, hx, hsl⟩ := id h
  have hSOK : S_ok S1 := S1_ok
  have hk512 : k ≤ 512 := by omega
  have hc0 : cells ≤ 500000 := by omega
  have hs0 : slots ≤ 5000000 := by omega
  obtain ⟨x1, hx1⟩ : ∃ z, z = (xs (Int.toNat (i + 1))).toInt := ⟨_, rfl⟩
  have hi1 : ja_in x1 := by rw [hx1]; exact ja_range _
  obtain ⟨i1a, i1b⟩ := id hi1
  obtain ⟨x2, hx2⟩ : ∃ z, z = (xs (Int.toNat (i + 2))).toInt := ⟨_, rfl⟩
  have hi2 : ja_in x2 := by rw [hx2]; exact ja_range _
  obtain ⟨i2a, i2b⟩ := id hi2
  refine r_aload_n F rfl rfl dL_law_280 rfl ?_
  refine r_aload_n F rfl rfl dL_law_281 rfl ?_
  refine r_iload_n F rfl rfl dL_law_282 rfl ?_
  refine r_iconst F dL_law_283 rfl ?_
  refine r_iadd F dL_law_284 rfl ?_
  refine r_sld F X (by omega) (by omega) (by omega) dL_law_285 rfl ?_
  refine r_eqz (z := x1) hx1.symm ?_
  refine r_aload_n F rfl rfl dL_law_286 rfl ?_
  refine r_iload_n F rfl rfl dL_law_287 rfl ?_
  refine r_iconst F dL_law_288 rfl ?_
  refine r_iadd F dL_law_289 rfl ?_
  refine r_sld F X (by omega) (by omega) (by omega) dL_law_290 rfl ?_
  refine r_eqz (z := x2) hx2.symm ?_
  refine r_callV F GC (c_X8_setBlock l D cA B hB hO hi1 hi2) v_L_23 rfl hB.1 rfl ⟨(Nat.le_of_ble_eq_true rfl), (Nat.le_of_ble_eq_true rfl)⟩ ⟨Nat.le_trans (Nat.add_le_add_right hc0 _) (Nat.le_of_ble_eq_true rfl), Nat.le_trans (Nat.add_le_add_right hs0 _) (Nat.le_of_ble_eq_true rfl)⟩ (Nat.le_of_ble_eq_true rfl) rfl dL_law_291 rfl (fun v L1 M1 n1 hp => ?_)
  have hc1 : cells + rm_X8_setBlock.cells ≤ 1000 + 20 * k + 20 := Nat.add_le_add hc (Nat.le_of_ble_eq_true rfl)
  have hs1 : slots + rm_X8_setBlock.slots ≤ 40000 + 1269 * k + 1269 := Nat.add_le_add hs (Nat.le_of_ble_eq_true rfl)
  have hc2 : cells + rm_X8_setBlock.cells ≤ 500000 := by omega
  have hs2 : slots + rm_X8_setBlock.slots ≤ 5000000 := by omega
  obtain ⟨q1, q2, q3, q4⟩ := hp
  subst q1; subst q2; subst q4
  have cF : ∀ q, y + 41 ≤ q → M1 q = mem q := fun q qa => by
      rw [← q3]
      split
      · rw [ja_up_row (by omega), ja_up_row (by omega)]
      · rfl
  have c1 : ∀ q, y + 49 ≤ q → q < y + 58 → M1 q = mem q := fun q qa _ => cF q (by omega)
  have cB : ja_BO M1 y sl (500 * (k : Int) + 500) := by
      rw [← q3]
      split
      · rename_i q
        have hbg0 : mem (y + 1 + 15) 4 ≤ 0 := Int.not_lt.mp (fun r => q.2 (Or.inr r))
        exact BO_recv (by omega) hO (fun i o hi ho => by have := hso i o hi ho; omega) ((RO_up (j := 4) (RO_up (j := 3) hO.1 (show 2 ≤ x1 ∧ x1 ≤ 6 by omega) (by omega) (Or.inr hbg0)) (show 2 ≤ x2 ∧ x2 ≤ 6 by omega) (by omega) (Or.inr (by rw [ja_up_a (by omega)]; exact hbg0))).mono (by omega)) (fun q hq => (ja_up_row (by omega)).trans (ja_up_row (by omega)))
      · exact BO_cg (by omega) hO (fun _ _ _ => rfl) (fun _ _ _ _ _ _ _ => rfl)
  refine r_pop F rfl dL_law_294 rfl ?_
  refine r_mem (mem' := ja_rw M1 (y + 49 + 1) (mem (y + 49 + 1))) (by rw [← c1 (y + 49 + 1) (by omega) (by omega), ja_rw_self]) ?_
  have hTO1 : N_TO M1 (y + 49) := N_TO_c (by rw [c1 _ (by omega) (by omega)]) (c1 _ (by omega) (by omega)) hTO
  have hz1 : ∀ j, 0 ≤ M1 (y + 49 + 4) j ∧ M1 (y + 49 + 4) j ≤ 1 := fun j => by rw [c1 _ (by omega) (by omega)]; exact hz4 j
  refine r_aload_n F rfl rfl dL_law_295 rfl ?_
  refine r_aload_n F rfl rfl dL_law_296 rfl ?_
  refine r_iload_n F rfl rfl dL_law_297 rfl ?_
  refine r_iconst F dL_law_298 rfl ?_
  refine r_iadd F dL_law_299 rfl ?_
  refine r_sld F X (by omega) (by omega) (by omega) dL_law_300 rfl ?_
  refine r_eqz (z := x1) hx1.symm ?_
  refine r_aload_n F rfl rfl dL_law_301 rfl ?_
  refine r_iload_n F rfl rfl dL_law_302 rfl ?_
  refine r_iconst F dL_law_303 rfl ?_
  refine r_iadd F dL_law_304 rfl ?_
  refine r_sld F X (by omega) (by omega) (by omega) dL_law_305 rfl ?_
  refine r_eqz (z := x2) hx2.symm ?_
  refine r_callV F GC (c_X9_setBlock l D cA B hM hN.1 hi1 hi2) v_L_26 rfl hM.1 rfl ⟨(Nat.le_of_ble_eq_true rfl), (Nat.le_of_ble_eq_true rfl)⟩ ⟨Nat.le_trans (Nat.add_le_add_right hc2 _) (Nat.le_of_ble_eq_true rfl), Nat.le_trans (Nat.add_le_add_right hs2 _) (Nat.le_of_ble_eq_true rfl)⟩ (Nat.le_of_ble_eq_true rfl) rfl dL_law_306 rfl (fun v L2 M2 n2 hp => ?_)
  obtain ⟨q5, q6, q7, q8⟩ := hp
  subst q5; subst q6; subst q8
  have hIn := In_step2 hSOK h q7 (fun q hq => cF q (by omega)) (by rw [cF _ (by omega)]) (cF _ (by omega)) cB N_rf.rf (by
      split
      · rename_i q
        have hvb0 : (mem (y + 49 + 1)) 25 ≤ 0 := Int.not_lt.mp (fun r => q.2 (Or.inr r))
        exact (N_O_up (j := 4) (N_O_up (j := 3) hN (show 2 ≤ x1 ∧ x1 ≤ 6 by omega) (by omega) (Or.inr hvb0)) (show 2 ≤ x2 ∧ x2 ≤ 6 by omega) (by omega) (Or.inr (by rw [ja_rs_n (by omega)]; exact hvb0))).mono (by omega)
      · exact hN.mono (by omega)) (by rw [← q3]; exact hSOK.2.2.2.1 _ _ _ _ _ _ _ _ _ (by omega) (by omega) hO.1 hN hT)
  refine r_pop F rfl dL_law_309 rfl ?_
  refine r_goto F (tgt := 1226) dL_law_310 (by decide) ?_
  exact J _ _ _ _ _ _ hIn (Nat.le_trans (Nat.add_le_add_left ((Nat.le_of_ble_eq_true rfl) : rm_X9_setBlock.cells ≤ 0) _) hc1) (Nat.le_trans (Nat.add_le_add_left ((Nat.le_of_ble_eq_true rfl) : rm_X9_setBlock.slots ≤ 0) _) hs1)
set_option maxRecDepth 100000 in
set_option maxHeartbeats 800000 in
theorem K_3 {C : ja_C} {D : va_G} {cA : Nat → ClassId} {l : Launch} {B b L y n cells slots k : Nat} {i : Int} {lay : ja_Y} {mem : ja_M} {sl : Nat → Option Nat} {xs : Nat → Int32} (F : ja_F C RL cL_law 4 room_1) (GC : ja_G C l D cA B) (X : ja_X C b L xs) (hL : L ≤ 2560) (hi : i = 5 * (k : Int)) (hk : 5 * k + 5 ≤ L) (h : L_In S1 lay mem n y sl (500 * (k : Int))) (hc : cells ≤ 1000 + 20 * k) (hs : slots ≤ 40000 + 1269 * k) (J : ∀ (lay2 : ja_Y) (mem2 : ja_M) (n2 : Nat) (sl2 : Nat → Option Nat) (cells2 slots2 : Nat), L_In S1 lay2 mem2 n2 y sl2 (500 * (k : Int) + 500) → cells2 ≤ 1000 + 20 * k + 20 → slots2 ≤ 40000 + 1269 * k + 1269 → ja_W C cells2 slots2 lay2 mem2 n2 1226 [some (.ref b), some (.ref y), some (.ref (y + 49)), some (.int (ja_I i))] []) : ja_W C cells slots lay mem n 313 [some (.ref b), some (.ref y), some (.ref (y + 49)), some (.int (ja_I i))] [] := by
  obtain ⟨⟨hB, hO, hn, hso, hsd⟩, ⟨hM, hN, hTO, hz4, hkp⟩, hT, hx, hsl⟩ := id h
  have hSOK : S_ok S1 := S1_ok
  have hk512 : k ≤ 512 := by omega
  have hc0 : cells ≤ 500000 := by omega
  have hs0 : slots ≤ 5000000 := by omega
  obtain ⟨x1, hx1⟩ : ∃ z, z = (xs (Int.toNat (i + 1))).toInt := ⟨_, rfl⟩
  have hi1 : ja_in x1 := by rw [hx1]; exact ja_range _
  obtain ⟨i1a, i1b⟩ := id hi1
  refine r_aload_n F rfl rfl dL_law_313 rfl ?_
  refine r_aload_n F rfl rfl dL_law_314 rfl ?_
  refine r_iload_n F rfl rfl dL_law_315 rfl ?_
  refine r_iconst F dL_law_316 rfl ?_
  refine r_iadd F dL_law_317 rfl ?_
  refine r_sld F X (by omega) (by omega) (by omega) dL_law_318 rfl ?_
  refine r_eqz (z := x1) hx1.symm ?_
  refine r_callV F GC (c_X8_setInitialDelay l D cA B hB hO hi1) v_L_27 rfl hB.1 rfl ⟨(Nat.le_of_ble_eq_true rfl), (Nat.le_of_ble_eq_true rfl)⟩ ⟨Nat.le_trans (Nat.add_le_add_right hc0 _) (Nat.le_of_ble_eq_true rfl), Nat.le_trans (Nat.add_le_add_right hs0 _) (Nat.le_of_ble_eq_true rfl)⟩ (Nat.le_of_ble_eq_true rfl) rfl dL_law_319 rfl (fun v L1 M1 n1 hp => ?_)
  have hc1 : cells + rm_X8_setInitialDelay.cells ≤ 1000 + 20 * k + 20 := Nat.add_le_add hc (Nat.le_of_ble_eq_true rfl)
  have hs1 : slots + rm_X8_setInitialDelay.slots ≤ 40000 + 1269 * k + 1269 := Nat.add_le_add hs (Nat.le_of_ble_eq_true rfl)
  have hc2 : cells + rm_X8_setInitialDelay.cells ≤ 500000 := by omega
  have hs2 : slots + rm_X8_setInitialDelay.slots ≤ 5000000 := by omega
  obtain ⟨q1, q2, q3, q4⟩ := hp
  subst q1; subst q2; subst q4
  have cF : ∀ q, y + 41 ≤ q → M1 q = mem q := fun q qa => by
      rw [← q3]
      split
      · exact ja_up_row (by omega)
      · rfl
  have c1 : ∀ q, y + 49 ≤ q → q < y + 58 → M1 q = mem q := fun q qa _ => cF q (by omega)
  have cB : ja_BO M1 y sl (500 * (k : Int) + 500) := by
      rw [← q3]
      split
      · rename_i q
        exact BO_recv (by omega) hO (fun i o hi ho => by have := hso i o hi ho; omega) ((RO_up (j := 5) hO.1 (show 0 ≤ x1 ∧ x1 ≤ 200 by omega) (by omega) (Or.inl ⟨by omega, by omega⟩)).mono (by omega)) (fun q hq => ja_up_row (by omega))
      · exact BO_cg (by omega) hO (fun _ _ _ => rfl) (fun _ _ _ _ _ _ _ => rfl)
  refine r_pop F rfl dL_law_322 rfl ?_
  refine r_mem (mem' := ja_rw M1 (y + 49 + 1) (mem (y + 49 + 1))) (by rw [← c1 (y + 49 + 1) (by omega) (by omega), ja_rw_self]) ?_
  have hTO1 : N_TO M1 (y + 49) := N_TO_c (by rw [c1 _ (by omega) (by omega)]) (c1 _ (by omega) (by omega)) hTO
  have hz1 : ∀ j, 0 ≤ M1 (y + 49 + 4) j ∧ M1 (y + 49 + 4) j ≤ 1 := fun j => by rw [c1 _ (by omega) (by omega)]; exact hz4 j
  refine r_aload_n F rfl rfl dL_law_323 rfl ?_
  refine r_aload_n F rfl rfl dL_law_324 rfl ?_
  refine r_iload_n F rfl rfl dL_law_325 rfl ?_
  refine r_iconst F dL_law_326 rfl ?_
  refine r_iadd F dL_law_327 rfl ?_
  refine r_sld F X (by omega) (by omega) (by omega) dL_law_328 rfl ?_
  refine r_eqz (z := x1) hx1.symm ?_
  refine r_callV F GC (c_X9_setInitialDelay l D cA B hM hN.1 hi1) v_L_30 rfl hM.1 rfl ⟨(Nat.le_of_ble_eq_true rfl), (Nat.le_of_ble_eq_true rfl)⟩ ⟨Nat.le_trans (Nat.add_le_add_right hc2 _) (Nat.le_of_ble_eq_true rfl), Nat.le_trans (Nat.add_le_add_right hs2 _) (Nat.le_of_ble_eq_true rfl)⟩ (Nat.le_of_ble_eq_true rfl) rfl dL_law_329 rfl (fun v L2 M2 n2 hp => ?_)
  obtain ⟨q5, q6, q7, q8⟩ := hp
  subst q5; subst q6; subst q8
  have hIn := In_step2 hSOK h q7 (fun q hq => cF q (by omega)) (by rw [cF _ (by omega)]) (cF _ (by omega)) cB N_rf.rf (by
      split
      · rename_i q
        exact (N_O_up (j := 5) hN (show 0 ≤ x1 ∧ x1 ≤ 200 by omega) (by omega) (Or.inl ⟨by omega, by omega⟩)).mono (by omega)
      · exact hN.mono (by omega)) (by rw [← q3]; exact hSOK.2.2.1 _ _ _ _ _ _ _ (by omega) hO.1 hN hT)
  refine r_pop F rfl dL_law_332 rfl ?_
  refine r_goto F (tgt := 1226) dL_law_333 (by decide) ?_
  exact J _ _ _ _ _ _ hIn (Nat.le_trans (Nat.add_le_add_left ((Nat.le_of_ble_eq_true rfl) : rm_X9_setInitialDelay.cells ≤ 0) _) hc1) (Nat.le_trans (Nat.add_le_add_left ((Nat.le_of_ble_eq_true rfl) : rm_X9_setInitialDelay.slots ≤ 0) _) hs1)
set_option maxRecDepth 100000 in
set_option maxHeartbeats 800000 in
theorem K_4 {C : ja_C} {D : va_G} {cA : Nat → ClassId} {l : Launch} {B b L y n cells slots k : Nat} {i : Int} {lay : ja_Y} {mem : ja_M} {sl : Nat → Option Nat} {xs : Nat → Int32} (F : ja_F C RL cL_law 4 room_1) (GC : ja_G C l D cA B) (X : ja_X C b L xs) (hL : L ≤ 2560) (hi : i = 5 * (k : Int)) (hk : 5 * k + 5 ≤ L) (h : L_In S1 lay mem n y sl (500 * (k : Int))) (hc : cells ≤ 1000 + 20 * k) (hs : slots ≤ 40000 + 1269 * k) (J : ∀ (lay2 : ja_Y) (mem2 : ja_M) (n2 : Nat) (sl2 : Nat → Option Nat) (cells2 slots2 : Nat), L_In S1 lay2 mem2 n2 y sl2 (500 * (k : Int) + 500) → cells2 ≤ 1000 + 20 * k + 20 → slots2 ≤ 40000 + 1269 * k + 1269 → ja_W C cells2 slots2 lay2 mem2 n2 1226 [some (.ref b), some (.ref y), some (.ref (y + 49)), some (.int (ja_I i))] []) : ja_W C cells slots lay mem n 336 [some (.ref b), some (.ref y), some (.ref (y + 49)), some (.int (ja_I i))] [] := by
  obtain ⟨⟨hB, hO, hn, hso, hsd⟩, ⟨hM, hN, hTO, hz4, hkp⟩, hT, hx, hsl⟩ := id h
  have hSOK : S_ok S1 := S1_ok
  have hk512 : k ≤ 512 := by omega
  have hc0 : cells ≤ 500000 := by omega
  have hs0 : slots ≤ 5000000 := by omega
  obtain ⟨x1, hx1⟩ : ∃ z, z = (xs (Int.toNat (i + 1))).toInt := ⟨_, rfl⟩
  have hi1 : ja_in x1 := by rw [hx1]; exact ja_range _
  obtain ⟨i1a, i1b⟩ := id hi1
  refine r_aload_n F rfl rfl dL_law_336 rfl ?_
  refine r_aload_n F rfl rfl dL_law_337 rfl ?_
  refine r_iload_n F rfl rfl dL_law_338 rfl ?_
  refine r_iconst F dL_law_339 rfl ?_
  refine r_iadd F dL_law_340 rfl ?_
  refine r_sld F X (by omega) (by omega) (by omega) dL_law_341 rfl ?_
  refine r_eqz (z := x1) hx1.symm ?_
  refine r_callV F GC (c_X8_setQuantile l D cA B hB hO hi1) v_L_31 rfl hB.1 rfl ⟨(Nat.le_of_ble_eq_true rfl), (Nat.le_of_ble_eq_true rfl)⟩ ⟨Nat.le_trans (Nat.add_le_add_right hc0 _) (Nat.le_of_ble_eq_true rfl), Nat.le_trans (Nat.add_le_add_right hs0 _) (Nat.le_of_ble_eq_true rfl)⟩ (Nat.le_of_ble_eq_true rfl) rfl dL_law_342 rfl (fun v L1 M1 n1 hp => ?_)
  have hc1 : cells + rm_X8_setQuantile.cells ≤ 1000 + 20 * k + 20 := Nat.add_le_add hc (Nat.le_of_ble_eq_true rfl)
  have hs1 : slots + rm_X8_setQuantile.slots ≤ 40000 + 1269 * k + 1269 := Nat.add_le_add hs (Nat.le_of_ble_eq_true rfl)
  have hc2 : cells + rm_X8_setQuantile.cells ≤ 500000 := by omega
  have hs2 : slots + rm_X8_setQuantile.slots ≤ 5000000 := by omega
  obtain ⟨q1, q2, q3, q4⟩ := hp
  subst q1; subst q2; subst q4
  have cF : ∀ q, y + 41 ≤ q → M1 q = mem q := fun q qa => by
      rw [← q3]
      split
      · exact ja_up_row (by omega)
      · rfl
  have c1 : ∀ q, y + 49 ≤ q → q < y + 58 → M1 q = mem q := fun q qa _ => cF q (by omega)
  have cB : ja_BO M1 y sl (500 * (k : Int) + 500) := by
      rw [← q3]
      split
      · rename_i q
        exact BO_recv (by omega) hO (fun i o hi ho => by have := hso i o hi ho; omega) ((RO_up (j := 6) hO.1 (show 1 ≤ x1 ∧ x1 ≤ 100 by omega) (by omega) (Or.inl ⟨by omega, by omega⟩)).mono (by omega)) (fun q hq => ja_up_row (by omega))
      · exact BO_cg (by omega) hO (fun _ _ _ => rfl) (fun _ _ _ _ _ _ _ => rfl)
  refine r_pop F rfl dL_law_345 rfl ?_
  refine r_mem (mem' := ja_rw M1 (y + 49 + 1) (mem (y + 49 + 1))) (by rw [← c1 (y + 49 + 1) (by omega) (by omega), ja_rw_self]) ?_
  have hTO1 : N_TO M1 (y + 49) := N_TO_c (by rw [c1 _ (by omega) (by omega)]) (c1 _ (by omega) (by omega)) hTO
  have hz1 : ∀ j, 0 ≤ M1 (y + 49 + 4) j ∧ M1 (y + 49 + 4) j ≤ 1 := fun j => by rw [c1 _ (by omega) (by omega)]; exact hz4 j
  refine r_aload_n F rfl rfl dL_law_346 rfl ?_
  refine r_aload_n F rfl rfl dL_law_347 rfl ?_
  refine r_iload_n F rfl rfl dL_law_348 rfl ?_
  refine r_iconst F dL_law_349 rfl ?_
  refine r_iadd F dL_law_350 rfl ?_
  refine r_sld F X (by omega) (by omega) (by omega) dL_law_351 rfl ?_
  refine r_eqz (z := x1) hx1.symm ?_
  refine r_callV F GC (c_X9_setQuantile l D cA B hM hN.1 hi1) v_L_34 rfl hM.1 rfl ⟨(Nat.le_of_ble_eq_true rfl), (Nat.le_of_ble_eq_true rfl)⟩ ⟨Nat.le_trans (Nat.add_le_add_right hc2 _) (Nat.le_of_ble_eq_true rfl), Nat.le_trans (Nat.add_le_add_right hs2 _) (Nat.le_of_ble_eq_true rfl)⟩ (Nat.le_of_ble_eq_true rfl) rfl dL_law_352 rfl (fun v L2 M2 n2 hp => ?_)
  obtain ⟨q5, q6, q7, q8⟩ := hp
  subst q5; subst q6; subst q8
  have hIn := In_step2 hSOK h q7 (fun q hq => cF q (by omega)) (by rw [cF _ (by omega)]) (cF _ (by omega)) cB N_rf.rf (by
      split
      · rename_i q
        exact (N_O_up (j := 6) hN (show 1 ≤ x1 ∧ x1 ≤ 100 by omega) (by omega) (Or.inl ⟨by omega, by omega⟩)).mono (by omega)
      · exact hN.mono (by omega)) (by rw [← q3]; exact hSOK.2.2.2.2.1 _ _ _ _ _ _ (by omega) (by omega) hT)
  refine r_pop F rfl dL_law_355 rfl ?_
  refine r_goto F (tgt := 1226) dL_law_356 (by decide) ?_
  exact J _ _ _ _ _ _ hIn (Nat.le_trans (Nat.add_le_add_left ((Nat.le_of_ble_eq_true rfl) : rm_X9_setQuantile.cells ≤ 0) _) hc1) (Nat.le_trans (Nat.add_le_add_left ((Nat.le_of_ble_eq_true rfl) : rm_X9_setQuantile.slots ≤ 0) _) hs1)
set_option maxRecDepth 100000 in
set_option maxHeartbeats 800000 in
theorem K_5 {C : ja_C} {D : va_G} {cA : Nat → ClassId} {l : Launch} {B b L y n cells slots k : Nat} {i : Int} {lay : ja_Y} {mem : ja_M} {sl : Nat → Option Nat} {xs : Nat → Int32} (F : ja_F C RL cL_law 4 room_1) (GC : ja_G C l D cA B) (X : ja_X C b L xs) (hL : L ≤ 2560) (hi : i = 5 * (k : Int)) (hk : 5 * k + 5 ≤ L) (h : L_In S1 lay mem n y sl (500 * (k : Int))) (hc : cells ≤ 1000 + 20 * k) (hs : slots ≤ 40000 + 1269 * k) (J : ∀ (lay2 : ja_Y) (mem2 : ja_M) (n2 : Nat) (sl2 : Nat → Option Nat) (cells2 slots2 : Nat), L_In S1 lay2 mem2 n2 y sl2 (500 * (k : Int) + 500) → cells2 ≤ 1000 + 20 * k + 20 → slots2 ≤ 40000 + 1269 * k + 1269 → ja_W C cells2 slots2 lay2 mem2 n2 1226 [some (.ref b), some (.ref y), some (.ref (y + 49)), some (.int (ja_I i))] []) : ja_W C cells slots lay mem n 359 [some (.ref b), some (.ref y), some (.ref (y + 49)), some (.int (ja_I i))] [] := by
  obtain ⟨⟨hB, hO, hn, hso, hsd⟩, ⟨hM, hN, hTO, hz4, hkp⟩, hT, hx, hsl⟩ := id h
  have hSOK : S_ok S1 := S1_ok
  have hk512 : k ≤ 512 := by omega
  have hc0 : cells ≤ 500000 := by omega
  have hs0 : slots ≤ 5000000 := by omega
  obtain ⟨x1, hx1⟩ : ∃ z, z = (xs (Int.toNat (i + 1))).toInt := ⟨_, rfl⟩
  have hi1 : ja_in x1 := by rw [hx1]; exact ja_range _
  obtain ⟨i1a, i1b⟩ := id hi1
  refine r_aload_n F rfl rfl dL_law_359 rfl ?_
  refine r_aload_n F rfl rfl dL_law_360 rfl ?_
  refine r_iload_n F rfl rfl dL_law_361 rfl ?_
  refine r_iconst F dL_law_362 rfl ?_
  refine r_iadd F dL_law_363 rfl ?_
  refine r_sld F X (by omega) (by omega) (by omega) dL_law_364 rfl ?_
  refine r_eqz (z := x1) hx1.symm ?_
  refine r_callV F GC (c_X8_setMargin l D cA B hB hO hi1) v_L_35 rfl hB.1 rfl ⟨(Nat.le_of_ble_eq_true rfl), (Nat.le_of_ble_eq_true rfl)⟩ ⟨Nat.le_trans (Nat.add_le_add_right hc0 _) (Nat.le_of_ble_eq_true rfl), Nat.le_trans (Nat.add_le_add_right hs0 _) (Nat.le_of_ble_eq_true rfl)⟩ (Nat.le_of_ble_eq_true rfl) rfl dL_law_365 rfl (fun v L1 M1 n1 hp => ?_)
  have hc1 : cells + rm_X8_setMargin.cells ≤ 1000 + 20 * k + 20 := Nat.add_le_add hc (Nat.le_of_ble_eq_true rfl)
  have hs1 : slots + rm_X8_setMargin.slots ≤ 40000 + 1269 * k + 1269 := Nat.add_le_add hs (Nat.le_of_ble_eq_true rfl)
  have hc2 : cells + rm_X8_setMargin.cells ≤ 500000 := by omega
  have hs2 : slots + rm_X8_setMargin.slots ≤ 5000000 := by omega
  obtain ⟨q1, q2, q3, q4⟩ := hp
  subst q1; subst q2; subst q4
  have cF : ∀ q, y + 41 ≤ q → M1 q = mem q := fun q qa => by
      rw [← q3]
      split
      · exact ja_up_row (by omega)
      · rfl
  have c1 : ∀ q, y + 49 ≤ q → q < y + 58 → M1 q = mem q := fun q qa _ => cF q (by omega)
  have cB : ja_BO M1 y sl (500 * (k : Int) + 500) := by
      rw [← q3]
      split
      · rename_i q
        exact BO_recv (by omega) hO (fun i o hi ho => by have := hso i o hi ho; omega) ((RO_up (j := 7) hO.1 (show 0 ≤ x1 ∧ x1 ≤ 100 by omega) (by omega) (Or.inl ⟨by omega, by omega⟩)).mono (by omega)) (fun q hq => ja_up_row (by omega))
      · exact BO_cg (by omega) hO (fun _ _ _ => rfl) (fun _ _ _ _ _ _ _ => rfl)
  refine r_pop F rfl dL_law_368 rfl ?_
  refine r_mem (mem' := ja_rw M1 (y + 49 + 1) (mem (y + 49 + 1))) (by rw [← c1 (y + 49 + 1) (by omega) (by omega), ja_rw_self]) ?_
  have hTO1 : N_TO M1 (y + 49) := N_TO_c (by rw [c1 _ (by omega) (by omega)]) (c1 _ (by omega) (by omega)) hTO
  have hz1 : ∀ j, 0 ≤ M1 (y + 49 + 4) j ∧ M1 (y + 49 + 4) j ≤ 1 := fun j => by rw [c1 _ (by omega) (by omega)]; exact hz4 j
  refine r_aload_n F rfl rfl dL_law_369 rfl ?_
  refine r_aload_n F rfl rfl dL_law_370 rfl ?_
  refine r_iload_n F rfl rfl dL_law_371 rfl ?_
  refine r_iconst F dL_law_372 rfl ?_
  refine r_iadd F dL_law_373 rfl ?_
  refine r_sld F X (by omega) (by omega) (by omega) dL_law_374 rfl ?_
  refine r_eqz (z := x1) hx1.symm ?_
  refine r_callV F GC (c_X9_setMargin l D cA B hM hN.1 hi1) v_L_38 rfl hM.1 rfl ⟨(Nat.le_of_ble_eq_true rfl), (Nat.le_of_ble_eq_true rfl)⟩ ⟨Nat.le_trans (Nat.add_le_add_right hc2 _) (Nat.le_of_ble_eq_true rfl), Nat.le_trans (Nat.add_le_add_right hs2 _) (Nat.le_of_ble_eq_true rfl)⟩ (Nat.le_of_ble_eq_true rfl) rfl dL_law_375 rfl (fun v L2 M2 n2 hp => ?_)
  obtain ⟨q5, q6, q7, q8⟩ := hp
  subst q5; subst q6; subst q8
  have hIn := In_step2 hSOK h q7 (fun q hq => cF q (by omega)) (by rw [cF _ (by omega)]) (cF _ (by omega)) cB N_rf.rf (by
      split
      · rename_i q
        exact (N_O_up (j := 7) hN (show 0 ≤ x1 ∧ x1 ≤ 100 by omega) (by omega) (Or.inl ⟨by omega, by omega⟩)).mono (by omega)
      · exact hN.mono (by omega)) (by rw [← q3]; exact hSOK.2.2.2.2.1 _ _ _ _ _ _ (by omega) (by omega) hT)
  refine r_pop F rfl dL_law_378 rfl ?_
  refine r_goto F (tgt := 1226) dL_law_379 (by decide) ?_
  exact J _ _ _ _ _ _ hIn (Nat.le_trans (Nat.add_le_add_left ((Nat.le_of_ble_eq_true rfl) : rm_X9_setMargin.cells ≤ 0) _) hc1) (Nat.le_trans (Nat.add_le_add_left ((Nat.le_of_ble_eq_true rfl) : rm_X9_setMargin.slots ≤ 0) _) hs1)
set_option maxRecDepth 100000 in
set_option maxHeartbeats 800000 in
theorem K_6 {C : ja_C} {D : va_G} {cA : Nat → ClassId} {l : Launch} {B b L y n cells slots k : Nat} {i : Int} {lay : ja_Y} {mem : ja_M} {sl : Nat → Option Nat} {xs : Nat → Int32} (F : ja_F C RL cL_law 4 room_1) (GC : ja_G C l D cA B) (X : ja_X C b L xs) (hL : L ≤ 2560) (hi : i = 5 * (k : Int)) (hk : 5 * k + 5 ≤ L) (h : L_In S1 lay mem n y sl (500 * (k : Int))) (hc : cells ≤ 1000 + 20 * k) (hs : slots ≤ 40000 + 1269 * k) (J : ∀ (lay2 : ja_Y) (mem2 : ja_M) (n2 : Nat) (sl2 : Nat → Option Nat) (cells2 slots2 : Nat), L_In S1 lay2 mem2 n2 y sl2 (500 * (k : Int) + 500) → cells2 ≤ 1000 + 20 * k + 20 → slots2 ≤ 40000 + 1269 * k + 1269 → ja_W C cells2 slots2 lay2 mem2 n2 1226 [some (.ref b), some (.ref y), some (.ref (y + 49)), some (.int (ja_I i))] []) : ja_W C cells slots lay mem n 382 [some (.ref b), some (.ref y), some (.ref (y + 49)), some (.int (ja_I i))] [] := by
  obtain ⟨⟨hB, hO, hn, hso, hsd⟩, ⟨hM, hN, hTO, hz4, hkp⟩, hT, hx, hsl⟩ := id h
  have hSOK : S_ok S1 := S1_ok
  have hk512 : k ≤ 512 := by omega
  have hc0 : cells ≤ 500000 := by omega
  have hs0 : slots ≤ 5000000 := by omega
  obtain ⟨x1, hx1⟩ : ∃ z, z = (xs (Int.toNat (i + 1))).toInt := ⟨_, rfl⟩
  have hi1 : ja_in x1 := by rw [hx1]; exact ja_range _
  obtain ⟨i1a, i1b⟩ := id hi1
  refine r_aload_n F rfl rfl dL_law_382 rfl ?_
  refine r_aload_n F rfl rfl dL_law_383 rfl ?_
  refine r_iload_n F rfl rfl dL_law_384 rfl ?_
  refine r_iconst F dL_law_385 rfl ?_
  refine r_iadd F dL_law_386 rfl ?_
  refine r_sld F X (by omega) (by omega) (by omega) dL_law_387 rfl ?_
  refine r_eqz (z := x1) hx1.symm ?_
  refine r_bool F hi1 dL_law_388 (by decide) dL_law_391 dL_law_392 (by decide) dL_law_395 rfl ?_
  refine r_callV F GC (c_X8_setAdapting l D cA B hB hO ja_b_r) v_L_39 rfl hB.1 rfl ⟨(Nat.le_of_ble_eq_true rfl), (Nat.le_of_ble_eq_true rfl)⟩ ⟨Nat.le_trans (Nat.add_le_add_right hc0 _) (Nat.le_of_ble_eq_true rfl), Nat.le_trans (Nat.add_le_add_right hs0 _) (Nat.le_of_ble_eq_true rfl)⟩ (Nat.le_of_ble_eq_true rfl) rfl dL_law_396 rfl (fun v L1 M1 n1 hp => ?_)
  have hc1 : cells + rm_X8_setAdapting.cells ≤ 1000 + 20 * k + 20 := Nat.add_le_add hc (Nat.le_of_ble_eq_true rfl)
  have hs1 : slots + rm_X8_setAdapting.slots ≤ 40000 + 1269 * k + 1269 := Nat.add_le_add hs (Nat.le_of_ble_eq_true rfl)
  have hc2 : cells + rm_X8_setAdapting.cells ≤ 500000 := by omega
  have hs2 : slots + rm_X8_setAdapting.slots ≤ 5000000 := by omega
  obtain ⟨q1, q2, q3, q4⟩ := hp
  subst q1; subst q2; subst q4
  have cF : ∀ q, y + 41 ≤ q → M1 q = mem q := fun q qa => by rw [← q3]; exact ja_up_row (by omega)
  have c1 : ∀ q, y + 49 ≤ q → q < y + 58 → M1 q = mem q := fun q qa _ => cF q (by omega)
  have cB : ja_BO M1 y sl (500 * (k : Int) + 500) := by rw [← q3]; exact BO_recv (by omega) hO (fun i o hi ho => by have := hso i o hi ho; omega) ((RO_up (j := 8) hO.1 ja_b_r (by omega) (Or.inl ⟨by omega, by omega⟩)).mono (by omega)) (fun q hq => ja_up_row (by omega))
  refine r_pop F rfl dL_law_399 rfl ?_
  refine r_mem (mem' := ja_rw M1 (y + 49 + 1) (mem (y + 49 + 1))) (by rw [← c1 (y + 49 + 1) (by omega) (by omega), ja_rw_self]) ?_
  have hTO1 : N_TO M1 (y + 49) := N_TO_c (by rw [c1 _ (by omega) (by omega)]) (c1 _ (by omega) (by omega)) hTO
  have hz1 : ∀ j, 0 ≤ M1 (y + 49 + 4) j ∧ M1 (y + 49 + 4) j ≤ 1 := fun j => by rw [c1 _ (by omega) (by omega)]; exact hz4 j
  refine r_aload_n F rfl rfl dL_law_400 rfl ?_
  refine r_aload_n F rfl rfl dL_law_401 rfl ?_
  refine r_iload_n F rfl rfl dL_law_402 rfl ?_
  refine r_iconst F dL_law_403 rfl ?_
  refine r_iadd F dL_law_404 rfl ?_
  refine r_sld F X (by omega) (by omega) (by omega) dL_law_405 rfl ?_
  refine r_eqz (z := x1) hx1.symm ?_
  refine r_bool F hi1 dL_law_406 (by decide) dL_law_409 dL_law_410 (by decide) dL_law_413 rfl ?_
  refine r_callV F GC (c_X9_setAdapting l D cA B hM hN.1 ja_b_r) v_L_43 rfl hM.1 rfl ⟨(Nat.le_of_ble_eq_true rfl), (Nat.le_of_ble_eq_true rfl)⟩ ⟨Nat.le_trans (Nat.add_le_add_right hc2 _) (Nat.le_of_ble_eq_true rfl), Nat.le_trans (Nat.add_le_add_right hs2 _) (Nat.le_of_ble_eq_true rfl)⟩ (Nat.le_of_ble_eq_true rfl) rfl dL_law_414 rfl (fun v L2 M2 n2 hp => ?_)
  obtain ⟨q5, q6, q7, q8⟩ := hp
  subst q5; subst q6; subst q8
  have hIn := In_step2 hSOK h q7 (fun q hq => cF q (by omega)) (by rw [cF _ (by omega)]) (cF _ (by omega)) cB N_rf.rf ((N_O_up (j := 8) hN ja_b_r (by omega) (Or.inl ⟨by omega, by omega⟩)).mono (by omega)) (by rw [← q3]; have h0 := hSOK.2.2.2.2.1 mem (y + 1) (mem (y + 49 + 1)) True 8 (ja_b (¬ x1 = 0)) (by omega) (by omega) hT; rw [if_pos trivial, if_pos trivial] at h0; exact h0)
  refine r_pop F rfl dL_law_417 rfl ?_
  refine r_goto F (tgt := 1226) dL_law_418 (by decide) ?_
  exact J _ _ _ _ _ _ hIn (Nat.le_trans (Nat.add_le_add_left ((Nat.le_of_ble_eq_true rfl) : rm_X9_setAdapting.cells ≤ 0) _) hc1) (Nat.le_trans (Nat.add_le_add_left ((Nat.le_of_ble_eq_true rfl) : rm_X9_setAdapting.slots ≤ 0) _) hs1)
set_option maxRecDepth 100000 in
set_option maxHeartbeats 800000 in
theorem K_7 {C : ja_C} {D : va_G} {cA : Nat → ClassId} {l : Launch} {B b L y n cells slots k : Nat} {i : Int} {lay : ja_Y} {mem : ja_M} {sl : Nat → Option Nat} {xs : Nat → Int32} (F : ja_F C RL cL_law 4 room_1) (GC : ja_G C l D cA B) (X : ja_X C b L xs) (hL : L ≤ 2560) (hi : i = 5 * (k : Int)) (hk : 5 * k + 5 ≤ L) (h : L_In S1 lay mem n y sl (500 * (k : Int))) (hc : cells ≤ 1000 + 20 * k) (hs : slots ≤ 40000 + 1269 * k) (J : ∀ (lay2 : ja_Y) (mem2 : ja_M) (n2 : Nat) (sl2 : Nat → Option Nat) (cells2 slots2 : Nat), L_In S1 lay2 mem2 n2 y sl2 (500 * (k : Int) + 500) → cells2 ≤ 1000 + 20 * k + 20 → slots2 ≤ 40000 + 1269 * k + 1269 → ja_W C cells2 slots2 lay2 mem2 n2 1226 [some (.ref b), some (.ref y), some (.ref (y + 49)), some (.int (ja_I i))] []) : ja_W C cells slots lay mem n 421 [some (.ref b), some (.ref y), some (.ref (y + 49)), some (.int (ja_I i))] [] := by
  obtain ⟨⟨hB, hO, hn, hso, hsd⟩, ⟨hM, hN, hTO, hz4, hkp⟩, hT, hx, hsl⟩ := id h
  have hSOK : S_ok S1 := S1_ok
  have hk512 : k ≤ 512 := by omega
  have hc0 : cells ≤ 500000 := by omega
  have hs0 : slots ≤ 5000000 := by omega
  obtain ⟨x1, hx1⟩ : ∃ z, z = (xs (Int.toNat (i + 1))).toInt := ⟨_, rfl⟩
  have hi1 : ja_in x1 := by rw [hx1]; exact ja_range _
  obtain ⟨i1a, i1b⟩ := id hi1
  refine r_aload_n F rfl rfl dL_law_421 rfl ?_
  refine r_aload_n F rfl rfl dL_law_422 rfl ?_
  refine r_iload_n F rfl rfl dL_law_423 rfl ?_
  refine r_iconst F dL_law_424 rfl ?_
  refine r_iadd F dL_law_425 rfl ?_
  refine r_sld F X (by omega) (by omega) (by omega) dL_law_426 rfl ?_
  refine r_eqz (z := x1) hx1.symm ?_
  refine r_callV F GC (c_X8_arrive l D cA B hB hO hi1 (by omega)) v_L_44 rfl hB.1 rfl ⟨(Nat.le_of_ble_eq_true rfl), (Nat.le_of_ble_eq_true rfl)⟩ ⟨Nat.le_trans (Nat.add_le_add_right hc0 _) (Nat.le_of_ble_eq_true rfl), Nat.le_trans (Nat.add_le_add_right hs0 _) (Nat.le_of_ble_eq_true rfl)⟩ (Nat.le_of_ble_eq_true rfl) rfl dL_law_427 rfl (fun v L1 M1 n1 hp => ?_)
  have hc1 : cells + rm_X8_arrive.cells ≤ 1000 + 20 * k + 20 := Nat.add_le_add hc (Nat.le_of_ble_eq_true rfl)
  have hs1 : slots + rm_X8_arrive.slots ≤ 40000 + 1269 * k + 1269 := Nat.add_le_add hs (Nat.le_of_ble_eq_true rfl)
  have hc2 : cells + rm_X8_arrive.cells ≤ 500000 := by omega
  have hs2 : slots + rm_X8_arrive.slots ≤ 5000000 := by omega
  obtain ⟨q1, q2, q3, q4⟩ := hp
  subst q1; subst q2; subst q4
  have cF : ∀ q, y + 41 ≤ q → M1 q = mem q := fun q qa => by
      rw [← q3]
      split
      · exact R_af_f (by omega)
      · rfl
  have c1 : ∀ q, y + 49 ≤ q → q < y + 58 → M1 q = mem q := fun q qa _ => cF q (by omega)
  have cB : ja_BO M1 y sl (500 * (k : Int) + 500) := by
      rw [← q3]
      split
      · rename_i q
        exact BO_recv (by omega) hO (fun i o hi ho => by have := hso i o hi ho; omega) ((R_af_RO hO.1 (by omega) q).mono (by omega)) (fun q hq => R_af_f (by omega))
      · exact BO_cg (by omega) hO (fun _ _ _ => rfl) (fun _ _ _ _ _ _ _ => rfl)
  refine r_pop F rfl dL_law_430 rfl ?_
  refine r_mem (mem' := ja_rw M1 (y + 49 + 1) (mem (y + 49 + 1))) (by rw [← c1 (y + 49 + 1) (by omega) (by omega), ja_rw_self]) ?_
  have hTO1 : N_TO M1 (y + 49) := N_TO_c (by rw [c1 _ (by omega) (by omega)]) (c1 _ (by omega) (by omega)) hTO
  have hz1 : ∀ j, 0 ≤ M1 (y + 49 + 4) j ∧ M1 (y + 49 + 4) j ≤ 1 := fun j => by rw [c1 _ (by omega) (by omega)]; exact hz4 j
  refine r_aload_n F rfl rfl dL_law_431 rfl ?_
  refine r_aload_n F rfl rfl dL_law_432 rfl ?_
  refine r_iload_n F rfl rfl dL_law_433 rfl ?_
  refine r_iconst F dL_law_434 rfl ?_
  refine r_iadd F dL_law_435 rfl ?_
  refine r_sld F X (by omega) (by omega) (by omega) dL_law_436 rfl ?_
  refine r_eqz (z := x1) hx1.symm ?_
  refine r_callV F GC (c_X9_arrive l D cA B hM hN (by omega) hi1) v_L_47 rfl hM.1 rfl ⟨(Nat.le_of_ble_eq_true rfl), (Nat.le_of_ble_eq_true rfl)⟩ ⟨Nat.le_trans (Nat.add_le_add_right hc2 _) (Nat.le_of_ble_eq_true rfl), Nat.le_trans (Nat.add_le_add_right hs2 _) (Nat.le_of_ble_eq_true rfl)⟩ (Nat.le_of_ble_eq_true rfl) rfl dL_law_437 rfl (fun v L2 M2 n2 hp => ?_)
  obtain ⟨q5, q6, q7, q8⟩ := hp
  subst q5; subst q6; subst q8
  have hIn := In_step2 hSOK h q7 (fun q hq => cF q (by omega)) (by rw [cF _ (by omega)]) (cF _ (by omega)) cB N_rf.rf (by
      split
      · rename_i q
        exact (N_av_O hN (by omega) q).1.mono (by omega)
      · exact hN.mono (by omega)) (by
      rw [← q3]
      by_cases q : 0 ≤ x1 ∧ x1 ≤ 999
      · rw [if_pos q, if_pos q]
        exact hSOK.2.2.2.2.2.1 _ _ _ _ _ hO.1 hN (by omega) q hT
      · rw [if_neg q, if_neg q]
        exact hT)
  refine r_pop F rfl dL_law_440 rfl ?_
  refine r_goto F (tgt := 1226) dL_law_441 (by decide) ?_
  exact J _ _ _ _ _ _ hIn (Nat.le_trans (Nat.add_le_add_left ((Nat.le_of_ble_eq_true rfl) : rm_X9_arrive.cells ≤ 0) _) hc1) (Nat.le_trans (Nat.add_le_add_left ((Nat.le_of_ble_eq_true rfl) : rm_X9_arrive.slots ≤ 0) _) hs1)
