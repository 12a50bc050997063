set_option maxRecDepth 100000 in
set_option maxHeartbeats 800000 in
theorem K_30 {C : ja_C} {D : va_G} {cA : Nat → ClassId} {l : Launch} {B b L y m n cells slots : Nat} {lay : ja_Y} {mem : ja_M} {xs : Nat → Int32} (F : ja_F C RL cL_law 4 room_1) (GC : ja_G C l D cA B) (X : ja_X C b L xs) (hL : L = 5) (h : L_fr lay mem n y m) (hc : cells ≤ 1000) (hs : slots ≤ 40000) (J : ∀ (lay2 : ja_Y) (mem2 : ja_M) (n2 cells2 slots2 : Nat), cells2 ≤ 2000 → slots2 ≤ 60000 → ja_W C cells2 slots2 lay2 mem2 n2 1227 [some (.ref b), some (.ref y), some (.ref m), some (.int (ja_I 0))] []) : ja_W C cells slots lay mem n 968 [some (.ref b), some (.ref y), some (.ref m), some (.int (ja_I 0))] [] := by
  obtain ⟨hm, hn, hB, hM, hS1, hS2, hz, hv, hmz⟩ := id h
  have hO := h.BO
  refine r_aload_n F rfl rfl dL_law_968 rfl ?_
  refine r_callV F GC (c_X8_duplicates l D cA B hB hO ) v_L_139 rfl hB.1 rfl ⟨Nat.le_of_ble_eq_true rfl, Nat.le_of_ble_eq_true rfl⟩ ⟨Nat.le_trans (Nat.add_le_add_right hc _) (Nat.le_of_ble_eq_true rfl), Nat.le_trans (Nat.add_le_add_right hs _) (Nat.le_of_ble_eq_true rfl)⟩ (Nat.le_of_ble_eq_true rfl) rfl dL_law_969 rfl (fun v L1 M1 n1 hp => ?_)
  have hc1 : cells + rm_X8_duplicates.cells ≤ 2000 := Nat.le_trans (Nat.add_le_add_right hc _) (Nat.le_of_ble_eq_true rfl)
  have hs1 : slots + rm_X8_duplicates.slots ≤ 60000 := Nat.le_trans (Nat.add_le_add_right hs _) (Nat.le_of_ble_eq_true rfl)
  obtain ⟨q1, q2, q3, q4⟩ := hp
  subst q1; subst q2; subst q4
  have hf : ∀ q, m ≤ q → q < m + 9 → M1 q = mem q := fun q qa qb => by rw [← q3]
  refine r_mem (mem' := ja_rw M1 (m + 1) N_v0) (by rw [← hv, ← hf (m + 1) (by omega) (by omega), ja_rw_self]) ?_
  refine r_aload_n F rfl rfl dL_law_972 rfl ?_
  refine r_callV F GC (c_X9_duplicates l D cA B hM N_v0_R) v_L_142 rfl hM.1 rfl ⟨Nat.le_of_ble_eq_true rfl, Nat.le_of_ble_eq_true rfl⟩ ⟨Nat.le_trans (Nat.add_le_add_right hc1 _) (Nat.le_of_ble_eq_true rfl), Nat.le_trans (Nat.add_le_add_right hs1 _) (Nat.le_of_ble_eq_true rfl)⟩ (Nat.le_of_ble_eq_true rfl) rfl dL_law_973 rfl (fun v L2 M2 n2 hp => ?_)
  obtain ⟨q5, -⟩ := hp
  subst q5
  exact r_same F (by rw [show mem (y + 1 + 14) 6 = 0 from Z_z h (c := 14) (j := 6) (by omega) (by omega)]; rfl) dL_law_976 (by decide) (J _ _ _ _ _ hc1 hs1)
set_option maxRecDepth 100000 in
set_option maxHeartbeats 800000 in
theorem K_31 {C : ja_C} {D : va_G} {cA : Nat → ClassId} {l : Launch} {B b L y m n cells slots : Nat} {lay : ja_Y} {mem : ja_M} {xs : Nat → Int32} (F : ja_F C RL cL_law 4 room_1) (GC : ja_G C l D cA B) (X : ja_X C b L xs) (hL : L = 5) (h : L_fr lay mem n y m) (hc : cells ≤ 1000) (hs : slots ≤ 40000) (J : ∀ (lay2 : ja_Y) (mem2 : ja_M) (n2 cells2 slots2 : Nat), cells2 ≤ 2000 → slots2 ≤ 60000 → ja_W C cells2 slots2 lay2 mem2 n2 1227 [some (.ref b), some (.ref y), some (.ref m), some (.int (ja_I 0))] []) : ja_W C cells slots lay mem n 981 [some (.ref b), some (.ref y), some (.ref m), some (.int (ja_I 0))] [] := by
  obtain ⟨hm, hn, hB, hM, hS1, hS2, hz, hv, hmz⟩ := id h
  have hO := h.BO
  obtain ⟨x1, hx1⟩ : ∃ z, z = (xs (Int.toNat (0 + 1))).toInt := ⟨_, rfl⟩
  have hi1 : ja_in x1 := by rw [hx1]; exact ja_range _
  obtain ⟨i1a, i1b⟩ := id hi1
  refine r_aload_n F rfl rfl dL_law_981 rfl ?_
  refine r_aload_n F rfl rfl dL_law_982 rfl ?_
  refine r_iload_n F rfl rfl dL_law_983 rfl ?_
  refine r_iconst F dL_law_984 rfl ?_
  refine r_iadd F dL_law_985 rfl ?_
  refine r_sld F X (by omega) (by omega) (by omega) dL_law_986 rfl ?_
  refine r_eqz (z := x1) hx1.symm ?_
  refine r_bool F hi1 dL_law_987 (by decide) dL_law_990 dL_law_991 (by decide) dL_law_994 rfl ?_
  refine r_callV F GC (c_X8_loss l D cA B hB hO ja_b_r) v_L_143 rfl hB.1 rfl ⟨Nat.le_of_ble_eq_true rfl, Nat.le_of_ble_eq_true rfl⟩ ⟨Nat.le_trans (Nat.add_le_add_right hc _) (Nat.le_of_ble_eq_true rfl), Nat.le_trans (Nat.add_le_add_right hs _) (Nat.le_of_ble_eq_true rfl)⟩ (Nat.le_of_ble_eq_true rfl) rfl dL_law_995 rfl (fun v L1 M1 n1 hp => ?_)
  have hc1 : cells + rm_X8_loss.cells ≤ 2000 := Nat.le_trans (Nat.add_le_add_right hc _) (Nat.le_of_ble_eq_true rfl)
  have hs1 : slots + rm_X8_loss.slots ≤ 60000 := Nat.le_trans (Nat.add_le_add_right hs _) (Nat.le_of_ble_eq_true rfl)
  obtain ⟨q1, q2, q3, q4⟩ := hp
  subst q1; subst q2; subst q4
  have hf : ∀ q, m ≤ q → q < m + 9 → M1 q = mem q := fun q qa qb => by rw [← q3]
  refine r_mem (mem' := ja_rw M1 (m + 1) N_v0) (by rw [← hv, ← hf (m + 1) (by omega) (by omega), ja_rw_self]) ?_
  refine r_aload_n F rfl rfl dL_law_998 rfl ?_
  refine r_aload_n F rfl rfl dL_law_999 rfl ?_
  refine r_iload_n F rfl rfl dL_law_1000 rfl ?_
  refine r_iconst F dL_law_1001 rfl ?_
  refine r_iadd F dL_law_1002 rfl ?_
  refine r_sld F X (by omega) (by omega) (by omega) dL_law_1003 rfl ?_
  refine r_eqz (z := x1) hx1.symm ?_
  refine r_bool F hi1 dL_law_1004 (by decide) dL_law_1007 dL_law_1008 (by decide) dL_law_1011 rfl ?_
  refine r_callV F GC (c_X9_loss l D cA B hM N_v0_R ja_b_r) v_L_146 rfl hM.1 rfl ⟨Nat.le_of_ble_eq_true rfl, Nat.le_of_ble_eq_true rfl⟩ ⟨Nat.le_trans (Nat.add_le_add_right hc1 _) (Nat.le_of_ble_eq_true rfl), Nat.le_trans (Nat.add_le_add_right hs1 _) (Nat.le_of_ble_eq_true rfl)⟩ (Nat.le_of_ble_eq_true rfl) rfl dL_law_1012 rfl (fun v L2 M2 n2 hp => ?_)
  obtain ⟨q5, -⟩ := hp
  subst q5
  exact r_same F (by rw [B_los, if_pos (Z_z h (c := 9) (j := 6) (by omega) (by omega)), N_ls, if_pos (show N_v0 21 = 0 from rfl)]) dL_law_1015 (by decide) (J _ _ _ _ _ hc1 hs1)
set_option maxRecDepth 100000 in
set_option maxHeartbeats 800000 in
theorem K_32 {C : ja_C} {D : va_G} {cA : Nat → ClassId} {l : Launch} {B b L y m n cells slots : Nat} {lay : ja_Y} {mem : ja_M} {xs : Nat → Int32} (F : ja_F C RL cL_law 4 room_1) (GC : ja_G C l D cA B) (X : ja_X C b L xs) (hL : L = 5) (h : L_fr lay mem n y m) (hc : cells ≤ 1000) (hs : slots ≤ 40000) (J : ∀ (lay2 : ja_Y) (mem2 : ja_M) (n2 cells2 slots2 : Nat), cells2 ≤ 2000 → slots2 ≤ 60000 → ja_W C cells2 slots2 lay2 mem2 n2 1227 [some (.ref b), some (.ref y), some (.ref m), some (.int (ja_I 0))] []) : ja_W C cells slots lay mem n 1020 [some (.ref b), some (.ref y), some (.ref m), some (.int (ja_I 0))] [] := by
  obtain ⟨hm, hn, hB, hM, hS1, hS2, hz, hv, hmz⟩ := id h
  have hO := h.BO
  refine r_aload_n F rfl rfl dL_law_1020 rfl ?_
  refine r_callV F GC (c_X8_longestGap l D cA B hB hO ) v_L_147 rfl hB.1 rfl ⟨Nat.le_of_ble_eq_true rfl, Nat.le_of_ble_eq_true rfl⟩ ⟨Nat.le_trans (Nat.add_le_add_right hc _) (Nat.le_of_ble_eq_true rfl), Nat.le_trans (Nat.add_le_add_right hs _) (Nat.le_of_ble_eq_true rfl)⟩ (Nat.le_of_ble_eq_true rfl) rfl dL_law_1021 rfl (fun v L1 M1 n1 hp => ?_)
  have hc1 : cells + rm_X8_longestGap.cells ≤ 2000 := Nat.le_trans (Nat.add_le_add_right hc _) (Nat.le_of_ble_eq_true rfl)
  have hs1 : slots + rm_X8_longestGap.slots ≤ 60000 := Nat.le_trans (Nat.add_le_add_right hs _) (Nat.le_of_ble_eq_true rfl)
  obtain ⟨q1, q2, q3, q4⟩ := hp
  subst q1; subst q2; subst q4
  have hf : ∀ q, m ≤ q → q < m + 9 → M1 q = mem q := fun q qa qb => by rw [← q3]
  refine r_mem (mem' := ja_rw M1 (m + 1) N_v0) (by rw [← hv, ← hf (m + 1) (by omega) (by omega), ja_rw_self]) ?_
  refine r_aload_n F rfl rfl dL_law_1024 rfl ?_
  refine r_callV F GC (c_X9_longestGap l D cA B hM N_v0_R) v_L_150 rfl hM.1 rfl ⟨Nat.le_of_ble_eq_true rfl, Nat.le_of_ble_eq_true rfl⟩ ⟨Nat.le_trans (Nat.add_le_add_right hc1 _) (Nat.le_of_ble_eq_true rfl), Nat.le_trans (Nat.add_le_add_right hs1 _) (Nat.le_of_ble_eq_true rfl)⟩ (Nat.le_of_ble_eq_true rfl) rfl dL_law_1025 rfl (fun v L2 M2 n2 hp => ?_)
  obtain ⟨q5, -⟩ := hp
  subst q5
  exact r_same F (by rw [show mem (y + 1 + 14) 8 = 0 from Z_z h (c := 14) (j := 8) (by omega) (by omega)]; rfl) dL_law_1028 (by decide) (J _ _ _ _ _ hc1 hs1)
set_option maxRecDepth 100000 in
set_option maxHeartbeats 800000 in
theorem K_33 {C : ja_C} {D : va_G} {cA : Nat → ClassId} {l : Launch} {B b L y m n cells slots : Nat} {lay : ja_Y} {mem : ja_M} {xs : Nat → Int32} (F : ja_F C RL cL_law 4 room_1) (GC : ja_G C l D cA B) (X : ja_X C b L xs) (hL : L = 5) (h : L_fr lay mem n y m) (hc : cells ≤ 1000) (hs : slots ≤ 40000) (J : ∀ (lay2 : ja_Y) (mem2 : ja_M) (n2 cells2 slots2 : Nat), cells2 ≤ 2000 → slots2 ≤ 60000 → ja_W C cells2 slots2 lay2 mem2 n2 1227 [some (.ref b), some (.ref y), some (.ref m), some (.int (ja_I 0))] []) : ja_W C cells slots lay mem n 1033 [some (.ref b), some (.ref y), some (.ref m), some (.int (ja_I 0))] [] := by
  obtain ⟨hm, hn, hB, hM, hS1, hS2, hz, hv, hmz⟩ := id h
  have hO := h.BO
  refine r_aload_n F rfl rfl dL_law_1033 rfl ?_
  refine r_callV F GC (c_X8_ticksToGap l D cA B hB hO (by omega)) v_L_151 rfl hB.1 rfl ⟨Nat.le_of_ble_eq_true rfl, Nat.le_of_ble_eq_true rfl⟩ ⟨Nat.le_trans (Nat.add_le_add_right hc _) (Nat.le_of_ble_eq_true rfl), Nat.le_trans (Nat.add_le_add_right hs _) (Nat.le_of_ble_eq_true rfl)⟩ (Nat.le_of_ble_eq_true rfl) rfl dL_law_1034 rfl (fun v L1 M1 n1 hp => ?_)
  have hc1 : cells + rm_X8_ticksToGap.cells ≤ 2000 := Nat.le_trans (Nat.add_le_add_right hc _) (Nat.le_of_ble_eq_true rfl)
  have hs1 : slots + rm_X8_ticksToGap.slots ≤ 60000 := Nat.le_trans (Nat.add_le_add_right hs _) (Nat.le_of_ble_eq_true rfl)
  obtain ⟨q1, q2, q3, q4⟩ := hp
  subst q1; subst q2; subst q4
  have hf : ∀ q, m ≤ q → q < m + 9 → M1 q = mem q := fun q qa qb => by rw [← q3, B_gap_f (by omega), R_cp_o (by omega)]
  refine r_mem (mem' := ja_rw M1 (m + 1) N_v0) (by rw [← hv, ← hf (m + 1) (by omega) (by omega), ja_rw_self]) ?_
  refine r_aload_n F rfl rfl dL_law_1037 rfl ?_
  refine r_callV F GC (c_X9_ticksToGap l D cA B hM N_v0_O (by omega)) v_L_154 rfl hM.1 rfl ⟨Nat.le_of_ble_eq_true rfl, Nat.le_of_ble_eq_true rfl⟩ ⟨Nat.le_trans (Nat.add_le_add_right hc1 _) (Nat.le_of_ble_eq_true rfl), Nat.le_trans (Nat.add_le_add_right hs1 _) (Nat.le_of_ble_eq_true rfl)⟩ (Nat.le_of_ble_eq_true rfl) rfl dL_law_1038 rfl (fun v L2 M2 n2 hp => ?_)
  obtain ⟨q5, -⟩ := hp
  subst q5
  exact r_same F ((Z_gap _ _ _ (Z_cpI h).1 (Int.le_refl _)).trans (Z_xg _ _ _ N_v0_J).symm) dL_law_1041 (by decide) (J _ _ _ _ _ hc1 hs1)
set_option maxRecDepth 100000 in
set_option maxHeartbeats 800000 in
theorem K_34 {C : ja_C} {D : va_G} {cA : Nat → ClassId} {l : Launch} {B b L y m n cells slots : Nat} {lay : ja_Y} {mem : ja_M} {xs : Nat → Int32} (F : ja_F C RL cL_law 4 room_1) (GC : ja_G C l D cA B) (X : ja_X C b L xs) (hL : L = 5) (h : L_fr lay mem n y m) (hc : cells ≤ 1000) (hs : slots ≤ 40000) (J : ∀ (lay2 : ja_Y) (mem2 : ja_M) (n2 cells2 slots2 : Nat), cells2 ≤ 2000 → slots2 ≤ 60000 → ja_W C cells2 slots2 lay2 mem2 n2 1227 [some (.ref b), some (.ref y), some (.ref m), some (.int (ja_I 0))] []) : ja_W C cells slots lay mem n 1046 [some (.ref b), some (.ref y), some (.ref m), some (.int (ja_I 0))] [] := by
  obtain ⟨hm, hn, hB, hM, hS1, hS2, hz, hv, hmz⟩ := id h
  have hO := h.BO
  obtain ⟨x1, hx1⟩ : ∃ z, z = (xs (Int.toNat (0 + 1))).toInt := ⟨_, rfl⟩
  have hi1 : ja_in x1 := by rw [hx1]; exact ja_range _
  obtain ⟨i1a, i1b⟩ := id hi1
  refine r_aload_n F rfl rfl dL_law_1046 rfl ?_
  refine r_aload_n F rfl rfl dL_law_1047 rfl ?_
  refine r_iload_n F rfl rfl dL_law_1048 rfl ?_
  refine r_iconst F dL_law_1049 rfl ?_
  refine r_iadd F dL_law_1050 rfl ?_
  refine r_sld F X (by omega) (by omega) (by omega) dL_law_1051 rfl ?_
  refine r_eqz (z := x1) hx1.symm ?_
  refine r_callV F GC (c_X8_gapsIn l D cA B hB hO hi1 (by omega)) v_L_155 rfl hB.1 rfl ⟨Nat.le_of_ble_eq_true rfl, Nat.le_of_ble_eq_true rfl⟩ ⟨Nat.le_trans (Nat.add_le_add_right hc _) (Nat.le_of_ble_eq_true rfl), Nat.le_trans (Nat.add_le_add_right hs _) (Nat.le_of_ble_eq_true rfl)⟩ (Nat.le_of_ble_eq_true rfl) rfl dL_law_1052 rfl (fun v L1 M1 n1 hp => ?_)
  have hc1 : cells + rm_X8_gapsIn.cells ≤ 2000 := Nat.le_trans (Nat.add_le_add_right hc _) (Nat.le_of_ble_eq_true rfl)
  have hs1 : slots + rm_X8_gapsIn.slots ≤ 60000 := Nat.le_trans (Nat.add_le_add_right hs _) (Nat.le_of_ble_eq_true rfl)
  obtain ⟨q1, q2, q3, q4⟩ := hp
  subst q1; subst q2; subst q4
  have hf : ∀ q, m ≤ q → q < m + 9 → M1 q = mem q := fun q qa qb => by
      rw [← q3]
      split
      · exact (B_adv_f (by omega) _).trans (R_cp_o (by omega))
      · rfl
  refine r_mem (mem' := ja_rw M1 (m + 1) N_v0) (by rw [← hv, ← hf (m + 1) (by omega) (by omega), ja_rw_self]) ?_
  refine r_aload_n F rfl rfl dL_law_1055 rfl ?_
  refine r_aload_n F rfl rfl dL_law_1056 rfl ?_
  refine r_iload_n F rfl rfl dL_law_1057 rfl ?_
  refine r_iconst F dL_law_1058 rfl ?_
  refine r_iadd F dL_law_1059 rfl ?_
  refine r_sld F X (by omega) (by omega) (by omega) dL_law_1060 rfl ?_
  refine r_eqz (z := x1) hx1.symm ?_
  refine r_callV F GC (c_X9_gapsIn l D cA B hM N_v0_O (by omega) hi1) v_L_158 rfl hM.1 rfl ⟨Nat.le_of_ble_eq_true rfl, Nat.le_of_ble_eq_true rfl⟩ ⟨Nat.le_trans (Nat.add_le_add_right hc1 _) (Nat.le_of_ble_eq_true rfl), Nat.le_trans (Nat.add_le_add_right hs1 _) (Nat.le_of_ble_eq_true rfl)⟩ (Nat.le_of_ble_eq_true rfl) rfl dL_law_1061 rfl (fun v L2 M2 n2 hp => ?_)
  obtain ⟨q5, -⟩ := hp
  subst q5
  exact r_same F (ja_if Iff.rfl (fun _ => by rw [(Z_adv (Z_cpI h).1 _).2 _ _ (by omega), Int.sub_self, Z_ag N_v0_J]) rfl) dL_law_1064 (by decide) (J _ _ _ _ _ hc1 hs1)
set_option maxRecDepth 100000 in
set_option maxHeartbeats 800000 in
theorem K_35 {C : ja_C} {D : va_G} {cA : Nat → ClassId} {l : Launch} {B b L y m n cells slots : Nat} {lay : ja_Y} {mem : ja_M} {xs : Nat → Int32} (F : ja_F C RL cL_law 4 room_1) (GC : ja_G C l D cA B) (X : ja_X C b L xs) (hL : L = 5) (h : L_fr lay mem n y m) (hc : cells ≤ 1000) (hs : slots ≤ 40000) (J : ∀ (lay2 : ja_Y) (mem2 : ja_M) (n2 cells2 slots2 : Nat), cells2 ≤ 2000 → slots2 ≤ 60000 → ja_W C cells2 slots2 lay2 mem2 n2 1227 [some (.ref b), some (.ref y), some (.ref m), some (.int (ja_I 0))] []) : ja_W C cells slots lay mem n 1069 [some (.ref b), some (.ref y), some (.ref m), some (.int (ja_I 0))] [] := by
  obtain ⟨hm, hn, hB, hM, hS1, hS2, hz, hv, hmz⟩ := id h
  have hO := h.BO
  obtain ⟨x1, hx1⟩ : ∃ z, z = (xs (Int.toNat (0 + 1))).toInt := ⟨_, rfl⟩
  have hi1 : ja_in x1 := by rw [hx1]; exact ja_range _
  obtain ⟨i1a, i1b⟩ := id hi1
  refine r_aload_n F rfl rfl dL_law_1069 rfl ?_
  refine r_aload_n F rfl rfl dL_law_1070 rfl ?_
  refine r_iload_n F rfl rfl dL_law_1071 rfl ?_
  refine r_iconst F dL_law_1072 rfl ?_
  refine r_iadd F dL_law_1073 rfl ?_
  refine r_sld F X (by omega) (by omega) (by omega) dL_law_1074 rfl ?_
  refine r_eqz (z := x1) hx1.symm ?_
  refine r_callV F GC (c_X8_ticksToFrame l D cA B hB hO hi1 (by omega)) v_L_159 rfl hB.1 rfl ⟨Nat.le_of_ble_eq_true rfl, Nat.le_of_ble_eq_true rfl⟩ ⟨Nat.le_trans (Nat.add_le_add_right hc _) (Nat.le_of_ble_eq_true rfl), Nat.le_trans (Nat.add_le_add_right hs _) (Nat.le_of_ble_eq_true rfl)⟩ (Nat.le_of_ble_eq_true rfl) rfl dL_law_1075 rfl (fun v L1 M1 n1 hp => ?_)
  have hc1 : cells + rm_X8_ticksToFrame.cells ≤ 2000 := Nat.le_trans (Nat.add_le_add_right hc _) (Nat.le_of_ble_eq_true rfl)
  have hs1 : slots + rm_X8_ticksToFrame.slots ≤ 60000 := Nat.le_trans (Nat.add_le_add_right hs _) (Nat.le_of_ble_eq_true rfl)
  obtain ⟨q1, q2, q3, q4⟩ := hp
  subst q1; subst q2; subst q4
  have hf : ∀ q, m ≤ q → q < m + 9 → M1 q = mem q := fun q qa qb => by
      rw [← q3]
      split
      · split
        · rfl
        · exact (B_fra_f (by omega) _ _ _).trans (R_cp_o (by omega))
      · rfl
  refine r_mem (mem' := ja_rw M1 (m + 1) N_v0) (by rw [← hv, ← hf (m + 1) (by omega) (by omega), ja_rw_self]) ?_
  refine r_aload_n F rfl rfl dL_law_1078 rfl ?_
  refine r_aload_n F rfl rfl dL_law_1079 rfl ?_
  refine r_iload_n F rfl rfl dL_law_1080 rfl ?_
  refine r_iconst F dL_law_1081 rfl ?_
  refine r_iadd F dL_law_1082 rfl ?_
  refine r_sld F X (by omega) (by omega) (by omega) dL_law_1083 rfl ?_
  refine r_eqz (z := x1) hx1.symm ?_
  refine r_callV F GC (c_X9_ticksToFrame l D cA B hM N_v0_O (by omega) hi1) v_L_162 rfl hM.1 rfl ⟨Nat.le_of_ble_eq_true rfl, Nat.le_of_ble_eq_true rfl⟩ ⟨Nat.le_trans (Nat.add_le_add_right hc1 _) (Nat.le_of_ble_eq_true rfl), Nat.le_trans (Nat.add_le_add_right hs1 _) (Nat.le_of_ble_eq_true rfl)⟩ (Nat.le_of_ble_eq_true rfl) rfl dL_law_1084 rfl (fun v L2 M2 n2 hp => ?_)
  obtain ⟨q5, -⟩ := hp
  subst q5
  exact r_same F (ja_if Iff.rfl (fun q => by rw [if_neg (by rw [Z_z h (c := 9) (j := 6) (by omega) (by omega)]; exact Int.not_lt.mpr q.1), if_neg (by show ¬ x1 < 0; exact Int.not_lt.mpr q.1), Z_fra _ _ _ (Z_cpI h).1 (by rw [(Z_cpI h).2]; exact q.1), Z_xf _ _ _ N_v0_J q.1]) rfl) dL_law_1087 (by decide) (J _ _ _ _ _ hc1 hs1)
set_option maxRecDepth 100000 in
set_option maxHeartbeats 800000 in
theorem K_36 {C : ja_C} {D : va_G} {cA : Nat → ClassId} {l : Launch} {B b L y m n cells slots : Nat} {lay : ja_Y} {mem : ja_M} {xs : Nat → Int32} (F : ja_F C RL cL_law 4 room_1) (GC : ja_G C l D cA B) (X : ja_X C b L xs) (hL : L = 5) (h : L_fr lay mem n y m) (hc : cells ≤ 1000) (hs : slots ≤ 40000) (J : ∀ (lay2 : ja_Y) (mem2 : ja_M) (n2 cells2 slots2 : Nat), cells2 ≤ 2000 → slots2 ≤ 60000 → ja_W C cells2 slots2 lay2 mem2 n2 1227 [some (.ref b), some (.ref y), some (.ref m), some (.int (ja_I 0))] []) : ja_W C cells slots lay mem n 1092 [some (.ref b), some (.ref y), some (.ref m), some (.int (ja_I 0))] [] := by
  obtain ⟨hm, hn, hB, hM, hS1, hS2, hz, hv, hmz⟩ := id h
  have hO := h.BO
  obtain ⟨x1, hx1⟩ : ∃ z, z = (xs (Int.toNat (0 + 1))).toInt := ⟨_, rfl⟩
  have hi1 : ja_in x1 := by rw [hx1]; exact ja_range _
  obtain ⟨i1a, i1b⟩ := id hi1
  refine r_aload_n F rfl rfl dL_law_1092 rfl ?_
  refine r_aload_n F rfl rfl dL_law_1093 rfl ?_
  refine r_iload_n F rfl rfl dL_law_1094 rfl ?_
  refine r_iconst F dL_law_1095 rfl ?_
  refine r_iadd F dL_law_1096 rfl ?_
  refine r_sld F X (by omega) (by omega) (by omega) dL_law_1097 rfl ?_
  refine r_eqz (z := x1) hx1.symm ?_
  refine r_callV F GC (c_X8_append l D cA B hB hO hi1) v_L_163 rfl hB.1 rfl ⟨Nat.le_of_ble_eq_true rfl, Nat.le_of_ble_eq_true rfl⟩ ⟨Nat.le_trans (Nat.add_le_add_right hc _) (Nat.le_of_ble_eq_true rfl), Nat.le_trans (Nat.add_le_add_right hs _) (Nat.le_of_ble_eq_true rfl)⟩ (Nat.le_of_ble_eq_true rfl) rfl dL_law_1098 rfl (fun v L1 M1 n1 hp => ?_)
  have hc1 : cells + rm_X8_append.cells ≤ 2000 := Nat.le_trans (Nat.add_le_add_right hc _) (Nat.le_of_ble_eq_true rfl)
  have hs1 : slots + rm_X8_append.slots ≤ 60000 := Nat.le_trans (Nat.add_le_add_right hs _) (Nat.le_of_ble_eq_true rfl)
  obtain ⟨q1, q2, q3, q4⟩ := hp
  subst q1; subst q2; subst q4
  have hf : ∀ q, m ≤ q → q < m + 9 → M1 q = mem q := fun q qa qb => by
      rw [← q3]
      split
      · rw [ja_up_row (by omega), ja_up_row (by omega)]
      · rfl
  have e5 : M1 m 5 = 0 := by rw [hf m (by omega) (by omega)]; exact hmz m 5 (by omega) (by omega) (by omega)
  refine r_mem (mem' := ja_rw M1 (m + 1) N_v0) (by rw [← hv, ← hf (m + 1) (by omega) (by omega), ja_rw_self]) ?_
  refine r_aload_n F rfl rfl dL_law_1101 rfl ?_
  refine r_aload_n F rfl rfl dL_law_1102 rfl ?_
  refine r_iload_n F rfl rfl dL_law_1103 rfl ?_
  refine r_iconst F dL_law_1104 rfl ?_
  refine r_iadd F dL_law_1105 rfl ?_
  refine r_sld F X (by omega) (by omega) (by omega) dL_law_1106 rfl ?_
  refine r_eqz (z := x1) hx1.symm ?_
  refine r_callV F GC (c_X9_append l D cA B hM ⟨by rw [e5]; omega, fun j => by rw [hf (m + 5) (by omega) (by omega), hmz (m + 5) j (by omega) (by omega) (by omega)]; omega⟩ hi1) v_L_166 rfl hM.1 rfl ⟨Nat.le_of_ble_eq_true rfl, Nat.le_of_ble_eq_true rfl⟩ ⟨Nat.le_trans (Nat.add_le_add_right hc1 _) (Nat.le_of_ble_eq_true rfl), Nat.le_trans (Nat.add_le_add_right hs1 _) (Nat.le_of_ble_eq_true rfl)⟩ (Nat.le_of_ble_eq_true rfl) rfl dL_law_1107 rfl (fun v L2 M2 n2 hp => ?_)
  obtain ⟨q5, -⟩ := hp
  subst q5
  exact r_same F (ja_if Iff.rfl (fun _ => by rw [Z_HO h, e5]; rfl) rfl) dL_law_1110 (by decide) (J _ _ _ _ _ hc1 hs1)
set_option maxRecDepth 100000 in
set_option maxHeartbeats 800000 in
theorem K_37 {C : ja_C} {D : va_G} {cA : Nat → ClassId} {l : Launch} {B b L y m n cells slots : Nat} {lay : ja_Y} {mem : ja_M} {xs : Nat → Int32} (F : ja_F C RL cL_law 4 room_1) (GC : ja_G C l D cA B) (X : ja_X C b L xs) (hL : L = 5) (h : L_fr lay mem n y m) (hc : cells ≤ 1000) (hs : slots ≤ 40000) (J : ∀ (lay2 : ja_Y) (mem2 : ja_M) (n2 cells2 slots2 : Nat), cells2 ≤ 2000 → slots2 ≤ 60000 → ja_W C cells2 slots2 lay2 mem2 n2 1227 [some (.ref b), some (.ref y), some (.ref m), some (.int (ja_I 0))] []) : ja_W C cells slots lay mem n 1115 [some (.ref b), some (.ref y), some (.ref m), some (.int (ja_I 0))] [] := by
  obtain ⟨hm, hn, hB, hM, hS1, hS2, hz, hv, hmz⟩ := id h
  have hO := h.BO
  refine r_aload_n F rfl rfl dL_law_1115 rfl ?_
  refine r_callV F GC (c_X8_clearText l D cA B hB hO ) v_L_167 rfl hB.1 rfl ⟨Nat.le_of_ble_eq_true rfl, Nat.le_of_ble_eq_true rfl⟩ ⟨Nat.le_trans (Nat.add_le_add_right hc _) (Nat.le_of_ble_eq_true rfl), Nat.le_trans (Nat.add_le_add_right hs _) (Nat.le_of_ble_eq_true rfl)⟩ (Nat.le_of_ble_eq_true rfl) rfl dL_law_1116 rfl (fun v L1 M1 n1 hp => ?_)
  have hc1 : cells + rm_X8_clearText.cells ≤ 2000 := Nat.le_trans (Nat.add_le_add_right hc _) (Nat.le_of_ble_eq_true rfl)
  have hs1 : slots + rm_X8_clearText.slots ≤ 60000 := Nat.le_trans (Nat.add_le_add_right hs _) (Nat.le_of_ble_eq_true rfl)
  obtain ⟨q1, q2, q3, q4⟩ := hp
  subst q1; subst q2; subst q4
  have hf : ∀ q, m ≤ q → q < m + 9 → M1 q = mem q := fun q qa qb => by rw [← q3, ja_up_row (by omega)]
  have e5 : M1 m 5 = 0 := by rw [hf m (by omega) (by omega)]; exact hmz m 5 (by omega) (by omega) (by omega)
  refine r_mem (mem' := ja_rw M1 (m + 1) N_v0) (by rw [← hv, ← hf (m + 1) (by omega) (by omega), ja_rw_self]) ?_
  refine r_aload_n F rfl rfl dL_law_1119 rfl ?_
  refine r_callV F GC (c_X9_clearText l D cA B hM ⟨by rw [e5]; omega, fun j => by rw [hf (m + 5) (by omega) (by omega), hmz (m + 5) j (by omega) (by omega) (by omega)]; omega⟩) v_L_170 rfl hM.1 rfl ⟨Nat.le_of_ble_eq_true rfl, Nat.le_of_ble_eq_true rfl⟩ ⟨Nat.le_trans (Nat.add_le_add_right hc1 _) (Nat.le_of_ble_eq_true rfl), Nat.le_trans (Nat.add_le_add_right hs1 _) (Nat.le_of_ble_eq_true rfl)⟩ (Nat.le_of_ble_eq_true rfl) rfl dL_law_1120 rfl (fun v L2 M2 n2 hp => ?_)
  obtain ⟨q5, -⟩ := hp
  subst q5
  exact r_same F (by rw [Z_HO h, e5]) dL_law_1123 (by decide) (J _ _ _ _ _ hc1 hs1)
set_option maxRecDepth 100000 in
set_option maxHeartbeats 800000 in
theorem K_38 {C : ja_C} {D : va_G} {cA : Nat → ClassId} {l : Launch} {B b L y m n cells slots : Nat} {lay : ja_Y} {mem : ja_M} {xs : Nat → Int32} (F : ja_F C RL cL_law 4 room_1) (GC : ja_G C l D cA B) (X : ja_X C b L xs) (hL : L = 5) (h : L_fr lay mem n y m) (hc : cells ≤ 1000) (hs : slots ≤ 40000) (J : ∀ (lay2 : ja_Y) (mem2 : ja_M) (n2 cells2 slots2 : Nat), cells2 ≤ 2000 → slots2 ≤ 60000 → ja_W C cells2 slots2 lay2 mem2 n2 1227 [some (.ref b), some (.ref y), some (.ref m), some (.int (ja_I 0))] []) : ja_W C cells slots lay mem n 1128 [some (.ref b), some (.ref y), some (.ref m), some (.int (ja_I 0))] [] := by
  obtain ⟨hm, hn, hB, hM, hS1, hS2, hz, hv, hmz⟩ := id h
  have hO := h.BO
  refine r_aload_n F rfl rfl dL_law_1128 rfl ?_
  refine r_callV F GC (c_X8_faultPosition l D cA B hB hO ) v_L_171 rfl hB.1 rfl ⟨Nat.le_of_ble_eq_true rfl, Nat.le_of_ble_eq_true rfl⟩ ⟨Nat.le_trans (Nat.add_le_add_right hc _) (Nat.le_of_ble_eq_true rfl), Nat.le_trans (Nat.add_le_add_right hs _) (Nat.le_of_ble_eq_true rfl)⟩ (Nat.le_of_ble_eq_true rfl) rfl dL_law_1129 rfl (fun v L1 M1 n1 hp => ?_)
  have hc1 : cells + rm_X8_faultPosition.cells ≤ 2000 := Nat.le_trans (Nat.add_le_add_right hc _) (Nat.le_of_ble_eq_true rfl)
  have hs1 : slots + rm_X8_faultPosition.slots ≤ 60000 := Nat.le_trans (Nat.add_le_add_right hs _) (Nat.le_of_ble_eq_true rfl)
  obtain ⟨q1, q2, q3, q4⟩ := hp
  subst q1; subst q2; subst q4
  have hf : ∀ q, m ≤ q → q < m + 9 → M1 q = mem q := fun q qa qb => by rw [← q3]; exact (B_rd_all hO.2.2.1 hO.2.2.2.1).2.2 q (by omega)
  have e5 : M1 m 5 = 0 := by rw [hf m (by omega) (by omega)]; exact hmz m 5 (by omega) (by omega) (by omega)
  refine r_mem (mem' := ja_rw M1 (m + 1) N_v0) (by rw [← hv, ← hf (m + 1) (by omega) (by omega), ja_rw_self]) ?_
  refine r_aload_n F rfl rfl dL_law_1132 rfl ?_
  refine r_callV F GC (c_X9_faultPosition l D cA B hM ⟨by rw [e5]; omega, fun j => by rw [hf (m + 5) (by omega) (by omega), hmz (m + 5) j (by omega) (by omega) (by omega)]; omega⟩) v_L_174 rfl hM.1 rfl ⟨Nat.le_of_ble_eq_true rfl, Nat.le_of_ble_eq_true rfl⟩ ⟨Nat.le_trans (Nat.add_le_add_right hc1 _) (Nat.le_of_ble_eq_true rfl), Nat.le_trans (Nat.add_le_add_right hs1 _) (Nat.le_of_ble_eq_true rfl)⟩ (Nat.le_of_ble_eq_true rfl) rfl dL_law_1133 rfl (fun v L2 M2 n2 hp => ?_)
  obtain ⟨q5, -⟩ := hp
  subst q5
  exact r_same F ((Z_rdB h).1.trans (by rw [Z_rdN e5]; rfl)) dL_law_1136 (by decide) (J _ _ _ _ _ hc1 hs1)
set_option maxRecDepth 100000 in
set_option maxHeartbeats 800000 in
theorem K_39 {C : ja_C} {D : va_G} {cA : Nat → ClassId} {l : Launch} {B b L y m n cells slots : Nat} {lay : ja_Y} {mem : ja_M} {xs : Nat → Int32} (F : ja_F C RL cL_law 4 room_1) (GC : ja_G C l D cA B) (X : ja_X C b L xs) (hL : L = 5) (h : L_fr lay mem n y m) (hc : cells ≤ 1000) (hs : slots ≤ 40000) (J : ∀ (lay2 : ja_Y) (mem2 : ja_M) (n2 cells2 slots2 : Nat), cells2 ≤ 2000 → slots2 ≤ 60000 → ja_W C cells2 slots2 lay2 mem2 n2 1227 [some (.ref b), some (.ref y), some (.ref m), some (.int (ja_I 0))] []) : ja_W C cells slots lay mem n 1141 [some (.ref b), some (.ref y), some (.ref m), some (.int (ja_I 0))] [] := by
  obtain ⟨hm, hn, hB, hM, hS1, hS2, hz, hv, hmz⟩ := id h
  have hO := h.BO
  refine r_aload_n F rfl rfl dL_law_1141 rfl ?_
  refine r_callV F GC (c_X8_schedule l D cA B hB hO (by omega)) v_L_175 rfl hB.1 rfl ⟨Nat.le_of_ble_eq_true rfl, Nat.le_of_ble_eq_true rfl⟩ ⟨Nat.le_trans (Nat.add_le_add_right hc _) (Nat.le_of_ble_eq_true rfl), Nat.le_trans (Nat.add_le_add_right hs _) (Nat.le_of_ble_eq_true rfl)⟩ (Nat.le_of_ble_eq_true rfl) rfl dL_law_1142 rfl (fun v L1 M1 n1 hp => ?_)
  have hc1 : cells + rm_X8_schedule.cells ≤ 2000 := Nat.le_trans (Nat.add_le_add_right hc _) (Nat.le_of_ble_eq_true rfl)
  have hs1 : slots + rm_X8_schedule.slots ≤ 60000 := Nat.le_trans (Nat.add_le_add_right hs _) (Nat.le_of_ble_eq_true rfl)
  obtain ⟨q1, q2, q3, q4⟩ := hp
  subst q1; subst q2; subst q4
  have hf : ∀ q, m ≤ q → q < m + 9 → M1 q = mem q := fun q qa qb => by rw [← q3]; exact B_sc_f hO.2.2.1 hO.2.2.2.1 (by omega)
  have e5 : M1 m 5 = 0 := by rw [hf m (by omega) (by omega)]; exact hmz m 5 (by omega) (by omega) (by omega)
  refine r_mem (mem' := ja_rw M1 (m + 1) N_v0) (by rw [← hv, ← hf (m + 1) (by omega) (by omega), ja_rw_self]) ?_
  refine r_aload_n F rfl rfl dL_law_1145 rfl ?_
  refine r_callV F GC (c_X9_schedule l D cA B hM N_v0_R ⟨by rw [e5]; omega, fun j => by rw [hf (m + 5) (by omega) (by omega), hmz (m + 5) j (by omega) (by omega) (by omega)]; omega⟩) v_L_178 rfl hM.1 rfl ⟨Nat.le_of_ble_eq_true rfl, Nat.le_of_ble_eq_true rfl⟩ ⟨Nat.le_trans (Nat.add_le_add_right hc1 _) (Nat.le_of_ble_eq_true rfl), Nat.le_trans (Nat.add_le_add_right hs1 _) (Nat.le_of_ble_eq_true rfl)⟩ (Nat.le_of_ble_eq_true rfl) rfl dL_law_1146 rfl (fun v L2 M2 n2 hp => ?_)
  obtain ⟨q5, -⟩ := hp
  subst q5
  exact r_same F ((Z_scB h).trans (Z_srN e5).symm) dL_law_1149 (by decide) (J _ _ _ _ _ hc1 hs1)
set_option maxRecDepth 100000 in
set_option maxHeartbeats 800000 in
theorem K_40 {C : ja_C} {D : va_G} {cA : Nat → ClassId} {l : Launch} {B b L y m n cells slots : Nat} {lay : ja_Y} {mem : ja_M} {xs : Nat → Int32} (F : ja_F C RL cL_law 4 room_1) (GC : ja_G C l D cA B) (X : ja_X C b L xs) (hL : L = 5) (h : L_fr lay mem n y m) (hc : cells ≤ 1000) (hs : slots ≤ 40000) (J : ∀ (lay2 : ja_Y) (mem2 : ja_M) (n2 cells2 slots2 : Nat), cells2 ≤ 2000 → slots2 ≤ 60000 → ja_W C cells2 slots2 lay2 mem2 n2 1227 [some (.ref b), some (.ref y), some (.ref m), some (.int (ja_I 0))] []) : ja_W C cells slots lay mem n 1154 [some (.ref b), some (.ref y), some (.ref m), some (.int (ja_I 0))] [] := by
  obtain ⟨hm, hn, hB, hM, hS1, hS2, hz, hv, hmz⟩ := id h
  have hO := h.BO
  refine r_aload_n F rfl rfl dL_law_1154 rfl ?_
  refine r_callV F GC (c_X8_scheduled l D cA B hB hO ) v_L_179 rfl hB.1 rfl ⟨Nat.le_of_ble_eq_true rfl, Nat.le_of_ble_eq_true rfl⟩ ⟨Nat.le_trans (Nat.add_le_add_right hc _) (Nat.le_of_ble_eq_true rfl), Nat.le_trans (Nat.add_le_add_right hs _) (Nat.le_of_ble_eq_true rfl)⟩ (Nat.le_of_ble_eq_true rfl) rfl dL_law_1155 rfl (fun v L1 M1 n1 hp => ?_)
  have hc1 : cells + rm_X8_scheduled.cells ≤ 2000 := Nat.le_trans (Nat.add_le_add_right hc _) (Nat.le_of_ble_eq_true rfl)
  have hs1 : slots + rm_X8_scheduled.slots ≤ 60000 := Nat.le_trans (Nat.add_le_add_right hs _) (Nat.le_of_ble_eq_true rfl)
  obtain ⟨q1, q2, q3, q4⟩ := hp
  subst q1; subst q2; subst q4
  have hf : ∀ q, m ≤ q → q < m + 9 → M1 q = mem q := fun q qa qb => by rw [← q3]
  refine r_mem (mem' := ja_rw M1 (m + 1) N_v0) (by rw [← hv, ← hf (m + 1) (by omega) (by omega), ja_rw_self]) ?_
  refine r_aload_n F rfl rfl dL_law_1158 rfl ?_
  refine r_callV F GC (c_X9_scheduled l D cA B hM N_v0_R) v_L_182 rfl hM.1 rfl ⟨Nat.le_of_ble_eq_true rfl, Nat.le_of_ble_eq_true rfl⟩ ⟨Nat.le_trans (Nat.add_le_add_right hc1 _) (Nat.le_of_ble_eq_true rfl), Nat.le_trans (Nat.add_le_add_right hs1 _) (Nat.le_of_ble_eq_true rfl)⟩ (Nat.le_of_ble_eq_true rfl) rfl dL_law_1159 rfl (fun v L2 M2 n2 hp => ?_)
  obtain ⟨q5, -⟩ := hp
  subst q5
  exact r_same F (by rw [show mem (y + 1 + 15) 4 = 0 from Z_z h (c := 15) (j := 4) (by omega) (by omega)]; rfl) dL_law_1162 (by decide) (J _ _ _ _ _ hc1 hs1)
set_option maxRecDepth 100000 in
set_option maxHeartbeats 800000 in
theorem K_41 {C : ja_C} {D : va_G} {cA : Nat → ClassId} {l : Launch} {B b L y m n cells slots : Nat} {lay : ja_Y} {mem : ja_M} {xs : Nat → Int32} (F : ja_F C RL cL_law 4 room_1) (GC : ja_G C l D cA B) (X : ja_X C b L xs) (hL : L = 5) (h : L_fr lay mem n y m) (hc : cells ≤ 1000) (hs : slots ≤ 40000) (J : ∀ (lay2 : ja_Y) (mem2 : ja_M) (n2 cells2 slots2 : Nat), cells2 ≤ 2000 → slots2 ≤ 60000 → ja_W C cells2 slots2 lay2 mem2 n2 1227 [some (.ref b), some (.ref y), some (.ref m), some (.int (ja_I 0))] []) : ja_W C cells slots lay mem n 1167 [some (.ref b), some (.ref y), some (.ref m), some (.int (ja_I 0))] [] := by
  obtain ⟨hm, hn, hB, hM, hS1, hS2, hz, hv, hmz⟩ := id h
  have hO := h.BO
  obtain ⟨x1, hx1⟩ : ∃ z, z = (xs (Int.toNat (0 + 1))).toInt := ⟨_, rfl⟩
  have hi1 : ja_in x1 := by rw [hx1]; exact ja_range _
  obtain ⟨i1a, i1b⟩ := id hi1
  refine r_aload_n F rfl rfl dL_law_1167 rfl ?_
  refine r_aload_n F rfl rfl dL_law_1168 rfl ?_
  refine r_iload_n F rfl rfl dL_law_1169 rfl ?_
  refine r_iconst F dL_law_1170 rfl ?_
  refine r_iadd F dL_law_1171 rfl ?_
  refine r_sld F X (by omega) (by omega) (by omega) dL_law_1172 rfl ?_
  refine r_eqz (z := x1) hx1.symm ?_
  refine r_callV F GC (c_X8_keep l D cA B hB hO hi1 (by omega) (fun i o _ q => by cases q)) v_L_183 rfl hB.1 rfl ⟨Nat.le_of_ble_eq_true rfl, Nat.le_of_ble_eq_true rfl⟩ ⟨Nat.le_trans (Nat.add_le_add_right hc _) (Nat.le_of_ble_eq_true rfl), Nat.le_trans (Nat.add_le_add_right hs _) (Nat.le_of_ble_eq_true rfl)⟩ (Nat.le_of_ble_eq_true rfl) rfl dL_law_1173 rfl (fun v L1 M1 n1 hp => ?_)
  have hc1 : cells + rm_X8_keep.cells ≤ 2000 := Nat.le_trans (Nat.add_le_add_right hc _) (Nat.le_of_ble_eq_true rfl)
  have hs1 : slots + rm_X8_keep.slots ≤ 60000 := Nat.le_trans (Nat.add_le_add_right hs _) (Nat.le_of_ble_eq_true rfl)
  rcases hp with ⟨hk, q1, q2, q3, q4⟩ | ⟨o, m0, hk, q1, q3, hm0, ⟨hsl, q2, q4, q5⟩ | ⟨hsl, ho, hn1, hLR, hlq, hl41, hSo, hZo⟩⟩
  · subst q1; subst q2; subst q4
    have hf : ∀ q, m ≤ q → q < m + 9 → M1 q = mem q := fun q _ _ => by rw [← q3]
    refine r_mem (mem' := ja_rw M1 (m + 1) N_v0) (by rw [← hv, ← hf (m + 1) (by omega) (by omega), ja_rw_self]) ?_
    refine r_aload_n F rfl rfl dL_law_1176 rfl ?_
    refine r_aload_n F rfl rfl dL_law_1177 rfl ?_
    refine r_iload_n F rfl rfl dL_law_1178 rfl ?_
    refine r_iconst F dL_law_1179 rfl ?_
    refine r_iadd F dL_law_1180 rfl ?_
    refine r_sld F X (by omega) (by omega) (by omega) dL_law_1181 rfl ?_
    refine r_eqz (z := x1) hx1.symm ?_
    refine r_callV F GC (c_X9_keep l D cA B hM N_v0_R hi1) v_L_186 rfl hM.1 rfl ⟨Nat.le_of_ble_eq_true rfl, Nat.le_of_ble_eq_true rfl⟩ ⟨Nat.le_trans (Nat.add_le_add_right hc1 _) (Nat.le_of_ble_eq_true rfl), Nat.le_trans (Nat.add_le_add_right hs1 _) (Nat.le_of_ble_eq_true rfl)⟩ (Nat.le_of_ble_eq_true rfl) rfl dL_law_1182 rfl (fun v L2 M2 n2 hp => ?_)
    obtain ⟨q5, -⟩ := hp
    subst q5
    exact r_same F (by rw [if_neg hk]) dL_law_1185 (by decide) (J _ _ _ _ _ hc1 hs1)
  · cases hsl
  · subst q1; subst hn1; subst ho
    have hf : ∀ q, m ≤ q → q < m + 9 → M1 q = mem q := fun q qa qb => by rw [q3, R_cp_o (by omega), hm0 q (by omega)]
    have hM1 : ja_LM L1 m := ja_LM_c (fun q qa qb => hlq q (by omega) (by omega)) hM
    refine r_mem (mem' := ja_rw M1 (m + 1) N_v0) (by rw [← hv, ← hf (m + 1) (by omega) (by omega), ja_rw_self]) ?_
    refine r_aload_n F rfl rfl dL_law_1176 rfl ?_
    refine r_aload_n F rfl rfl dL_law_1177 rfl ?_
    refine r_iload_n F rfl rfl dL_law_1178 rfl ?_
    refine r_iconst F dL_law_1179 rfl ?_
    refine r_iadd F dL_law_1180 rfl ?_
    refine r_sld F X (by omega) (by omega) (by omega) dL_law_1181 rfl ?_
    refine r_eqz (z := x1) hx1.symm ?_
    refine r_callV F GC (c_X9_keep l D cA B hM1 N_v0_R hi1) v_L_186 rfl hM1.1 rfl ⟨Nat.le_of_ble_eq_true rfl, Nat.le_of_ble_eq_true rfl⟩ ⟨Nat.le_trans (Nat.add_le_add_right hc1 _) (Nat.le_of_ble_eq_true rfl), Nat.le_trans (Nat.add_le_add_right hs1 _) (Nat.le_of_ble_eq_true rfl)⟩ (Nat.le_of_ble_eq_true rfl) rfl dL_law_1182 rfl (fun v L2 M2 n2 hp => ?_)
    obtain ⟨q5, -⟩ := hp
    subst q5
    exact r_same F (by rw [if_pos hk, Z_z h (c := 0) (j := 6) (by omega) (by omega)]; rfl) dL_law_1185 (by decide) (J _ _ _ _ _ hc1 hs1)
set_option maxRecDepth 100000 in
set_option maxHeartbeats 800000 in
theorem K_42 {C : ja_C} {D : va_G} {cA : Nat → ClassId} {l : Launch} {B b L y m n cells slots : Nat} {lay : ja_Y} {mem : ja_M} {xs : Nat → Int32} (F : ja_F C RL cL_law 4 room_1) (GC : ja_G C l D cA B) (X : ja_X C b L xs) (hL : L = 5) (h : L_fr lay mem n y m) (hc : cells ≤ 1000) (hs : slots ≤ 40000) (J : ∀ (lay2 : ja_Y) (mem2 : ja_M) (n2 cells2 slots2 : Nat), cells2 ≤ 2000 → slots2 ≤ 60000 → ja_W C cells2 slots2 lay2 mem2 n2 1227 [some (.ref b), some (.ref y), some (.ref m), some (.int (ja_I 0))] []) : ja_W C cells slots lay mem n 1190 [some (.ref b), some (.ref y), some (.ref m), some (.int (ja_I 0))] [] := by
  obtain ⟨hm, hn, hB, hM, hS1, hS2, hz, hv, hmz⟩ := id h
  have hO := h.BO
  obtain ⟨x1, hx1⟩ : ∃ z, z = (xs (Int.toNat (0 + 1))).toInt := ⟨_, rfl⟩
  have hi1 : ja_in x1 := by rw [hx1]; exact ja_range _
  obtain ⟨i1a, i1b⟩ := id hi1
  refine r_aload_n F rfl rfl dL_law_1190 rfl ?_
  refine r_aload_n F rfl rfl dL_law_1191 rfl ?_
  refine r_iload_n F rfl rfl dL_law_1192 rfl ?_
  refine r_iconst F dL_law_1193 rfl ?_
  refine r_iadd F dL_law_1194 rfl ?_
  refine r_sld F X (by omega) (by omega) (by omega) dL_law_1195 rfl ?_
  refine r_eqz (z := x1) hx1.symm ?_
  refine r_callV F GC (c_X8_restore l D cA B hB hO hi1) v_L_187 rfl hB.1 rfl ⟨Nat.le_of_ble_eq_true rfl, Nat.le_of_ble_eq_true rfl⟩ ⟨Nat.le_trans (Nat.add_le_add_right hc _) (Nat.le_of_ble_eq_true rfl), Nat.le_trans (Nat.add_le_add_right hs _) (Nat.le_of_ble_eq_true rfl)⟩ (Nat.le_of_ble_eq_true rfl) rfl dL_law_1196 rfl (fun v L1 M1 n1 hp => ?_)
  have hc1 : cells + rm_X8_restore.cells ≤ 2000 := Nat.le_trans (Nat.add_le_add_right hc _) (Nat.le_of_ble_eq_true rfl)
  have hs1 : slots + rm_X8_restore.slots ≤ 60000 := Nat.le_trans (Nat.add_le_add_right hs _) (Nat.le_of_ble_eq_true rfl)
  obtain ⟨q2, q4, hp⟩ := hp
  subst q2; subst q4
  rcases hp with ⟨hk, q1, q3⟩ | ⟨hk, hsl, q1, q3⟩ | ⟨o, hk, hsl, q1, q3⟩
  · subst q1
    have hf : ∀ q, m ≤ q → q < m + 9 → M1 q = mem q := fun q _ _ => by rw [← q3]
    refine r_mem (mem' := ja_rw M1 (m + 1) N_v0) (by rw [← hv, ← hf (m + 1) (by omega) (by omega), ja_rw_self]) ?_
    refine r_aload_n F rfl rfl dL_law_1199 rfl ?_
    refine r_aload_n F rfl rfl dL_law_1200 rfl ?_
    refine r_iload_n F rfl rfl dL_law_1201 rfl ?_
    refine r_iconst F dL_law_1202 rfl ?_
    refine r_iadd F dL_law_1203 rfl ?_
    refine r_sld F X (by omega) (by omega) (by omega) dL_law_1204 rfl ?_
    refine r_eqz (z := x1) hx1.symm ?_
    refine r_callV F GC (c_X9_restore l D cA B hM N_v0_R (fun j => by rw [hf (m + 4) (by omega) (by omega), hmz (m + 4) j (by omega) (by omega) (by omega)]; omega) hi1) v_L_190 rfl hM.1 rfl ⟨Nat.le_of_ble_eq_true rfl, Nat.le_of_ble_eq_true rfl⟩ ⟨Nat.le_trans (Nat.add_le_add_right hc1 _) (Nat.le_of_ble_eq_true rfl), Nat.le_trans (Nat.add_le_add_right hs1 _) (Nat.le_of_ble_eq_true rfl)⟩ (Nat.le_of_ble_eq_true rfl) rfl dL_law_1205 rfl (fun v L2 M2 n2 hp => ?_)
    obtain ⟨q5, -⟩ := hp
    subst q5
    exact r_same F (by rw [if_neg hk]) dL_law_1208 (by decide) (J _ _ _ _ _ hc1 hs1)
  · subst q1
    have hf : ∀ q, m ≤ q → q < m + 9 → M1 q = mem q := fun q _ _ => by rw [← q3]
    refine r_mem (mem' := ja_rw M1 (m + 1) N_v0) (by rw [← hv, ← hf (m + 1) (by omega) (by omega), ja_rw_self]) ?_
    refine r_aload_n F rfl rfl dL_law_1199 rfl ?_
    refine r_aload_n F rfl rfl dL_law_1200 rfl ?_
    refine r_iload_n F rfl rfl dL_law_1201 rfl ?_
    refine r_iconst F dL_law_1202 rfl ?_
    refine r_iadd F dL_law_1203 rfl ?_
    refine r_sld F X (by omega) (by omega) (by omega) dL_law_1204 rfl ?_
    refine r_eqz (z := x1) hx1.symm ?_
    refine r_callV F GC (c_X9_restore l D cA B hM N_v0_R (fun j => by rw [hf (m + 4) (by omega) (by omega), hmz (m + 4) j (by omega) (by omega) (by omega)]; omega) hi1) v_L_190 rfl hM.1 rfl ⟨Nat.le_of_ble_eq_true rfl, Nat.le_of_ble_eq_true rfl⟩ ⟨Nat.le_trans (Nat.add_le_add_right hc1 _) (Nat.le_of_ble_eq_true rfl), Nat.le_trans (Nat.add_le_add_right hs1 _) (Nat.le_of_ble_eq_true rfl)⟩ (Nat.le_of_ble_eq_true rfl) rfl dL_law_1205 rfl (fun v L2 M2 n2 hp => ?_)
    obtain ⟨q5, -⟩ := hp
    subst q5
    exact r_same F (by rw [if_pos hk, if_pos (by rw [hf (m + 4) (by omega) (by omega)]; exact hmz (m + 4) _ (by omega) (by omega) (by omega))]) dL_law_1208 (by decide) (J _ _ _ _ _ hc1 hs1)
  · cases hsl
set_option maxRecDepth 100000 in
set_option maxHeartbeats 800000 in
theorem K_43 {C : ja_C} {D : va_G} {cA : Nat → ClassId} {l : Launch} {B b L y m n cells slots : Nat} {lay : ja_Y} {mem : ja_M} {xs : Nat → Int32} (F : ja_F C RL cL_law 4 room_1) (GC : ja_G C l D cA B) (X : ja_X C b L xs) (hL : L = 5) (h : L_fr lay mem n y m) (hc : cells ≤ 1000) (hs : slots ≤ 40000) (J : ∀ (lay2 : ja_Y) (mem2 : ja_M) (n2 cells2 slots2 : Nat), cells2 ≤ 2000 → slots2 ≤ 60000 → ja_W C cells2 slots2 lay2 mem2 n2 1227 [some (.ref b), some (.ref y), some (.ref m), some (.int (ja_I 0))] []) : ja_W C cells slots lay mem n 1213 [some (.ref b), some (.ref y), some (.ref m), some (.int (ja_I 0))] [] := by
  obtain ⟨hm, hn, hB, hM, hS1, hS2, hz, hv, hmz⟩ := id h
  have hO := h.BO
  refine r_aload_n F rfl rfl dL_law_1213 rfl ?_
  refine r_callV F GC (c_X8_checksum l D cA B hB hO ) v_L_191 rfl hB.1 rfl ⟨Nat.le_of_ble_eq_true rfl, Nat.le_of_ble_eq_true rfl⟩ ⟨Nat.le_trans (Nat.add_le_add_right hc _) (Nat.le_of_ble_eq_true rfl), Nat.le_trans (Nat.add_le_add_right hs _) (Nat.le_of_ble_eq_true rfl)⟩ (Nat.le_of_ble_eq_true rfl) rfl dL_law_1214 rfl (fun v L1 M1 n1 hp => ?_)
  have hc1 : cells + rm_X8_checksum.cells ≤ 2000 := Nat.le_trans (Nat.add_le_add_right hc _) (Nat.le_of_ble_eq_true rfl)
  have hs1 : slots + rm_X8_checksum.slots ≤ 60000 := Nat.le_trans (Nat.add_le_add_right hs _) (Nat.le_of_ble_eq_true rfl)
  obtain ⟨q1, q2, q3, q4⟩ := hp
  subst q1; subst q2; subst q4
  have hf : ∀ q, m ≤ q → q < m + 9 → M1 q = mem q := fun q qa qb => by rw [← q3]
  refine r_mem (mem' := ja_rw M1 (m + 1) N_v0) (by rw [← hv, ← hf (m + 1) (by omega) (by omega), ja_rw_self]) ?_
  refine r_aload_n F rfl rfl dL_law_1217 rfl ?_
  refine r_callV F GC (c_X9_checksum l D cA B hM N_v0_R) v_L_195 rfl hM.1 rfl ⟨Nat.le_of_ble_eq_true rfl, Nat.le_of_ble_eq_true rfl⟩ ⟨Nat.le_trans (Nat.add_le_add_right hc1 _) (Nat.le_of_ble_eq_true rfl), Nat.le_trans (Nat.add_le_add_right hs1 _) (Nat.le_of_ble_eq_true rfl)⟩ (Nat.le_of_ble_eq_true rfl) rfl dL_law_1218 rfl (fun v L2 M2 n2 hp => ?_)
  obtain ⟨q5, -⟩ := hp
  subst q5
  refine r_lcmp F dL_law_1221 rfl ?_
  refine r_eqi (z := 0) (by rw [Z_ck h, ja_lcmp0]; exact congrArg ja_I (ja_lc_0.mpr rfl)) ?_
  refine r_if_eq F ja_in0 (tgt := 1227) dL_law_1222 rfl (by decide) (fun _ => ?_) (fun q => absurd rfl q)
  exact J _ _ _ _ _ hc1 hs1
