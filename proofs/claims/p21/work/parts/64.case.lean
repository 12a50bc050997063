set_option maxRecDepth 100000 in
set_option maxHeartbeats 800000 in
theorem K_32 {C : ja_C} {D : va_G} {cA : Nat → ClassId} {l : Launch} {B b L y n cells slots k : Nat} {i : Int} {lay : ja_Y} {mem : ja_M} {sl : Nat → Option Nat} {xs : Nat → Int32} (F : ja_F C RL cL_law 4 room_1) (GC : ja_G C l D cA B) (X : ja_X C b L xs) (hL : L ≤ 2560) (hi : i = 5 * (k : Int)) (hk : 5 * k + 5 ≤ L) (h : L_In S1 lay mem n y sl (500 * (k : Int))) (hc : cells ≤ 1000 + 20 * k) (hs : slots ≤ 40000 + 1269 * k) (J : ∀ (lay2 : ja_Y) (mem2 : ja_M) (n2 : Nat) (sl2 : Nat → Option Nat) (cells2 slots2 : Nat), L_In S1 lay2 mem2 n2 y sl2 (500 * (k : Int) + 500) → cells2 ≤ 1000 + 20 * k + 20 → slots2 ≤ 40000 + 1269 * k + 1269 → ja_W C cells2 slots2 lay2 mem2 n2 1226 [some (.ref b), some (.ref y), some (.ref (y + 49)), some (.int (ja_I i))] []) : ja_W C cells slots lay mem n 1020 [some (.ref b), some (.ref y), some (.ref (y + 49)), some (.int (ja_I i))] [] := by
  obtain ⟨⟨hB, hO, hn, hso, hsd⟩, ⟨hM, hN, hTO, hz4, hkp⟩, hT, hx, hsl⟩ := id h
  have hSOK : S_ok S1 := S1_ok
  have hk512 : k ≤ 512 := by omega
  have hc0 : cells ≤ 500000 := by omega
  have hs0 : slots ≤ 5000000 := by omega
  refine r_aload_n F rfl rfl dL_law_1020 rfl ?_
  refine r_callV F GC (c_X8_longestGap l D cA B hB hO ) v_L_147 rfl hB.1 rfl ⟨(Nat.le_of_ble_eq_true rfl), (Nat.le_of_ble_eq_true rfl)⟩ ⟨Nat.le_trans (Nat.add_le_add_right hc0 _) (Nat.le_of_ble_eq_true rfl), Nat.le_trans (Nat.add_le_add_right hs0 _) (Nat.le_of_ble_eq_true rfl)⟩ (Nat.le_of_ble_eq_true rfl) rfl dL_law_1021 rfl (fun v L1 M1 n1 hp => ?_)
  have hc1 : cells + rm_X8_longestGap.cells ≤ 1000 + 20 * k + 20 := Nat.add_le_add hc (Nat.le_of_ble_eq_true rfl)
  have hs1 : slots + rm_X8_longestGap.slots ≤ 40000 + 1269 * k + 1269 := Nat.add_le_add hs (Nat.le_of_ble_eq_true rfl)
  have hc2 : cells + rm_X8_longestGap.cells ≤ 500000 := by omega
  have hs2 : slots + rm_X8_longestGap.slots ≤ 5000000 := by omega
  obtain ⟨q1, q2, q3, q4⟩ := hp
  subst q1; subst q2; subst q4
  have cF : ∀ q, y + 41 ≤ q → M1 q = mem q := fun q qa => by rw [← q3]
  have c1 : ∀ q, y + 49 ≤ q → q < y + 58 → M1 q = mem q := fun q qa _ => cF q (by omega)
  have cB : ja_BO M1 y sl (500 * (k : Int) + 500) := by rw [← q3]; exact BO_cg (by omega) hO (fun _ _ _ => rfl) (fun _ _ _ _ _ _ _ => rfl)
  refine r_pop F rfl dL_law_1024 rfl ?_
  refine r_mem (mem' := ja_rw M1 (y + 49 + 1) (mem (y + 49 + 1))) (by rw [← c1 (y + 49 + 1) (by omega) (by omega), ja_rw_self]) ?_
  have hTO1 : N_TO M1 (y + 49) := N_TO_c (by rw [c1 _ (by omega) (by omega)]) (c1 _ (by omega) (by omega)) hTO
  have hz1 : ∀ j, 0 ≤ M1 (y + 49 + 4) j ∧ M1 (y + 49 + 4) j ≤ 1 := fun j => by rw [c1 _ (by omega) (by omega)]; exact hz4 j
  refine r_aload_n F rfl rfl dL_law_1025 rfl ?_
  refine r_callV F GC (c_X9_longestGap l D cA B hM hN.1) v_L_150 rfl hM.1 rfl ⟨(Nat.le_of_ble_eq_true rfl), (Nat.le_of_ble_eq_true rfl)⟩ ⟨Nat.le_trans (Nat.add_le_add_right hc2 _) (Nat.le_of_ble_eq_true rfl), Nat.le_trans (Nat.add_le_add_right hs2 _) (Nat.le_of_ble_eq_true rfl)⟩ (Nat.le_of_ble_eq_true rfl) rfl dL_law_1026 rfl (fun v L2 M2 n2 hp => ?_)
  obtain ⟨q5, q6, q7, q8⟩ := hp
  subst q5; subst q6; subst q8
  have hIn := In_step2 hSOK h q7 (fun q hq => cF q (by omega)) (by rw [cF _ (by omega)]) (cF _ (by omega)) cB N_rf.rf (hN.mono (by omega)) (by rw [← q3]; exact hT)
  refine r_pop F rfl dL_law_1029 rfl ?_
  refine r_goto F (tgt := 1226) dL_law_1030 (by decide) ?_
  exact J _ _ _ _ _ _ hIn (Nat.le_trans (Nat.add_le_add_left ((Nat.le_of_ble_eq_true rfl) : rm_X9_longestGap.cells ≤ 0) _) hc1) (Nat.le_trans (Nat.add_le_add_left ((Nat.le_of_ble_eq_true rfl) : rm_X9_longestGap.slots ≤ 0) _) hs1)
set_option maxRecDepth 100000 in
set_option maxHeartbeats 800000 in
theorem K_33 {C : ja_C} {D : va_G} {cA : Nat → ClassId} {l : Launch} {B b L y n cells slots k : Nat} {i : Int} {lay : ja_Y} {mem : ja_M} {sl : Nat → Option Nat} {xs : Nat → Int32} (F : ja_F C RL cL_law 4 room_1) (GC : ja_G C l D cA B) (X : ja_X C b L xs) (hL : L ≤ 2560) (hi : i = 5 * (k : Int)) (hk : 5 * k + 5 ≤ L) (h : L_In S1 lay mem n y sl (500 * (k : Int))) (hc : cells ≤ 1000 + 20 * k) (hs : slots ≤ 40000 + 1269 * k) (J : ∀ (lay2 : ja_Y) (mem2 : ja_M) (n2 : Nat) (sl2 : Nat → Option Nat) (cells2 slots2 : Nat), L_In S1 lay2 mem2 n2 y sl2 (500 * (k : Int) + 500) → cells2 ≤ 1000 + 20 * k + 20 → slots2 ≤ 40000 + 1269 * k + 1269 → ja_W C cells2 slots2 lay2 mem2 n2 1226 [some (.ref b), some (.ref y), some (.ref (y + 49)), some (.int (ja_I i))] []) : ja_W C cells slots lay mem n 1033 [some (.ref b), some (.ref y), some (.ref (y + 49)), some (.int (ja_I i))] [] := by
  obtain ⟨⟨hB, hO, hn, hso, hsd⟩, ⟨hM, hN, hTO, hz4, hkp⟩, hT, hx, hsl⟩ := id h
  have hSOK : S_ok S1 := S1_ok
  have hk512 : k ≤ 512 := by omega
  have hc0 : cells ≤ 500000 := by omega
  have hs0 : slots ≤ 5000000 := by omega
  refine r_aload_n F rfl rfl dL_law_1033 rfl ?_
  refine r_callV F GC (c_X8_ticksToGap l D cA B hB hO (by omega)) v_L_151 rfl hB.1 rfl ⟨(Nat.le_of_ble_eq_true rfl), (Nat.le_of_ble_eq_true rfl)⟩ ⟨Nat.le_trans (Nat.add_le_add_right hc0 _) (Nat.le_of_ble_eq_true rfl), Nat.le_trans (Nat.add_le_add_right hs0 _) (Nat.le_of_ble_eq_true rfl)⟩ (Nat.le_of_ble_eq_true rfl) rfl dL_law_1034 rfl (fun v L1 M1 n1 hp => ?_)
  have hc1 : cells + rm_X8_ticksToGap.cells ≤ 1000 + 20 * k + 20 := Nat.add_le_add hc (Nat.le_of_ble_eq_true rfl)
  have hs1 : slots + rm_X8_ticksToGap.slots ≤ 40000 + 1269 * k + 1269 := Nat.add_le_add hs (Nat.le_of_ble_eq_true rfl)
  have hc2 : cells + rm_X8_ticksToGap.cells ≤ 500000 := by omega
  have hs2 : slots + rm_X8_ticksToGap.slots ≤ 5000000 := by omega
  obtain ⟨q1, q2, q3, q4⟩ := hp
  subst q1; subst q2; subst q4
  have cF : ∀ q, y + 41 ≤ q → M1 q = mem q := fun q qa => by rw [← q3, B_gap_f (by omega), R_cp_o (by omega)]
  have c1 : ∀ q, y + 49 ≤ q → q < y + 58 → M1 q = mem q := fun q qa _ => cF q (by omega)
  have cB : ja_BO M1 y sl (500 * (k : Int) + 500) := by rw [← q3]; exact BO_fore (by omega) hO (fun i o hi ho => by have := hso i o hi ho; omega) (B_gap_RO _ _ _ _ (R_cp_RO hO.1 hO.2.1.choose_spec (by omega)) (by omega)) (fun q hq => by rw [B_gap_f (by omega), R_cp_o (by omega)])
  refine r_pop F rfl dL_law_1037 rfl ?_
  refine r_mem (mem' := ja_rw M1 (y + 49 + 1) (mem (y + 49 + 1))) (by rw [← c1 (y + 49 + 1) (by omega) (by omega), ja_rw_self]) ?_
  have hTO1 : N_TO M1 (y + 49) := N_TO_c (by rw [c1 _ (by omega) (by omega)]) (c1 _ (by omega) (by omega)) hTO
  have hz1 : ∀ j, 0 ≤ M1 (y + 49 + 4) j ∧ M1 (y + 49 + 4) j ≤ 1 := fun j => by rw [c1 _ (by omega) (by omega)]; exact hz4 j
  refine r_aload_n F rfl rfl dL_law_1038 rfl ?_
  refine r_callV F GC (c_X9_ticksToGap l D cA B hM hN (by omega)) v_L_154 rfl hM.1 rfl ⟨(Nat.le_of_ble_eq_true rfl), (Nat.le_of_ble_eq_true rfl)⟩ ⟨Nat.le_trans (Nat.add_le_add_right hc2 _) (Nat.le_of_ble_eq_true rfl), Nat.le_trans (Nat.add_le_add_right hs2 _) (Nat.le_of_ble_eq_true rfl)⟩ (Nat.le_of_ble_eq_true rfl) rfl dL_law_1039 rfl (fun v L2 M2 n2 hp => ?_)
  obtain ⟨q5, q6, q8, G2, hg, q7⟩ := hp
  subst q5; subst q6; subst q8
  have hIn := In_step2 hSOK h q7.symm (fun q hq => cF q (by omega)) (by rw [cF _ (by omega)]) (cF _ (by omega)) cB hg.f (hN.mono (by omega)) (by rw [← q3]; exact hSOK.1 mem _ _ _ _ (fun q qa qb => by rw [B_gap_f (by omega), R_cp_o (by omega)]) (fun _ _ => rfl) hT)
  refine r_pop F rfl dL_law_1042 rfl ?_
  refine r_goto F (tgt := 1226) dL_law_1043 (by decide) ?_
  exact J _ _ _ _ _ _ hIn (Nat.le_trans (Nat.add_le_add_left ((Nat.le_of_ble_eq_true rfl) : rm_X9_ticksToGap.cells ≤ 0) _) hc1) (Nat.le_trans (Nat.add_le_add_left ((Nat.le_of_ble_eq_true rfl) : rm_X9_ticksToGap.slots ≤ 0) _) hs1)
set_option maxRecDepth 100000 in
set_option maxHeartbeats 800000 in
theorem K_34 {C : ja_C} {D : va_G} {cA : Nat → ClassId} {l : Launch} {B b L y n cells slots k : Nat} {i : Int} {lay : ja_Y} {mem : ja_M} {sl : Nat → Option Nat} {xs : Nat → Int32} (F : ja_F C RL cL_law 4 room_1) (GC : ja_G C l D cA B) (X : ja_X C b L xs) (hL : L ≤ 2560) (hi : i = 5 * (k : Int)) (hk : 5 * k + 5 ≤ L) (h : L_In S1 lay mem n y sl (500 * (k : Int))) (hc : cells ≤ 1000 + 20 * k) (hs : slots ≤ 40000 + 1269 * k) (J : ∀ (lay2 : ja_Y) (mem2 : ja_M) (n2 : Nat) (sl2 : Nat → Option Nat) (cells2 slots2 : Nat), L_In S1 lay2 mem2 n2 y sl2 (500 * (k : Int) + 500) → cells2 ≤ 1000 + 20 * k + 20 → slots2 ≤ 40000 + 1269 * k + 1269 → ja_W C cells2 slots2 lay2 mem2 n2 1226 [some (.ref b), some (.ref y), some (.ref (y + 49)), some (.int (ja_I i))] []) : ja_W C cells slots lay mem n 1046 [some (.ref b), some (.ref y), some (.ref (y + 49)), some (.int (ja_I i))] [] := by
  obtain ⟨⟨hB, hO, hn, hso, hsd⟩, ⟨hM, hN, hTO, hz4, hkp⟩, hT, hx, hsl⟩ := id h
  have hSOK : S_ok S1 := S1_ok
  have hk512 : k ≤ 512 := by omega
  have hc0 : cells ≤ 500000 := by omega
  have hs0 : slots ≤ 5000000 := by omega
  obtain ⟨x1, hx1⟩ : ∃ z, z = (xs (Int.toNat (i + 1))).toInt := ⟨_, rfl⟩
  have hi1 : ja_in x1 := by rw [hx1]; exact ja_range _
  obtain ⟨i1a, i1b⟩ := id hi1
  refine r_aload_n F rfl rfl dL_law_1046 rfl ?_
  refine r_aload_n F rfl rfl dL_law_1047 rfl ?_
  refine r_iload_n F rfl rfl dL_law_1048 rfl ?_
  refine r_iconst F dL_law_1049 rfl ?_
  refine r_iadd F dL_law_1050 rfl ?_
  refine r_sld F X (by omega) (by omega) (by omega) dL_law_1051 rfl ?_
  refine r_eqz (z := x1) hx1.symm ?_
  refine r_callV F GC (c_X8_gapsIn l D cA B hB hO hi1 (by omega)) v_L_155 rfl hB.1 rfl ⟨(Nat.le_of_ble_eq_true rfl), (Nat.le_of_ble_eq_true rfl)⟩ ⟨Nat.le_trans (Nat.add_le_add_right hc0 _) (Nat.le_of_ble_eq_true rfl), Nat.le_trans (Nat.add_le_add_right hs0 _) (Nat.le_of_ble_eq_true rfl)⟩ (Nat.le_of_ble_eq_true rfl) rfl dL_law_1052 rfl (fun v L1 M1 n1 hp => ?_)
  have hc1 : cells + rm_X8_gapsIn.cells ≤ 1000 + 20 * k + 20 := Nat.add_le_add hc (Nat.le_of_ble_eq_true rfl)
  have hs1 : slots + rm_X8_gapsIn.slots ≤ 40000 + 1269 * k + 1269 := Nat.add_le_add hs (Nat.le_of_ble_eq_true rfl)
  have hc2 : cells + rm_X8_gapsIn.cells ≤ 500000 := by omega
  have hs2 : slots + rm_X8_gapsIn.slots ≤ 5000000 := by omega
  obtain ⟨q1, q2, q3, q4⟩ := hp
  subst q1; subst q2; subst q4
  have cF : ∀ q, y + 41 ≤ q → M1 q = mem q := fun q qa => by
      rw [← q3]
      split
      · exact (B_adv_f (by omega) _).trans (R_cp_o (by omega))
      · rfl
  have c1 : ∀ q, y + 49 ≤ q → q < y + 58 → M1 q = mem q := fun q qa _ => cF q (by omega)
  have cB : ja_BO M1 y sl (500 * (k : Int) + 500) := by
      rw [← q3]
      split
      · rename_i q
        exact BO_fore (by omega) hO (fun i o hi ho => by have := hso i o hi ho; omega) (⟨_, B_adv_RO (R_cp_RO hO.1 hO.2.1.choose_spec (by omega)) x1.toNat (by omega)⟩) (fun q hq => (B_adv_f (by omega) _).trans (R_cp_o (by omega)))
      · exact BO_cg (by omega) hO (fun _ _ _ => rfl) (fun _ _ _ _ _ _ _ => rfl)
  refine r_pop F rfl dL_law_1055 rfl ?_
  refine r_mem (mem' := ja_rw M1 (y + 49 + 1) (mem (y + 49 + 1))) (by rw [← c1 (y + 49 + 1) (by omega) (by omega), ja_rw_self]) ?_
  have hTO1 : N_TO M1 (y + 49) := N_TO_c (by rw [c1 _ (by omega) (by omega)]) (c1 _ (by omega) (by omega)) hTO
  have hz1 : ∀ j, 0 ≤ M1 (y + 49 + 4) j ∧ M1 (y + 49 + 4) j ≤ 1 := fun j => by rw [c1 _ (by omega) (by omega)]; exact hz4 j
  refine r_aload_n F rfl rfl dL_law_1056 rfl ?_
  refine r_aload_n F rfl rfl dL_law_1057 rfl ?_
  refine r_iload_n F rfl rfl dL_law_1058 rfl ?_
  refine r_iconst F dL_law_1059 rfl ?_
  refine r_iadd F dL_law_1060 rfl ?_
  refine r_sld F X (by omega) (by omega) (by omega) dL_law_1061 rfl ?_
  refine r_eqz (z := x1) hx1.symm ?_
  refine r_callV F GC (c_X9_gapsIn l D cA B hM hN (by omega) hi1) v_L_158 rfl hM.1 rfl ⟨(Nat.le_of_ble_eq_true rfl), (Nat.le_of_ble_eq_true rfl)⟩ ⟨Nat.le_trans (Nat.add_le_add_right hc2 _) (Nat.le_of_ble_eq_true rfl), Nat.le_trans (Nat.add_le_add_right hs2 _) (Nat.le_of_ble_eq_true rfl)⟩ (Nat.le_of_ble_eq_true rfl) rfl dL_law_1062 rfl (fun v L2 M2 n2 hp => ?_)
  obtain ⟨q5, q6, q8, G2, hg, q7⟩ := hp
  subst q5; subst q6; subst q8
  have hIn := In_step2 hSOK h q7.symm (fun q hq => cF q (by omega)) (by rw [cF _ (by omega)]) (cF _ (by omega)) cB hg.f (hN.mono (by omega)) (by
      rw [← q3]
      split
      · exact hSOK.1 mem _ _ _ _ (fun q qa qb => (B_adv_f (by omega) _).trans (R_cp_o (by omega))) (fun _ _ => rfl) hT
      · exact hT)
  refine r_pop F rfl dL_law_1065 rfl ?_
  refine r_goto F (tgt := 1226) dL_law_1066 (by decide) ?_
  exact J _ _ _ _ _ _ hIn (Nat.le_trans (Nat.add_le_add_left ((Nat.le_of_ble_eq_true rfl) : rm_X9_gapsIn.cells ≤ 0) _) hc1) (Nat.le_trans (Nat.add_le_add_left ((Nat.le_of_ble_eq_true rfl) : rm_X9_gapsIn.slots ≤ 0) _) hs1)
set_option maxRecDepth 100000 in
set_option maxHeartbeats 800000 in
theorem K_35 {C : ja_C} {D : va_G} {cA : Nat → ClassId} {l : Launch} {B b L y n cells slots k : Nat} {i : Int} {lay : ja_Y} {mem : ja_M} {sl : Nat → Option Nat} {xs : Nat → Int32} (F : ja_F C RL cL_law 4 room_1) (GC : ja_G C l D cA B) (X : ja_X C b L xs) (hL : L ≤ 2560) (hi : i = 5 * (k : Int)) (hk : 5 * k + 5 ≤ L) (h : L_In S1 lay mem n y sl (500 * (k : Int))) (hc : cells ≤ 1000 + 20 * k) (hs : slots ≤ 40000 + 1269 * k) (J : ∀ (lay2 : ja_Y) (mem2 : ja_M) (n2 : Nat) (sl2 : Nat → Option Nat) (cells2 slots2 : Nat), L_In S1 lay2 mem2 n2 y sl2 (500 * (k : Int) + 500) → cells2 ≤ 1000 + 20 * k + 20 → slots2 ≤ 40000 + 1269 * k + 1269 → ja_W C cells2 slots2 lay2 mem2 n2 1226 [some (.ref b), some (.ref y), some (.ref (y + 49)), some (.int (ja_I i))] []) : ja_W C cells slots lay mem n 1069 [some (.ref b), some (.ref y), some (.ref (y + 49)), some (.int (ja_I i))] [] := by
  obtain ⟨⟨hB, hO, hn, hso, hsd⟩, ⟨hM, hN, hTO, hz4, hkp⟩, hT, hx, hsl⟩ := id h
  have hSOK : S_ok S1 := S1_ok
  have hk512 : k ≤ 512 := by omega
  have hc0 : cells ≤ 500000 := by omega
  have hs0 : slots ≤ 5000000 := by omega
  obtain ⟨x1, hx1⟩ : ∃ z, z = (xs (Int.toNat (i + 1))).toInt := ⟨_, rfl⟩
  have hi1 : ja_in x1 := by rw [hx1]; exact ja_range _
  obtain ⟨i1a, i1b⟩ := id hi1
  refine r_aload_n F rfl rfl dL_law_1069 rfl ?_
  refine r_aload_n F rfl rfl dL_law_1070 rfl ?_
  refine r_iload_n F rfl rfl dL_law_1071 rfl ?_
  refine r_iconst F dL_law_1072 rfl ?_
  refine r_iadd F dL_law_1073 rfl ?_
  refine r_sld F X (by omega) (by omega) (by omega) dL_law_1074 rfl ?_
  refine r_eqz (z := x1) hx1.symm ?_
  refine r_callV F GC (c_X8_ticksToFrame l D cA B hB hO hi1 (by omega)) v_L_159 rfl hB.1 rfl ⟨(Nat.le_of_ble_eq_true rfl), (Nat.le_of_ble_eq_true rfl)⟩ ⟨Nat.le_trans (Nat.add_le_add_right hc0 _) (Nat.le_of_ble_eq_true rfl), Nat.le_trans (Nat.add_le_add_right hs0 _) (Nat.le_of_ble_eq_true rfl)⟩ (Nat.le_of_ble_eq_true rfl) rfl dL_law_1075 rfl (fun v L1 M1 n1 hp => ?_)
  have hc1 : cells + rm_X8_ticksToFrame.cells ≤ 1000 + 20 * k + 20 := Nat.add_le_add hc (Nat.le_of_ble_eq_true rfl)
  have hs1 : slots + rm_X8_ticksToFrame.slots ≤ 40000 + 1269 * k + 1269 := Nat.add_le_add hs (Nat.le_of_ble_eq_true rfl)
  have hc2 : cells + rm_X8_ticksToFrame.cells ≤ 500000 := by omega
  have hs2 : slots + rm_X8_ticksToFrame.slots ≤ 5000000 := by omega
  obtain ⟨q1, q2, q3, q4⟩ := hp
  subst q1; subst q2; subst q4
  have cF : ∀ q, y + 41 ≤ q → M1 q = mem q := fun q qa => by
      rw [← q3]
      split
      · split
        · rfl
        · exact (B_fra_f (by omega) _ _ _).trans (R_cp_o (by omega))
      · rfl
  have c1 : ∀ q, y + 49 ≤ q → q < y + 58 → M1 q = mem q := fun q qa _ => cF q (by omega)
  have cB : ja_BO M1 y sl (500 * (k : Int) + 500) := by
      rw [← q3]
      split
      · split
        · exact BO_cg (by omega) hO (fun _ _ _ => rfl) (fun _ _ _ _ _ _ _ => rfl)
        · exact BO_fore (by omega) hO (fun i o hi ho => by have := hso i o hi ho; omega) (B_fra_RO _ _ _ _ (R_cp_RO hO.1 hO.2.1.choose_spec (by omega)) (by omega)) (fun q hq => (B_fra_f (by omega) _ _ _).trans (R_cp_o (by omega)))
      · exact BO_cg (by omega) hO (fun _ _ _ => rfl) (fun _ _ _ _ _ _ _ => rfl)
  refine r_pop F rfl dL_law_1078 rfl ?_
  refine r_mem (mem' := ja_rw M1 (y + 49 + 1) (mem (y + 49 + 1))) (by rw [← c1 (y + 49 + 1) (by omega) (by omega), ja_rw_self]) ?_
  have hTO1 : N_TO M1 (y + 49) := N_TO_c (by rw [c1 _ (by omega) (by omega)]) (c1 _ (by omega) (by omega)) hTO
  have hz1 : ∀ j, 0 ≤ M1 (y + 49 + 4) j ∧ M1 (y + 49 + 4) j ≤ 1 := fun j => by rw [c1 _ (by omega) (by omega)]; exact hz4 j
  refine r_aload_n F rfl rfl dL_law_1079 rfl ?_
  refine r_aload_n F rfl rfl dL_law_1080 rfl ?_
  refine r_iload_n F rfl rfl dL_law_1081 rfl ?_
  refine r_iconst F dL_law_1082 rfl ?_
  refine r_iadd F dL_law_1083 rfl ?_
  refine r_sld F X (by omega) (by omega) (by omega) dL_law_1084 rfl ?_
  refine r_eqz (z := x1) hx1.symm ?_
  refine r_callV F GC (c_X9_ticksToFrame l D cA B hM hN (by omega) hi1) v_L_162 rfl hM.1 rfl ⟨(Nat.le_of_ble_eq_true rfl), (Nat.le_of_ble_eq_true rfl)⟩ ⟨Nat.le_trans (Nat.add_le_add_right hc2 _) (Nat.le_of_ble_eq_true rfl), Nat.le_trans (Nat.add_le_add_right hs2 _) (Nat.le_of_ble_eq_true rfl)⟩ (Nat.le_of_ble_eq_true rfl) rfl dL_law_1085 rfl (fun v L2 M2 n2 hp => ?_)
  obtain ⟨q5, q6, q8, G2, hg, q7⟩ := hp
  subst q5; subst q6; subst q8
  have hIn := In_step2 hSOK h q7.symm (fun q hq => cF q (by omega)) (by rw [cF _ (by omega)]) (cF _ (by omega)) cB hg.f (hN.mono (by omega)) (by
      rw [← q3]
      split
      · split
        · exact hT
        · exact hSOK.1 mem _ _ _ _ (fun q qa qb => (B_fra_f (by omega) _ _ _).trans (R_cp_o (by omega))) (fun _ _ => rfl) hT
      · exact hT)
  refine r_pop F rfl dL_law_1088 rfl ?_
  refine r_goto F (tgt := 1226) dL_law_1089 (by decide) ?_
  exact J _ _ _ _ _ _ hIn (Nat.le_trans (Nat.add_le_add_left ((Nat.le_of_ble_eq_true rfl) : rm_X9_ticksToFrame.cells ≤ 0) _) hc1) (Nat.le_trans (Nat.add_le_add_left ((Nat.le_of_ble_eq_true rfl) : rm_X9_ticksToFrame.slots ≤ 0) _) hs1)
set_option maxRecDepth 100000 in
set_option maxHeartbeats 800000 in
theorem K_36 {C : ja_C} {D : va_G} {cA : Nat → ClassId} {l : Launch} {B b L y n cells slots k : Nat} {i : Int} {lay : ja_Y} {mem : ja_M} {sl : Nat → Option Nat} {xs : Nat → Int32} (F : ja_F C RL cL_law 4 room_1) (GC : ja_G C l D cA B) (X : ja_X C b L xs) (hL : L ≤ 2560) (hi : i = 5 * (k : Int)) (hk : 5 * k + 5 ≤ L) (h : L_In S1 lay mem n y sl (500 * (k : Int))) (hc : cells ≤ 1000 + 20 * k) (hs : slots ≤ 40000 + 1269 * k) (J : ∀ (lay2 : ja_Y) (mem2 : ja_M) (n2 : Nat) (sl2 : Nat → Option Nat) (cells2 slots2 : Nat), L_In S1 lay2 mem2 n2 y sl2 (500 * (k : Int) + 500) → cells2 ≤ 1000 + 20 * k + 20 → slots2 ≤ 40000 + 1269 * k + 1269 → ja_W C cells2 slots2 lay2 mem2 n2 1226 [some (.ref b), some (.ref y), some (.ref (y + 49)), some (.int (ja_I i))] []) : ja_W C cells slots lay mem n 1092 [some (.ref b), some (.ref y), some (.ref (y + 49)), some (.int (ja_I i))] [] := by
  obtain ⟨⟨hB, hO, hn, hso, hsd⟩, ⟨hM, hN, hTO, hz4, hkp⟩, hT, hx, hsl⟩ := id h
  have hSOK : S_ok S1 := S1_ok
  have hk512 : k ≤ 512 := by omega
  have hc0 : cells ≤ 500000 := by omega
  have hs0 : slots ≤ 5000000 := by omega
  obtain ⟨x1, hx1⟩ : ∃ z, z = (xs (Int.toNat (i + 1))).toInt := ⟨_, rfl⟩
  have hi1 : ja_in x1 := by rw [hx1]; exact ja_range _
  obtain ⟨i1a, i1b⟩ := id hi1
  refine r_aload_n F rfl rfl dL_law_1092 rfl ?_
  refine r_aload_n F rfl rfl dL_law_1093 rfl ?_
  refine r_iload_n F rfl rfl dL_law_1094 rfl ?_
  refine r_iconst F dL_law_1095 rfl ?_
  refine r_iadd F dL_law_1096 rfl ?_
  refine r_sld F X (by omega) (by omega) (by omega) dL_law_1097 rfl ?_
  refine r_eqz (z := x1) hx1.symm ?_
  refine r_callV F GC (c_X8_append l D cA B hB hO hi1) v_L_163 rfl hB.1 rfl ⟨(Nat.le_of_ble_eq_true rfl), (Nat.le_of_ble_eq_true rfl)⟩ ⟨Nat.le_trans (Nat.add_le_add_right hc0 _) (Nat.le_of_ble_eq_true rfl), Nat.le_trans (Nat.add_le_add_right hs0 _) (Nat.le_of_ble_eq_true rfl)⟩ (Nat.le_of_ble_eq_true rfl) rfl dL_law_1098 rfl (fun v L1 M1 n1 hp => ?_)
  have hc1 : cells + rm_X8_append.cells ≤ 1000 + 20 * k + 20 := Nat.add_le_add hc (Nat.le_of_ble_eq_true rfl)
  have hs1 : slots + rm_X8_append.slots ≤ 40000 + 1269 * k + 1269 := Nat.add_le_add hs (Nat.le_of_ble_eq_true rfl)
  have hc2 : cells + rm_X8_append.cells ≤ 500000 := by omega
  have hs2 : slots + rm_X8_append.slots ≤ 5000000 := by omega
  obtain ⟨q1, q2, q3, q4⟩ := hp
  subst q1; subst q2; subst q4
  have c1 : ∀ q, y + 49 ≤ q → q < y + 58 → M1 q = mem q := fun q qa qb => by
    rw [← q3]
    split
    · rw [ja_up_row (by omega), ja_up_row (by omega)]
    · rfl
  refine r_pop F rfl dL_law_1101 rfl ?_
  refine r_mem (mem' := ja_rw M1 (y + 49 + 1) (mem (y + 49 + 1))) (by rw [← c1 (y + 49 + 1) (by omega) (by omega), ja_rw_self]) ?_
  have hTO1 : N_TO M1 (y + 49) := N_TO_c (by rw [c1 _ (by omega) (by omega)]) (c1 _ (by omega) (by omega)) hTO
  have hz1 : ∀ j, 0 ≤ M1 (y + 49 + 4) j ∧ M1 (y + 49 + 4) j ≤ 1 := fun j => by rw [c1 _ (by omega) (by omega)]; exact hz4 j
  refine r_aload_n F rfl rfl dL_law_1102 rfl ?_
  refine r_aload_n F rfl rfl dL_law_1103 rfl ?_
  refine r_iload_n F rfl rfl dL_law_1104 rfl ?_
  refine r_iconst F dL_law_1105 rfl ?_
  refine r_iadd F dL_law_1106 rfl ?_
  refine r_sld F X (by omega) (by omega) (by omega) dL_law_1107 rfl ?_
  refine r_eqz (z := x1) hx1.symm ?_
  refine r_callV F GC (c_X9_append l D cA B hM hTO1 hi1) v_L_166 rfl hM.1 rfl ⟨(Nat.le_of_ble_eq_true rfl), (Nat.le_of_ble_eq_true rfl)⟩ ⟨Nat.le_trans (Nat.add_le_add_right hc2 _) (Nat.le_of_ble_eq_true rfl), Nat.le_trans (Nat.add_le_add_right hs2 _) (Nat.le_of_ble_eq_true rfl)⟩ (Nat.le_of_ble_eq_true rfl) rfl dL_law_1108 rfl (fun v L2 M2 n2 hp => ?_)
  obtain ⟨q5, q6, q7, q8⟩ := hp
  subst q5; subst q6; subst q8
  have hIn := In_append hSOK h q3
  rw [q7] at hIn
  refine r_pop F rfl dL_law_1111 rfl ?_
  refine r_goto F (tgt := 1226) dL_law_1112 (by decide) ?_
  exact J _ _ _ _ _ _ hIn (Nat.le_trans (Nat.add_le_add_left ((Nat.le_of_ble_eq_true rfl) : rm_X9_append.cells ≤ 0) _) hc1) (Nat.le_trans (Nat.add_le_add_left ((Nat.le_of_ble_eq_true rfl) : rm_X9_append.slots ≤ 0) _) hs1)
set_option maxRecDepth 100000 in
set_option maxHeartbeats 800000 in
theorem K_37 {C : ja_C} {D : va_G} {cA : Nat → ClassId} {l : Launch} {B b L y n cells slots k : Nat} {i : Int} {lay : ja_Y} {mem : ja_M} {sl : Nat → Option Nat} {xs : Nat → Int32} (F : ja_F C RL cL_law 4 room_1) (GC : ja_G C l D cA B) (X : ja_X C b L xs) (hL : L ≤ 2560) (hi : i = 5 * (k : Int)) (hk : 5 * k + 5 ≤ L) (h : L_In S1 lay mem n y sl (500 * (k : Int))) (hc : cells ≤ 1000 + 20 * k) (hs : slots ≤ 40000 + 1269 * k) (J : ∀ (lay2 : ja_Y) (mem2 : ja_M) (n2 : Nat) (sl2 : Nat → Option Nat) (cells2 slots2 : Nat), L_In S1 lay2 mem2 n2 y sl2 (500 * (k : Int) + 500) → cells2 ≤ 1000 + 20 * k + 20 → slots2 ≤ 40000 + 1269 * k + 1269 → ja_W C cells2 slots2 lay2 mem2 n2 1226 [some (.ref b), some (.ref y), some (.ref (y + 49)), some (.int (ja_I i))] []) : ja_W C cells slots lay mem n 1115 [some (.ref b), some (.ref y), some (.ref (y + 49)), some (.int (ja_I i))] [] := by
  obtain ⟨⟨hB, hO, hn, hso, hsd⟩, ⟨hM, hN, hTO, hz4, hkp⟩, hT, hx, hsl⟩ := id h
  have hSOK : S_ok S1 := S1_ok
  have hk512 : k ≤ 512 := by omega
  have hc0 : cells ≤ 500000 := by omega
  have hs0 : slots ≤ 5000000 := by omega
  refine r_aload_n F rfl rfl dL_law_1115 rfl ?_
  refine r_callV F GC (c_X8_clearText l D cA B hB hO ) v_L_167 rfl hB.1 rfl ⟨(Nat.le_of_ble_eq_true rfl), (Nat.le_of_ble_eq_true rfl)⟩ ⟨Nat.le_trans (Nat.add_le_add_right hc0 _) (Nat.le_of_ble_eq_true rfl), Nat.le_trans (Nat.add_le_add_right hs0 _) (Nat.le_of_ble_eq_true rfl)⟩ (Nat.le_of_ble_eq_true rfl) rfl dL_law_1116 rfl (fun v L1 M1 n1 hp => ?_)
  have hc1 : cells + rm_X8_clearText.cells ≤ 1000 + 20 * k + 20 := Nat.add_le_add hc (Nat.le_of_ble_eq_true rfl)
  have hs1 : slots + rm_X8_clearText.slots ≤ 40000 + 1269 * k + 1269 := Nat.add_le_add hs (Nat.le_of_ble_eq_true rfl)
  have hc2 : cells + rm_X8_clearText.cells ≤ 500000 := by omega
  have hs2 : slots + rm_X8_clearText.slots ≤ 5000000 := by omega
  obtain ⟨q1, q2, q3, q4⟩ := hp
  subst q1; subst q2; subst q4
  have c1 : ∀ q, y + 49 ≤ q → q < y + 58 → M1 q = mem q := fun q qa qb => by rw [← q3]; exact ja_up_row (by omega)
  refine r_pop F rfl dL_law_1119 rfl ?_
  refine r_mem (mem' := ja_rw M1 (y + 49 + 1) (mem (y + 49 + 1))) (by rw [← c1 (y + 49 + 1) (by omega) (by omega), ja_rw_self]) ?_
  have hTO1 : N_TO M1 (y + 49) := N_TO_c (by rw [c1 _ (by omega) (by omega)]) (c1 _ (by omega) (by omega)) hTO
  have hz1 : ∀ j, 0 ≤ M1 (y + 49 + 4) j ∧ M1 (y + 49 + 4) j ≤ 1 := fun j => by rw [c1 _ (by omega) (by omega)]; exact hz4 j
  refine r_aload_n F rfl rfl dL_law_1120 rfl ?_
  refine r_callV F GC (c_X9_clearText l D cA B hM hTO1) v_L_170 rfl hM.1 rfl ⟨(Nat.le_of_ble_eq_true rfl), (Nat.le_of_ble_eq_true rfl)⟩ ⟨Nat.le_trans (Nat.add_le_add_right hc2 _) (Nat.le_of_ble_eq_true rfl), Nat.le_trans (Nat.add_le_add_right hs2 _) (Nat.le_of_ble_eq_true rfl)⟩ (Nat.le_of_ble_eq_true rfl) rfl dL_law_1121 rfl (fun v L2 M2 n2 hp => ?_)
  obtain ⟨q5, q6, q7, q8⟩ := hp
  subst q5; subst q6; subst q8
  have hIn := In_clear hSOK h q3
  rw [q7] at hIn
  refine r_pop F rfl dL_law_1124 rfl ?_
  refine r_goto F (tgt := 1226) dL_law_1125 (by decide) ?_
  exact J _ _ _ _ _ _ hIn (Nat.le_trans (Nat.add_le_add_left ((Nat.le_of_ble_eq_true rfl) : rm_X9_clearText.cells ≤ 0) _) hc1) (Nat.le_trans (Nat.add_le_add_left ((Nat.le_of_ble_eq_true rfl) : rm_X9_clearText.slots ≤ 0) _) hs1)
set_option maxRecDepth 100000 in
set_option maxHeartbeats 800000 in
theorem K_38 {C : ja_C} {D : va_G} {cA : Nat → ClassId} {l : Launch} {B b L y n cells slots k : Nat} {i : Int} {lay : ja_Y} {mem : ja_M} {sl : Nat → Option Nat} {xs : Nat → Int32} (F : ja_F C RL cL_law 4 room_1) (GC : ja_G C l D cA B) (X : ja_X C b L xs) (hL : L ≤ 2560) (hi : i = 5 * (k : Int)) (hk : 5 * k + 5 ≤ L) (h : L_In S1 lay mem n y sl (500 * (k : Int))) (hc : cells ≤ 1000 + 20 * k) (hs : slots ≤ 40000 + 1269 * k) (J : ∀ (lay2 : ja_Y) (mem2 : ja_M) (n2 : Nat) (sl2 : Nat → Option Nat) (cells2 slots2 : Nat), L_In S1 lay2 mem2 n2 y sl2 (500 * (k : Int) + 500) → cells2 ≤ 1000 + 20 * k + 20 → slots2 ≤ 40000 + 1269 * k + 1269 → ja_W C cells2 slots2 lay2 mem2 n2 1226 [some (.ref b), some (.ref y), some (.ref (y + 49)), some (.int (ja_I i))] []) : ja_W C cells slots lay mem n 1128 [some (.ref b), some (.ref y), some (.ref (y + 49)), some (.int (ja_I i))] [] := by
  obtain ⟨⟨hB, hO, hn, hso, hsd⟩, ⟨hM, hN, hTO, hz4, hkp⟩, hT, hx, hsl⟩ := id h
  have hSOK : S_ok S1 := S1_ok
  have hk512 : k ≤ 512 := by omega
  have hc0 : cells ≤ 500000 := by omega
  have hs0 : slots ≤ 5000000 := by omega
  refine r_aload_n F rfl rfl dL_law_1128 rfl ?_
  refine r_callV F GC (c_X8_faultPosition l D cA B hB hO ) v_L_171 rfl hB.1 rfl ⟨(Nat.le_of_ble_eq_true rfl), (Nat.le_of_ble_eq_true rfl)⟩ ⟨Nat.le_trans (Nat.add_le_add_right hc0 _) (Nat.le_of_ble_eq_true rfl), Nat.le_trans (Nat.add_le_add_right hs0 _) (Nat.le_of_ble_eq_true rfl)⟩ (Nat.le_of_ble_eq_true rfl) rfl dL_law_1129 rfl (fun v L1 M1 n1 hp => ?_)
  have hc1 : cells + rm_X8_faultPosition.cells ≤ 1000 + 20 * k + 20 := Nat.add_le_add hc (Nat.le_of_ble_eq_true rfl)
  have hs1 : slots + rm_X8_faultPosition.slots ≤ 40000 + 1269 * k + 1269 := Nat.add_le_add hs (Nat.le_of_ble_eq_true rfl)
  have hc2 : cells + rm_X8_faultPosition.cells ≤ 500000 := by omega
  have hs2 : slots + rm_X8_faultPosition.slots ≤ 5000000 := by omega
  obtain ⟨q1, q2, q3, q4⟩ := hp
  subst q1; subst q2; subst q4
  obtain ⟨u1, u2, u3⟩ := B_rd_all hO.2.2.1 hO.2.2.2.1
  obtain ⟨u4, u5⟩ := B_rd_x hO.2.2.1 hO.2.2.2.1
  rw [q3] at u1 u2 u3 u4 u5
  have cB : ja_BO M1 y sl (500 * (k : Int) + 500) := BO_text (by omega) hO (fun i o hi ho => by have := hso i o hi ho; omega) (ja_RO_all (fun q qa qb => u3 q (by omega)) (hO.1.mono (by omega))) u2 u1 (fun q hq => u3 q (by omega))
  have hS1 : S1 M1 (y + 1) (mem (y + 49 + 1)) := hSOK.1 mem M1 _ _ _ (fun q qa qb => u3 q (by omega)) (fun _ _ => rfl) hT
  have c1 : ∀ q, y + 49 ≤ q → q < y + 58 → M1 q = mem q := fun q qa _ => u3 q (by omega)
  refine r_pop F rfl dL_law_1132 rfl ?_
  refine r_mem (mem' := ja_rw M1 (y + 49 + 1) (mem (y + 49 + 1))) (by rw [← c1 (y + 49 + 1) (by omega) (by omega), ja_rw_self]) ?_
  have hTO1 : N_TO M1 (y + 49) := N_TO_c (by rw [c1 _ (by omega) (by omega)]) (c1 _ (by omega) (by omega)) hTO
  have hz1 : ∀ j, 0 ≤ M1 (y + 49 + 4) j ∧ M1 (y + 49 + 4) j ≤ 1 := fun j => by rw [c1 _ (by omega) (by omega)]; exact hz4 j
  refine r_aload_n F rfl rfl dL_law_1133 rfl ?_
  refine r_callV F GC (c_X9_faultPosition l D cA B hM hTO1) v_L_174 rfl hM.1 rfl ⟨(Nat.le_of_ble_eq_true rfl), (Nat.le_of_ble_eq_true rfl)⟩ ⟨Nat.le_trans (Nat.add_le_add_right hc2 _) (Nat.le_of_ble_eq_true rfl), Nat.le_trans (Nat.add_le_add_right hs2 _) (Nat.le_of_ble_eq_true rfl)⟩ (Nat.le_of_ble_eq_true rfl) rfl dL_law_1134 rfl (fun v L2 M2 n2 hp => ?_)
  obtain ⟨q5, q6, q7, q8⟩ := hp
  subst q5; subst q6; subst q8
  have hIn := In_step2 hSOK h q7 (fun q hq => u3 q (by omega)) u4 u5 cB N_tG.f (hN.mono (by omega)) hS1
  refine r_pop F rfl dL_law_1137 rfl ?_
  refine r_goto F (tgt := 1226) dL_law_1138 (by decide) ?_
  exact J _ _ _ _ _ _ hIn (Nat.le_trans (Nat.add_le_add_left ((Nat.le_of_ble_eq_true rfl) : rm_X9_faultPosition.cells ≤ 0) _) hc1) (Nat.le_trans (Nat.add_le_add_left ((Nat.le_of_ble_eq_true rfl) : rm_X9_faultPosition.slots ≤ 0) _) hs1)
set_option maxRecDepth 100000 in
set_option maxHeartbeats 800000 in
theorem K_39 {C : ja_C} {D : va_G} {cA : Nat → ClassId} {l : Launch} {B b L y n cells slots k : Nat} {i : Int} {lay : ja_Y} {mem : ja_M} {sl : Nat → Option Nat} {xs : Nat → Int32} (F : ja_F C RL cL_law 4 room_1) (GC : ja_G C l D cA B) (X : ja_X C b L xs) (hL : L ≤ 2560) (hi : i = 5 * (k : Int)) (hk : 5 * k + 5 ≤ L) (h : L_In S1 lay mem n y sl (500 * (k : Int))) (hc : cells ≤ 1000 + 20 * k) (hs : slots ≤ 40000 + 1269 * k) (J : ∀ (lay2 : ja_Y) (mem2 : ja_M) (n2 : Nat) (sl2 : Nat → Option Nat) (cells2 slots2 : Nat), L_In S1 lay2 mem2 n2 y sl2 (500 * (k : Int) + 500) → cells2 ≤ 1000 + 20 * k + 20 → slots2 ≤ 40000 + 1269 * k + 1269 → ja_W C cells2 slots2 lay2 mem2 n2 1226 [some (.ref b), some (.ref y), some (.ref (y + 49)), some (.int (ja_I i))] []) : ja_W C cells slots lay mem n 1141 [some (.ref b), some (.ref y), some (.ref (y + 49)), some (.int (ja_I i))] [] := by
  obtain ⟨⟨hB, hO, hn, hso, hsd⟩, ⟨hM, hN, hTO, hz4, hkp⟩, hT, hx, hsl⟩ := id h
  have hSOK : S_ok S1 := S1_ok
  have hk512 : k ≤ 512 := by omega
  have hc0 : cells ≤ 500000 := by omega
  have hs0 : slots ≤ 5000000 := by omega
  refine r_aload_n F rfl rfl dL_law_1141 rfl ?_
  refine r_callV F GC (c_X8_schedule l D cA B hB hO (by omega)) v_L_175 rfl hB.1 rfl ⟨(Nat.le_of_ble_eq_true rfl), (Nat.le_of_ble_eq_true rfl)⟩ ⟨Nat.le_trans (Nat.add_le_add_right hc0 _) (Nat.le_of_ble_eq_true rfl), Nat.le_trans (Nat.add_le_add_right hs0 _) (Nat.le_of_ble_eq_true rfl)⟩ (Nat.le_of_ble_eq_true rfl) rfl dL_law_1142 rfl (fun v L1 M1 n1 hp => ?_)
  have hc1 : cells + rm_X8_schedule.cells ≤ 1000 + 20 * k + 20 := Nat.add_le_add hc (Nat.le_of_ble_eq_true rfl)
  have hs1 : slots + rm_X8_schedule.slots ≤ 40000 + 1269 * k + 1269 := Nat.add_le_add hs (Nat.le_of_ble_eq_true rfl)
  have hc2 : cells + rm_X8_schedule.cells ≤ 500000 := by omega
  have hs2 : slots + rm_X8_schedule.slots ≤ 5000000 := by omega
  obtain ⟨q1, q2, q3, q4⟩ := hp
  subst q1; subst q2; subst q4
  obtain ⟨u0, u2, u1⟩ := B_sc_RO hO.1 hO.2.2.1 hO.2.2.2.1
  obtain ⟨u4, u5⟩ := B_sc_x hO.2.2.1 hO.2.2.2.1
  have u3 : ∀ q, (q < y + 16 ∨ (y + 21 ≤ q ∧ q < y + 42) ∨ y + 49 ≤ q) → (B_sc mem y).2 q = mem q := fun q hq => B_sc_f hO.2.2.1 hO.2.2.2.1 hq
  have hxG : L_x mem y M1 (y + 49) := by
    unfold L_x
    rw [← q3, u3 (y + 49) (by omega), u3 (y + 49 + 5) (by omega)]
    exact hx
  rw [q3] at u0 u1 u2 u3 u4 u5
  have cB : ja_BO M1 y sl (500 * (k : Int) + 500) := BO_text (by omega) hO (fun i o hi ho => by have := hso i o hi ho; omega) (u0.mono (by omega)) u2 u1 (fun q hq => u3 q (by omega))
  have c1 : ∀ q, y + 49 ≤ q → q < y + 58 → M1 q = mem q := fun q qa _ => u3 q (by omega)
  refine r_pop F rfl dL_law_1145 rfl ?_
  refine r_mem (mem' := ja_rw M1 (y + 49 + 1) (mem (y + 49 + 1))) (by rw [← c1 (y + 49 + 1) (by omega) (by omega), ja_rw_self]) ?_
  have hTO1 : N_TO M1 (y + 49) := N_TO_c (by rw [c1 _ (by omega) (by omega)]) (c1 _ (by omega) (by omega)) hTO
  have hz1 : ∀ j, 0 ≤ M1 (y + 49 + 4) j ∧ M1 (y + 49 + 4) j ≤ 1 := fun j => by rw [c1 _ (by omega) (by omega)]; exact hz4 j
  refine r_aload_n F rfl rfl dL_law_1146 rfl ?_
  refine r_callV F GC (c_X9_schedule l D cA B hM hN.1 hTO1) v_L_178 rfl hM.1 rfl ⟨(Nat.le_of_ble_eq_true rfl), (Nat.le_of_ble_eq_true rfl)⟩ ⟨Nat.le_trans (Nat.add_le_add_right hc2 _) (Nat.le_of_ble_eq_true rfl), Nat.le_trans (Nat.add_le_add_right hs2 _) (Nat.le_of_ble_eq_true rfl)⟩ (Nat.le_of_ble_eq_true rfl) rfl dL_law_1147 rfl (fun v L2 M2 n2 hp => ?_)
  obtain ⟨q5, q6, q7, q8⟩ := hp
  subst q5; subst q6; subst q8
  have hS1 := hSOK.2.2.2.2.2.2.2.2.1 mem M1 y (y + 49) (mem (y + 49 + 1)) _ hO.1 hO.2.2.1 hO.2.2.2.1 hN hTO1 hxG hT
  rw [q3] at hS1
  have hIn := In_step2 hSOK h q7 (fun q hq => u3 q (by omega)) u4 u5 cB N_tG.f ((N_sw_O hN hTO1).mono (by omega)) hS1
  refine r_pop F rfl dL_law_1150 rfl ?_
  refine r_goto F (tgt := 1226) dL_law_1151 (by decide) ?_
  exact J _ _ _ _ _ _ hIn (Nat.le_trans (Nat.add_le_add_left ((Nat.le_of_ble_eq_true rfl) : rm_X9_schedule.cells ≤ 0) _) hc1) (Nat.le_trans (Nat.add_le_add_left ((Nat.le_of_ble_eq_true rfl) : rm_X9_schedule.slots ≤ 0) _) hs1)
