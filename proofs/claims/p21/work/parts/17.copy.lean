abbrev rm_X6_copyFrom : Room := { frames := 0, cells := 0, slots := 0, locals := 0 }
set_option maxRecDepth 100000 in
set_option maxHeartbeats 4000000 in
theorem c_X6_copyFrom (l : Launch) (D : va_G) (cA : Nat → ClassId) (B : Nat) {lay : ja_Y} {mem : ja_M} {n : Nat} {s o : Nat} (hS : ja_LS lay s) (hSo : ja_LS lay o) (hO : ja_SO mem o) (hso : s ≠ o) : ja_Mt l D cA B yX6_copyFrom cX6_copyFrom 2 none rm_X6_copyFrom [.ref s, .ref o] lay mem n (ja_rd lay (S_cp mem s o) n (none)) := by
  refine ja_enter [some (.ref s), some (.ref o)] (by decide) (Nat.le_of_ble_eq_true rfl) (fun q hq => hq) (fun C F Rt G hnm => ?_)
  have hos : ¬ o = s := fun q => hso q.symm
  have h8 := hO.2.2.2.2.2.2.2.2
  refine r_aload_n F rfl rfl dX6_copyFrom_0 rfl ?_
  refine r_aload_n F rfl rfl dX6_copyFrom_1 rfl ?_
  refine r_getI F f_X6_9 hSo rfl dX6_copyFrom_2 rfl ?_
  refine r_putI F f_X6_9 hS rfl dX6_copyFrom_5 rfl ?_
  refine r_aload_n F rfl rfl dX6_copyFrom_8 rfl ?_
  refine r_aload_n F rfl rfl dX6_copyFrom_9 rfl ?_
  refine r_getI F f_X6_15 hSo rfl dX6_copyFrom_10 rfl ?_
  refine r_eqz (z := mem o 1) (by simp [ja_up]) ?_
  refine r_putI F f_X6_15 hS rfl dX6_copyFrom_13 rfl ?_
  refine r_aload_n F rfl rfl dX6_copyFrom_16 rfl ?_
  refine r_aload_n F rfl rfl dX6_copyFrom_17 rfl ?_
  refine r_getI F f_X6_18 hSo rfl dX6_copyFrom_18 rfl ?_
  refine r_eqz (z := mem o 2) (by simp [ja_up]) ?_
  refine r_putI F f_X6_18 hS rfl dX6_copyFrom_21 rfl ?_
  refine r_aload_n F rfl rfl dX6_copyFrom_24 rfl ?_
  refine r_aload_n F rfl rfl dX6_copyFrom_25 rfl ?_
  refine r_getI F f_X6_21 hSo rfl dX6_copyFrom_26 rfl ?_
  refine r_eqz (z := mem o 3) (by simp [ja_up]) ?_
  refine r_putI F f_X6_21 hS rfl dX6_copyFrom_29 rfl ?_
  refine r_aload_n F rfl rfl dX6_copyFrom_32 rfl ?_
  refine r_aload_n F rfl rfl dX6_copyFrom_33 rfl ?_
  refine r_getI F f_X6_24 hSo rfl dX6_copyFrom_34 rfl ?_
  refine r_eqz (z := mem o 4) (by simp [ja_up]) ?_
  refine r_putI F f_X6_24 hS rfl dX6_copyFrom_37 rfl ?_
  refine r_aload_n F rfl rfl dX6_copyFrom_40 rfl ?_
  refine r_aload_n F rfl rfl dX6_copyFrom_41 rfl ?_
  refine r_getI F f_X6_27 hSo rfl dX6_copyFrom_42 rfl ?_
  refine r_eqz (z := mem o 5) (by simp [ja_up]) ?_
  refine r_putI F f_X6_27 hS rfl dX6_copyFrom_45 rfl ?_
  refine r_aload_n F rfl rfl dX6_copyFrom_48 rfl ?_
  refine r_aload_n F rfl rfl dX6_copyFrom_49 rfl ?_
  refine r_getI F f_X6_30 hSo rfl dX6_copyFrom_50 rfl ?_
  refine r_eqz (z := mem o 6) (by simp [ja_up]) ?_
  refine r_putI F f_X6_30 hS rfl dX6_copyFrom_53 rfl ?_
  refine r_aload_n F rfl rfl dX6_copyFrom_56 rfl ?_
  refine r_aload_n F rfl rfl dX6_copyFrom_57 rfl ?_
  refine r_getI F f_X6_33 hSo rfl dX6_copyFrom_58 rfl ?_
  refine r_eqz (z := mem o 7) (by simp [ja_up]) ?_
  refine r_putI F f_X6_33 hS rfl dX6_copyFrom_61 rfl ?_
  refine r_aload_n F rfl rfl dX6_copyFrom_64 rfl ?_
  refine r_aload_n F rfl rfl dX6_copyFrom_65 rfl ?_
  refine r_getI F f_X6_36 hSo rfl dX6_copyFrom_66 rfl ?_
  refine r_eqz (z := mem o 8) (by simp [ja_up]) ?_
  refine r_putZ F (by omega) f_X6_36 hS rfl dX6_copyFrom_69 rfl ?_
  exact r_vret F Rt dX6_copyFrom_72 (by decide) ⟨rfl, rfl, rfl, rfl⟩
abbrev rm_X5_copyFrom : Room := { frames := 3, cells := 0, slots := 0, locals := 67 }
set_option maxRecDepth 100000 in
set_option maxHeartbeats 4000000 in
theorem c_X5_copyFrom (l : Launch) (D : va_G) (cA : Nat → ClassId) (B : Nat) {lay : ja_Y} {mem : ja_M} {n : Nat} {b o : Nat} {t : Int} (hR : ja_LR lay b) (hRo : ja_LR lay o) (hO : ja_RO mem o t) (hbo : b + 20 ≤ o ∨ o + 20 ≤ b) : ja_Mt l D cA B yX5_copyFrom cX5_copyFrom 2 none rm_X5_copyFrom [.ref b, .ref o] lay mem n (ja_rd lay (R_cp mem b o) n (none)) := by
  refine ja_enter [some (.ref b), some (.ref o)] (by decide) (Nat.le_of_ble_eq_true rfl) (fun q hq => hq) (fun C F Rt G hnm => ?_)
  obtain ⟨g1, g2, g3, g4, g5, g6, g7, g8, g9, g10, g11, g12⟩ := id hO
  have a4 := g4.1
  have e5 : (R_c5 mem b o) (o + 15) 4 = mem (o + 15) 4 := by rw [R_c5_o (by omega)]
  refine r_aload_n F rfl rfl dX5_copyFrom_0 rfl ?_
  refine r_getR F f_X5_12 (hR.1) rfl dX5_copyFrom_1 rfl ?_
  refine r_aload_n F rfl rfl dX5_copyFrom_4 rfl ?_
  refine r_getR F f_X5_12 (hRo.1) rfl dX5_copyFrom_5 rfl ?_
  refine r_callV F G (c_X6_copyFrom _ _ _ _ (ja_LR_1 hR) (ja_LR_1 hRo) g1 (by omega)) v_X5_53 rfl (ja_LR_1 hR) rfl (by decide) (by decide) (Nat.le_of_ble_eq_true rfl) rfl dX5_copyFrom_8 rfl (fun v lay' mem' n' hp => ?_)
  obtain ⟨q1, q2, q3, q4⟩ := hp
  subst q1; subst q2; subst q3; subst q4
  refine r_mem (mem' := R_c1 mem b o) rfl ?_
  refine r_aload_n F rfl rfl dX5_copyFrom_11 rfl ?_
  refine r_getR F f_X5_21 (hR.1) rfl dX5_copyFrom_12 rfl ?_
  refine r_aload_n F rfl rfl dX5_copyFrom_15 rfl ?_
  refine r_getR F f_X5_21 (hRo.1) rfl dX5_copyFrom_16 rfl ?_
  refine r_callV F G (c_X3_copyFrom _ _ _ _ (ja_LR_2 hR) (ja_LR_2 hRo)) v_X5_57 rfl ((ja_LR_2 hR).1) rfl (by decide) (by decide) (Nat.le_of_ble_eq_true rfl) rfl dX5_copyFrom_19 rfl (fun v lay' mem' n' hp => ?_)
  obtain ⟨q1, q2, q3, q4⟩ := hp
  subst q1; subst q2; subst q3; subst q4
  refine r_mem (mem' := R_c2 mem b o) rfl ?_
  refine r_aload_n F rfl rfl dX5_copyFrom_22 rfl ?_
  refine r_getR F f_X5_28 (hR.1) rfl dX5_copyFrom_23 rfl ?_
  refine r_aload_n F rfl rfl dX5_copyFrom_26 rfl ?_
  refine r_getR F f_X5_28 (hRo.1) rfl dX5_copyFrom_27 rfl ?_
  refine r_callV F G (c_X7_copyFrom _ _ _ _ (ja_LR_6 hR) (ja_LR_6 hRo) (by omega)) v_X5_60 rfl ((ja_LR_6 hR).1) rfl (by decide) (by decide) (Nat.le_of_ble_eq_true rfl) rfl dX5_copyFrom_30 rfl (fun v lay' mem' n' hp => ?_)
  obtain ⟨q1, q2, q3, q4⟩ := hp
  subst q1; subst q2; subst q3; subst q4
  refine r_mem (mem' := R_c3 mem b o) rfl ?_
  refine r_aload_n F rfl rfl dX5_copyFrom_33 rfl ?_
  refine r_getR F f_X5_35 (hR.1) rfl dX5_copyFrom_34 rfl ?_
  refine r_aload_n F rfl rfl dX5_copyFrom_37 rfl ?_
  refine r_getR F f_X5_35 (hRo.1) rfl dX5_copyFrom_38 rfl ?_
  refine r_callV F G (c_X4_copyFrom _ _ _ _ (ja_LR_9 hR) (ja_LR_9 hRo) (by omega)) v_X5_63 rfl ((ja_LR_9 hR).1) rfl (by decide) (by decide) (Nat.le_of_ble_eq_true rfl) rfl dX5_copyFrom_41 rfl (fun v lay' mem' n' hp => ?_)
  obtain ⟨q1, q2, q3, q4⟩ := hp
  subst q1; subst q2; subst q3; subst q4
  refine r_mem (mem' := R_c4 mem b o) rfl ?_
  refine r_aload_n F rfl rfl dX5_copyFrom_44 rfl ?_
  refine r_getR F f_X5_42 (hR.1) rfl dX5_copyFrom_45 rfl ?_
  refine r_aload_n F rfl rfl dX5_copyFrom_48 rfl ?_
  refine r_getR F f_X5_42 (hRo.1) rfl dX5_copyFrom_49 rfl ?_
  refine r_callV F G (c_X2_copyFrom _ _ _ _ (ja_LR_14 hR) (ja_LR_14 hRo) (by omega)) v_X5_66 rfl (ja_LR_14 hR) rfl (by decide) (by decide) (Nat.le_of_ble_eq_true rfl) rfl dX5_copyFrom_52 rfl (fun v lay' mem' n' hp => ?_)
  obtain ⟨q1, q2, q3, q4⟩ := hp
  subst q1; subst q2; subst q3; subst q4
  refine r_mem (mem' := R_c5 mem b o) rfl ?_
  refine r_aload_n F rfl rfl dX5_copyFrom_55 rfl ?_
  refine r_getR F f_X5_49 (hR.1) rfl dX5_copyFrom_56 rfl ?_
  refine r_aload_n F rfl rfl dX5_copyFrom_59 rfl ?_
  refine r_getR F f_X5_49 (hRo.1) rfl dX5_copyFrom_60 rfl ?_
  refine r_callV F G (c_X1_copyFrom _ _ _ _ (ja_LR_15 hR) (ja_LR_15 hRo) (by rw [e5]; omega) (by omega)) v_X5_69 rfl ((ja_LR_15 hR).1) rfl (by decide) (by decide) (Nat.le_of_ble_eq_true rfl) rfl dX5_copyFrom_63 rfl (fun v lay' mem' n' hp => ?_)
  obtain ⟨q1, q2, q3, q4⟩ := hp
  subst q1; subst q2; subst q3; subst q4
  refine r_mem (mem' := R_c6 mem b o) rfl ?_
  refine r_aload_n F rfl rfl dX5_copyFrom_66 rfl ?_
  refine r_aload_n F rfl rfl dX5_copyFrom_67 rfl ?_
  refine r_getI F f_X5_72 (hRo.1) rfl dX5_copyFrom_68 rfl ?_
  refine r_eqz (z := (R_c6 mem b o) o 6) (by rfl) ?_
  refine r_putI F f_X5_72 (hR.1) rfl dX5_copyFrom_71 rfl ?_
  refine r_aload_n F rfl rfl dX5_copyFrom_74 rfl ?_
  refine r_aload_n F rfl rfl dX5_copyFrom_75 rfl ?_
  refine r_getI F f_X5_76 (hRo.1) rfl dX5_copyFrom_76 rfl ?_
  refine r_eqz (z := (R_c6 mem b o) o 7) (by rw [ja_up_a (by omega)]) ?_
  refine r_putZ F (by rw [R_c6_o (by omega)]; omega) f_X5_76 (hR.1) rfl dX5_copyFrom_79 rfl ?_
  refine r_aload_n F rfl rfl dX5_copyFrom_82 rfl ?_
  refine r_aload_n F rfl rfl dX5_copyFrom_83 rfl ?_
  refine r_getI F f_X5_80 (hRo.1) rfl dX5_copyFrom_84 rfl ?_
  refine r_eqz (z := (R_c6 mem b o) o 8) (by rw [ja_up_a (by omega), ja_up_a (by omega)]) ?_
  refine r_putI F f_X5_80 (hR.1) rfl dX5_copyFrom_87 rfl ?_
  exact r_vret F Rt dX5_copyFrom_90 (by decide) ⟨rfl, rfl, rfl, rfl⟩
