set_option maxRecDepth 100000 in
set_option maxHeartbeats 800000 in
theorem K_15 {C : ja_C} {D : va_G} {cA : Nat → ClassId} {l : Launch} {B b L y m n cells slots : Nat} {lay : ja_Y} {mem : ja_M} {xs : Nat → Int32} (F : ja_F C RL cL_law 4 room_1) (GC : ja_G C l D cA B) (X : ja_X C b L xs) (hL : L = 5) (h : L_fr lay mem n y m) (hc : cells ≤ 1000) (hs : slots ≤ 40000) (J : ∀ (lay2 : ja_Y) (mem2 : ja_M) (n2 cells2 slots2 : Nat), cells2 ≤ 2000 → slots2 ≤ 60000 → ja_W C cells2 slots2 lay2 mem2 n2 1227 [some (.ref b), some (.ref y), some (.ref m), some (.int (ja_I 0))] []) : ja_W C cells slots lay mem n 601 [some (.ref b), some (.ref y), some (.ref m), some (.int (ja_I 0))] [] := by
  obtain ⟨hm, hn, hB, hM, hS1, hS2, hz, hv, hmz⟩ := id h
  have hO := h.BO
  refine r_aload_n F rfl rfl dL_law_601 rfl ?_
  refine r_callV F GC (c_X8_next l D cA B hB hO ) v_L_78 rfl hB.1 rfl ⟨Nat.le_of_ble_eq_true rfl, Nat.le_of_ble_eq_true rfl⟩ ⟨Nat.le_trans (Nat.add_le_add_right hc _) (Nat.le_of_ble_eq_true rfl), Nat.le_trans (Nat.add_le_add_right hs _) (Nat.le_of_ble_eq_true rfl)⟩ (Nat.le_of_ble_eq_true rfl) rfl dL_law_602 rfl (fun v L1 M1 n1 hp => ?_)
  have hc1 : cells + rm_X8_next.cells ≤ 2000 := Nat.le_trans (Nat.add_le_add_right hc _) (Nat.le_of_ble_eq_true rfl)
  have hs1 : slots + rm_X8_next.slots ≤ 60000 := Nat.le_trans (Nat.add_le_add_right hs _) (Nat.le_of_ble_eq_true rfl)
  obtain ⟨q1, q2, q3, q4⟩ := hp
  subst q1; subst q2; subst q4
  have hf : ∀ q, m ≤ q → q < m + 9 → M1 q = mem q := fun q qa qb => by rw [← q3]
  refine r_mem (mem' := ja_rw M1 (m + 1) N_v0) (by rw [← hv, ← hf (m + 1) (by omega) (by omega), ja_rw_self]) ?_
  refine r_aload_n F rfl rfl dL_law_605 rfl ?_
  refine r_callV F GC (c_X9_next l D cA B hM N_v0_R) v_L_81 rfl hM.1 rfl ⟨Nat.le_of_ble_eq_true rfl, Nat.le_of_ble_eq_true rfl⟩ ⟨Nat.le_trans (Nat.add_le_add_right hc1 _) (Nat.le_of_ble_eq_true rfl), Nat.le_trans (Nat.add_le_add_right hs1 _) (Nat.le_of_ble_eq_true rfl)⟩ (Nat.le_of_ble_eq_true rfl) rfl dL_law_606 rfl (fun v L2 M2 n2 hp => ?_)
  obtain ⟨q5, -⟩ := hp
  subst q5
  exact r_same F (by rw [Z_z h (c := 9) (j := 6) (by omega) (by omega)]; rfl) dL_law_609 (by decide) (J _ _ _ _ _ hc1 hs1)
set_option maxRecDepth 100000 in
set_option maxHeartbeats 800000 in
theorem K_16 {C : ja_C} {D : va_G} {cA : Nat → ClassId} {l : Launch} {B b L y m n cells slots : Nat} {lay : ja_Y} {mem : ja_M} {xs : Nat → Int32} (F : ja_F C RL cL_law 4 room_1) (GC : ja_G C l D cA B) (X : ja_X C b L xs) (hL : L = 5) (h : L_fr lay mem n y m) (hc : cells ≤ 1000) (hs : slots ≤ 40000) (J : ∀ (lay2 : ja_Y) (mem2 : ja_M) (n2 cells2 slots2 : Nat), cells2 ≤ 2000 → slots2 ≤ 60000 → ja_W C cells2 slots2 lay2 mem2 n2 1227 [some (.ref b), some (.ref y), some (.ref m), some (.int (ja_I 0))] []) : ja_W C cells slots lay mem n 614 [some (.ref b), some (.ref y), some (.ref m), some (.int (ja_I 0))] [] := by
  obtain ⟨hm, hn, hB, hM, hS1, hS2, hz, hv, hmz⟩ := id h
  have hO := h.BO
  obtain ⟨x1, hx1⟩ : ∃ z, z = (xs (Int.toNat (0 + 1))).toInt := ⟨_, rfl⟩
  have hi1 : ja_in x1 := by rw [hx1]; exact ja_range _
  obtain ⟨i1a, i1b⟩ := id hi1
  refine r_aload_n F rfl rfl dL_law_614 rfl ?_
  refine r_aload_n F rfl rfl dL_law_615 rfl ?_
  refine r_iload_n F rfl rfl dL_law_616 rfl ?_
  refine r_iconst F dL_law_617 rfl ?_
  refine r_iadd F dL_law_618 rfl ?_
  refine r_sld F X (by omega) (by omega) (by omega) dL_law_619 rfl ?_
  refine r_eqz (z := x1) hx1.symm ?_
  refine r_callV F GC (c_X8_kind l D cA B hB hO hi1) v_L_82 rfl hB.1 rfl ⟨Nat.le_of_ble_eq_true rfl, Nat.le_of_ble_eq_true rfl⟩ ⟨Nat.le_trans (Nat.add_le_add_right hc _) (Nat.le_of_ble_eq_true rfl), Nat.le_trans (Nat.add_le_add_right hs _) (Nat.le_of_ble_eq_true rfl)⟩ (Nat.le_of_ble_eq_true rfl) rfl dL_law_620 rfl (fun v L1 M1 n1 hp => ?_)
  have hc1 : cells + rm_X8_kind.cells ≤ 2000 := Nat.le_trans (Nat.add_le_add_right hc _) (Nat.le_of_ble_eq_true rfl)
  have hs1 : slots + rm_X8_kind.slots ≤ 60000 := Nat.le_trans (Nat.add_le_add_right hs _) (Nat.le_of_ble_eq_true rfl)
  obtain ⟨q1, q2, q3, q4⟩ := hp
  subst q1; subst q2; subst q4
  have hf : ∀ q, m ≤ q → q < m + 9 → M1 q = mem q := fun q qa qb => by rw [← q3]
  refine r_mem (mem' := ja_rw M1 (m + 1) N_v0) (by rw [← hv, ← hf (m + 1) (by omega) (by omega), ja_rw_self]) ?_
  refine r_aload_n F rfl rfl dL_law_623 rfl ?_
  refine r_aload_n F rfl rfl dL_law_624 rfl ?_
  refine r_iload_n F rfl rfl dL_law_625 rfl ?_
  refine r_iconst F dL_law_626 rfl ?_
  refine r_iadd F dL_law_627 rfl ?_
  refine r_sld F X (by omega) (by omega) (by omega) dL_law_628 rfl ?_
  refine r_eqz (z := x1) hx1.symm ?_
  refine r_callV F GC (c_X9_kind l D cA B hM N_v0_R hi1) v_L_85 rfl hM.1 rfl ⟨Nat.le_of_ble_eq_true rfl, Nat.le_of_ble_eq_true rfl⟩ ⟨Nat.le_trans (Nat.add_le_add_right hc1 _) (Nat.le_of_ble_eq_true rfl), Nat.le_trans (Nat.add_le_add_right hs1 _) (Nat.le_of_ble_eq_true rfl)⟩ (Nat.le_of_ble_eq_true rfl) rfl dL_law_629 rfl (fun v L2 M2 n2 hp => ?_)
  obtain ⟨q5, -⟩ := hp
  subst q5
  exact r_same F (Z_ki h x1) dL_law_632 (by decide) (J _ _ _ _ _ hc1 hs1)
set_option maxRecDepth 100000 in
set_option maxHeartbeats 800000 in
theorem K_17 {C : ja_C} {D : va_G} {cA : Nat → ClassId} {l : Launch} {B b L y m n cells slots : Nat} {lay : ja_Y} {mem : ja_M} {xs : Nat → Int32} (F : ja_F C RL cL_law 4 room_1) (GC : ja_G C l D cA B) (X : ja_X C b L xs) (hL : L = 5) (h : L_fr lay mem n y m) (hc : cells ≤ 1000) (hs : slots ≤ 40000) (J : ∀ (lay2 : ja_Y) (mem2 : ja_M) (n2 cells2 slots2 : Nat), cells2 ≤ 2000 → slots2 ≤ 60000 → ja_W C cells2 slots2 lay2 mem2 n2 1227 [some (.ref b), some (.ref y), some (.ref m), some (.int (ja_I 0))] []) : ja_W C cells slots lay mem n 637 [some (.ref b), some (.ref y), some (.ref m), some (.int (ja_I 0))] [] := by
  obtain ⟨hm, hn, hB, hM, hS1, hS2, hz, hv, hmz⟩ := id h
  have hO := h.BO
  obtain ⟨x1, hx1⟩ : ∃ z, z = (xs (Int.toNat (0 + 1))).toInt := ⟨_, rfl⟩
  have hi1 : ja_in x1 := by rw [hx1]; exact ja_range _
  obtain ⟨i1a, i1b⟩ := id hi1
  refine r_aload_n F rfl rfl dL_law_637 rfl ?_
  refine r_aload_n F rfl rfl dL_law_638 rfl ?_
  refine r_iload_n F rfl rfl dL_law_639 rfl ?_
  refine r_iconst F dL_law_640 rfl ?_
  refine r_iadd F dL_law_641 rfl ?_
  refine r_sld F X (by omega) (by omega) (by omega) dL_law_642 rfl ?_
  refine r_eqz (z := x1) hx1.symm ?_
  refine r_callV F GC (c_X8_state l D cA B hB hO hi1) v_L_86 rfl hB.1 rfl ⟨Nat.le_of_ble_eq_true rfl, Nat.le_of_ble_eq_true rfl⟩ ⟨Nat.le_trans (Nat.add_le_add_right hc _) (Nat.le_of_ble_eq_true rfl), Nat.le_trans (Nat.add_le_add_right hs _) (Nat.le_of_ble_eq_true rfl)⟩ (Nat.le_of_ble_eq_true rfl) rfl dL_law_643 rfl (fun v L1 M1 n1 hp => ?_)
  have hc1 : cells + rm_X8_state.cells ≤ 2000 := Nat.le_trans (Nat.add_le_add_right hc _) (Nat.le_of_ble_eq_true rfl)
  have hs1 : slots + rm_X8_state.slots ≤ 60000 := Nat.le_trans (Nat.add_le_add_right hs _) (Nat.le_of_ble_eq_true rfl)
  obtain ⟨q1, q2, q3, q4⟩ := hp
  subst q1; subst q2; subst q4
  have hf : ∀ q, m ≤ q → q < m + 9 → M1 q = mem q := fun q qa qb => by rw [← q3]
  refine r_mem (mem' := ja_rw M1 (m + 1) N_v0) (by rw [← hv, ← hf (m + 1) (by omega) (by omega), ja_rw_self]) ?_
  refine r_aload_n F rfl rfl dL_law_646 rfl ?_
  refine r_aload_n F rfl rfl dL_law_647 rfl ?_
  refine r_iload_n F rfl rfl dL_law_648 rfl ?_
  refine r_iconst F dL_law_649 rfl ?_
  refine r_iadd F dL_law_650 rfl ?_
  refine r_sld F X (by omega) (by omega) (by omega) dL_law_651 rfl ?_
  refine r_eqz (z := x1) hx1.symm ?_
  refine r_callV F GC (c_X9_state l D cA B hM N_v0_R hi1) v_L_89 rfl hM.1 rfl ⟨Nat.le_of_ble_eq_true rfl, Nat.le_of_ble_eq_true rfl⟩ ⟨Nat.le_trans (Nat.add_le_add_right hc1 _) (Nat.le_of_ble_eq_true rfl), Nat.le_trans (Nat.add_le_add_right hs1 _) (Nat.le_of_ble_eq_true rfl)⟩ (Nat.le_of_ble_eq_true rfl) rfl dL_law_652 rfl (fun v L2 M2 n2 hp => ?_)
  obtain ⟨q5, -⟩ := hp
  subst q5
  exact r_same F (ja_if Iff.rfl (fun q => by rw [Z_st h.R, N_v0_z (by omega) (by omega)]) rfl) dL_law_655 (by decide) (J _ _ _ _ _ hc1 hs1)
set_option maxRecDepth 100000 in
set_option maxHeartbeats 800000 in
theorem K_18 {C : ja_C} {D : va_G} {cA : Nat → ClassId} {l : Launch} {B b L y m n cells slots : Nat} {lay : ja_Y} {mem : ja_M} {xs : Nat → Int32} (F : ja_F C RL cL_law 4 room_1) (GC : ja_G C l D cA B) (X : ja_X C b L xs) (hL : L = 5) (h : L_fr lay mem n y m) (hc : cells ≤ 1000) (hs : slots ≤ 40000) (J : ∀ (lay2 : ja_Y) (mem2 : ja_M) (n2 cells2 slots2 : Nat), cells2 ≤ 2000 → slots2 ≤ 60000 → ja_W C cells2 slots2 lay2 mem2 n2 1227 [some (.ref b), some (.ref y), some (.ref m), some (.int (ja_I 0))] []) : ja_W C cells slots lay mem n 660 [some (.ref b), some (.ref y), some (.ref m), some (.int (ja_I 0))] [] := by
  obtain ⟨hm, hn, hB, hM, hS1, hS2, hz, hv, hmz⟩ := id h
  have hO := h.BO
  obtain ⟨x1, hx1⟩ : ∃ z, z = (xs (Int.toNat (0 + 1))).toInt := ⟨_, rfl⟩
  have hi1 : ja_in x1 := by rw [hx1]; exact ja_range _
  obtain ⟨i1a, i1b⟩ := id hi1
  obtain ⟨x2, hx2⟩ : ∃ z, z = (xs (Int.toNat (0 + 2))).toInt := ⟨_, rfl⟩
  have hi2 : ja_in x2 := by rw [hx2]; exact ja_range _
  obtain ⟨i2a, i2b⟩ := id hi2
  refine r_aload_n F rfl rfl dL_law_660 rfl ?_
  refine r_aload_n F rfl rfl dL_law_661 rfl ?_
  refine r_iload_n F rfl rfl dL_law_662 rfl ?_
  refine r_iconst F dL_law_663 rfl ?_
  refine r_iadd F dL_law_664 rfl ?_
  refine r_sld F X (by omega) (by omega) (by omega) dL_law_665 rfl ?_
  refine r_eqz (z := x1) hx1.symm ?_
  refine r_aload_n F rfl rfl dL_law_666 rfl ?_
  refine r_iload_n F rfl rfl dL_law_667 rfl ?_
  refine r_iconst F dL_law_668 rfl ?_
  refine r_iadd F dL_law_669 rfl ?_
  refine r_sld F X (by omega) (by omega) (by omega) dL_law_670 rfl ?_
  refine r_eqz (z := x2) hx2.symm ?_
  refine r_callV F GC (c_X8_sample l D cA B hB hO hi1 hi2) v_L_90 rfl hB.1 rfl ⟨Nat.le_of_ble_eq_true rfl, Nat.le_of_ble_eq_true rfl⟩ ⟨Nat.le_trans (Nat.add_le_add_right hc _) (Nat.le_of_ble_eq_true rfl), Nat.le_trans (Nat.add_le_add_right hs _) (Nat.le_of_ble_eq_true rfl)⟩ (Nat.le_of_ble_eq_true rfl) rfl dL_law_671 rfl (fun v L1 M1 n1 hp => ?_)
  have hc1 : cells + rm_X8_sample.cells ≤ 2000 := Nat.le_trans (Nat.add_le_add_right hc _) (Nat.le_of_ble_eq_true rfl)
  have hs1 : slots + rm_X8_sample.slots ≤ 60000 := Nat.le_trans (Nat.add_le_add_right hs _) (Nat.le_of_ble_eq_true rfl)
  obtain ⟨q1, q2, q3, q4⟩ := hp
  subst q1; subst q2; subst q4
  have hf : ∀ q, m ≤ q → q < m + 9 → M1 q = mem q := fun q qa qb => by rw [← q3]
  refine r_mem (mem' := ja_rw M1 (m + 1) N_v0) (by rw [← hv, ← hf (m + 1) (by omega) (by omega), ja_rw_self]) ?_
  refine r_aload_n F rfl rfl dL_law_674 rfl ?_
  refine r_aload_n F rfl rfl dL_law_675 rfl ?_
  refine r_iload_n F rfl rfl dL_law_676 rfl ?_
  refine r_iconst F dL_law_677 rfl ?_
  refine r_iadd F dL_law_678 rfl ?_
  refine r_sld F X (by omega) (by omega) (by omega) dL_law_679 rfl ?_
  refine r_eqz (z := x1) hx1.symm ?_
  refine r_aload_n F rfl rfl dL_law_680 rfl ?_
  refine r_iload_n F rfl rfl dL_law_681 rfl ?_
  refine r_iconst F dL_law_682 rfl ?_
  refine r_iadd F dL_law_683 rfl ?_
  refine r_sld F X (by omega) (by omega) (by omega) dL_law_684 rfl ?_
  refine r_eqz (z := x2) hx2.symm ?_
  refine r_callV F GC (c_X9_sample l D cA B hM N_v0_R hi1 hi2) v_L_93 rfl hM.1 rfl ⟨Nat.le_of_ble_eq_true rfl, Nat.le_of_ble_eq_true rfl⟩ ⟨Nat.le_trans (Nat.add_le_add_right hc1 _) (Nat.le_of_ble_eq_true rfl), Nat.le_trans (Nat.add_le_add_right hs1 _) (Nat.le_of_ble_eq_true rfl)⟩ (Nat.le_of_ble_eq_true rfl) rfl dL_law_685 rfl (fun v L2 M2 n2 hp => ?_)
  obtain ⟨q5, -⟩ := hp
  subst q5
  exact r_same F (ja_if (by rw [Z_s h 0 (by omega)]; constructor <;> (rintro ⟨a, b, c⟩; exact ⟨a, b, by omega⟩)) (fun _ => ja_wave_N (Z_s h) _ _) rfl) dL_law_688 (by decide) (J _ _ _ _ _ hc1 hs1)
set_option maxRecDepth 100000 in
set_option maxHeartbeats 800000 in
theorem K_19 {C : ja_C} {D : va_G} {cA : Nat → ClassId} {l : Launch} {B b L y m n cells slots : Nat} {lay : ja_Y} {mem : ja_M} {xs : Nat → Int32} (F : ja_F C RL cL_law 4 room_1) (GC : ja_G C l D cA B) (X : ja_X C b L xs) (hL : L = 5) (h : L_fr lay mem n y m) (hc : cells ≤ 1000) (hs : slots ≤ 40000) (J : ∀ (lay2 : ja_Y) (mem2 : ja_M) (n2 cells2 slots2 : Nat), cells2 ≤ 2000 → slots2 ≤ 60000 → ja_W C cells2 slots2 lay2 mem2 n2 1227 [some (.ref b), some (.ref y), some (.ref m), some (.int (ja_I 0))] []) : ja_W C cells slots lay mem n 693 [some (.ref b), some (.ref y), some (.ref m), some (.int (ja_I 0))] [] := by
  obtain ⟨hm, hn, hB, hM, hS1, hS2, hz, hv, hmz⟩ := id h
  have hO := h.BO
  obtain ⟨x1, hx1⟩ : ∃ z, z = (xs (Int.toNat (0 + 1))).toInt := ⟨_, rfl⟩
  have hi1 : ja_in x1 := by rw [hx1]; exact ja_range _
  obtain ⟨i1a, i1b⟩ := id hi1
  obtain ⟨x2, hx2⟩ : ∃ z, z = (xs (Int.toNat (0 + 2))).toInt := ⟨_, rfl⟩
  have hi2 : ja_in x2 := by rw [hx2]; exact ja_range _
  obtain ⟨i2a, i2b⟩ := id hi2
  obtain ⟨x3, hx3⟩ : ∃ z, z = (xs (Int.toNat (0 + 3))).toInt := ⟨_, rfl⟩
  have hi3 : ja_in x3 := by rw [hx3]; exact ja_range _
  obtain ⟨i3a, i3b⟩ := id hi3
  refine r_aload_n F rfl rfl dL_law_693 rfl ?_
  refine r_aload_n F rfl rfl dL_law_694 rfl ?_
  refine r_iload_n F rfl rfl dL_law_695 rfl ?_
  refine r_iconst F dL_law_696 rfl ?_
  refine r_iadd F dL_law_697 rfl ?_
  refine r_sld F X (by omega) (by omega) (by omega) dL_law_698 rfl ?_
  refine r_eqz (z := x1) hx1.symm ?_
  refine r_bool F hi1 dL_law_699 (by decide) dL_law_702 dL_law_703 (by decide) dL_law_706 rfl ?_
  refine r_aload_n F rfl rfl dL_law_707 rfl ?_
  refine r_iload_n F rfl rfl dL_law_708 rfl ?_
  refine r_iconst F dL_law_709 rfl ?_
  refine r_iadd F dL_law_710 rfl ?_
  refine r_sld F X (by omega) (by omega) (by omega) dL_law_711 rfl ?_
  refine r_eqz (z := x2) hx2.symm ?_
  refine r_aload_n F rfl rfl dL_law_712 rfl ?_
  refine r_iload_n F rfl rfl dL_law_713 rfl ?_
  refine r_iconst F dL_law_714 rfl ?_
  refine r_iadd F dL_law_715 rfl ?_
  refine r_sld F X (by omega) (by omega) (by omega) dL_law_716 rfl ?_
  refine r_eqz (z := x3) hx3.symm ?_
  refine r_callV F GC (c_X8_missing l D cA B hB hO ja_b_in hi2 hi3 ja_b_r) v_L_94 rfl hB.1 rfl ⟨Nat.le_of_ble_eq_true rfl, Nat.le_of_ble_eq_true rfl⟩ ⟨Nat.le_trans (Nat.add_le_add_right hc _) (Nat.le_of_ble_eq_true rfl), Nat.le_trans (Nat.add_le_add_right hs _) (Nat.le_of_ble_eq_true rfl)⟩ (Nat.le_of_ble_eq_true rfl) rfl dL_law_717 rfl (fun v L1 M1 n1 hp => ?_)
  have hc1 : cells + rm_X8_missing.cells ≤ 2000 := Nat.le_trans (Nat.add_le_add_right hc _) (Nat.le_of_ble_eq_true rfl)
  have hs1 : slots + rm_X8_missing.slots ≤ 60000 := Nat.le_trans (Nat.add_le_add_right hs _) (Nat.le_of_ble_eq_true rfl)
  obtain ⟨q1, q2, q3, q4⟩ := hp
  subst q1; subst q2; subst q4
  have hf : ∀ q, m ≤ q → q < m + 9 → M1 q = mem q := fun q qa qb => by rw [← q3]
  refine r_mem (mem' := ja_rw M1 (m + 1) N_v0) (by rw [← hv, ← hf (m + 1) (by omega) (by omega), ja_rw_self]) ?_
  refine r_aload_n F rfl rfl dL_law_720 rfl ?_
  refine r_aload_n F rfl rfl dL_law_721 rfl ?_
  refine r_iload_n F rfl rfl dL_law_722 rfl ?_
  refine r_iconst F dL_law_723 rfl ?_
  refine r_iadd F dL_law_724 rfl ?_
  refine r_sld F X (by omega) (by omega) (by omega) dL_law_725 rfl ?_
  refine r_eqz (z := x1) hx1.symm ?_
  refine r_bool F hi1 dL_law_726 (by decide) dL_law_729 dL_law_730 (by decide) dL_law_733 rfl ?_
  refine r_aload_n F rfl rfl dL_law_734 rfl ?_
  refine r_iload_n F rfl rfl dL_law_735 rfl ?_
  refine r_iconst F dL_law_736 rfl ?_
  refine r_iadd F dL_law_737 rfl ?_
  refine r_sld F X (by omega) (by omega) (by omega) dL_law_738 rfl ?_
  refine r_eqz (z := x2) hx2.symm ?_
  refine r_aload_n F rfl rfl dL_law_739 rfl ?_
  refine r_iload_n F rfl rfl dL_law_740 rfl ?_
  refine r_iconst F dL_law_741 rfl ?_
  refine r_iadd F dL_law_742 rfl ?_
  refine r_sld F X (by omega) (by omega) (by omega) dL_law_743 rfl ?_
  refine r_eqz (z := x3) hx3.symm ?_
  refine r_callV F GC (c_X9_missing l D cA B hM N_v0_R ja_b_r hi2 hi3) v_L_97 rfl hM.1 rfl ⟨Nat.le_of_ble_eq_true rfl, Nat.le_of_ble_eq_true rfl⟩ ⟨Nat.le_trans (Nat.add_le_add_right hc1 _) (Nat.le_of_ble_eq_true rfl), Nat.le_trans (Nat.add_le_add_right hs1 _) (Nat.le_of_ble_eq_true rfl)⟩ (Nat.le_of_ble_eq_true rfl) rfl dL_law_744 rfl (fun v L2 M2 n2 hp => ?_)
  obtain ⟨q5, -⟩ := hp
  subst q5
  exact r_same F (ja_if (ja_hasP_N (Z_s h) _ _ _) (fun q => by
      obtain ⟨hk, hi⟩ := Z_hPN q
      rw [Z_knx h.R, Z_lb (Z_s h 3 (by omega)) (Z_s h 4 (by omega)), (Z_line ja_b_r hk hi).1]
      have e : (N_cs N_v0 (ja_b (¬ x1 = 0))).toNat = 4 := by unfold N_cs; split <;> rfl
      rw [e]) rfl) dL_law_747 (by decide) (J _ _ _ _ _ hc1 hs1)
set_option maxRecDepth 100000 in
set_option maxHeartbeats 800000 in
theorem K_20 {C : ja_C} {D : va_G} {cA : Nat → ClassId} {l : Launch} {B b L y m n cells slots : Nat} {lay : ja_Y} {mem : ja_M} {xs : Nat → Int32} (F : ja_F C RL cL_law 4 room_1) (GC : ja_G C l D cA B) (X : ja_X C b L xs) (hL : L = 5) (h : L_fr lay mem n y m) (hc : cells ≤ 1000) (hs : slots ≤ 40000) (J : ∀ (lay2 : ja_Y) (mem2 : ja_M) (n2 cells2 slots2 : Nat), cells2 ≤ 2000 → slots2 ≤ 60000 → ja_W C cells2 slots2 lay2 mem2 n2 1227 [some (.ref b), some (.ref y), some (.ref m), some (.int (ja_I 0))] []) : ja_W C cells slots lay mem n 752 [some (.ref b), some (.ref y), some (.ref m), some (.int (ja_I 0))] [] := by
  obtain ⟨hm, hn, hB, hM, hS1, hS2, hz, hv, hmz⟩ := id h
  have hO := h.BO
  obtain ⟨x1, hx1⟩ : ∃ z, z = (xs (Int.toNat (0 + 1))).toInt := ⟨_, rfl⟩
  have hi1 : ja_in x1 := by rw [hx1]; exact ja_range _
  obtain ⟨i1a, i1b⟩ := id hi1
  refine r_aload_n F rfl rfl dL_law_752 rfl ?_
  refine r_aload_n F rfl rfl dL_law_753 rfl ?_
  refine r_iload_n F rfl rfl dL_law_754 rfl ?_
  refine r_iconst F dL_law_755 rfl ?_
  refine r_iadd F dL_law_756 rfl ?_
  refine r_sld F X (by omega) (by omega) (by omega) dL_law_757 rfl ?_
  refine r_eqz (z := x1) hx1.symm ?_
  refine r_callV F GC (c_X8_unrestorable l D cA B hB hO hi1) v_L_98 rfl hB.1 rfl ⟨Nat.le_of_ble_eq_true rfl, Nat.le_of_ble_eq_true rfl⟩ ⟨Nat.le_trans (Nat.add_le_add_right hc _) (Nat.le_of_ble_eq_true rfl), Nat.le_trans (Nat.add_le_add_right hs _) (Nat.le_of_ble_eq_true rfl)⟩ (Nat.le_of_ble_eq_true rfl) rfl dL_law_758 rfl (fun v L1 M1 n1 hp => ?_)
  have hc1 : cells + rm_X8_unrestorable.cells ≤ 2000 := Nat.le_trans (Nat.add_le_add_right hc _) (Nat.le_of_ble_eq_true rfl)
  have hs1 : slots + rm_X8_unrestorable.slots ≤ 60000 := Nat.le_trans (Nat.add_le_add_right hs _) (Nat.le_of_ble_eq_true rfl)
  obtain ⟨q1, q2, q3, q4⟩ := hp
  subst q1; subst q2; subst q4
  have hf : ∀ q, m ≤ q → q < m + 9 → M1 q = mem q := fun q qa qb => by rw [← q3]
  refine r_mem (mem' := ja_rw M1 (m + 1) N_v0) (by rw [← hv, ← hf (m + 1) (by omega) (by omega), ja_rw_self]) ?_
  refine r_aload_n F rfl rfl dL_law_761 rfl ?_
  refine r_aload_n F rfl rfl dL_law_762 rfl ?_
  refine r_iload_n F rfl rfl dL_law_763 rfl ?_
  refine r_iconst F dL_law_764 rfl ?_
  refine r_iadd F dL_law_765 rfl ?_
  refine r_sld F X (by omega) (by omega) (by omega) dL_law_766 rfl ?_
  refine r_eqz (z := x1) hx1.symm ?_
  refine r_callV F GC (c_X9_unrestorable l D cA B hM N_v0_R hi1) v_L_101 rfl hM.1 rfl ⟨Nat.le_of_ble_eq_true rfl, Nat.le_of_ble_eq_true rfl⟩ ⟨Nat.le_trans (Nat.add_le_add_right hc1 _) (Nat.le_of_ble_eq_true rfl), Nat.le_trans (Nat.add_le_add_right hs1 _) (Nat.le_of_ble_eq_true rfl)⟩ (Nat.le_of_ble_eq_true rfl) rfl dL_law_767 rfl (fun v L2 M2 n2 hp => ?_)
  obtain ⟨q5, -⟩ := hp
  subst q5
  exact r_same F (ja_if (ja_hasB_N (Z_s h) _) (fun q => Z_ur h.R (Z_k62 q)) rfl) dL_law_770 (by decide) (J _ _ _ _ _ hc1 hs1)
set_option maxRecDepth 100000 in
set_option maxHeartbeats 800000 in
theorem K_21 {C : ja_C} {D : va_G} {cA : Nat → ClassId} {l : Launch} {B b L y m n cells slots : Nat} {lay : ja_Y} {mem : ja_M} {xs : Nat → Int32} (F : ja_F C RL cL_law 4 room_1) (GC : ja_G C l D cA B) (X : ja_X C b L xs) (hL : L = 5) (h : L_fr lay mem n y m) (hc : cells ≤ 1000) (hs : slots ≤ 40000) (J : ∀ (lay2 : ja_Y) (mem2 : ja_M) (n2 cells2 slots2 : Nat), cells2 ≤ 2000 → slots2 ≤ 60000 → ja_W C cells2 slots2 lay2 mem2 n2 1227 [some (.ref b), some (.ref y), some (.ref m), some (.int (ja_I 0))] []) : ja_W C cells slots lay mem n 775 [some (.ref b), some (.ref y), some (.ref m), some (.int (ja_I 0))] [] := by
  obtain ⟨hm, hn, hB, hM, hS1, hS2, hz, hv, hmz⟩ := id h
  have hO := h.BO
  obtain ⟨x1, hx1⟩ : ∃ z, z = (xs (Int.toNat (0 + 1))).toInt := ⟨_, rfl⟩
  have hi1 : ja_in x1 := by rw [hx1]; exact ja_range _
  obtain ⟨i1a, i1b⟩ := id hi1
  obtain ⟨x2, hx2⟩ : ∃ z, z = (xs (Int.toNat (0 + 2))).toInt := ⟨_, rfl⟩
  have hi2 : ja_in x2 := by rw [hx2]; exact ja_range _
  obtain ⟨i2a, i2b⟩ := id hi2
  obtain ⟨x3, hx3⟩ : ∃ z, z = (xs (Int.toNat (0 + 3))).toInt := ⟨_, rfl⟩
  have hi3 : ja_in x3 := by rw [hx3]; exact ja_range _
  obtain ⟨i3a, i3b⟩ := id hi3
  obtain ⟨x4, hx4⟩ : ∃ z, z = (xs (Int.toNat (0 + 4))).toInt := ⟨_, rfl⟩
  have hi4 : ja_in x4 := by rw [hx4]; exact ja_range _
  obtain ⟨i4a, i4b⟩ := id hi4
  refine r_aload_n F rfl rfl dL_law_775 rfl ?_
  refine r_aload_n F rfl rfl dL_law_776 rfl ?_
  refine r_iload_n F rfl rfl dL_law_777 rfl ?_
  refine r_iconst F dL_law_778 rfl ?_
  refine r_iadd F dL_law_779 rfl ?_
  refine r_sld F X (by omega) (by omega) (by omega) dL_law_780 rfl ?_
  refine r_eqz (z := x1) hx1.symm ?_
  refine r_bool F hi1 dL_law_781 (by decide) dL_law_784 dL_law_785 (by decide) dL_law_788 rfl ?_
  refine r_aload_n F rfl rfl dL_law_789 rfl ?_
  refine r_iload_n F rfl rfl dL_law_790 rfl ?_
  refine r_iconst F dL_law_791 rfl ?_
  refine r_iadd F dL_law_792 rfl ?_
  refine r_sld F X (by omega) (by omega) (by omega) dL_law_793 rfl ?_
  refine r_eqz (z := x2) hx2.symm ?_
  refine r_aload_n F rfl rfl dL_law_794 rfl ?_
  refine r_iload_n F rfl rfl dL_law_795 rfl ?_
  refine r_iconst F dL_law_796 rfl ?_
  refine r_iadd F dL_law_797 rfl ?_
  refine r_sld F X (by omega) (by omega) (by omega) dL_law_798 rfl ?_
  refine r_eqz (z := x3) hx3.symm ?_
  refine r_aload_n F rfl rfl dL_law_799 rfl ?_
  refine r_iload_n F rfl rfl dL_law_800 rfl ?_
  refine r_iconst F dL_law_801 rfl ?_
  refine r_iadd F dL_law_802 rfl ?_
  refine r_sld F X (by omega) (by omega) (by omega) dL_law_803 rfl ?_
  refine r_eqz (z := x4) hx4.symm ?_
  refine r_callV F GC (c_X8_paritySample l D cA B hB hO ja_b_in hi2 hi3 hi4 ja_b_r) v_L_102 rfl hB.1 rfl ⟨Nat.le_of_ble_eq_true rfl, Nat.le_of_ble_eq_true rfl⟩ ⟨Nat.le_trans (Nat.add_le_add_right hc _) (Nat.le_of_ble_eq_true rfl), Nat.le_trans (Nat.add_le_add_right hs _) (Nat.le_of_ble_eq_true rfl)⟩ (Nat.le_of_ble_eq_true rfl) rfl dL_law_804 rfl (fun v L1 M1 n1 hp => ?_)
  have hc1 : cells + rm_X8_paritySample.cells ≤ 2000 := Nat.le_trans (Nat.add_le_add_right hc _) (Nat.le_of_ble_eq_true rfl)
  have hs1 : slots + rm_X8_paritySample.slots ≤ 60000 := Nat.le_trans (Nat.add_le_add_right hs _) (Nat.le_of_ble_eq_true rfl)
  obtain ⟨q1, q2, q3, q4⟩ := hp
  subst q1; subst q2; subst q4
  have hf : ∀ q, m ≤ q → q < m + 9 → M1 q = mem q := fun q qa qb => by rw [← q3]
  refine r_mem (mem' := ja_rw M1 (m + 1) N_v0) (by rw [← hv, ← hf (m + 1) (by omega) (by omega), ja_rw_self]) ?_
  refine r_aload_n F rfl rfl dL_law_807 rfl ?_
  refine r_aload_n F rfl rfl dL_law_808 rfl ?_
  refine r_iload_n F rfl rfl dL_law_809 rfl ?_
  refine r_iconst F dL_law_810 rfl ?_
  refine r_iadd F dL_law_811 rfl ?_
  refine r_sld F X (by omega) (by omega) (by omega) dL_law_812 rfl ?_
  refine r_eqz (z := x1) hx1.symm ?_
  refine r_bool F hi1 dL_law_813 (by decide) dL_law_816 dL_law_817 (by decide) dL_law_820 rfl ?_
  refine r_aload_n F rfl rfl dL_law_821 rfl ?_
  refine r_iload_n F rfl rfl dL_law_822 rfl ?_
  refine r_iconst F dL_law_823 rfl ?_
  refine r_iadd F dL_law_824 rfl ?_
  refine r_sld F X (by omega) (by omega) (by omega) dL_law_825 rfl ?_
  refine r_eqz (z := x2) hx2.symm ?_
  refine r_aload_n F rfl rfl dL_law_826 rfl ?_
  refine r_iload_n F rfl rfl dL_law_827 rfl ?_
  refine r_iconst F dL_law_828 rfl ?_
  refine r_iadd F dL_law_829 rfl ?_
  refine r_sld F X (by omega) (by omega) (by omega) dL_law_830 rfl ?_
  refine r_eqz (z := x3) hx3.symm ?_
  refine r_aload_n F rfl rfl dL_law_831 rfl ?_
  refine r_iload_n F rfl rfl dL_law_832 rfl ?_
  refine r_iconst F dL_law_833 rfl ?_
  refine r_iadd F dL_law_834 rfl ?_
  refine r_sld F X (by omega) (by omega) (by omega) dL_law_835 rfl ?_
  refine r_eqz (z := x4) hx4.symm ?_
  refine r_callV F GC (c_X9_paritySample l D cA B hM N_v0_R ja_b_r hi2 hi3 hi4) v_L_106 rfl hM.1 rfl ⟨Nat.le_of_ble_eq_true rfl, Nat.le_of_ble_eq_true rfl⟩ ⟨Nat.le_trans (Nat.add_le_add_right hc1 _) (Nat.le_of_ble_eq_true rfl), Nat.le_trans (Nat.add_le_add_right hs1 _) (Nat.le_of_ble_eq_true rfl)⟩ (Nat.le_of_ble_eq_true rfl) rfl dL_law_836 rfl (fun v L2 M2 n2 hp => ?_)
  obtain ⟨q5, -⟩ := hp
  subst q5
  exact r_same F (ja_if (by rw [(ja_hasP_N (Z_s h) _ _ _), Z_s h 0 (by omega)]; constructor <;> (rintro ⟨a, b, c⟩; exact ⟨a, b, by omega⟩)) (fun _ => by rw [B_par_N (Z_s h), Z_s h 3 (by omega), Z_s h 4 (by omega)]; rfl) rfl) dL_law_839 (by decide) (J _ _ _ _ _ hc1 hs1)
set_option maxRecDepth 100000 in
set_option maxHeartbeats 800000 in
theorem K_22 {C : ja_C} {D : va_G} {cA : Nat → ClassId} {l : Launch} {B b L y m n cells slots : Nat} {lay : ja_Y} {mem : ja_M} {xs : Nat → Int32} (F : ja_F C RL cL_law 4 room_1) (GC : ja_G C l D cA B) (X : ja_X C b L xs) (hL : L = 5) (h : L_fr lay mem n y m) (hc : cells ≤ 1000) (hs : slots ≤ 40000) (J : ∀ (lay2 : ja_Y) (mem2 : ja_M) (n2 cells2 slots2 : Nat), cells2 ≤ 2000 → slots2 ≤ 60000 → ja_W C cells2 slots2 lay2 mem2 n2 1227 [some (.ref b), some (.ref y), some (.ref m), some (.int (ja_I 0))] []) : ja_W C cells slots lay mem n 844 [some (.ref b), some (.ref y), some (.ref m), some (.int (ja_I 0))] [] := by
  obtain ⟨hm, hn, hB, hM, hS1, hS2, hz, hv, hmz⟩ := id h
  have hO := h.BO
  refine r_aload_n F rfl rfl dL_law_844 rfl ?_
  refine r_callV F GC (c_X8_transits l D cA B hB hO ) v_L_107 rfl hB.1 rfl ⟨Nat.le_of_ble_eq_true rfl, Nat.le_of_ble_eq_true rfl⟩ ⟨Nat.le_trans (Nat.add_le_add_right hc _) (Nat.le_of_ble_eq_true rfl), Nat.le_trans (Nat.add_le_add_right hs _) (Nat.le_of_ble_eq_true rfl)⟩ (Nat.le_of_ble_eq_true rfl) rfl dL_law_845 rfl (fun v L1 M1 n1 hp => ?_)
  have hc1 : cells + rm_X8_transits.cells ≤ 2000 := Nat.le_trans (Nat.add_le_add_right hc _) (Nat.le_of_ble_eq_true rfl)
  have hs1 : slots + rm_X8_transits.slots ≤ 60000 := Nat.le_trans (Nat.add_le_add_right hs _) (Nat.le_of_ble_eq_true rfl)
  obtain ⟨q1, q2, q3, q4⟩ := hp
  subst q1; subst q2; subst q4
  have hf : ∀ q, m ≤ q → q < m + 9 → M1 q = mem q := fun q qa qb => by rw [← q3]
  refine r_mem (mem' := ja_rw M1 (m + 1) N_v0) (by rw [← hv, ← hf (m + 1) (by omega) (by omega), ja_rw_self]) ?_
  refine r_aload_n F rfl rfl dL_law_848 rfl ?_
  refine r_callV F GC (c_X9_transits l D cA B hM N_v0_R) v_L_110 rfl hM.1 rfl ⟨Nat.le_of_ble_eq_true rfl, Nat.le_of_ble_eq_true rfl⟩ ⟨Nat.le_trans (Nat.add_le_add_right hc1 _) (Nat.le_of_ble_eq_true rfl), Nat.le_trans (Nat.add_le_add_right hs1 _) (Nat.le_of_ble_eq_true rfl)⟩ (Nat.le_of_ble_eq_true rfl) rfl dL_law_849 rfl (fun v L2 M2 n2 hp => ?_)
  obtain ⟨q5, -⟩ := hp
  subst q5
  exact r_same F (by rw [show mem (y + 1 + 6) 2 = 0 from Z_z h (c := 6) (j := 2) (by omega) (by omega)]; rfl) dL_law_852 (by decide) (J _ _ _ _ _ hc1 hs1)
set_option maxRecDepth 100000 in
set_option maxHeartbeats 800000 in
theorem K_23 {C : ja_C} {D : va_G} {cA : Nat → ClassId} {l : Launch} {B b L y m n cells slots : Nat} {lay : ja_Y} {mem : ja_M} {xs : Nat → Int32} (F : ja_F C RL cL_law 4 room_1) (GC : ja_G C l D cA B) (X : ja_X C b L xs) (hL : L = 5) (h : L_fr lay mem n y m) (hc : cells ≤ 1000) (hs : slots ≤ 40000) (J : ∀ (lay2 : ja_Y) (mem2 : ja_M) (n2 cells2 slots2 : Nat), cells2 ≤ 2000 → slots2 ≤ 60000 → ja_W C cells2 slots2 lay2 mem2 n2 1227 [some (.ref b), some (.ref y), some (.ref m), some (.int (ja_I 0))] []) : ja_W C cells slots lay mem n 857 [some (.ref b), some (.ref y), some (.ref m), some (.int (ja_I 0))] [] := by
  obtain ⟨hm, hn, hB, hM, hS1, hS2, hz, hv, hmz⟩ := id h
  have hO := h.BO
  obtain ⟨x1, hx1⟩ : ∃ z, z = (xs (Int.toNat (0 + 1))).toInt := ⟨_, rfl⟩
  have hi1 : ja_in x1 := by rw [hx1]; exact ja_range _
  obtain ⟨i1a, i1b⟩ := id hi1
  refine r_aload_n F rfl rfl dL_law_857 rfl ?_
  refine r_aload_n F rfl rfl dL_law_858 rfl ?_
  refine r_iload_n F rfl rfl dL_law_859 rfl ?_
  refine r_iconst F dL_law_860 rfl ?_
  refine r_iadd F dL_law_861 rfl ?_
  refine r_sld F X (by omega) (by omega) (by omega) dL_law_862 rfl ?_
  refine r_eqz (z := x1) hx1.symm ?_
  refine r_callV F GC (c_X8_transit l D cA B hB hO hi1) v_L_111 rfl hB.1 rfl ⟨Nat.le_of_ble_eq_true rfl, Nat.le_of_ble_eq_true rfl⟩ ⟨Nat.le_trans (Nat.add_le_add_right hc _) (Nat.le_of_ble_eq_true rfl), Nat.le_trans (Nat.add_le_add_right hs _) (Nat.le_of_ble_eq_true rfl)⟩ (Nat.le_of_ble_eq_true rfl) rfl dL_law_863 rfl (fun v L1 M1 n1 hp => ?_)
  have hc1 : cells + rm_X8_transit.cells ≤ 2000 := Nat.le_trans (Nat.add_le_add_right hc _) (Nat.le_of_ble_eq_true rfl)
  have hs1 : slots + rm_X8_transit.slots ≤ 60000 := Nat.le_trans (Nat.add_le_add_right hs _) (Nat.le_of_ble_eq_true rfl)
  obtain ⟨q1, q2, q3, q4⟩ := hp
  subst q1; subst q2; subst q4
  have hf : ∀ q, m ≤ q → q < m + 9 → M1 q = mem q := fun q qa qb => by rw [← q3]
  refine r_mem (mem' := ja_rw M1 (m + 1) N_v0) (by rw [← hv, ← hf (m + 1) (by omega) (by omega), ja_rw_self]) ?_
  refine r_aload_n F rfl rfl dL_law_866 rfl ?_
  refine r_aload_n F rfl rfl dL_law_867 rfl ?_
  refine r_iload_n F rfl rfl dL_law_868 rfl ?_
  refine r_iconst F dL_law_869 rfl ?_
  refine r_iadd F dL_law_870 rfl ?_
  refine r_sld F X (by omega) (by omega) (by omega) dL_law_871 rfl ?_
  refine r_eqz (z := x1) hx1.symm ?_
  refine r_callV F GC (c_X9_transit l D cA B hM N_v0_R hi1) v_L_114 rfl hM.1 rfl ⟨Nat.le_of_ble_eq_true rfl, Nat.le_of_ble_eq_true rfl⟩ ⟨Nat.le_trans (Nat.add_le_add_right hc1 _) (Nat.le_of_ble_eq_true rfl), Nat.le_trans (Nat.add_le_add_right hs1 _) (Nat.le_of_ble_eq_true rfl)⟩ (Nat.le_of_ble_eq_true rfl) rfl dL_law_872 rfl (fun v L2 M2 n2 hp => ?_)
  obtain ⟨q5, -⟩ := hp
  subst q5
  exact r_same F (by rw [if_neg (by rw [Z_z h (c := 6) (j := 2) (by omega) (by omega)]; omega), Z_24, if_neg (by omega)]) dL_law_875 (by decide) (J _ _ _ _ _ hc1 hs1)
set_option maxRecDepth 100000 in
set_option maxHeartbeats 800000 in
theorem K_24 {C : ja_C} {D : va_G} {cA : Nat → ClassId} {l : Launch} {B b L y m n cells slots : Nat} {lay : ja_Y} {mem : ja_M} {xs : Nat → Int32} (F : ja_F C RL cL_law 4 room_1) (GC : ja_G C l D cA B) (X : ja_X C b L xs) (hL : L = 5) (h : L_fr lay mem n y m) (hc : cells ≤ 1000) (hs : slots ≤ 40000) (J : ∀ (lay2 : ja_Y) (mem2 : ja_M) (n2 cells2 slots2 : Nat), cells2 ≤ 2000 → slots2 ≤ 60000 → ja_W C cells2 slots2 lay2 mem2 n2 1227 [some (.ref b), some (.ref y), some (.ref m), some (.int (ja_I 0))] []) : ja_W C cells slots lay mem n 880 [some (.ref b), some (.ref y), some (.ref m), some (.int (ja_I 0))] [] := by
  obtain ⟨hm, hn, hB, hM, hS1, hS2, hz, hv, hmz⟩ := id h
  have hO := h.BO
  refine r_aload_n F rfl rfl dL_law_880 rfl ?_
  refine r_callV F GC (c_X8_target l D cA B hB hO ) v_L_115 rfl hB.1 rfl ⟨Nat.le_of_ble_eq_true rfl, Nat.le_of_ble_eq_true rfl⟩ ⟨Nat.le_trans (Nat.add_le_add_right hc _) (Nat.le_of_ble_eq_true rfl), Nat.le_trans (Nat.add_le_add_right hs _) (Nat.le_of_ble_eq_true rfl)⟩ (Nat.le_of_ble_eq_true rfl) rfl dL_law_881 rfl (fun v L1 M1 n1 hp => ?_)
  have hc1 : cells + rm_X8_target.cells ≤ 2000 := Nat.le_trans (Nat.add_le_add_right hc _) (Nat.le_of_ble_eq_true rfl)
  have hs1 : slots + rm_X8_target.slots ≤ 60000 := Nat.le_trans (Nat.add_le_add_right hs _) (Nat.le_of_ble_eq_true rfl)
  obtain ⟨q1, q2, q3, q4⟩ := hp
  subst q1; subst q2; subst q4
  have hf : ∀ q, m ≤ q → q < m + 9 → M1 q = mem q := fun q qa qb => by rw [← q3]
  refine r_mem (mem' := ja_rw M1 (m + 1) N_v0) (by rw [← hv, ← hf (m + 1) (by omega) (by omega), ja_rw_self]) ?_
  refine r_aload_n F rfl rfl dL_law_884 rfl ?_
  refine r_callV F GC (c_X9_target l D cA B hM N_v0_R) v_L_118 rfl hM.1 rfl ⟨Nat.le_of_ble_eq_true rfl, Nat.le_of_ble_eq_true rfl⟩ ⟨Nat.le_trans (Nat.add_le_add_right hc1 _) (Nat.le_of_ble_eq_true rfl), Nat.le_trans (Nat.add_le_add_right hs1 _) (Nat.le_of_ble_eq_true rfl)⟩ (Nat.le_of_ble_eq_true rfl) rfl dL_law_885 rfl (fun v L2 M2 n2 hp => ?_)
  obtain ⟨q5, -⟩ := hp
  subst q5
  exact r_same F ((Z_tgR h).trans Z_tgN.symm) dL_law_888 (by decide) (J _ _ _ _ _ hc1 hs1)
set_option maxRecDepth 100000 in
set_option maxHeartbeats 800000 in
theorem K_25 {C : ja_C} {D : va_G} {cA : Nat → ClassId} {l : Launch} {B b L y m n cells slots : Nat} {lay : ja_Y} {mem : ja_M} {xs : Nat → Int32} (F : ja_F C RL cL_law 4 room_1) (GC : ja_G C l D cA B) (X : ja_X C b L xs) (hL : L = 5) (h : L_fr lay mem n y m) (hc : cells ≤ 1000) (hs : slots ≤ 40000) (J : ∀ (lay2 : ja_Y) (mem2 : ja_M) (n2 cells2 slots2 : Nat), cells2 ≤ 2000 → slots2 ≤ 60000 → ja_W C cells2 slots2 lay2 mem2 n2 1227 [some (.ref b), some (.ref y), some (.ref m), some (.int (ja_I 0))] []) : ja_W C cells slots lay mem n 893 [some (.ref b), some (.ref y), some (.ref m), some (.int (ja_I 0))] [] := by
  obtain ⟨hm, hn, hB, hM, hS1, hS2, hz, hv, hmz⟩ := id h
  have hO := h.BO
  refine r_aload_n F rfl rfl dL_law_893 rfl ?_
  refine r_callV F GC (c_X8_level l D cA B hB hO ) v_L_119 rfl hB.1 rfl ⟨Nat.le_of_ble_eq_true rfl, Nat.le_of_ble_eq_true rfl⟩ ⟨Nat.le_trans (Nat.add_le_add_right hc _) (Nat.le_of_ble_eq_true rfl), Nat.le_trans (Nat.add_le_add_right hs _) (Nat.le_of_ble_eq_true rfl)⟩ (Nat.le_of_ble_eq_true rfl) rfl dL_law_894 rfl (fun v L1 M1 n1 hp => ?_)
  have hc1 : cells + rm_X8_level.cells ≤ 2000 := Nat.le_trans (Nat.add_le_add_right hc _) (Nat.le_of_ble_eq_true rfl)
  have hs1 : slots + rm_X8_level.slots ≤ 60000 := Nat.le_trans (Nat.add_le_add_right hs _) (Nat.le_of_ble_eq_true rfl)
  obtain ⟨q1, q2, q3, q4⟩ := hp
  subst q1; subst q2; subst q4
  have hf : ∀ q, m ≤ q → q < m + 9 → M1 q = mem q := fun q qa qb => by rw [← q3]
  refine r_mem (mem' := ja_rw M1 (m + 1) N_v0) (by rw [← hv, ← hf (m + 1) (by omega) (by omega), ja_rw_self]) ?_
  refine r_aload_n F rfl rfl dL_law_897 rfl ?_
  refine r_callV F GC (c_X9_level l D cA B hM N_v0_R) v_L_122 rfl hM.1 rfl ⟨Nat.le_of_ble_eq_true rfl, Nat.le_of_ble_eq_true rfl⟩ ⟨Nat.le_trans (Nat.add_le_add_right hc1 _) (Nat.le_of_ble_eq_true rfl), Nat.le_trans (Nat.add_le_add_right hs1 _) (Nat.le_of_ble_eq_true rfl)⟩ (Nat.le_of_ble_eq_true rfl) rfl dL_law_898 rfl (fun v L2 M2 n2 hp => ?_)
  obtain ⟨q5, -⟩ := hp
  subst q5
  exact r_same F ((Z_lvR h).trans (show (0 : Int) = if 999 < N_v0 11 then 0 else N_lv N_v0 (N_v0 11) by rw [if_neg (by decide)]; exact Z_lvN.symm)) dL_law_901 (by decide) (J _ _ _ _ _ hc1 hs1)
set_option maxRecDepth 100000 in
set_option maxHeartbeats 800000 in
theorem K_26 {C : ja_C} {D : va_G} {cA : Nat → ClassId} {l : Launch} {B b L y m n cells slots : Nat} {lay : ja_Y} {mem : ja_M} {xs : Nat → Int32} (F : ja_F C RL cL_law 4 room_1) (GC : ja_G C l D cA B) (X : ja_X C b L xs) (hL : L = 5) (h : L_fr lay mem n y m) (hc : cells ≤ 1000) (hs : slots ≤ 40000) (J : ∀ (lay2 : ja_Y) (mem2 : ja_M) (n2 cells2 slots2 : Nat), cells2 ≤ 2000 → slots2 ≤ 60000 → ja_W C cells2 slots2 lay2 mem2 n2 1227 [some (.ref b), some (.ref y), some (.ref m), some (.int (ja_I 0))] []) : ja_W C cells slots lay mem n 906 [some (.ref b), some (.ref y), some (.ref m), some (.int (ja_I 0))] [] := by
  obtain ⟨hm, hn, hB, hM, hS1, hS2, hz, hv, hmz⟩ := id h
  have hO := h.BO
  obtain ⟨x1, hx1⟩ : ∃ z, z = (xs (Int.toNat (0 + 1))).toInt := ⟨_, rfl⟩
  have hi1 : ja_in x1 := by rw [hx1]; exact ja_range _
  obtain ⟨i1a, i1b⟩ := id hi1
  refine r_aload_n F rfl rfl dL_law_906 rfl ?_
  refine r_aload_n F rfl rfl dL_law_907 rfl ?_
  refine r_iload_n F rfl rfl dL_law_908 rfl ?_
  refine r_iconst F dL_law_909 rfl ?_
  refine r_iadd F dL_law_910 rfl ?_
  refine r_sld F X (by omega) (by omega) (by omega) dL_law_911 rfl ?_
  refine r_eqz (z := x1) hx1.symm ?_
  refine r_callV F GC (c_X8_taken l D cA B hB hO hi1) v_L_123 rfl hB.1 rfl ⟨Nat.le_of_ble_eq_true rfl, Nat.le_of_ble_eq_true rfl⟩ ⟨Nat.le_trans (Nat.add_le_add_right hc _) (Nat.le_of_ble_eq_true rfl), Nat.le_trans (Nat.add_le_add_right hs _) (Nat.le_of_ble_eq_true rfl)⟩ (Nat.le_of_ble_eq_true rfl) rfl dL_law_912 rfl (fun v L1 M1 n1 hp => ?_)
  have hc1 : cells + rm_X8_taken.cells ≤ 2000 := Nat.le_trans (Nat.add_le_add_right hc _) (Nat.le_of_ble_eq_true rfl)
  have hs1 : slots + rm_X8_taken.slots ≤ 60000 := Nat.le_trans (Nat.add_le_add_right hs _) (Nat.le_of_ble_eq_true rfl)
  obtain ⟨q1, q2, q3, q4⟩ := hp
  subst q1; subst q2; subst q4
  have hf : ∀ q, m ≤ q → q < m + 9 → M1 q = mem q := fun q qa qb => by rw [← q3]
  refine r_mem (mem' := ja_rw M1 (m + 1) N_v0) (by rw [← hv, ← hf (m + 1) (by omega) (by omega), ja_rw_self]) ?_
  refine r_aload_n F rfl rfl dL_law_915 rfl ?_
  refine r_aload_n F rfl rfl dL_law_916 rfl ?_
  refine r_iload_n F rfl rfl dL_law_917 rfl ?_
  refine r_iconst F dL_law_918 rfl ?_
  refine r_iadd F dL_law_919 rfl ?_
  refine r_sld F X (by omega) (by omega) (by omega) dL_law_920 rfl ?_
  refine r_eqz (z := x1) hx1.symm ?_
  refine r_callV F GC (c_X9_taken l D cA B hM N_v0_R hi1) v_L_126 rfl hM.1 rfl ⟨Nat.le_of_ble_eq_true rfl, Nat.le_of_ble_eq_true rfl⟩ ⟨Nat.le_trans (Nat.add_le_add_right hc1 _) (Nat.le_of_ble_eq_true rfl), Nat.le_trans (Nat.add_le_add_right hs1 _) (Nat.le_of_ble_eq_true rfl)⟩ (Nat.le_of_ble_eq_true rfl) rfl dL_law_921 rfl (fun v L2 M2 n2 hp => ?_)
  obtain ⟨q5, -⟩ := hp
  subst q5
  exact r_same F (ja_if Iff.rfl (fun q => by
      rw [N_v0_z (by omega) (by omega)]
      split
      · exact Z_z h (c := 14) (j := 2) (by omega) (by omega)
      · split
        · exact Z_z h (c := 14) (j := 0) (by omega) (by omega)
        · exact Z_z h (c := 14) (j := 1) (by omega) (by omega)) rfl) dL_law_924 (by decide) (J _ _ _ _ _ hc1 hs1)
set_option maxRecDepth 100000 in
set_option maxHeartbeats 800000 in
theorem K_27 {C : ja_C} {D : va_G} {cA : Nat → ClassId} {l : Launch} {B b L y m n cells slots : Nat} {lay : ja_Y} {mem : ja_M} {xs : Nat → Int32} (F : ja_F C RL cL_law 4 room_1) (GC : ja_G C l D cA B) (X : ja_X C b L xs) (hL : L = 5) (h : L_fr lay mem n y m) (hc : cells ≤ 1000) (hs : slots ≤ 40000) (J : ∀ (lay2 : ja_Y) (mem2 : ja_M) (n2 cells2 slots2 : Nat), cells2 ≤ 2000 → slots2 ≤ 60000 → ja_W C cells2 slots2 lay2 mem2 n2 1227 [some (.ref b), some (.ref y), some (.ref m), some (.int (ja_I 0))] []) : ja_W C cells slots lay mem n 929 [some (.ref b), some (.ref y), some (.ref m), some (.int (ja_I 0))] [] := by
  obtain ⟨hm, hn, hB, hM, hS1, hS2, hz, hv, hmz⟩ := id h
  have hO := h.BO
  refine r_aload_n F rfl rfl dL_law_929 rfl ?_
  refine r_callV F GC (c_X8_stretched l D cA B hB hO ) v_L_127 rfl hB.1 rfl ⟨Nat.le_of_ble_eq_true rfl, Nat.le_of_ble_eq_true rfl⟩ ⟨Nat.le_trans (Nat.add_le_add_right hc _) (Nat.le_of_ble_eq_true rfl), Nat.le_trans (Nat.add_le_add_right hs _) (Nat.le_of_ble_eq_true rfl)⟩ (Nat.le_of_ble_eq_true rfl) rfl dL_law_930 rfl (fun v L1 M1 n1 hp => ?_)
  have hc1 : cells + rm_X8_stretched.cells ≤ 2000 := Nat.le_trans (Nat.add_le_add_right hc _) (Nat.le_of_ble_eq_true rfl)
  have hs1 : slots + rm_X8_stretched.slots ≤ 60000 := Nat.le_trans (Nat.add_le_add_right hs _) (Nat.le_of_ble_eq_true rfl)
  obtain ⟨q1, q2, q3, q4⟩ := hp
  subst q1; subst q2; subst q4
  have hf : ∀ q, m ≤ q → q < m + 9 → M1 q = mem q := fun q qa qb => by rw [← q3]
  refine r_mem (mem' := ja_rw M1 (m + 1) N_v0) (by rw [← hv, ← hf (m + 1) (by omega) (by omega), ja_rw_self]) ?_
  refine r_aload_n F rfl rfl dL_law_933 rfl ?_
  refine r_callV F GC (c_X9_stretched l D cA B hM N_v0_R) v_L_130 rfl hM.1 rfl ⟨Nat.le_of_ble_eq_true rfl, Nat.le_of_ble_eq_true rfl⟩ ⟨Nat.le_trans (Nat.add_le_add_right hc1 _) (Nat.le_of_ble_eq_true rfl), Nat.le_trans (Nat.add_le_add_right hs1 _) (Nat.le_of_ble_eq_true rfl)⟩ (Nat.le_of_ble_eq_true rfl) rfl dL_law_934 rfl (fun v L2 M2 n2 hp => ?_)
  obtain ⟨q5, -⟩ := hp
  subst q5
  exact r_same F (by rw [show mem (y + 1 + 14) 3 = 0 from Z_z h (c := 14) (j := 3) (by omega) (by omega)]; rfl) dL_law_937 (by decide) (J _ _ _ _ _ hc1 hs1)
set_option maxRecDepth 100000 in
set_option maxHeartbeats 800000 in
theorem K_28 {C : ja_C} {D : va_G} {cA : Nat → ClassId} {l : Launch} {B b L y m n cells slots : Nat} {lay : ja_Y} {mem : ja_M} {xs : Nat → Int32} (F : ja_F C RL cL_law 4 room_1) (GC : ja_G C l D cA B) (X : ja_X C b L xs) (hL : L = 5) (h : L_fr lay mem n y m) (hc : cells ≤ 1000) (hs : slots ≤ 40000) (J : ∀ (lay2 : ja_Y) (mem2 : ja_M) (n2 cells2 slots2 : Nat), cells2 ≤ 2000 → slots2 ≤ 60000 → ja_W C cells2 slots2 lay2 mem2 n2 1227 [some (.ref b), some (.ref y), some (.ref m), some (.int (ja_I 0))] []) : ja_W C cells slots lay mem n 942 [some (.ref b), some (.ref y), some (.ref m), some (.int (ja_I 0))] [] := by
  obtain ⟨hm, hn, hB, hM, hS1, hS2, hz, hv, hmz⟩ := id h
  have hO := h.BO
  refine r_aload_n F rfl rfl dL_law_942 rfl ?_
  refine r_callV F GC (c_X8_compressed l D cA B hB hO ) v_L_131 rfl hB.1 rfl ⟨Nat.le_of_ble_eq_true rfl, Nat.le_of_ble_eq_true rfl⟩ ⟨Nat.le_trans (Nat.add_le_add_right hc _) (Nat.le_of_ble_eq_true rfl), Nat.le_trans (Nat.add_le_add_right hs _) (Nat.le_of_ble_eq_true rfl)⟩ (Nat.le_of_ble_eq_true rfl) rfl dL_law_943 rfl (fun v L1 M1 n1 hp => ?_)
  have hc1 : cells + rm_X8_compressed.cells ≤ 2000 := Nat.le_trans (Nat.add_le_add_right hc _) (Nat.le_of_ble_eq_true rfl)
  have hs1 : slots + rm_X8_compressed.slots ≤ 60000 := Nat.le_trans (Nat.add_le_add_right hs _) (Nat.le_of_ble_eq_true rfl)
  obtain ⟨q1, q2, q3, q4⟩ := hp
  subst q1; subst q2; subst q4
  have hf : ∀ q, m ≤ q → q < m + 9 → M1 q = mem q := fun q qa qb => by rw [← q3]
  refine r_mem (mem' := ja_rw M1 (m + 1) N_v0) (by rw [← hv, ← hf (m + 1) (by omega) (by omega), ja_rw_self]) ?_
  refine r_aload_n F rfl rfl dL_law_946 rfl ?_
  refine r_callV F GC (c_X9_compressed l D cA B hM N_v0_R) v_L_134 rfl hM.1 rfl ⟨Nat.le_of_ble_eq_true rfl, Nat.le_of_ble_eq_true rfl⟩ ⟨Nat.le_trans (Nat.add_le_add_right hc1 _) (Nat.le_of_ble_eq_true rfl), Nat.le_trans (Nat.add_le_add_right hs1 _) (Nat.le_of_ble_eq_true rfl)⟩ (Nat.le_of_ble_eq_true rfl) rfl dL_law_947 rfl (fun v L2 M2 n2 hp => ?_)
  obtain ⟨q5, -⟩ := hp
  subst q5
  exact r_same F (by rw [show mem (y + 1 + 14) 4 = 0 from Z_z h (c := 14) (j := 4) (by omega) (by omega)]; rfl) dL_law_950 (by decide) (J _ _ _ _ _ hc1 hs1)
set_option maxRecDepth 100000 in
set_option maxHeartbeats 800000 in
theorem K_29 {C : ja_C} {D : va_G} {cA : Nat → ClassId} {l : Launch} {B b L y m n cells slots : Nat} {lay : ja_Y} {mem : ja_M} {xs : Nat → Int32} (F : ja_F C RL cL_law 4 room_1) (GC : ja_G C l D cA B) (X : ja_X C b L xs) (hL : L = 5) (h : L_fr lay mem n y m) (hc : cells ≤ 1000) (hs : slots ≤ 40000) (J : ∀ (lay2 : ja_Y) (mem2 : ja_M) (n2 cells2 slots2 : Nat), cells2 ≤ 2000 → slots2 ≤ 60000 → ja_W C cells2 slots2 lay2 mem2 n2 1227 [some (.ref b), some (.ref y), some (.ref m), some (.int (ja_I 0))] []) : ja_W C cells slots lay mem n 955 [some (.ref b), some (.ref y), some (.ref m), some (.int (ja_I 0))] [] := by
  obtain ⟨hm, hn, hB, hM, hS1, hS2, hz, hv, hmz⟩ := id h
  have hO := h.BO
  refine r_aload_n F rfl rfl dL_law_955 rfl ?_
  refine r_callV F GC (c_X8_late l D cA B hB hO ) v_L_135 rfl hB.1 rfl ⟨Nat.le_of_ble_eq_true rfl, Nat.le_of_ble_eq_true rfl⟩ ⟨Nat.le_trans (Nat.add_le_add_right hc _) (Nat.le_of_ble_eq_true rfl), Nat.le_trans (Nat.add_le_add_right hs _) (Nat.le_of_ble_eq_true rfl)⟩ (Nat.le_of_ble_eq_true rfl) rfl dL_law_956 rfl (fun v L1 M1 n1 hp => ?_)
  have hc1 : cells + rm_X8_late.cells ≤ 2000 := Nat.le_trans (Nat.add_le_add_right hc _) (Nat.le_of_ble_eq_true rfl)
  have hs1 : slots + rm_X8_late.slots ≤ 60000 := Nat.le_trans (Nat.add_le_add_right hs _) (Nat.le_of_ble_eq_true rfl)
  obtain ⟨q1, q2, q3, q4⟩ := hp
  subst q1; subst q2; subst q4
  have hf : ∀ q, m ≤ q → q < m + 9 → M1 q = mem q := fun q qa qb => by rw [← q3]
  refine r_mem (mem' := ja_rw M1 (m + 1) N_v0) (by rw [← hv, ← hf (m + 1) (by omega) (by omega), ja_rw_self]) ?_
  refine r_aload_n F rfl rfl dL_law_959 rfl ?_
  refine r_callV F GC (c_X9_late l D cA B hM N_v0_R) v_L_138 rfl hM.1 rfl ⟨Nat.le_of_ble_eq_true rfl, Nat.le_of_ble_eq_true rfl⟩ ⟨Nat.le_trans (Nat.add_le_add_right hc1 _) (Nat.le_of_ble_eq_true rfl), Nat.le_trans (Nat.add_le_add_right hs1 _) (Nat.le_of_ble_eq_true rfl)⟩ (Nat.le_of_ble_eq_true rfl) rfl dL_law_960 rfl (fun v L2 M2 n2 hp => ?_)
  obtain ⟨q5, -⟩ := hp
  subst q5
  exact r_same F (by rw [show mem (y + 1 + 14) 5 = 0 from Z_z h (c := 14) (j := 5) (by omega) (by omega)]; rfl) dL_law_963 (by decide) (J _ _ _ _ _ hc1 hs1)
