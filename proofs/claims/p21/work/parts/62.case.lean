set_option maxRecDepth 100000 in
set_option maxHeartbeats 800000 in
theorem K_16 {C : ja_C} {D : va_G} {cA : Nat → ClassId} {l : Launch} {B b L y n cells slots k : Nat} {i : Int} {lay : ja_Y} {mem : ja_M} {sl : Nat → Option Nat} {xs : Nat → Int32} (F : ja_F C RL cL_law 4 room_1) (GC : ja_G C l D cA B) (X : ja_X C b L xs) (hL : L ≤ 2560) (hi : i = 5 * (k : Int)) (hk : 5 * k + 5 ≤ L) (h : L_In S1 lay mem n y sl (500 * (k : Int))) (hc : cells ≤ 1000 + 20 * k) (hs : slots ≤ 40000 + 1269 * k) (J : ∀ (lay2 : ja_Y) (mem2 : ja_M) (n2 : Nat) (sl2 : Nat → Option Nat) (cells2 slots2 : Nat), L_In S1 lay2 mem2 n2 y sl2 (500 * (k : Int) + 500) → cells2 ≤ 1000 + 20 * k + 20 → slots2 ≤ 40000 + 1269 * k + 1269 → ja_W C cells2 slots2 lay2 mem2 n2 1226 [some (.ref b), some (.ref y), some (.ref (y + 49)), some (.int (ja_I i))] []) : ja_W C cells slots lay mem n 614 [some (.ref b), some (.ref y), some (.ref (y + 49)), some (.int (ja_I i))] [] := by
  obtain ⟨⟨hB, hO, hn, hso, hsd⟩, ⟨hM, hN, hTO, hz4, hkp⟩, hT, hx, hsl⟩ := id h
  have hSOK : S_ok S1 := S1_ok
  have hk512 : k ≤ 512 := by omega
  have hc0 : cells ≤ 500000 := by omega
  have hs0 : slots ≤ 5000000 := by omega
  obtain ⟨x1, hx1⟩ : ∃ z, z = (xs (Int.toNat (i + 1))).toInt := ⟨_, rfl⟩
  have hi1 : ja_in x1 := by rw [hx1]; exact ja_range _
  obtain ⟨i1a, i1b⟩ := id hi1
  refine r_aload_n F rfl rfl dL_law_614 rfl ?_
  refine r_aload_n F rfl rfl dL_law_615 rfl ?_
  refine r_iload_n F rfl rfl dL_law_616 rfl ?_
  refine r_iconst F dL_law_617 rfl ?_
  refine r_iadd F dL_law_618 rfl ?_
  refine r_sld F X (by omega) (by omega) (by omega) dL_law_619 rfl ?_
  refine r_eqz (z := x1) hx1.symm ?_
  refine r_callV F GC (c_X8_kind l D cA B hB hO hi1) v_L_82 rfl hB.1 rfl ⟨(Nat.le_of_ble_eq_true rfl), (Nat.le_of_ble_eq_true rfl)⟩ ⟨Nat.le_trans (Nat.add_le_add_right hc0 _) (Nat.le_of_ble_eq_true rfl), Nat.le_trans (Nat.add_le_add_right hs0 _) (Nat.le_of_ble_eq_true rfl)⟩ (Nat.le_of_ble_eq_true rfl) rfl dL_law_620 rfl (fun v L1 M1 n1 hp => ?_)
  have hc1 : cells + rm_X8_kind.cells ≤ 1000 + 20 * k + 20 := Nat.add_le_add hc (Nat.le_of_ble_eq_true rfl)
  have hs1 : slots + rm_X8_kind.slots ≤ 40000 + 1269 * k + 1269 := Nat.add_le_add hs (Nat.le_of_ble_eq_true rfl)
  have hc2 : cells + rm_X8_kind.cells ≤ 500000 := by omega
  have hs2 : slots + rm_X8_kind.slots ≤ 5000000 := by omega
  obtain ⟨q1, q2, q3, q4⟩ := hp
  subst q1; subst q2; subst q4
  have cF : ∀ q, y + 41 ≤ q → M1 q = mem q := fun q qa => by rw [← q3]
  have c1 : ∀ q, y + 49 ≤ q → q < y + 58 → M1 q = mem q := fun q qa _ => cF q (by omega)
  have cB : ja_BO M1 y sl (500 * (k : Int) + 500) := by rw [← q3]; exact BO_cg (by omega) hO (fun _ _ _ => rfl) (fun _ _ _ _ _ _ _ => rfl)
  refine r_pop F rfl dL_law_623 rfl ?_
  refine r_mem (mem' := ja_rw M1 (y + 49 + 1) (mem (y + 49 + 1))) (by rw [← c1 (y + 49 + 1) (by omega) (by omega), ja_rw_self]) ?_
  have hTO1 : N_TO M1 (y + 49) := N_TO_c (by rw [c1 _ (by omega) (by omega)]) (c1 _ (by omega) (by omega)) hTO
  have hz1 : ∀ j, 0 ≤ M1 (y + 49 + 4) j ∧ M1 (y + 49 + 4) j ≤ 1 := fun j => by rw [c1 _ (by omega) (by omega)]; exact hz4 j
  refine r_aload_n F rfl rfl dL_law_624 rfl ?_
  refine r_aload_n F rfl rfl dL_law_625 rfl ?_
  refine r_iload_n F rfl rfl dL_law_626 rfl ?_
  refine r_iconst F dL_law_627 rfl ?_
  refine r_iadd F dL_law_628 rfl ?_
  refine r_sld F X (by omega) (by omega) (by omega) dL_law_629 rfl ?_
  refine r_eqz (z := x1) hx1.symm ?_
  refine r_callV F GC (c_X9_kind l D cA B hM hN.1 hi1) v_L_85 rfl hM.1 rfl ⟨(Nat.le_of_ble_eq_true rfl), (Nat.le_of_ble_eq_true rfl)⟩ ⟨Nat.le_trans (Nat.add_le_add_right hc2 _) (Nat.le_of_ble_eq_true rfl), Nat.le_trans (Nat.add_le_add_right hs2 _) (Nat.le_of_ble_eq_true rfl)⟩ (Nat.le_of_ble_eq_true rfl) rfl dL_law_630 rfl (fun v L2 M2 n2 hp => ?_)
  obtain ⟨q5, q6, q7, q8⟩ := hp
  subst q5; subst q6; subst q8
  have hIn := In_step2 hSOK h q7 (fun q hq => cF q (by omega)) (by rw [cF _ (by omega)]) (cF _ (by omega)) cB N_rf.rf (hN.mono (by omega)) (by rw [← q3]; exact hT)
  refine r_pop F rfl dL_law_633 rfl ?_
  refine r_goto F (tgt := 1226) dL_law_634 (by decide) ?_
  exact J _ _ _ _ _ _ hIn (Nat.le_trans (Nat.add_le_add_left ((Nat.le_of_ble_eq_true rfl) : rm_X9_kind.cells ≤ 0) _) hc1) (Nat.le_trans (Nat.add_le_add_left ((Nat.le_of_ble_eq_true rfl) : rm_X9_kind.slots ≤ 0) _) hs1)
set_option maxRecDepth 100000 in
set_option maxHeartbeats 800000 in
theorem K_17 {C : ja_C} {D : va_G} {cA : Nat → ClassId} {l : Launch} {B b L y n cells slots k : Nat} {i : Int} {lay : ja_Y} {mem : ja_M} {sl : Nat → Option Nat} {xs : Nat → Int32} (F : ja_F C RL cL_law 4 room_1) (GC : ja_G C l D cA B) (X : ja_X C b L xs) (hL : L ≤ 2560) (hi : i = 5 * (k : Int)) (hk : 5 * k + 5 ≤ L) (h : L_In S1 lay mem n y sl (500 * (k : Int))) (hc : cells ≤ 1000 + 20 * k) (hs : slots ≤ 40000 + 1269 * k) (J : ∀ (lay2 : ja_Y) (mem2 : ja_M) (n2 : Nat) (sl2 : Nat → Option Nat) (cells2 slots2 : Nat), L_In S1 lay2 mem2 n2 y sl2 (500 * (k : Int) + 500) → cells2 ≤ 1000 + 20 * k + 20 → slots2 ≤ 40000 + 1269 * k + 1269 → ja_W C cells2 slots2 lay2 mem2 n2 1226 [some (.ref b), some (.ref y), some (.ref (y + 49)), some (.int (ja_I i))] []) : ja_W C cells slots lay mem n 637 [some (.ref b), some (.ref y), some (.ref (y + 49)), some (.int (ja_I i))] [] := by
  obtain ⟨⟨hB, hO, hn, hso, hsd⟩, ⟨hM, hN, hTO, hz4, hkp⟩, hT, hx, hsl⟩ := id h
  have hSOK : S_ok S1 := S1_ok
  have hk512 : k ≤ 512 := by omega
  have hc0 : cells ≤ 500000 := by omega
  have hs0 : slots ≤ 5000000 := by omega
  obtain ⟨x1, hx1⟩ : ∃ z, z = (xs (Int.toNat (i + 1))).toInt := ⟨_, rfl⟩
  have hi1 : ja_in x1 := by rw [hx1]; exact ja_range _
  obtain ⟨i1a, i1b⟩ := id hi1
  refine r_aload_n F rfl rfl dL_law_637 rfl ?_
  refine r_aload_n F rfl rfl dL_law_638 rfl ?_
  refine r_iload_n F rfl rfl dL_law_639 rfl ?_
  refine r_iconst F dL_law_640 rfl ?_
  refine r_iadd F dL_law_641 rfl ?_
  refine r_sld F X (by omega) (by omega) (by omega) dL_law_642 rfl ?_
  refine r_eqz (z := x1) hx1.symm ?_
  refine r_callV F GC (c_X8_state l D cA B hB hO hi1) v_L_86 rfl hB.1 rfl ⟨(Nat.le_of_ble_eq_true rfl), (Nat.le_of_ble_eq_true rfl)⟩ ⟨Nat.le_trans (Nat.add_le_add_right hc0 _) (Nat.le_of_ble_eq_true rfl), Nat.le_trans (Nat.add_le_add_right hs0 _) (Nat.le_of_ble_eq_true rfl)⟩ (Nat.le_of_ble_eq_true rfl) rfl dL_law_643 rfl (fun v L1 M1 n1 hp => ?_)
  have hc1 : cells + rm_X8_state.cells ≤ 1000 + 20 * k + 20 := Nat.add_le_add hc (Nat.le_of_ble_eq_true rfl)
  have hs1 : slots + rm_X8_state.slots ≤ 40000 + 1269 * k + 1269 := Nat.add_le_add hs (Nat.le_of_ble_eq_true rfl)
  have hc2 : cells + rm_X8_state.cells ≤ 500000 := by omega
  have hs2 : slots + rm_X8_state.slots ≤ 5000000 := by omega
  obtain ⟨q1, q2, q3, q4⟩ := hp
  subst q1; subst q2; subst q4
  have cF : ∀ q, y + 41 ≤ q → M1 q = mem q := fun q qa => by rw [← q3]
  have c1 : ∀ q, y + 49 ≤ q → q < y + 58 → M1 q = mem q := fun q qa _ => cF q (by omega)
  have cB : ja_BO M1 y sl (500 * (k : Int) + 500) := by rw [← q3]; exact BO_cg (by omega) hO (fun _ _ _ => rfl) (fun _ _ _ _ _ _ _ => rfl)
  refine r_pop F rfl dL_law_646 rfl ?_
  refine r_mem (mem' := ja_rw M1 (y + 49 + 1) (mem (y + 49 + 1))) (by rw [← c1 (y + 49 + 1) (by omega) (by omega), ja_rw_self]) ?_
  have hTO1 : N_TO M1 (y + 49) := N_TO_c (by rw [c1 _ (by omega) (by omega)]) (c1 _ (by omega) (by omega)) hTO
  have hz1 : ∀ j, 0 ≤ M1 (y + 49 + 4) j ∧ M1 (y + 49 + 4) j ≤ 1 := fun j => by rw [c1 _ (by omega) (by omega)]; exact hz4 j
  refine r_aload_n F rfl rfl dL_law_647 rfl ?_
  refine r_aload_n F rfl rfl dL_law_648 rfl ?_
  refine r_iload_n F rfl rfl dL_law_649 rfl ?_
  refine r_iconst F dL_law_650 rfl ?_
  refine r_iadd F dL_law_651 rfl ?_
  refine r_sld F X (by omega) (by omega) (by omega) dL_law_652 rfl ?_
  refine r_eqz (z := x1) hx1.symm ?_
  refine r_callV F GC (c_X9_state l D cA B hM hN.1 hi1) v_L_89 rfl hM.1 rfl ⟨(Nat.le_of_ble_eq_true rfl), (Nat.le_of_ble_eq_true rfl)⟩ ⟨Nat.le_trans (Nat.add_le_add_right hc2 _) (Nat.le_of_ble_eq_true rfl), Nat.le_trans (Nat.add_le_add_right hs2 _) (Nat.le_of_ble_eq_true rfl)⟩ (Nat.le_of_ble_eq_true rfl) rfl dL_law_653 rfl (fun v L2 M2 n2 hp => ?_)
  obtain ⟨q5, q6, q7, q8⟩ := hp
  subst q5; subst q6; subst q8
  have hIn := In_step2 hSOK h q7 (fun q hq => cF q (by omega)) (by rw [cF _ (by omega)]) (cF _ (by omega)) cB N_rf.rf (hN.mono (by omega)) (by rw [← q3]; exact hT)
  refine r_pop F rfl dL_law_656 rfl ?_
  refine r_goto F (tgt := 1226) dL_law_657 (by decide) ?_
  exact J _ _ _ _ _ _ hIn (Nat.le_trans (Nat.add_le_add_left ((Nat.le_of_ble_eq_true rfl) : rm_X9_state.cells ≤ 0) _) hc1) (Nat.le_trans (Nat.add_le_add_left ((Nat.le_of_ble_eq_true rfl) : rm_X9_state.slots ≤ 0) _) hs1)
set_option maxRecDepth 100000 in
set_option maxHeartbeats 800000 in
theorem K_18 {C : ja_C} {D : va_G} {cA : Nat → ClassId} {l : Launch} {B b L y n cells slots k : Nat} {i : Int} {lay : ja_Y} {mem : ja_M} {sl : Nat → Option Nat} {xs : Nat → Int32} (F : ja_F C RL cL_law 4 room_1) (GC : ja_G C l D cA B) (X : ja_X C b L xs) (hL : L ≤ 2560) (hi : i = 5 * (k : Int)) (hk : 5 * k + 5 ≤ L) (h : L_In S1 lay mem n y sl (500 * (k : Int))) (hc : cells ≤ 1000 + 20 * k) (hs : slots ≤ 40000 + 1269 * k) (J : ∀ (lay2 : ja_Y) (mem2 : ja_M) (n2 : Nat) (sl2 : Nat → Option Nat) (cells2 slots2 : Nat), L_In S1 lay2 mem2 n2 y sl2 (500 * (k : Int) + 500) → cells2 ≤ 1000 + 20 * k + 20 → slots2 ≤ 40000 + 1269 * k + 1269 → ja_W C cells2 slots2 lay2 mem2 n2 1226 [some (.ref b), some (.ref y), some (.ref (y + 49)), some (.int (ja_I i))] []) : ja_W C cells slots lay mem n 660 [some (.ref b), some (.ref y), some (.ref (y + 49)), some (.int (ja_I i))] [] := by
  obtain ⟨⟨hB, hO, hn, hso, hsd⟩, ⟨hM, hN, hTO, hz4, hkp⟩, hT, hx, hsl⟩ := id h
  have hSOK : S_ok S1 := S1_ok
  have hk512 : k ≤ 512 := by omega
  have hc0 : cells ≤ 500000 := by omega
  have hs0 : slots ≤ 5000000 := by omega
  obtain ⟨x1, hx1⟩ : ∃ z, z = (xs (Int.toNat (i + 1))).toInt := ⟨_, rfl⟩
  have hi1 : ja_in x1 := by rw [hx1]; exact ja_range _
  obtain ⟨i1a, i1b⟩ := id hi1
  obtain ⟨x2, hx2⟩ : ∃ z, z = (xs (Int.toNat (i + 2))).toInt := ⟨_, rfl⟩
  have hi2 : ja_in x2 := by rw [hx2]; exact ja_range _
  obtain ⟨i2a, i2b⟩ := id hi2
  refine r_aload_n F rfl rfl dL_law_660 rfl ?_
  refine r_aload_n F rfl rfl dL_law_661 rfl ?_
  refine r_iload_n F rfl rfl dL_law_662 rfl ?_
  refine r_iconst F dL_law_663 rfl ?_
  refine r_iadd F dL_law_664 rfl ?_
  refine r_sld F X (by omega) (by omega) (by omega) dL_law_665 rfl ?_
  refine r_eqz (z := x1) hx1.symm ?_
  refine r_aload_n F rfl rfl dL_law_666 rfl ?_
  refine r_iload_n F rfl rfl dL_law_667 rfl ?_
  refine r_iconst F dL_law_668 rfl ?_
  refine r_iadd F dL_law_669 rfl ?_
  refine r_sld F X (by omega) (by omega) (by omega) dL_law_670 rfl ?_
  refine r_eqz (z := x2) hx2.symm ?_
  refine r_callV F GC (c_X8_sample l D cA B hB hO hi1 hi2) v_L_90 rfl hB.1 rfl ⟨(Nat.le_of_ble_eq_true rfl), (Nat.le_of_ble_eq_true rfl)⟩ ⟨Nat.le_trans (Nat.add_le_add_right hc0 _) (Nat.le_of_ble_eq_true rfl), Nat.le_trans (Nat.add_le_add_right hs0 _) (Nat.le_of_ble_eq_true rfl)⟩ (Nat.le_of_ble_eq_true rfl) rfl dL_law_671 rfl (fun v L1 M1 n1 hp => ?_)
  have hc1 : cells + rm_X8_sample.cells ≤ 1000 + 20 * k + 20 := Nat.add_le_add hc (Nat.le_of_ble_eq_true rfl)
  have hs1 : slots + rm_X8_sample.slots ≤ 40000 + 1269 * k + 1269 := Nat.add_le_add hs (Nat.le_of_ble_eq_true rfl)
  have hc2 : cells + rm_X8_sample.cells ≤ 500000 := by omega
  have hs2 : slots + rm_X8_sample.slots ≤ 5000000 := by omega
  obtain ⟨q1, q2, q3, q4⟩ := hp
  subst q1; subst q2; subst q4
  have cF : ∀ q, y + 41 ≤ q → M1 q = mem q := fun q qa => by rw [← q3]
  have c1 : ∀ q, y + 49 ≤ q → q < y + 58 → M1 q = mem q := fun q qa _ => cF q (by omega)
  have cB : ja_BO M1 y sl (500 * (k : Int) + 500) := by rw [← q3]; exact BO_cg (by omega) hO (fun _ _ _ => rfl) (fun _ _ _ _ _ _ _ => rfl)
  refine r_pop F rfl dL_law_674 rfl ?_
  refine r_mem (mem' := ja_rw M1 (y + 49 + 1) (mem (y + 49 + 1))) (by rw [← c1 (y + 49 + 1) (by omega) (by omega), ja_rw_self]) ?_
  have hTO1 : N_TO M1 (y + 49) := N_TO_c (by rw [c1 _ (by omega) (by omega)]) (c1 _ (by omega) (by omega)) hTO
  have hz1 : ∀ j, 0 ≤ M1 (y + 49 + 4) j ∧ M1 (y + 49 + 4) j ≤ 1 := fun j => by rw [c1 _ (by omega) (by omega)]; exact hz4 j
  refine r_aload_n F rfl rfl dL_law_675 rfl ?_
  refine r_aload_n F rfl rfl dL_law_676 rfl ?_
  refine r_iload_n F rfl rfl dL_law_677 rfl ?_
  refine r_iconst F dL_law_678 rfl ?_
  refine r_iadd F dL_law_679 rfl ?_
  refine r_sld F X (by omega) (by omega) (by omega) dL_law_680 rfl ?_
  refine r_eqz (z := x1) hx1.symm ?_
  refine r_aload_n F rfl rfl dL_law_681 rfl ?_
  refine r_iload_n F rfl rfl dL_law_682 rfl ?_
  refine r_iconst F dL_law_683 rfl ?_
  refine r_iadd F dL_law_684 rfl ?_
  refine r_sld F X (by omega) (by omega) (by omega) dL_law_685 rfl ?_
  refine r_eqz (z := x2) hx2.symm ?_
  refine r_callV F GC (c_X9_sample l D cA B hM hN.1 hi1 hi2) v_L_93 rfl hM.1 rfl ⟨(Nat.le_of_ble_eq_true rfl), (Nat.le_of_ble_eq_true rfl)⟩ ⟨Nat.le_trans (Nat.add_le_add_right hc2 _) (Nat.le_of_ble_eq_true rfl), Nat.le_trans (Nat.add_le_add_right hs2 _) (Nat.le_of_ble_eq_true rfl)⟩ (Nat.le_of_ble_eq_true rfl) rfl dL_law_686 rfl (fun v L2 M2 n2 hp => ?_)
  obtain ⟨q5, q6, q7, q8⟩ := hp
  subst q5; subst q6; subst q8
  have hIn := In_step2 hSOK h q7 (fun q hq => cF q (by omega)) (by rw [cF _ (by omega)]) (cF _ (by omega)) cB N_rf.rf (hN.mono (by omega)) (by rw [← q3]; exact hT)
  refine r_pop F rfl dL_law_689 rfl ?_
  refine r_goto F (tgt := 1226) dL_law_690 (by decide) ?_
  exact J _ _ _ _ _ _ hIn (Nat.le_trans (Nat.add_le_add_left ((Nat.le_of_ble_eq_true rfl) : rm_X9_sample.cells ≤ 0) _) hc1) (Nat.le_trans (Nat.add_le_add_left ((Nat.le_of_ble_eq_true rfl) : rm_X9_sample.slots ≤ 0) _) hs1)
set_option maxRecDepth 100000 in
set_option maxHeartbeats 800000 in
theorem K_19 {C : ja_C} {D : va_G} {cA : Nat → ClassId} {l : Launch} {B b L y n cells slots k : Nat} {i : Int} {lay : ja_Y} {mem : ja_M} {sl : Nat → Option Nat} {xs : Nat → Int32} (F : ja_F C RL cL_law 4 room_1) (GC : ja_G C l D cA B) (X : ja_X C b L xs) (hL : L ≤ 2560) (hi : i = 5 * (k : Int)) (hk : 5 * k + 5 ≤ L) (h : L_In S1 lay mem n y sl (500 * (k : Int))) (hc : cells ≤ 1000 + 20 * k) (hs : slots ≤ 40000 + 1269 * k) (J : ∀ (lay2 : ja_Y) (mem2 : ja_M) (n2 : Nat) (sl2 : Nat → Option Nat) (cells2 slots2 : Nat), L_In S1 lay2 mem2 n2 y sl2 (500 * (k : Int) + 500) → cells2 ≤ 1000 + 20 * k + 20 → slots2 ≤ 40000 + 1269 * k + 1269 → ja_W C cells2 slots2 lay2 mem2 n2 1226 [some (.ref b), some (.ref y), some (.ref (y + 49)), some (.int (ja_I i))] []) : ja_W C cells slots lay mem n 693 [some (.ref b), some (.ref y), some (.ref (y + 49)), some (.int (ja_I i))] [] := by
  obtain ⟨⟨hB, hO, hn, hso, hsd⟩, ⟨hM, hN, hTO, hz4, hkp⟩, hT, hx, hsl⟩ := id h
  have hSOK : S_ok S1 := S1_ok
  have hk512 : k ≤ 512 := by omega
  have hc0 : cells ≤ 500000 := by omega
  have hs0 : slots ≤ 5000000 := by omega
  obtain ⟨x1, hx1⟩ : ∃ z, z = (xs (Int.toNat (i + 1))).toInt := ⟨_, rfl⟩
  have hi1 : ja_in x1 := by rw [hx1]; exact ja_range _
  obtain ⟨i1a, i1b⟩ := id hi1
  obtain ⟨x2, hx2⟩ : ∃ z, z = (xs (Int.toNat (i + 2))).toInt := ⟨_, rfl⟩
  have hi2 : ja_in x2 := by rw [hx2]; exact ja_range _
  obtain ⟨i2a, i2b⟩ := id hi2
  obtain ⟨x3, hx3⟩ : ∃ z, z = (xs (Int.toNat (i + 3))).toInt := ⟨_, rfl⟩
  have hi3 : ja_in x3 := by rw [hx3]; exact ja_range _
  obtain ⟨i3a, i3b⟩ := id hi3
  refine r_aload_n F rfl rfl dL_law_693 rfl ?_
  refine r_aload_n F rfl rfl dL_law_694 rfl ?_
  refine r_iload_n F rfl rfl dL_law_695 rfl ?_
  refine r_iconst F dL_law_696 rfl ?_
  refine r_iadd F dL_law_697 rfl ?_
  refine r_sld F X (by omega) (by omega) (by omega) dL_law_698 rfl ?_
  refine r_eqz (z := x1) hx1.symm ?_
  refine r_bool F hi1 dL_law_699 (by decide) dL_law_702 dL_law_703 (by decide) dL_law_706 rfl ?_
  refine r_aload_n F rfl rfl dL_law_707 rfl ?_
  refine r_iload_n F rfl rfl dL_law_708 rfl ?_
  refine r_iconst F dL_law_709 rfl ?_
  refine r_iadd F dL_law_710 rfl ?_
  refine r_sld F X (by omega) (by omega) (by omega) dL_law_711 rfl ?_
  refine r_eqz (z := x2) hx2.symm ?_
  refine r_aload_n F rfl rfl dL_law_712 rfl ?_
  refine r_iload_n F rfl rfl dL_law_713 rfl ?_
  refine r_iconst F dL_law_714 rfl ?_
  refine r_iadd F dL_law_715 rfl ?_
  refine r_sld F X (by omega) (by omega) (by omega) dL_law_716 rfl ?_
  refine r_eqz (z := x3) hx3.symm ?_
  refine r_callV F GC (c_X8_missing l D cA B hB hO ja_b_in hi2 hi3 ja_b_r) v_L_94 rfl hB.1 rfl ⟨(Nat.le_of_ble_eq_true rfl), (Nat.le_of_ble_eq_true rfl)⟩ ⟨Nat.le_trans (Nat.add_le_add_right hc0 _) (Nat.le_of_ble_eq_true rfl), Nat.le_trans (Nat.add_le_add_right hs0 _) (Nat.le_of_ble_eq_true rfl)⟩ (Nat.le_of_ble_eq_true rfl) rfl dL_law_717 rfl (fun v L1 M1 n1 hp => ?_)
  have hc1 : cells + rm_X8_missing.cells ≤ 1000 + 20 * k + 20 := Nat.add_le_add hc (Nat.le_of_ble_eq_true rfl)
  have hs1 : slots + rm_X8_missing.slots ≤ 40000 + 1269 * k + 1269 := Nat.add_le_add hs (Nat.le_of_ble_eq_true rfl)
  have hc2 : cells + rm_X8_missing.cells ≤ 500000 := by omega
  have hs2 : slots + rm_X8_missing.slots ≤ 5000000 := by omega
  obtain ⟨q1, q2, q3, q4⟩ := hp
  subst q1; subst q2; subst q4
  have cF : ∀ q, y + 41 ≤ q → M1 q = mem q := fun q qa => by rw [← q3]
  have c1 : ∀ q, y + 49 ≤ q → q < y + 58 → M1 q = mem q := fun q qa _ => cF q (by omega)
  have cB : ja_BO M1 y sl (500 * (k : Int) + 500) := by rw [← q3]; exact BO_cg (by omega) hO (fun _ _ _ => rfl) (fun _ _ _ _ _ _ _ => rfl)
  refine r_mem (mem' := ja_rw M1 (y + 49 + 1) (mem (y + 49 + 1))) (by rw [← c1 (y + 49 + 1) (by omega) (by omega), ja_rw_self]) ?_
  have hTO1 : N_TO M1 (y + 49) := N_TO_c (by rw [c1 _ (by omega) (by omega)]) (c1 _ (by omega) (by omega)) hTO
  have hz1 : ∀ j, 0 ≤ M1 (y + 49 + 4) j ∧ M1 (y + 49 + 4) j ≤ 1 := fun j => by rw [c1 _ (by omega) (by omega)]; exact hz4 j
  refine r_aload_n F rfl rfl dL_law_720 rfl ?_
  refine r_aload_n F rfl rfl dL_law_721 rfl ?_
  refine r_iload_n F rfl rfl dL_law_722 rfl ?_
  refine r_iconst F dL_law_723 rfl ?_
  refine r_iadd F dL_law_724 rfl ?_
  refine r_sld F X (by omega) (by omega) (by omega) dL_law_725 rfl ?_
  refine r_eqz (z := x1) hx1.symm ?_
  refine r_bool F hi1 dL_law_726 (by decide) dL_law_729 dL_law_730 (by decide) dL_law_733 rfl ?_
  refine r_aload_n F rfl rfl dL_law_734 rfl ?_
  refine r_iload_n F rfl rfl dL_law_735 rfl ?_
  refine r_iconst F dL_law_736 rfl ?_
  refine r_iadd F dL_law_737 rfl ?_
  refine r_sld F X (by omega) (by omega) (by omega) dL_law_738 rfl ?_
  refine r_eqz (z := x2) hx2.symm ?_
  refine r_aload_n F rfl rfl dL_law_739 rfl ?_
  refine r_iload_n F rfl rfl dL_law_740 rfl ?_
  refine r_iconst F dL_law_741 rfl ?_
  refine r_iadd F dL_law_742 rfl ?_
  refine r_sld F X (by omega) (by omega) (by omega) dL_law_743 rfl ?_
  refine r_eqz (z := x3) hx3.symm ?_
  refine r_callV F GC (c_X9_missing l D cA B hM hN.1 ja_b_r hi2 hi3) v_L_97 rfl hM.1 rfl ⟨(Nat.le_of_ble_eq_true rfl), (Nat.le_of_ble_eq_true rfl)⟩ ⟨Nat.le_trans (Nat.add_le_add_right hc2 _) (Nat.le_of_ble_eq_true rfl), Nat.le_trans (Nat.add_le_add_right hs2 _) (Nat.le_of_ble_eq_true rfl)⟩ (Nat.le_of_ble_eq_true rfl) rfl dL_law_744 rfl (fun v L2 M2 n2 hp => ?_)
  obtain ⟨q5, q6, q7, q8⟩ := hp
  subst q5; subst q6; subst q8
  have hIn := In_step2 hSOK h q7 (fun q hq => cF q (by omega)) (by rw [cF _ (by omega)]) (cF _ (by omega)) cB N_rf.rf (hN.mono (by omega)) (by rw [← q3]; exact hT)
  exact r_same F (ja_if (ja_hasP_N hT.1.1.1 _ _ _) (fun q => a_mi hN hO.1.1 q hT.1) rfl) dL_law_747 (by decide) (J _ _ _ _ _ _ hIn (Nat.le_trans (Nat.add_le_add_left ((Nat.le_of_ble_eq_true rfl) : rm_X9_missing.cells ≤ 0) _) hc1) (Nat.le_trans (Nat.add_le_add_left ((Nat.le_of_ble_eq_true rfl) : rm_X9_missing.slots ≤ 0) _) hs1))
set_option maxRecDepth 100000 in
set_option maxHeartbeats 800000 in
theorem K_20 {C : ja_C} {D : va_G} {cA : Nat → ClassId} {l : Launch} {B b L y n cells slots k : Nat} {i : Int} {lay : ja_Y} {mem : ja_M} {sl : Nat → Option Nat} {xs : Nat → Int32} (F : ja_F C RL cL_law 4 room_1) (GC : ja_G C l D cA B) (X : ja_X C b L xs) (hL : L ≤ 2560) (hi : i = 5 * (k : Int)) (hk : 5 * k + 5 ≤ L) (h : L_In S1 lay mem n y sl (500 * (k : Int))) (hc : cells ≤ 1000 + 20 * k) (hs : slots ≤ 40000 + 1269 * k) (J : ∀ (lay2 : ja_Y) (mem2 : ja_M) (n2 : Nat) (sl2 : Nat → Option Nat) (cells2 slots2 : Nat), L_In S1 lay2 mem2 n2 y sl2 (500 * (k : Int) + 500) → cells2 ≤ 1000 + 20 * k + 20 → slots2 ≤ 40000 + 1269 * k + 1269 → ja_W C cells2 slots2 lay2 mem2 n2 1226 [some (.ref b), some (.ref y), some (.ref (y + 49)), some (.int (ja_I i))] []) : ja_W C cells slots lay mem n 752 [some (.ref b), some (.ref y), some (.ref (y + 49)), some (.int (ja_I i))] [] := by
  obtain ⟨⟨hB, hO, hn, hso, hsd⟩, ⟨hM, hN, hTO, hz4, hkp⟩, hT, hx, hsl⟩ := id h
  have hSOK : S_ok S1 := S1_ok
  have hk512 : k ≤ 512 := by omega
  have hc0 : cells ≤ 500000 := by omega
  have hs0 : slots ≤ 5000000 := by omega
  obtain ⟨x1, hx1⟩ : ∃ z, z = (xs (Int.toNat (i + 1))).toInt := ⟨_, rfl⟩
  have hi1 : ja_in x1 := by rw [hx1]; exact ja_range _
  obtain ⟨i1a, i1b⟩ := id hi1
  refine r_aload_n F rfl rfl dL_law_752 rfl ?_
  refine r_aload_n F rfl rfl dL_law_753 rfl ?_
  refine r_iload_n F rfl rfl dL_law_754 rfl ?_
  refine r_iconst F dL_law_755 rfl ?_
  refine r_iadd F dL_law_756 rfl ?_
  refine r_sld F X (by omega) (by omega) (by omega) dL_law_757 rfl ?_
  refine r_eqz (z := x1) hx1.symm ?_
  refine r_callV F GC (c_X8_unrestorable l D cA B hB hO hi1) v_L_98 rfl hB.1 rfl ⟨(Nat.le_of_ble_eq_true rfl), (Nat.le_of_ble_eq_true rfl)⟩ ⟨Nat.le_trans (Nat.add_le_add_right hc0 _) (Nat.le_of_ble_eq_true rfl), Nat.le_trans (Nat.add_le_add_right hs0 _) (Nat.le_of_ble_eq_true rfl)⟩ (Nat.le_of_ble_eq_true rfl) rfl dL_law_758 rfl (fun v L1 M1 n1 hp => ?_)
  have hc1 : cells + rm_X8_unrestorable.cells ≤ 1000 + 20 * k + 20 := Nat.add_le_add hc (Nat.le_of_ble_eq_true rfl)
  have hs1 : slots + rm_X8_unrestorable.slots ≤ 40000 + 1269 * k + 1269 := Nat.add_le_add hs (Nat.le_of_ble_eq_true rfl)
  have hc2 : cells + rm_X8_unrestorable.cells ≤ 500000 := by omega
  have hs2 : slots + rm_X8_unrestorable.slots ≤ 5000000 := by omega
  obtain ⟨q1, q2, q3, q4⟩ := hp
  subst q1; subst q2; subst q4
  have cF : ∀ q, y + 41 ≤ q → M1 q = mem q := fun q qa => by rw [← q3]
  have c1 : ∀ q, y + 49 ≤ q → q < y + 58 → M1 q = mem q := fun q qa _ => cF q (by omega)
  have cB : ja_BO M1 y sl (500 * (k : Int) + 500) := by rw [← q3]; exact BO_cg (by omega) hO (fun _ _ _ => rfl) (fun _ _ _ _ _ _ _ => rfl)
  refine r_pop F rfl dL_law_761 rfl ?_
  refine r_mem (mem' := ja_rw M1 (y + 49 + 1) (mem (y + 49 + 1))) (by rw [← c1 (y + 49 + 1) (by omega) (by omega), ja_rw_self]) ?_
  have hTO1 : N_TO M1 (y + 49) := N_TO_c (by rw [c1 _ (by omega) (by omega)]) (c1 _ (by omega) (by omega)) hTO
  have hz1 : ∀ j, 0 ≤ M1 (y + 49 + 4) j ∧ M1 (y + 49 + 4) j ≤ 1 := fun j => by rw [c1 _ (by omega) (by omega)]; exact hz4 j
  refine r_aload_n F rfl rfl dL_law_762 rfl ?_
  refine r_aload_n F rfl rfl dL_law_763 rfl ?_
  refine r_iload_n F rfl rfl dL_law_764 rfl ?_
  refine r_iconst F dL_law_765 rfl ?_
  refine r_iadd F dL_law_766 rfl ?_
  refine r_sld F X (by omega) (by omega) (by omega) dL_law_767 rfl ?_
  refine r_eqz (z := x1) hx1.symm ?_
  refine r_callV F GC (c_X9_unrestorable l D cA B hM hN.1 hi1) v_L_101 rfl hM.1 rfl ⟨(Nat.le_of_ble_eq_true rfl), (Nat.le_of_ble_eq_true rfl)⟩ ⟨Nat.le_trans (Nat.add_le_add_right hc2 _) (Nat.le_of_ble_eq_true rfl), Nat.le_trans (Nat.add_le_add_right hs2 _) (Nat.le_of_ble_eq_true rfl)⟩ (Nat.le_of_ble_eq_true rfl) rfl dL_law_768 rfl (fun v L2 M2 n2 hp => ?_)
  obtain ⟨q5, q6, q8, G2, hg, q7⟩ := hp
  subst q5; subst q6; subst q8
  have hIn := In_step2 hSOK h q7.symm (fun q hq => cF q (by omega)) (by rw [cF _ (by omega)]) (cF _ (by omega)) cB hg.f (hN.mono (by omega)) (by rw [← q3]; exact hT)
  refine r_pop F rfl dL_law_771 rfl ?_
  refine r_goto F (tgt := 1226) dL_law_772 (by decide) ?_
  exact J _ _ _ _ _ _ hIn (Nat.le_trans (Nat.add_le_add_left ((Nat.le_of_ble_eq_true rfl) : rm_X9_unrestorable.cells ≤ 0) _) hc1) (Nat.le_trans (Nat.add_le_add_left ((Nat.le_of_ble_eq_true rfl) : rm_X9_unrestorable.slots ≤ 0) _) hs1)
set_option maxRecDepth 100000 in
set_option maxHeartbeats 800000 in
theorem K_21 {C : ja_C} {D : va_G} {cA : Nat → ClassId} {l : Launch} {B b L y n cells slots k : Nat} {i : Int} {lay : ja_Y} {mem : ja_M} {sl : Nat → Option Nat} {xs : Nat → Int32} (F : ja_F C RL cL_law 4 room_1) (GC : ja_G C l D cA B) (X : ja_X C b L xs) (hL : L ≤ 2560) (hi : i = 5 * (k : Int)) (hk : 5 * k + 5 ≤ L) (h : L_In S1 lay mem n y sl (500 * (k : Int))) (hc : cells ≤ 1000 + 20 * k) (hs : slots ≤ 40000 + 1269 * k) (J : ∀ (lay2 : ja_Y) (mem2 : ja_M) (n2 : Nat) (sl2 : Nat → Option Nat) (cells2 slots2 : Nat), L_In S1 lay2 mem2 n2 y sl2 (500 * (k : Int) + 500) → cells2 ≤ 1000 + 20 * k + 20 → slots2 ≤ 40000 + 1269 * k + 1269 → ja_W C cells2 slots2 lay2 mem2 n2 1226 [some (.ref b), some (.ref y), some (.ref (y + 49)), some (.int (ja_I i))] []) : ja_W C cells slots lay mem n 775 [some (.ref b), some (.ref y), some (.ref (y + 49)), some (.int (ja_I i))] [] := by
  obtain ⟨⟨hB, hO, hn, hso, hsd⟩, ⟨hM, hN, hTO, hz4, hkp⟩, hT, hx, hsl⟩ := id h
  have hSOK : S_ok S1 := S1_ok
  have hk512 : k ≤ 512 := by omega
  have hc0 : cells ≤ 500000 := by omega
  have hs0 : slots ≤ 5000000 := by omega
  obtain ⟨x1, hx1⟩ : ∃ z, z = (xs (Int.toNat (i + 1))).toInt := ⟨_, rfl⟩
  have hi1 : ja_in x1 := by rw [hx1]; exact ja_range _
  obtain ⟨i1a, i1b⟩ := id hi1
  obtain ⟨x2, hx2⟩ : ∃ z, z = (xs (Int.toNat (i + 2))).toInt := ⟨_, rfl⟩
  have hi2 : ja_in x2 := by rw [hx2]; exact ja_range _
  obtain ⟨i2a, i2b⟩ := id hi2
  obtain ⟨x3, hx3⟩ : ∃ z, z = (xs (Int.toNat (i + 3))).toInt := ⟨_, rfl⟩
  have hi3 : ja_in x3 := by rw [hx3]; exact ja_range _
  obtain ⟨i3a, i3b⟩ := id hi3
  obtain ⟨x4, hx4⟩ : ∃ z, z = (xs (Int.toNat (i + 4))).toInt := ⟨_, rfl⟩
  have hi4 : ja_in x4 := by rw [hx4]; exact ja_range _
  obtain ⟨i4a, i4b⟩ := id hi4
  refine r_aload_n F rfl rfl dL_law_775 rfl ?_
  refine r_aload_n F rfl rfl dL_law_776 rfl ?_
  refine r_iload_n F rfl rfl dL_law_777 rfl ?_
  refine r_iconst F dL_law_778 rfl ?_
  refine r_iadd F dL_law_779 rfl ?_
  refine r_sld F X (by omega) (by omega) (by omega) dL_law_780 rfl ?_
  refine r_eqz (z := x1) hx1.symm ?_
  refine r_bool F hi1 dL_law_781 (by decide) dL_law_784 dL_law_785 (by decide) dL_law_788 rfl ?_
  refine r_aload_n F rfl rfl dL_law_789 rfl ?_
  refine r_iload_n F rfl rfl dL_law_790 rfl ?_
  refine r_iconst F dL_law_791 rfl ?_
  refine r_iadd F dL_law_792 rfl ?_
  refine r_sld F X (by omega) (by omega) (by omega) dL_law_793 rfl ?_
  refine r_eqz (z := x2) hx2.symm ?_
  refine r_aload_n F rfl rfl dL_law_794 rfl ?_
  refine r_iload_n F rfl rfl dL_law_795 rfl ?_
  refine r_iconst F dL_law_796 rfl ?_
  refine r_iadd F dL_law_797 rfl ?_
  refine r_sld F X (by omega) (by omega) (by omega) dL_law_798 rfl ?_
  refine r_eqz (z := x3) hx3.symm ?_
  refine r_aload_n F rfl rfl dL_law_799 rfl ?_
  refine r_iload_n F rfl rfl dL_law_800 rfl ?_
  refine r_iconst F dL_law_801 rfl ?_
  refine r_iadd F dL_law_802 rfl ?_
  refine r_sld F X (by omega) (by omega) (by omega) dL_law_803 rfl ?_
  refine r_eqz (z := x4) hx4.symm ?_
  refine r_callV F GC (c_X8_paritySample l D cA B hB hO ja_b_in hi2 hi3 hi4 ja_b_r) v_L_102 rfl hB.1 rfl ⟨(Nat.le_of_ble_eq_true rfl), (Nat.le_of_ble_eq_true rfl)⟩ ⟨Nat.le_trans (Nat.add_le_add_right hc0 _) (Nat.le_of_ble_eq_true rfl), Nat.le_trans (Nat.add_le_add_right hs0 _) (Nat.le_of_ble_eq_true rfl)⟩ (Nat.le_of_ble_eq_true rfl) rfl dL_law_804 rfl (fun v L1 M1 n1 hp => ?_)
  have hc1 : cells + rm_X8_paritySample.cells ≤ 1000 + 20 * k + 20 := Nat.add_le_add hc (Nat.le_of_ble_eq_true rfl)
  have hs1 : slots + rm_X8_paritySample.slots ≤ 40000 + 1269 * k + 1269 := Nat.add_le_add hs (Nat.le_of_ble_eq_true rfl)
  have hc2 : cells + rm_X8_paritySample.cells ≤ 500000 := by omega
  have hs2 : slots + rm_X8_paritySample.slots ≤ 5000000 := by omega
  obtain ⟨q1, q2, q3, q4⟩ := hp
  subst q1; subst q2; subst q4
  have cF : ∀ q, y + 41 ≤ q → M1 q = mem q := fun q qa => by rw [← q3]
  have c1 : ∀ q, y + 49 ≤ q → q < y + 58 → M1 q = mem q := fun q qa _ => cF q (by omega)
  have cB : ja_BO M1 y sl (500 * (k : Int) + 500) := by rw [← q3]; exact BO_cg (by omega) hO (fun _ _ _ => rfl) (fun _ _ _ _ _ _ _ => rfl)
  refine r_pop F rfl dL_law_807 rfl ?_
  refine r_mem (mem' := ja_rw M1 (y + 49 + 1) (mem (y + 49 + 1))) (by rw [← c1 (y + 49 + 1) (by omega) (by omega), ja_rw_self]) ?_
  have hTO1 : N_TO M1 (y + 49) := N_TO_c (by rw [c1 _ (by omega) (by omega)]) (c1 _ (by omega) (by omega)) hTO
  have hz1 : ∀ j, 0 ≤ M1 (y + 49 + 4) j ∧ M1 (y + 49 + 4) j ≤ 1 := fun j => by rw [c1 _ (by omega) (by omega)]; exact hz4 j
  refine r_aload_n F rfl rfl dL_law_808 rfl ?_
  refine r_aload_n F rfl rfl dL_law_809 rfl ?_
  refine r_iload_n F rfl rfl dL_law_810 rfl ?_
  refine r_iconst F dL_law_811 rfl ?_
  refine r_iadd F dL_law_812 rfl ?_
  refine r_sld F X (by omega) (by omega) (by omega) dL_law_813 rfl ?_
  refine r_eqz (z := x1) hx1.symm ?_
  refine r_bool F hi1 dL_law_814 (by decide) dL_law_817 dL_law_818 (by decide) dL_law_821 rfl ?_
  refine r_aload_n F rfl rfl dL_law_822 rfl ?_
  refine r_iload_n F rfl rfl dL_law_823 rfl ?_
  refine r_iconst F dL_law_824 rfl ?_
  refine r_iadd F dL_law_825 rfl ?_
  refine r_sld F X (by omega) (by omega) (by omega) dL_law_826 rfl ?_
  refine r_eqz (z := x2) hx2.symm ?_
  refine r_aload_n F rfl rfl dL_law_827 rfl ?_
  refine r_iload_n F rfl rfl dL_law_828 rfl ?_
  refine r_iconst F dL_law_829 rfl ?_
  refine r_iadd F dL_law_830 rfl ?_
  refine r_sld F X (by omega) (by omega) (by omega) dL_law_831 rfl ?_
  refine r_eqz (z := x3) hx3.symm ?_
  refine r_aload_n F rfl rfl dL_law_832 rfl ?_
  refine r_iload_n F rfl rfl dL_law_833 rfl ?_
  refine r_iconst F dL_law_834 rfl ?_
  refine r_iadd F dL_law_835 rfl ?_
  refine r_sld F X (by omega) (by omega) (by omega) dL_law_836 rfl ?_
  refine r_eqz (z := x4) hx4.symm ?_
  refine r_callV F GC (c_X9_paritySample l D cA B hM hN.1 ja_b_r hi2 hi3 hi4) v_L_106 rfl hM.1 rfl ⟨(Nat.le_of_ble_eq_true rfl), (Nat.le_of_ble_eq_true rfl)⟩ ⟨Nat.le_trans (Nat.add_le_add_right hc2 _) (Nat.le_of_ble_eq_true rfl), Nat.le_trans (Nat.add_le_add_right hs2 _) (Nat.le_of_ble_eq_true rfl)⟩ (Nat.le_of_ble_eq_true rfl) rfl dL_law_837 rfl (fun v L2 M2 n2 hp => ?_)
  obtain ⟨q5, q6, q7, q8⟩ := hp
  subst q5; subst q6; subst q8
  have hIn := In_step2 hSOK h q7 (fun q hq => cF q (by omega)) (by rw [cF _ (by omega)]) (cF _ (by omega)) cB N_rf.rf (hN.mono (by omega)) (by rw [← q3]; exact hT)
  refine r_pop F rfl dL_law_840 rfl ?_
  refine r_goto F (tgt := 1226) dL_law_841 (by decide) ?_
  exact J _ _ _ _ _ _ hIn (Nat.le_trans (Nat.add_le_add_left ((Nat.le_of_ble_eq_true rfl) : rm_X9_paritySample.cells ≤ 0) _) hc1) (Nat.le_trans (Nat.add_le_add_left ((Nat.le_of_ble_eq_true rfl) : rm_X9_paritySample.slots ≤ 0) _) hs1)
set_option maxRecDepth 100000 in
set_option maxHeartbeats 800000 in
theorem K_22 {C : ja_C} {D : va_G} {cA : Nat → ClassId} {l : Launch} {B b L y n cells slots k : Nat} {i : Int} {lay : ja_Y} {mem : ja_M} {sl : Nat → Option Nat} {xs : Nat → Int32} (F : ja_F C RL cL_law 4 room_1) (GC : ja_G C l D cA B) (X : ja_X C b L xs) (hL : L ≤ 2560) (hi : i = 5 * (k : Int)) (hk : 5 * k + 5 ≤ L) (h : L_In S1 lay mem n y sl (500 * (k : Int))) (hc : cells ≤ 1000 + 20 * k) (hs : slots ≤ 40000 + 1269 * k) (J : ∀ (lay2 : ja_Y) (mem2 : ja_M) (n2 : Nat) (sl2 : Nat → Option Nat) (cells2 slots2 : Nat), L_In S1 lay2 mem2 n2 y sl2 (500 * (k : Int) + 500) → cells2 ≤ 1000 + 20 * k + 20 → slots2 ≤ 40000 + 1269 * k + 1269 → ja_W C cells2 slots2 lay2 mem2 n2 1226 [some (.ref b), some (.ref y), some (.ref (y + 49)), some (.int (ja_I i))] []) : ja_W C cells slots lay mem n 844 [some (.ref b), some (.ref y), some (.ref (y + 49)), some (.int (ja_I i))] [] := by
  obtain ⟨⟨hB, hO, hn, hso, hsd⟩, ⟨hM, hN, hTO, hz4, hkp⟩, hT, hx, hsl⟩ := id h
  have hSOK : S_ok S1 := S1_ok
  have hk512 : k ≤ 512 := by omega
  have hc0 : cells ≤ 500000 := by omega
  have hs0 : slots ≤ 5000000 := by omega
  refine r_aload_n F rfl rfl dL_law_844 rfl ?_
  refine r_callV F GC (c_X8_transits l D cA B hB hO ) v_L_107 rfl hB.1 rfl ⟨(Nat.le_of_ble_eq_true rfl), (Nat.le_of_ble_eq_true rfl)⟩ ⟨Nat.le_trans (Nat.add_le_add_right hc0 _) (Nat.le_of_ble_eq_true rfl), Nat.le_trans (Nat.add_le_add_right hs0 _) (Nat.le_of_ble_eq_true rfl)⟩ (Nat.le_of_ble_eq_true rfl) rfl dL_law_845 rfl (fun v L1 M1 n1 hp => ?_)
  have hc1 : cells + rm_X8_transits.cells ≤ 1000 + 20 * k + 20 := Nat.add_le_add hc (Nat.le_of_ble_eq_true rfl)
  have hs1 : slots + rm_X8_transits.slots ≤ 40000 + 1269 * k + 1269 := Nat.add_le_add hs (Nat.le_of_ble_eq_true rfl)
  have hc2 : cells + rm_X8_transits.cells ≤ 500000 := by omega
  have hs2 : slots + rm_X8_transits.slots ≤ 5000000 := by omega
  obtain ⟨q1, q2, q3, q4⟩ := hp
  subst q1; subst q2; subst q4
  have cF : ∀ q, y + 41 ≤ q → M1 q = mem q := fun q qa => by rw [← q3]
  have c1 : ∀ q, y + 49 ≤ q → q < y + 58 → M1 q = mem q := fun q qa _ => cF q (by omega)
  have cB : ja_BO M1 y sl (500 * (k : Int) + 500) := by rw [← q3]; exact BO_cg (by omega) hO (fun _ _ _ => rfl) (fun _ _ _ _ _ _ _ => rfl)
  refine r_pop F rfl dL_law_848 rfl ?_
  refine r_mem (mem' := ja_rw M1 (y + 49 + 1) (mem (y + 49 + 1))) (by rw [← c1 (y + 49 + 1) (by omega) (by omega), ja_rw_self]) ?_
  have hTO1 : N_TO M1 (y + 49) := N_TO_c (by rw [c1 _ (by omega) (by omega)]) (c1 _ (by omega) (by omega)) hTO
  have hz1 : ∀ j, 0 ≤ M1 (y + 49 + 4) j ∧ M1 (y + 49 + 4) j ≤ 1 := fun j => by rw [c1 _ (by omega) (by omega)]; exact hz4 j
  refine r_aload_n F rfl rfl dL_law_849 rfl ?_
  refine r_callV F GC (c_X9_transits l D cA B hM hN.1) v_L_110 rfl hM.1 rfl ⟨(Nat.le_of_ble_eq_true rfl), (Nat.le_of_ble_eq_true rfl)⟩ ⟨Nat.le_trans (Nat.add_le_add_right hc2 _) (Nat.le_of_ble_eq_true rfl), Nat.le_trans (Nat.add_le_add_right hs2 _) (Nat.le_of_ble_eq_true rfl)⟩ (Nat.le_of_ble_eq_true rfl) rfl dL_law_850 rfl (fun v L2 M2 n2 hp => ?_)
  obtain ⟨q5, q6, q7, q8⟩ := hp
  subst q5; subst q6; subst q8
  have hIn := In_step2 hSOK h q7 (fun q hq => cF q (by omega)) (by rw [cF _ (by omega)]) (cF _ (by omega)) cB N_rf.rf (hN.mono (by omega)) (by rw [← q3]; exact hT)
  refine r_pop F rfl dL_law_853 rfl ?_
  refine r_goto F (tgt := 1226) dL_law_854 (by decide) ?_
  exact J _ _ _ _ _ _ hIn (Nat.le_trans (Nat.add_le_add_left ((Nat.le_of_ble_eq_true rfl) : rm_X9_transits.cells ≤ 0) _) hc1) (Nat.le_trans (Nat.add_le_add_left ((Nat.le_of_ble_eq_true rfl) : rm_X9_transits.slots ≤ 0) _) hs1)
set_option maxRecDepth 100000 in
set_option maxHeartbeats 800000 in
theorem K_23 {C : ja_C} {D : va_G} {cA : Nat → ClassId} {l : Launch} {B b L y n cells slots k : Nat} {i : Int} {lay : ja_Y} {mem : ja_M} {sl : Nat → Option Nat} {xs : Nat → Int32} (F : ja_F C RL cL_law 4 room_1) (GC : ja_G C l D cA B) (X : ja_X C b L xs) (hL : L ≤ 2560) (hi : i = 5 * (k : Int)) (hk : 5 * k + 5 ≤ L) (h : L_In S1 lay mem n y sl (500 * (k : Int))) (hc : cells ≤ 1000 + 20 * k) (hs : slots ≤ 40000 + 1269 * k) (J : ∀ (lay2 : ja_Y) (mem2 : ja_M) (n2 : Nat) (sl2 : Nat → Option Nat) (cells2 slots2 : Nat), L_In S1 lay2 mem2 n2 y sl2 (500 * (k : Int) + 500) → cells2 ≤ 1000 + 20 * k + 20 → slots2 ≤ 40000 + 1269 * k + 1269 → ja_W C cells2 slots2 lay2 mem2 n2 1226 [some (.ref b), some (.ref y), some (.ref (y + 49)), some (.int (ja_I i))] []) : ja_W C cells slots lay mem n 857 [some (.ref b), some (.ref y), some (.ref (y + 49)), some (.int (ja_I i))] [] := by
  obtain ⟨⟨hB, hO, hn, hso, hsd⟩, ⟨hM, hN, hTO, hz4, hkp⟩, hT, hx, hsl⟩ := id h
  have hSOK : S_ok S1 := S1_ok
  have hk512 : k ≤ 512 := by omega
  have hc0 : cells ≤ 500000 := by omega
  have hs0 : slots ≤ 5000000 := by omega
  obtain ⟨x1, hx1⟩ : ∃ z, z = (xs (Int.toNat (i + 1))).toInt := ⟨_, rfl⟩
  have hi1 : ja_in x1 := by rw [hx1]; exact ja_range _
  obtain ⟨i1a, i1b⟩ := id hi1
  refine r_aload_n F rfl rfl dL_law_857 rfl ?_
  refine r_aload_n F rfl rfl dL_law_858 rfl ?_
  refine r_iload_n F rfl rfl dL_law_859 rfl ?_
  refine r_iconst F dL_law_860 rfl ?_
  refine r_iadd F dL_law_861 rfl ?_
  refine r_sld F X (by omega) (by omega) (by omega) dL_law_862 rfl ?_
  refine r_eqz (z := x1) hx1.symm ?_
  refine r_callV F GC (c_X8_transit l D cA B hB hO hi1) v_L_111 rfl hB.1 rfl ⟨(Nat.le_of_ble_eq_true rfl), (Nat.le_of_ble_eq_true rfl)⟩ ⟨Nat.le_trans (Nat.add_le_add_right hc0 _) (Nat.le_of_ble_eq_true rfl), Nat.le_trans (Nat.add_le_add_right hs0 _) (Nat.le_of_ble_eq_true rfl)⟩ (Nat.le_of_ble_eq_true rfl) rfl dL_law_863 rfl (fun v L1 M1 n1 hp => ?_)
  have hc1 : cells + rm_X8_transit.cells ≤ 1000 + 20 * k + 20 := Nat.add_le_add hc (Nat.le_of_ble_eq_true rfl)
  have hs1 : slots + rm_X8_transit.slots ≤ 40000 + 1269 * k + 1269 := Nat.add_le_add hs (Nat.le_of_ble_eq_true rfl)
  have hc2 : cells + rm_X8_transit.cells ≤ 500000 := by omega
  have hs2 : slots + rm_X8_transit.slots ≤ 5000000 := by omega
  obtain ⟨q1, q2, q3, q4⟩ := hp
  subst q1; subst q2; subst q4
  have cF : ∀ q, y + 41 ≤ q → M1 q = mem q := fun q qa => by rw [← q3]
  have c1 : ∀ q, y + 49 ≤ q → q < y + 58 → M1 q = mem q := fun q qa _ => cF q (by omega)
  have cB : ja_BO M1 y sl (500 * (k : Int) + 500) := by rw [← q3]; exact BO_cg (by omega) hO (fun _ _ _ => rfl) (fun _ _ _ _ _ _ _ => rfl)
  refine r_pop F rfl dL_law_866 rfl ?_
  refine r_mem (mem' := ja_rw M1 (y + 49 + 1) (mem (y + 49 + 1))) (by rw [← c1 (y + 49 + 1) (by omega) (by omega), ja_rw_self]) ?_
  have hTO1 : N_TO M1 (y + 49) := N_TO_c (by rw [c1 _ (by omega) (by omega)]) (c1 _ (by omega) (by omega)) hTO
  have hz1 : ∀ j, 0 ≤ M1 (y + 49 + 4) j ∧ M1 (y + 49 + 4) j ≤ 1 := fun j => by rw [c1 _ (by omega) (by omega)]; exact hz4 j
  refine r_aload_n F rfl rfl dL_law_867 rfl ?_
  refine r_aload_n F rfl rfl dL_law_868 rfl ?_
  refine r_iload_n F rfl rfl dL_law_869 rfl ?_
  refine r_iconst F dL_law_870 rfl ?_
  refine r_iadd F dL_law_871 rfl ?_
  refine r_sld F X (by omega) (by omega) (by omega) dL_law_872 rfl ?_
  refine r_eqz (z := x1) hx1.symm ?_
  refine r_callV F GC (c_X9_transit l D cA B hM hN.1 hi1) v_L_114 rfl hM.1 rfl ⟨(Nat.le_of_ble_eq_true rfl), (Nat.le_of_ble_eq_true rfl)⟩ ⟨Nat.le_trans (Nat.add_le_add_right hc2 _) (Nat.le_of_ble_eq_true rfl), Nat.le_trans (Nat.add_le_add_right hs2 _) (Nat.le_of_ble_eq_true rfl)⟩ (Nat.le_of_ble_eq_true rfl) rfl dL_law_873 rfl (fun v L2 M2 n2 hp => ?_)
  obtain ⟨q5, q6, q8, G2, hg, q7⟩ := hp
  subst q5; subst q6; subst q8
  have hIn := In_step2 hSOK h q7.symm (fun q hq => cF q (by omega)) (by rw [cF _ (by omega)]) (cF _ (by omega)) cB hg.f (hN.mono (by omega)) (by rw [← q3]; exact hT)
  refine r_pop F rfl dL_law_876 rfl ?_
  refine r_goto F (tgt := 1226) dL_law_877 (by decide) ?_
  exact J _ _ _ _ _ _ hIn (Nat.le_trans (Nat.add_le_add_left ((Nat.le_of_ble_eq_true rfl) : rm_X9_transit.cells ≤ 0) _) hc1) (Nat.le_trans (Nat.add_le_add_left ((Nat.le_of_ble_eq_true rfl) : rm_X9_transit.slots ≤ 0) _) hs1)
