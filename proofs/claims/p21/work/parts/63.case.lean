set_option maxRecDepth 100000 in
set_option maxHeartbeats 800000 in
theorem K_24 {C : ja_C} {D : va_G} {cA : Nat → ClassId} {l : Launch} {B b L y n cells slots k : Nat} {i : Int} {lay : ja_Y} {mem : ja_M} {sl : Nat → Option Nat} {xs : Nat → Int32} (F : ja_F C RL cL_law 4 room_1) (GC : ja_G C l D cA B) (X : ja_X C b L xs) (hL : L ≤ 2560) (hi : i = 5 * (k : Int)) (hk : 5 * k + 5 ≤ L) (h : L_In S1 lay mem n y sl (500 * (k : Int))) (hc : cells ≤ 1000 + 20 * k) (hs : slots ≤ 40000 + 1269 * k) (J : ∀ (lay2 : ja_Y) (mem2 : ja_M) (n2 : Nat) (sl2 : Nat → Option Nat) (cells2 slots2 : Nat), L_In S1 lay2 mem2 n2 y sl2 (500 * (k : Int) + 500) → cells2 ≤ 1000 + 20 * k + 20 → slots2 ≤ 40000 + 1269 * k + 1269 → ja_W C cells2 slots2 lay2 mem2 n2 1226 [some (.ref b), some (.ref y), some (.ref (y + 49)), some (.int (ja_I i))] []) : ja_W C cells slots lay mem n 880 [some (.ref b), some (.ref y), some (.ref (y + 49)), some (.int (ja_I i))] [] := by
  obtain ⟨⟨hB, hO, hn, hso, hsd⟩, ⟨hM, hN, hTO, hz4, hkp⟩, hT, hx, hsl⟩ := id h
  have hSOK : S_ok S1 := S1_ok
  have hk512 : k ≤ 512 := by omega
  have hc0 : cells ≤ 500000 := by omega
  have hs0 : slots ≤ 5000000 := by omega
  refine r_aload_n F rfl rfl dL_law_880 rfl ?_
  refine r_callV F GC (c_X8_target l D cA B hB hO ) v_L_115 rfl hB.1 rfl ⟨(Nat.le_of_ble_eq_true rfl), (Nat.le_of_ble_eq_true rfl)⟩ ⟨Nat.le_trans (Nat.add_le_add_right hc0 _) (Nat.le_of_ble_eq_true rfl), Nat.le_trans (Nat.add_le_add_right hs0 _) (Nat.le_of_ble_eq_true rfl)⟩ (Nat.le_of_ble_eq_true rfl) rfl dL_law_881 rfl (fun v L1 M1 n1 hp => ?_)
  have hc1 : cells + rm_X8_target.cells ≤ 1000 + 20 * k + 20 := Nat.add_le_add hc (Nat.le_of_ble_eq_true rfl)
  have hs1 : slots + rm_X8_target.slots ≤ 40000 + 1269 * k + 1269 := Nat.add_le_add hs (Nat.le_of_ble_eq_true rfl)
  have hc2 : cells + rm_X8_target.cells ≤ 500000 := by omega
  have hs2 : slots + rm_X8_target.slots ≤ 5000000 := by omega
  obtain ⟨q1, q2, q3, q4⟩ := hp
  subst q1; subst q2; subst q4
  have cF : ∀ q, y + 41 ≤ q → M1 q = mem q := fun q qa => by rw [← q3]
  have c1 : ∀ q, y + 49 ≤ q → q < y + 58 → M1 q = mem q := fun q qa _ => cF q (by omega)
  have cB : ja_BO M1 y sl (500 * (k : Int) + 500) := by rw [← q3]; exact BO_cg (by omega) hO (fun _ _ _ => rfl) (fun _ _ _ _ _ _ _ => rfl)
  refine r_pop F rfl dL_law_884 rfl ?_
  refine r_mem (mem' := ja_rw M1 (y + 49 + 1) (mem (y + 49 + 1))) (by rw [← c1 (y + 49 + 1) (by omega) (by omega), ja_rw_self]) ?_
  have hTO1 : N_TO M1 (y + 49) := N_TO_c (by rw [c1 _ (by omega) (by omega)]) (c1 _ (by omega) (by omega)) hTO
  have hz1 : ∀ j, 0 ≤ M1 (y + 49 + 4) j ∧ M1 (y + 49 + 4) j ≤ 1 := fun j => by rw [c1 _ (by omega) (by omega)]; exact hz4 j
  refine r_aload_n F rfl rfl dL_law_885 rfl ?_
  refine r_callV F GC (c_X9_target l D cA B hM hN.1) v_L_118 rfl hM.1 rfl ⟨(Nat.le_of_ble_eq_true rfl), (Nat.le_of_ble_eq_true rfl)⟩ ⟨Nat.le_trans (Nat.add_le_add_right hc2 _) (Nat.le_of_ble_eq_true rfl), Nat.le_trans (Nat.add_le_add_right hs2 _) (Nat.le_of_ble_eq_true rfl)⟩ (Nat.le_of_ble_eq_true rfl) rfl dL_law_886 rfl (fun v L2 M2 n2 hp => ?_)
  obtain ⟨q5, q6, q8, G2, hg, q7⟩ := hp
  subst q5; subst q6; subst q8
  have hIn := In_step2 hSOK h q7.symm (fun q hq => cF q (by omega)) (by rw [cF _ (by omega)]) (cF _ (by omega)) cB hg.f (hN.mono (by omega)) (by rw [← q3]; exact hT)
  refine r_pop F rfl dL_law_889 rfl ?_
  refine r_goto F (tgt := 1226) dL_law_890 (by decide) ?_
  exact J _ _ _ _ _ _ hIn (Nat.le_trans (Nat.add_le_add_left ((Nat.le_of_ble_eq_true rfl) : rm_X9_target.cells ≤ 0) _) hc1) (Nat.le_trans (Nat.add_le_add_left ((Nat.le_of_ble_eq_true rfl) : rm_X9_target.slots ≤ 0) _) hs1)
set_option maxRecDepth 100000 in
set_option maxHeartbeats 800000 in
theorem K_25 {C : ja_C} {D : va_G} {cA : Nat → ClassId} {l : Launch} {B b L y n cells slots k : Nat} {i : Int} {lay : ja_Y} {mem : ja_M} {sl : Nat → Option Nat} {xs : Nat → Int32} (F : ja_F C RL cL_law 4 room_1) (GC : ja_G C l D cA B) (X : ja_X C b L xs) (hL : L ≤ 2560) (hi : i = 5 * (k : Int)) (hk : 5 * k + 5 ≤ L) (h : L_In S1 lay mem n y sl (500 * (k : Int))) (hc : cells ≤ 1000 + 20 * k) (hs : slots ≤ 40000 + 1269 * k) (J : ∀ (lay2 : ja_Y) (mem2 : ja_M) (n2 : Nat) (sl2 : Nat → Option Nat) (cells2 slots2 : Nat), L_In S1 lay2 mem2 n2 y sl2 (500 * (k : Int) + 500) → cells2 ≤ 1000 + 20 * k + 20 → slots2 ≤ 40000 + 1269 * k + 1269 → ja_W C cells2 slots2 lay2 mem2 n2 1226 [some (.ref b), some (.ref y), some (.ref (y + 49)), some (.int (ja_I i))] []) : ja_W C cells slots lay mem n 893 [some (.ref b), some (.ref y), some (.ref (y + 49)), some (.int (ja_I i))] [] := by
  obtain ⟨⟨hB, hO, hn, hso, hsd⟩, ⟨hM, hN, hTO, hz4, hkp⟩, hT, hx, hsl⟩ := id h
  have hSOK : S_ok S1 := S1_ok
  have hk512 : k ≤ 512 := by omega
  have hc0 : cells ≤ 500000 := by omega
  have hs0 : slots ≤ 5000000 := by omega
  refine r_aload_n F rfl rfl dL_law_893 rfl ?_
  refine r_callV F GC (c_X8_level l D cA B hB hO ) v_L_119 rfl hB.1 rfl ⟨(Nat.le_of_ble_eq_true rfl), (Nat.le_of_ble_eq_true rfl)⟩ ⟨Nat.le_trans (Nat.add_le_add_right hc0 _) (Nat.le_of_ble_eq_true rfl), Nat.le_trans (Nat.add_le_add_right hs0 _) (Nat.le_of_ble_eq_true rfl)⟩ (Nat.le_of_ble_eq_true rfl) rfl dL_law_894 rfl (fun v L1 M1 n1 hp => ?_)
  have hc1 : cells + rm_X8_level.cells ≤ 1000 + 20 * k + 20 := Nat.add_le_add hc (Nat.le_of_ble_eq_true rfl)
  have hs1 : slots + rm_X8_level.slots ≤ 40000 + 1269 * k + 1269 := Nat.add_le_add hs (Nat.le_of_ble_eq_true rfl)
  have hc2 : cells + rm_X8_level.cells ≤ 500000 := by omega
  have hs2 : slots + rm_X8_level.slots ≤ 5000000 := by omega
  obtain ⟨q1, q2, q3, q4⟩ := hp
  subst q1; subst q2; subst q4
  have cF : ∀ q, y + 41 ≤ q → M1 q = mem q := fun q qa => by rw [← q3]
  have c1 : ∀ q, y + 49 ≤ q → q < y + 58 → M1 q = mem q := fun q qa _ => cF q (by omega)
  have cB : ja_BO M1 y sl (500 * (k : Int) + 500) := by rw [← q3]; exact BO_cg (by omega) hO (fun _ _ _ => rfl) (fun _ _ _ _ _ _ _ => rfl)
  refine r_pop F rfl dL_law_897 rfl ?_
  refine r_mem (mem' := ja_rw M1 (y + 49 + 1) (mem (y + 49 + 1))) (by rw [← c1 (y + 49 + 1) (by omega) (by omega), ja_rw_self]) ?_
  have hTO1 : N_TO M1 (y + 49) := N_TO_c (by rw [c1 _ (by omega) (by omega)]) (c1 _ (by omega) (by omega)) hTO
  have hz1 : ∀ j, 0 ≤ M1 (y + 49 + 4) j ∧ M1 (y + 49 + 4) j ≤ 1 := fun j => by rw [c1 _ (by omega) (by omega)]; exact hz4 j
  refine r_aload_n F rfl rfl dL_law_898 rfl ?_
  refine r_callV F GC (c_X9_level l D cA B hM hN.1) v_L_122 rfl hM.1 rfl ⟨(Nat.le_of_ble_eq_true rfl), (Nat.le_of_ble_eq_true rfl)⟩ ⟨Nat.le_trans (Nat.add_le_add_right hc2 _) (Nat.le_of_ble_eq_true rfl), Nat.le_trans (Nat.add_le_add_right hs2 _) (Nat.le_of_ble_eq_true rfl)⟩ (Nat.le_of_ble_eq_true rfl) rfl dL_law_899 rfl (fun v L2 M2 n2 hp => ?_)
  obtain ⟨q5, q6, q7, q8⟩ := hp
  subst q5; subst q6; subst q8
  have hIn := In_step2 hSOK h q7 (fun q hq => cF q (by omega)) (by rw [cF _ (by omega)]) (cF _ (by omega)) cB N_rf.rf (hN.mono (by omega)) (by rw [← q3]; exact hT)
  refine r_pop F rfl dL_law_902 rfl ?_
  refine r_goto F (tgt := 1226) dL_law_903 (by decide) ?_
  exact J _ _ _ _ _ _ hIn (Nat.le_trans (Nat.add_le_add_left ((Nat.le_of_ble_eq_true rfl) : rm_X9_level.cells ≤ 0) _) hc1) (Nat.le_trans (Nat.add_le_add_left ((Nat.le_of_ble_eq_true rfl) : rm_X9_level.slots ≤ 0) _) hs1)
set_option maxRecDepth 100000 in
set_option maxHeartbeats 800000 in
theorem K_26 {C : ja_C} {D : va_G} {cA : Nat → ClassId} {l : Launch} {B b L y n cells slots k : Nat} {i : Int} {lay : ja_Y} {mem : ja_M} {sl : Nat → Option Nat} {xs : Nat → Int32} (F : ja_F C RL cL_law 4 room_1) (GC : ja_G C l D cA B) (X : ja_X C b L xs) (hL : L ≤ 2560) (hi : i = 5 * (k : Int)) (hk : 5 * k + 5 ≤ L) (h : L_In S1 lay mem n y sl (500 * (k : Int))) (hc : cells ≤ 1000 + 20 * k) (hs : slots ≤ 40000 + 1269 * k) (J : ∀ (lay2 : ja_Y) (mem2 : ja_M) (n2 : Nat) (sl2 : Nat → Option Nat) (cells2 slots2 : Nat), L_In S1 lay2 mem2 n2 y sl2 (500 * (k : Int) + 500) → cells2 ≤ 1000 + 20 * k + 20 → slots2 ≤ 40000 + 1269 * k + 1269 → ja_W C cells2 slots2 lay2 mem2 n2 1226 [some (.ref b), some (.ref y), some (.ref (y + 49)), some (.int (ja_I i))] []) : ja_W C cells slots lay mem n 906 [some (.ref b), some (.ref y), some (.ref (y + 49)), some (.int (ja_I i))] [] := by
  obtain ⟨⟨hB, hO, hn, hso, hsd⟩, ⟨hM, hN, hTO, hz4, hkp⟩, hT, hx, hsl⟩ := id h
  have hSOK : S_ok S1 := S1_ok
  have hk512 : k ≤ 512 := by omega
  have hc0 : cells ≤ 500000 := by omega
  have hs0 : slots ≤ 5000000 := by omega
  obtain ⟨x1, hx1⟩ : ∃ z, z = (xs (Int.toNat (i + 1))).toInt := ⟨_, rfl⟩
  have hi1 : ja_in x1 := by rw [hx1]; exact ja_range _
  obtain ⟨i1a, i1b⟩ := id hi1
  refine r_aload_n F rfl rfl dL_law_906 rfl ?_
  refine r_aload_n F rfl rfl dL_law_907 rfl ?_
  refine r_iload_n F rfl rfl dL_law_908 rfl ?_
  refine r_iconst F dL_law_909 rfl ?_
  refine r_iadd F dL_law_910 rfl ?_
  refine r_sld F X (by omega) (by omega) (by omega) dL_law_911 rfl ?_
  refine r_eqz (z := x1) hx1.symm ?_
  refine r_callV F GC (c_X8_taken l D cA B hB hO hi1) v_L_123 rfl hB.1 rfl ⟨(Nat.le_of_ble_eq_true rfl), (Nat.le_of_ble_eq_true rfl)⟩ ⟨Nat.le_trans (Nat.add_le_add_right hc0 _) (Nat.le_of_ble_eq_true rfl), Nat.le_trans (Nat.add_le_add_right hs0 _) (Nat.le_of_ble_eq_true rfl)⟩ (Nat.le_of_ble_eq_true rfl) rfl dL_law_912 rfl (fun v L1 M1 n1 hp => ?_)
  have hc1 : cells + rm_X8_taken.cells ≤ 1000 + 20 * k + 20 := Nat.add_le_add hc (Nat.le_of_ble_eq_true rfl)
  have hs1 : slots + rm_X8_taken.slots ≤ 40000 + 1269 * k + 1269 := Nat.add_le_add hs (Nat.le_of_ble_eq_true rfl)
  have hc2 : cells + rm_X8_taken.cells ≤ 500000 := by omega
  have hs2 : slots + rm_X8_taken.slots ≤ 5000000 := by omega
  obtain ⟨q1, q2, q3, q4⟩ := hp
  subst q1; subst q2; subst q4
  have cF : ∀ q, y + 41 ≤ q → M1 q = mem q := fun q qa => by rw [← q3]
  have c1 : ∀ q, y + 49 ≤ q → q < y + 58 → M1 q = mem q := fun q qa _ => cF q (by omega)
  have cB : ja_BO M1 y sl (500 * (k : Int) + 500) := by rw [← q3]; exact BO_cg (by omega) hO (fun _ _ _ => rfl) (fun _ _ _ _ _ _ _ => rfl)
  refine r_pop F rfl dL_law_915 rfl ?_
  refine r_mem (mem' := ja_rw M1 (y + 49 + 1) (mem (y + 49 + 1))) (by rw [← c1 (y + 49 + 1) (by omega) (by omega), ja_rw_self]) ?_
  have hTO1 : N_TO M1 (y + 49) := N_TO_c (by rw [c1 _ (by omega) (by omega)]) (c1 _ (by omega) (by omega)) hTO
  have hz1 : ∀ j, 0 ≤ M1 (y + 49 + 4) j ∧ M1 (y + 49 + 4) j ≤ 1 := fun j => by rw [c1 _ (by omega) (by omega)]; exact hz4 j
  refine r_aload_n F rfl rfl dL_law_916 rfl ?_
  refine r_aload_n F rfl rfl dL_law_917 rfl ?_
  refine r_iload_n F rfl rfl dL_law_918 rfl ?_
  refine r_iconst F dL_law_919 rfl ?_
  refine r_iadd F dL_law_920 rfl ?_
  refine r_sld F X (by omega) (by omega) (by omega) dL_law_921 rfl ?_
  refine r_eqz (z := x1) hx1.symm ?_
  refine r_callV F GC (c_X9_taken l D cA B hM hN.1 hi1) v_L_126 rfl hM.1 rfl ⟨(Nat.le_of_ble_eq_true rfl), (Nat.le_of_ble_eq_true rfl)⟩ ⟨Nat.le_trans (Nat.add_le_add_right hc2 _) (Nat.le_of_ble_eq_true rfl), Nat.le_trans (Nat.add_le_add_right hs2 _) (Nat.le_of_ble_eq_true rfl)⟩ (Nat.le_of_ble_eq_true rfl) rfl dL_law_922 rfl (fun v L2 M2 n2 hp => ?_)
  obtain ⟨q5, q6, q7, q8⟩ := hp
  subst q5; subst q6; subst q8
  have hIn := In_step2 hSOK h q7 (fun q hq => cF q (by omega)) (by rw [cF _ (by omega)]) (cF _ (by omega)) cB N_rf.rf (hN.mono (by omega)) (by rw [← q3]; exact hT)
  refine r_pop F rfl dL_law_925 rfl ?_
  refine r_goto F (tgt := 1226) dL_law_926 (by decide) ?_
  exact J _ _ _ _ _ _ hIn (Nat.le_trans (Nat.add_le_add_left ((Nat.le_of_ble_eq_true rfl) : rm_X9_taken.cells ≤ 0) _) hc1) (Nat.le_trans (Nat.add_le_add_left ((Nat.le_of_ble_eq_true rfl) : rm_X9_taken.slots ≤ 0) _) hs1)
set_option maxRecDepth 100000 in
set_option maxHeartbeats 800000 in
theorem K_27 {C : ja_C} {D : va_G} {cA : Nat → ClassId} {l : Launch} {B b L y n cells slots k : Nat} {i : Int} {lay : ja_Y} {mem : ja_M} {sl : Nat → Option Nat} {xs : Nat → Int32} (F : ja_F C RL cL_law 4 room_1) (GC : ja_G C l D cA B) (X : ja_X C b L xs) (hL : L ≤ 2560) (hi : i = 5 * (k : Int)) (hk : 5 * k + 5 ≤ L) (h : L_In S1 lay mem n y sl (500 * (k : Int))) (hc : cells ≤ 1000 + 20 * k) (hs : slots ≤ 40000 + 1269 * k) (J : ∀ (lay2 : ja_Y) (mem2 : ja_M) (n2 : Nat) (sl2 : Nat → Option Nat) (cells2 slots2 : Nat), L_In S1 lay2 mem2 n2 y sl2 (500 * (k : Int) + 500) → cells2 ≤ 1000 + 20 * k + 20 → slots2 ≤ 40000 + 1269 * k + 1269 → ja_W C cells2 slots2 lay2 mem2 n2 1226 [some (.ref b), some (.ref y), some (.ref (y + 49)), some (.int (ja_I i))] []) : ja_W C cells slots lay mem n 929 [some (.ref b), some (.ref y), some (.ref (y + 49)), some (.int (ja_I i))] [] := by
  obtain ⟨⟨hB, hO, hn, hso, hsd⟩, ⟨hM, hN, hTO, hz4, hkp⟩, hT, hx, hsl⟩ := id h
  have hSOK : S_ok S1 := S1_ok
  have hk512 : k ≤ 512 := by omega
  have hc0 : cells ≤ 500000 := by omega
  have hs0 : slots ≤ 5000000 := by omega
  refine r_aload_n F rfl rfl dL_law_929 rfl ?_
  refine r_callV F GC (c_X8_stretched l D cA B hB hO ) v_L_127 rfl hB.1 rfl ⟨(Nat.le_of_ble_eq_true rfl), (Nat.le_of_ble_eq_true rfl)⟩ ⟨Nat.le_trans (Nat.add_le_add_right hc0 _) (Nat.le_of_ble_eq_true rfl), Nat.le_trans (Nat.add_le_add_right hs0 _) (Nat.le_of_ble_eq_true rfl)⟩ (Nat.le_of_ble_eq_true rfl) rfl dL_law_930 rfl (fun v L1 M1 n1 hp => ?_)
  have hc1 : cells + rm_X8_stretched.cells ≤ 1000 + 20 * k + 20 := Nat.add_le_add hc (Nat.le_of_ble_eq_true rfl)
  have hs1 : slots + rm_X8_stretched.slots ≤ 40000 + 1269 * k + 1269 := Nat.add_le_add hs (Nat.le_of_ble_eq_true rfl)
  have hc2 : cells + rm_X8_stretched.cells ≤ 500000 := by omega
  have hs2 : slots + rm_X8_stretched.slots ≤ 5000000 := by omega
  obtain ⟨q1, q2, q3, q4⟩ := hp
  subst q1; subst q2; subst q4
  have cF : ∀ q, y + 41 ≤ q → M1 q = mem q := fun q qa => by rw [← q3]
  have c1 : ∀ q, y + 49 ≤ q → q < y + 58 → M1 q = mem q := fun q qa _ => cF q (by omega)
  have cB : ja_BO M1 y sl (500 * (k : Int) + 500) := by rw [← q3]; exact BO_cg (by omega) hO (fun _ _ _ => rfl) (fun _ _ _ _ _ _ _ => rfl)
  refine r_pop F rfl dL_law_933 rfl ?_
  refine r_mem (mem' := ja_rw M1 (y + 49 + 1) (mem (y + 49 + 1))) (by rw [← c1 (y + 49 + 1) (by omega) (by omega), ja_rw_self]) ?_
  have hTO1 : N_TO M1 (y + 49) := N_TO_c (by rw [c1 _ (by omega) (by omega)]) (c1 _ (by omega) (by omega)) hTO
  have hz1 : ∀ j, 0 ≤ M1 (y + 49 + 4) j ∧ M1 (y + 49 + 4) j ≤ 1 := fun j => by rw [c1 _ (by omega) (by omega)]; exact hz4 j
  refine r_aload_n F rfl rfl dL_law_934 rfl ?_
  refine r_callV F GC (c_X9_stretched l D cA B hM hN.1) v_L_130 rfl hM.1 rfl ⟨(Nat.le_of_ble_eq_true rfl), (Nat.le_of_ble_eq_true rfl)⟩ ⟨Nat.le_trans (Nat.add_le_add_right hc2 _) (Nat.le_of_ble_eq_true rfl), Nat.le_trans (Nat.add_le_add_right hs2 _) (Nat.le_of_ble_eq_true rfl)⟩ (Nat.le_of_ble_eq_true rfl) rfl dL_law_935 rfl (fun v L2 M2 n2 hp => ?_)
  obtain ⟨q5, q6, q7, q8⟩ := hp
  subst q5; subst q6; subst q8
  have hIn := In_step2 hSOK h q7 (fun q hq => cF q (by omega)) (by rw [cF _ (by omega)]) (cF _ (by omega)) cB N_rf.rf (hN.mono (by omega)) (by rw [← q3]; exact hT)
  refine r_pop F rfl dL_law_938 rfl ?_
  refine r_goto F (tgt := 1226) dL_law_939 (by decide) ?_
  exact J _ _ _ _ _ _ hIn (Nat.le_trans (Nat.add_le_add_left ((Nat.le_of_ble_eq_true rfl) : rm_X9_stretched.cells ≤ 0) _) hc1) (Nat.le_trans (Nat.add_le_add_left ((Nat.le_of_ble_eq_true rfl) : rm_X9_stretched.slots ≤ 0) _) hs1)
set_option maxRecDepth 100000 in
set_option maxHeartbeats 800000 in
theorem K_28 {C : ja_C} {D : va_G} {cA : Nat → ClassId} {l : Launch} {B b L y n cells slots k : Nat} {i : Int} {lay : ja_Y} {mem : ja_M} {sl : Nat → Option Nat} {xs : Nat → Int32} (F : ja_F C RL cL_law 4 room_1) (GC : ja_G C l D cA B) (X : ja_X C b L xs) (hL : L ≤ 2560) (hi : i = 5 * (k : Int)) (hk : 5 * k + 5 ≤ L) (h : L_In S1 lay mem n y sl (500 * (k : Int))) (hc : cells ≤ 1000 + 20 * k) (hs : slots ≤ 40000 + 1269 * k) (J : ∀ (lay2 : ja_Y) (mem2 : ja_M) (n2 : Nat) (sl2 : Nat → Option Nat) (cells2 slots2 : Nat), L_In S1 lay2 mem2 n2 y sl2 (500 * (k : Int) + 500) → cells2 ≤ 1000 + 20 * k + 20 → slots2 ≤ 40000 + 1269 * k + 1269 → ja_W C cells2 slots2 lay2 mem2 n2 1226 [some (.ref b), some (.ref y), some (.ref (y + 49)), some (.int (ja_I i))] []) : ja_W C cells slots lay mem n 942 [some (.ref b), some (.ref y), some (.ref (y + 49)), some (.int (ja_I i))] [] := by
  obtain ⟨⟨hB, hO, hn, hso, hsd⟩, ⟨hM, hN, hTO, hz4, hkp⟩, hT, hx, hsl⟩ := id h
  have hSOK : S_ok S1 := S1_ok
  have hk512 : k ≤ 512 := by omega
  have hc0 : cells ≤ 500000 := by omega
  have hs0 : slots ≤ 5000000 := by omega
  refine r_aload_n F rfl rfl dL_law_942 rfl ?_
  refine r_callV F GC (c_X8_compressed l D cA B hB hO ) v_L_131 rfl hB.1 rfl ⟨(Nat.le_of_ble_eq_true rfl), (Nat.le_of_ble_eq_true rfl)⟩ ⟨Nat.le_trans (Nat.add_le_add_right hc0 _) (Nat.le_of_ble_eq_true rfl), Nat.le_trans (Nat.add_le_add_right hs0 _) (Nat.le_of_ble_eq_true rfl)⟩ (Nat.le_of_ble_eq_true rfl) rfl dL_law_943 rfl (fun v L1 M1 n1 hp => ?_)
  have hc1 : cells + rm_X8_compressed.cells ≤ 1000 + 20 * k + 20 := Nat.add_le_add hc (Nat.le_of_ble_eq_true rfl)
  have hs1 : slots + rm_X8_compressed.slots ≤ 40000 + 1269 * k + 1269 := Nat.add_le_add hs (Nat.le_of_ble_eq_true rfl)
  have hc2 : cells + rm_X8_compressed.cells ≤ 500000 := by omega
  have hs2 : slots + rm_X8_compressed.slots ≤ 5000000 := by omega
  obtain ⟨q1, q2, q3, q4⟩ := hp
  subst q1; subst q2; subst q4
  have cF : ∀ q, y + 41 ≤ q → M1 q = mem q := fun q qa => by rw [← q3]
  have c1 : ∀ q, y + 49 ≤ q → q < y + 58 → M1 q = mem q := fun q qa _ => cF q (by omega)
  have cB : ja_BO M1 y sl (500 * (k : Int) + 500) := by rw [← q3]; exact BO_cg (by omega) hO (fun _ _ _ => rfl) (fun _ _ _ _ _ _ _ => rfl)
  refine r_pop F rfl dL_law_946 rfl ?_
  refine r_mem (mem' := ja_rw M1 (y + 49 + 1) (mem (y + 49 + 1))) (by rw [← c1 (y + 49 + 1) (by omega) (by omega), ja_rw_self]) ?_
  have hTO1 : N_TO M1 (y + 49) := N_TO_c (by rw [c1 _ (by omega) (by omega)]) (c1 _ (by omega) (by omega)) hTO
  have hz1 : ∀ j, 0 ≤ M1 (y + 49 + 4) j ∧ M1 (y + 49 + 4) j ≤ 1 := fun j => by rw [c1 _ (by omega) (by omega)]; exact hz4 j
  refine r_aload_n F rfl rfl dL_law_947 rfl ?_
  refine r_callV F GC (c_X9_compressed l D cA B hM hN.1) v_L_134 rfl hM.1 rfl ⟨(Nat.le_of_ble_eq_true rfl), (Nat.le_of_ble_eq_true rfl)⟩ ⟨Nat.le_trans (Nat.add_le_add_right hc2 _) (Nat.le_of_ble_eq_true rfl), Nat.le_trans (Nat.add_le_add_right hs2 _) (Nat.le_of_ble_eq_true rfl)⟩ (Nat.le_of_ble_eq_true rfl) rfl dL_law_948 rfl (fun v L2 M2 n2 hp => ?_)
  obtain ⟨q5, q6, q7, q8⟩ := hp
  subst q5; subst q6; subst q8
  have hIn := In_step2 hSOK h q7 (fun q hq => cF q (by omega)) (by rw [cF _ (by omega)]) (cF _ (by omega)) cB N_rf.rf (hN.mono (by omega)) (by rw [← q3]; exact hT)
  refine r_pop F rfl dL_law_951 rfl ?_
  refine r_goto F (tgt := 1226) dL_law_952 (by decide) ?_
  exact J _ _ _ _ _ _ hIn (Nat.le_trans (Nat.add_le_add_left ((Nat.le_of_ble_eq_true rfl) : rm_X9_compressed.cells ≤ 0) _) hc1) (Nat.le_trans (Nat.add_le_add_left ((Nat.le_of_ble_eq_true rfl) : rm_X9_compressed.slots ≤ 0) _) hs1)
set_option maxRecDepth 100000 in
set_option maxHeartbeats 800000 in
theorem K_29 {C : ja_C} {D : va_G} {cA : Nat → ClassId} {l : Launch} {B b L y n cells slots k : Nat} {i : Int} {lay : ja_Y} {mem : ja_M} {sl : Nat → Option Nat} {xs : Nat → Int32} (F : ja_F C RL cL_law 4 room_1) (GC : ja_G C l D cA B) (X : ja_X C b L xs) (hL : L ≤ 2560) (hi : i = 5 * (k : Int)) (hk : 5 * k + 5 ≤ L) (h : L_In S1 lay mem n y sl (500 * (k : Int))) (hc : cells ≤ 1000 + 20 * k) (hs : slots ≤ 40000 + 1269 * k) (J : ∀ (lay2 : ja_Y) (mem2 : ja_M) (n2 : Nat) (sl2 : Nat → Option Nat) (cells2 slots2 : Nat), L_In S1 lay2 mem2 n2 y sl2 (500 * (k : Int) + 500) → cells2 ≤ 1000 + 20 * k + 20 → slots2 ≤ 40000 + 1269 * k + 1269 → ja_W C cells2 slots2 lay2 mem2 n2 1226 [some (.ref b), some (.ref y), some (.ref (y + 49)), some (.int (ja_I i))] []) : ja_W C cells slots lay mem n 955 [some (.ref b), some (.ref y), some (.ref (y + 49)), some (.int (ja_I i))] [] := by
  obtain ⟨⟨hB, hO, hn, hso, hsd⟩, ⟨hM, hN, hTO, hz4, hkp⟩, hT, hx, hsl⟩ := id h
  have hSOK : S_ok S1 := S1_ok
  have hk512 : k ≤ 512 := by omega
  have hc0 : cells ≤ 500000 := by omega
  have hs0 : slots ≤ 5000000 := by omega
  refine r_aload_n F rfl rfl dL_law_955 rfl ?_
  refine r_callV F GC (c_X8_late l D cA B hB hO ) v_L_135 rfl hB.1 rfl ⟨(Nat.le_of_ble_eq_true rfl), (Nat.le_of_ble_eq_true rfl)⟩ ⟨Nat.le_trans (Nat.add_le_add_right hc0 _) (Nat.le_of_ble_eq_true rfl), Nat.le_trans (Nat.add_le_add_right hs0 _) (Nat.le_of_ble_eq_true rfl)⟩ (Nat.le_of_ble_eq_true rfl) rfl dL_law_956 rfl (fun v L1 M1 n1 hp => ?_)
  have hc1 : cells + rm_X8_late.cells ≤ 1000 + 20 * k + 20 := Nat.add_le_add hc (Nat.le_of_ble_eq_true rfl)
  have hs1 : slots + rm_X8_late.slots ≤ 40000 + 1269 * k + 1269 := Nat.add_le_add hs (Nat.le_of_ble_eq_true rfl)
  have hc2 : cells + rm_X8_late.cells ≤ 500000 := by omega
  have hs2 : slots + rm_X8_late.slots ≤ 5000000 := by omega
  obtain ⟨q1, q2, q3, q4⟩ := hp
  subst q1; subst q2; subst q4
  have cF : ∀ q, y + 41 ≤ q → M1 q = mem q := fun q qa => by rw [← q3]
  have c1 : ∀ q, y + 49 ≤ q → q < y + 58 → M1 q = mem q := fun q qa _ => cF q (by omega)
  have cB : ja_BO M1 y sl (500 * (k : Int) + 500) := by rw [← q3]; exact BO_cg (by omega) hO (fun _ _ _ => rfl) (fun _ _ _ _ _ _ _ => rfl)
  refine r_pop F rfl dL_law_959 rfl ?_
  refine r_mem (mem' := ja_rw M1 (y + 49 + 1) (mem (y + 49 + 1))) (by rw [← c1 (y + 49 + 1) (by omega) (by omega), ja_rw_self]) ?_
  have hTO1 : N_TO M1 (y + 49) := N_TO_c (by rw [c1 _ (by omega) (by omega)]) (c1 _ (by omega) (by omega)) hTO
  have hz1 : ∀ j, 0 ≤ M1 (y + 49 + 4) j ∧ M1 (y + 49 + 4) j ≤ 1 := fun j => by rw [c1 _ (by omega) (by omega)]; exact hz4 j
  refine r_aload_n F rfl rfl dL_law_960 rfl ?_
  refine r_callV F GC (c_X9_late l D cA B hM hN.1) v_L_138 rfl hM.1 rfl ⟨(Nat.le_of_ble_eq_true rfl), (Nat.le_of_ble_eq_true rfl)⟩ ⟨Nat.le_trans (Nat.add_le_add_right hc2 _) (Nat.le_of_ble_eq_true rfl), Nat.le_trans (Nat.add_le_add_right hs2 _) (Nat.le_of_ble_eq_true rfl)⟩ (Nat.le_of_ble_eq_true rfl) rfl dL_law_961 rfl (fun v L2 M2 n2 hp => ?_)
  obtain ⟨q5, q6, q7, q8⟩ := hp
  subst q5; subst q6; subst q8
  have hIn := In_step2 hSOK h q7 (fun q hq => cF q (by omega)) (by rw [cF _ (by omega)]) (cF _ (by omega)) cB N_rf.rf (hN.mono (by omega)) (by rw [← q3]; exact hT)
  refine r_pop F rfl dL_law_964 rfl ?_
  refine r_goto F (tgt := 1226) dL_law_965 (by decide) ?_
  exact J _ _ _ _ _ _ hIn (Nat.le_trans (Nat.add_le_add_left ((Nat.le_of_ble_eq_true rfl) : rm_X9_late.cells ≤ 0) _) hc1) (Nat.le_trans (Nat.add_le_add_left ((Nat.le_of_ble_eq_true rfl) : rm_X9_late.slots ≤ 0) _) hs1)
set_option maxRecDepth 100000 in
set_option maxHeartbeats 800000 in
theorem K_30 {C : ja_C} {D : va_G} {cA : Nat → ClassId} {l : Launch} {B b L y n cells slots k : Nat} {i : Int} {lay : ja_Y} {mem : ja_M} {sl : Nat → Option Nat} {xs : Nat → Int32} (F : ja_F C RL cL_law 4 room_1) (GC : ja_G C l D cA B) (X : ja_X C b L xs) (hL : L ≤ 2560) (hi : i = 5 * (k : Int)) (hk : 5 * k + 5 ≤ L) (h : L_In S1 lay mem n y sl (500 * (k : Int))) (hc : cells ≤ 1000 + 20 * k) (hs : slots ≤ 40000 + 1269 * k) (J : ∀ (lay2 : ja_Y) (mem2 : ja_M) (n2 : Nat) (sl2 : Nat → Option Nat) (cells2 slots2 : Nat), L_In S1 lay2 mem2 n2 y sl2 (500 * (k : Int) + 500) → cells2 ≤ 1000 + 20 * k + 20 → slots2 ≤ 40000 + 1269 * k + 1269 → ja_W C cells2 slots2 lay2 mem2 n2 1226 [some (.ref b), some (.ref y), some (.ref (y + 49)), some (.int (ja_I i))] []) : ja_W C cells slots lay mem n 968 [some (.ref b), some (.ref y), some (.ref (y + 49)), some (.int (ja_I i))] [] := by
  obtain ⟨⟨hB, hO, hn, hso, hsd⟩, ⟨hM, hN, hTO, hz4, hkp⟩, hT, hx, hsl⟩ := id h
  have hSOK : S_ok S1 := S1_ok
  have hk512 : k ≤ 512 := by omega
  have hc0 : cells ≤ 500000 := by omega
  have hs0 : slots ≤ 5000000 := by omega
  refine r_aload_n F rfl rfl dL_law_968 rfl ?_
  refine r_callV F GC (c_X8_duplicates l D cA B hB hO ) v_L_139 rfl hB.1 rfl ⟨(Nat.le_of_ble_eq_true rfl), (Nat.le_of_ble_eq_true rfl)⟩ ⟨Nat.le_trans (Nat.add_le_add_right hc0 _) (Nat.le_of_ble_eq_true rfl), Nat.le_trans (Nat.add_le_add_right hs0 _) (Nat.le_of_ble_eq_true rfl)⟩ (Nat.le_of_ble_eq_true rfl) rfl dL_law_969 rfl (fun v L1 M1 n1 hp => ?_)
  have hc1 : cells + rm_X8_duplicates.cells ≤ 1000 + 20 * k + 20 := Nat.add_le_add hc (Nat.le_of_ble_eq_true rfl)
  have hs1 : slots + rm_X8_duplicates.slots ≤ 40000 + 1269 * k + 1269 := Nat.add_le_add hs (Nat.le_of_ble_eq_true rfl)
  have hc2 : cells + rm_X8_duplicates.cells ≤ 500000 := by omega
  have hs2 : slots + rm_X8_duplicates.slots ≤ 5000000 := by omega
  obtain ⟨q1, q2, q3, q4⟩ := hp
  subst q1; subst q2; subst q4
  have cF : ∀ q, y + 41 ≤ q → M1 q = mem q := fun q qa => by rw [← q3]
  have c1 : ∀ q, y + 49 ≤ q → q < y + 58 → M1 q = mem q := fun q qa _ => cF q (by omega)
  have cB : ja_BO M1 y sl (500 * (k : Int) + 500) := by rw [← q3]; exact BO_cg (by omega) hO (fun _ _ _ => rfl) (fun _ _ _ _ _ _ _ => rfl)
  refine r_pop F rfl dL_law_972 rfl ?_
  refine r_mem (mem' := ja_rw M1 (y + 49 + 1) (mem (y + 49 + 1))) (by rw [← c1 (y + 49 + 1) (by omega) (by omega), ja_rw_self]) ?_
  have hTO1 : N_TO M1 (y + 49) := N_TO_c (by rw [c1 _ (by omega) (by omega)]) (c1 _ (by omega) (by omega)) hTO
  have hz1 : ∀ j, 0 ≤ M1 (y + 49 + 4) j ∧ M1 (y + 49 + 4) j ≤ 1 := fun j => by rw [c1 _ (by omega) (by omega)]; exact hz4 j
  refine r_aload_n F rfl rfl dL_law_973 rfl ?_
  refine r_callV F GC (c_X9_duplicates l D cA B hM hN.1) v_L_142 rfl hM.1 rfl ⟨(Nat.le_of_ble_eq_true rfl), (Nat.le_of_ble_eq_true rfl)⟩ ⟨Nat.le_trans (Nat.add_le_add_right hc2 _) (Nat.le_of_ble_eq_true rfl), Nat.le_trans (Nat.add_le_add_right hs2 _) (Nat.le_of_ble_eq_true rfl)⟩ (Nat.le_of_ble_eq_true rfl) rfl dL_law_974 rfl (fun v L2 M2 n2 hp => ?_)
  obtain ⟨q5, q6, q7, q8⟩ := hp
  subst q5; subst q6; subst q8
  have hIn := In_step2 hSOK h q7 (fun q hq => cF q (by omega)) (by rw [cF _ (by omega)]) (cF _ (by omega)) cB N_rf.rf (hN.mono (by omega)) (by rw [← q3]; exact hT)
  refine r_pop F rfl dL_law_977 rfl ?_
  refine r_goto F (tgt := 1226) dL_law_978 (by decide) ?_
  exact J _ _ _ _ _ _ hIn (Nat.le_trans (Nat.add_le_add_left ((Nat.le_of_ble_eq_true rfl) : rm_X9_duplicates.cells ≤ 0) _) hc1) (Nat.le_trans (Nat.add_le_add_left ((Nat.le_of_ble_eq_true rfl) : rm_X9_duplicates.slots ≤ 0) _) hs1)
set_option maxRecDepth 100000 in
set_option maxHeartbeats 800000 in
theorem K_31 {C : ja_C} {D : va_G} {cA : Nat → ClassId} {l : Launch} {B b L y n cells slots k : Nat} {i : Int} {lay : ja_Y} {mem : ja_M} {sl : Nat → Option Nat} {xs : Nat → Int32} (F : ja_F C RL cL_law 4 room_1) (GC : ja_G C l D cA B) (X : ja_X C b L xs) (hL : L ≤ 2560) (hi : i = 5 * (k : Int)) (hk : 5 * k + 5 ≤ L) (h : L_In S1 lay mem n y sl (500 * (k : Int))) (hc : cells ≤ 1000 + 20 * k) (hs : slots ≤ 40000 + 1269 * k) (J : ∀ (lay2 : ja_Y) (mem2 : ja_M) (n2 : Nat) (sl2 : Nat → Option Nat) (cells2 slots2 : Nat), L_In S1 lay2 mem2 n2 y sl2 (500 * (k : Int) + 500) → cells2 ≤ 1000 + 20 * k + 20 → slots2 ≤ 40000 + 1269 * k + 1269 → ja_W C cells2 slots2 lay2 mem2 n2 1226 [some (.ref b), some (.ref y), some (.ref (y + 49)), some (.int (ja_I i))] []) : ja_W C cells slots lay mem n 981 [some (.ref b), some (.ref y), some (.ref (y + 49)), some (.int (ja_I i))] [] := by
  obtain ⟨⟨hB, hO, hn, hso, hsd⟩, ⟨hM, hN, hTO, hz4, hkp⟩, hT, hx, hsl⟩ := id h
  have hSOK : S_ok S1 := S1_ok
  have hk512 : k ≤ 512 := by omega
  have hc0 : cells ≤ 500000 := by omega
  have hs0 : slots ≤ 5000000 := by omega
  obtain ⟨x1, hx1⟩ : ∃ z, z = (xs (Int.toNat (i + 1))).toInt := ⟨_, rfl⟩
  have hi1 : ja_in x1 := by rw [hx1]; exact ja_range _
  obtain ⟨i1a, i1b⟩ := id hi1
  refine r_aload_n F rfl rfl dL_law_981 rfl ?_
  refine r_aload_n F rfl rfl dL_law_982 rfl ?_
  refine r_iload_n F rfl rfl dL_law_983 rfl ?_
  refine r_iconst F dL_law_984 rfl ?_
  refine r_iadd F dL_law_985 rfl ?_
  refine r_sld F X (by omega) (by omega) (by omega) dL_law_986 rfl ?_
  refine r_eqz (z := x1) hx1.symm ?_
  refine r_bool F hi1 dL_law_987 (by decide) dL_law_990 dL_law_991 (by decide) dL_law_994 rfl ?_
  refine r_callV F GC (c_X8_loss l D cA B hB hO ja_b_r) v_L_143 rfl hB.1 rfl ⟨(Nat.le_of_ble_eq_true rfl), (Nat.le_of_ble_eq_true rfl)⟩ ⟨Nat.le_trans (Nat.add_le_add_right hc0 _) (Nat.le_of_ble_eq_true rfl), Nat.le_trans (Nat.add_le_add_right hs0 _) (Nat.le_of_ble_eq_true rfl)⟩ (Nat.le_of_ble_eq_true rfl) rfl dL_law_995 rfl (fun v L1 M1 n1 hp => ?_)
  have hc1 : cells + rm_X8_loss.cells ≤ 1000 + 20 * k + 20 := Nat.add_le_add hc (Nat.le_of_ble_eq_true rfl)
  have hs1 : slots + rm_X8_loss.slots ≤ 40000 + 1269 * k + 1269 := Nat.add_le_add hs (Nat.le_of_ble_eq_true rfl)
  have hc2 : cells + rm_X8_loss.cells ≤ 500000 := by omega
  have hs2 : slots + rm_X8_loss.slots ≤ 5000000 := by omega
  obtain ⟨q1, q2, q3, q4⟩ := hp
  subst q1; subst q2; subst q4
  have cF : ∀ q, y + 41 ≤ q → M1 q = mem q := fun q qa => by rw [← q3]
  have c1 : ∀ q, y + 49 ≤ q → q < y + 58 → M1 q = mem q := fun q qa _ => cF q (by omega)
  have cB : ja_BO M1 y sl (500 * (k : Int) + 500) := by rw [← q3]; exact BO_cg (by omega) hO (fun _ _ _ => rfl) (fun _ _ _ _ _ _ _ => rfl)
  refine r_pop F rfl dL_law_998 rfl ?_
  refine r_mem (mem' := ja_rw M1 (y + 49 + 1) (mem (y + 49 + 1))) (by rw [← c1 (y + 49 + 1) (by omega) (by omega), ja_rw_self]) ?_
  have hTO1 : N_TO M1 (y + 49) := N_TO_c (by rw [c1 _ (by omega) (by omega)]) (c1 _ (by omega) (by omega)) hTO
  have hz1 : ∀ j, 0 ≤ M1 (y + 49 + 4) j ∧ M1 (y + 49 + 4) j ≤ 1 := fun j => by rw [c1 _ (by omega) (by omega)]; exact hz4 j
  refine r_aload_n F rfl rfl dL_law_999 rfl ?_
  refine r_aload_n F rfl rfl dL_law_1000 rfl ?_
  refine r_iload_n F rfl rfl dL_law_1001 rfl ?_
  refine r_iconst F dL_law_1002 rfl ?_
  refine r_iadd F dL_law_1003 rfl ?_
  refine r_sld F X (by omega) (by omega) (by omega) dL_law_1004 rfl ?_
  refine r_eqz (z := x1) hx1.symm ?_
  refine r_bool F hi1 dL_law_1005 (by decide) dL_law_1008 dL_law_1009 (by decide) dL_law_1012 rfl ?_
  refine r_callV F GC (c_X9_loss l D cA B hM hN.1 ja_b_r) v_L_146 rfl hM.1 rfl ⟨(Nat.le_of_ble_eq_true rfl), (Nat.le_of_ble_eq_true rfl)⟩ ⟨Nat.le_trans (Nat.add_le_add_right hc2 _) (Nat.le_of_ble_eq_true rfl), Nat.le_trans (Nat.add_le_add_right hs2 _) (Nat.le_of_ble_eq_true rfl)⟩ (Nat.le_of_ble_eq_true rfl) rfl dL_law_1013 rfl (fun v L2 M2 n2 hp => ?_)
  obtain ⟨q5, q6, q7, q8⟩ := hp
  subst q5; subst q6; subst q8
  have hIn := In_step2 hSOK h q7 (fun q hq => cF q (by omega)) (by rw [cF _ (by omega)]) (cF _ (by omega)) cB N_rf.rf (hN.mono (by omega)) (by rw [← q3]; exact hT)
  refine r_pop F rfl dL_law_1016 rfl ?_
  refine r_goto F (tgt := 1226) dL_law_1017 (by decide) ?_
  exact J _ _ _ _ _ _ hIn (Nat.le_trans (Nat.add_le_add_left ((Nat.le_of_ble_eq_true rfl) : rm_X9_loss.cells ≤ 0) _) hc1) (Nat.le_trans (Nat.add_le_add_left ((Nat.le_of_ble_eq_true rfl) : rm_X9_loss.slots ≤ 0) _) hs1)
