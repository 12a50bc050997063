set_option maxRecDepth 100000 in
set_option maxHeartbeats 4000000 in
theorem law_all {C : ja_C} {D : va_G} {cA : Nat → ClassId} {l : Launch} {B b L y : Nat} {xs : Nat → Int32} (F : ja_F C RL cL_law 12 room_1) (G : ja_G C l D cA B) (X : ja_X C b L xs) (hL : L ≤ 260) (hE : ∀ (lay : ja_Y) (mem : ja_M) (n cells slots pc : Nat) (ls : List (Option Value)), cells ≤ 600000 → slots ≤ 7302250 → decode code pc = .ok (.ireturn, 1) → ja_W C cells slots lay mem n pc ls [.int (ja_I 1)]) : ja_W C 0 0 (fun _ => none) (fun _ _ => 0) y 0 [some (.ref b), none, none, none, none, none, none, none, none, none, none, none] [] := by
  refine r_new F n_L_10 (Nat.le_of_ble_eq_true rfl) (Nat.le_of_ble_eq_true rfl) dL_law_0 rfl ?_
  refine r_dup F rfl dL_law_3 rfl ?_
  refine r_callI F G (c_X8_init l D cA B (a := y) (ja_ly_s _ _ _) (fun j => ja_zr_s _ _ j)) i_L_143 rfl ⟨(Nat.le_of_ble_eq_true rfl), (Nat.le_of_ble_eq_true rfl)⟩ ⟨(Nat.le_of_ble_eq_true rfl), (Nat.le_of_ble_eq_true rfl)⟩ (Nat.le_of_ble_eq_true rfl) rfl dL_law_4 rfl (fun rv L1 M1 n1 hp => ?_)
  obtain ⟨q1, q2, hB, hL1, hM1, hS1, hS2, hZ⟩ := hp
  subst q1; subst q2
  have f0 := Fr7_0 hB hS1 hS2 hZ
  refine r_gen (A := 60) (B := 9000) (Nat.le_of_ble_eq_true rfl) (Nat.le_of_ble_eq_true rfl) (fun c2 s2 hc hs => ?_)
  refine r_ast1 F (by decide) rfl dL_law_7 rfl ?_
  refine r_aload_n F rfl rfl dL_law_8 rfl ?_
  refine r_iconst F dL_law_9 rfl ?_
  refine r_callSX F G X (c_L_cell _ _ _ _ (k := 0) (by omega) hL) s_L_144 rfl ⟨(Nat.le_of_ble_eq_true rfl), (Nat.le_of_ble_eq_true rfl)⟩ ⟨by have e1 : rm_L_cell.cells = 0 := rfl; have e2 : room_1.cells = 600000 := rfl; omega, by have e1 : rm_L_cell.slots = 0 := rfl; have e2 : room_1.slots = 7302250 := rfl; omega⟩ (Nat.le_of_ble_eq_true rfl) rfl dL_law_10 rfl (fun rv L' M' n' hp => ?_)
  obtain ⟨q1, q2, q3, zc, hzc, q4⟩ := hp
  subst q1; subst q2; subst q3; subst q4
  obtain ⟨y0, hy0⟩ : ∃ w, w = zc := ⟨_, rfl⟩
  rw [← hy0] at hzc
  refine r_eqz (z := y0) hy0.symm ?_
  obtain ⟨nn, hnn⟩ : ∃ w, w = 4 + y0 % 13 := ⟨_, rfl⟩
  obtain ⟨kc, hkc⟩ : ∃ w, w = 2 + y0 / 16 % 5 := ⟨_, rfl⟩
  obtain ⟨kr, hkr⟩ : ∃ w, w = 2 + y0 / 128 % 5 := ⟨_, rfl⟩
  obtain ⟨di, hdi⟩ : ∃ w, w = y0 / 1024 % 40 := ⟨_, rfl⟩
  obtain ⟨pe, hpe⟩ : ∃ w, w = 2 + y0 / 65536 % 31 := ⟨_, rfl⟩
  obtain ⟨sp, hsp⟩ : ∃ w, w = 1 + y0 / 2097152 % 200 := ⟨_, rfl⟩
  obtain ⟨qu, hqu⟩ : ∃ w, w = 1 + y0 / 4096 % 100 := ⟨_, rfl⟩
  obtain ⟨ma, hma⟩ : ∃ w, w = y0 / 262144 % 101 := ⟨_, rfl⟩
  have r1 : 4 ≤ nn ∧ nn ≤ 16 := by omega
  have r2 : 2 ≤ kc ∧ kc ≤ 6 := by omega
  have r3 : 2 ≤ kr ∧ kr ≤ 6 := by omega
  have r4 : 0 ≤ di ∧ di ≤ 200 := by omega
  have r5 : 2 ≤ pe ∧ pe ≤ 32 := by omega
  have r6 : 1 ≤ sp ∧ sp ≤ 200 := by omega
  have r7 : 1 ≤ qu ∧ qu ≤ 100 := by omega
  have r8 : 0 ≤ ma ∧ ma ≤ 100 := by omega
  refine r_gen (A := 60) (B := 9000) (by have e1 : rm_L_cell.cells = 0 := rfl; omega) (by have e2 : rm_L_cell.slots = 0 := rfl; omega) (fun c2 s2 hc hs => ?_)
  refine r_ist2 F (by decide) rfl dL_law_13 rfl ?_
  refine r_iconst F dL_law_14 rfl ?_
  refine r_iload_n F rfl rfl dL_law_15 rfl ?_
  refine r_bipush F (by decide) dL_law_16 rfl ?_
  refine r_iremP F ⟨by omega, by omega⟩ ⟨by omega, by omega⟩ (by omega) (by omega) dL_law_18 rfl ?_
  refine r_iadd F dL_law_19 rfl ?_
  refine r_eqz (z := nn) (hnn.symm) ?_
  refine r_ist3 F (by decide) rfl dL_law_20 rfl ?_
  refine r_iconst F dL_law_21 rfl ?_
  refine r_iload_n F rfl rfl dL_law_22 rfl ?_
  refine r_iconst F dL_law_23 rfl ?_
  refine r_ishr F (J_shr32 (k := 4) (p := 16) ⟨by omega, by omega⟩ rfl (by decide) (by decide)) dL_law_24 rfl ?_
  refine r_iconst F dL_law_25 rfl ?_
  refine r_iremP F ⟨by omega, by omega⟩ ⟨by omega, by omega⟩ (by omega) (by omega) dL_law_26 rfl ?_
  refine r_iadd F dL_law_27 rfl ?_
  refine r_eqz (z := kc) (hkc.symm) ?_
  refine r_ist4 F (by decide) rfl dL_law_28 rfl ?_
  refine r_iconst F dL_law_30 rfl ?_
  refine r_iload_n F rfl rfl dL_law_31 rfl ?_
  refine r_bipush F (by decide) dL_law_32 rfl ?_
  refine r_ishr F (J_shr32 (k := 7) (p := 128) ⟨by omega, by omega⟩ rfl (by decide) (by decide)) dL_law_34 rfl ?_
  refine r_iconst F dL_law_35 rfl ?_
  refine r_iremP F ⟨by omega, by omega⟩ ⟨by omega, by omega⟩ (by omega) (by omega) dL_law_36 rfl ?_
  refine r_iadd F dL_law_37 rfl ?_
  refine r_eqz (z := kr) (hkr.symm) ?_
  refine r_ist5 F (by decide) rfl dL_law_38 rfl ?_
  refine r_aload_n F rfl rfl dL_law_40 rfl ?_
  refine r_iconst F dL_law_41 rfl ?_
  refine r_callV F G (c_X8_restore _ _ _ _ hB f0.1.O ⟨by omega, by omega⟩) v_L_100 rfl (hB.1) rfl ⟨(Nat.le_of_ble_eq_true rfl), (Nat.le_of_ble_eq_true rfl)⟩ ⟨by have e1 : rm_X8_restore.cells = 0 := rfl; have e2 : room_1.cells = 600000 := rfl; omega, by have e1 : rm_X8_restore.slots = 0 := rfl; have e2 : room_1.slots = 7302250 := rfl; omega⟩ (Nat.le_of_ble_eq_true rfl) rfl dL_law_42 rfl (fun rv L' M' n' hp => ?_)
  obtain ⟨q1, q2, q3, q4⟩ : some (.int (ja_I (-1003))) = rv ∧ L1 = L' ∧ M1 = M' ∧ y + 49 = n' := by
    obtain ⟨a1, a2, ⟨hkk, -⟩ | ⟨-, -, a3, a4⟩ | ⟨o, -, hkk, -⟩⟩ := hp
    · exact absurd ⟨by decide, by decide⟩ hkk
    · exact ⟨a3, a1, a4, a2⟩
    · cases hkk
  subst q1; subst q2; subst q3; subst q4
  refine r_gen (A := 60) (B := 9000) (by have e1 : rm_X8_restore.cells = 0 := rfl; omega) (by have e2 : rm_X8_restore.slots = 0 := rfl; omega) (fun c2 s2 hc hs => ?_)
  refine r_sipush F (by decide) dL_law_45 rfl ?_
  refine r_nesame F (tgt := 104) rfl dL_law_48 rfl (by decide) ?_
  refine r_aload_n F rfl rfl dL_law_51 rfl ?_
  refine r_callV F G (c_X8_start _ _ _ _ hB f0.1.O) v_L_65 rfl (hB.1) rfl ⟨(Nat.le_of_ble_eq_true rfl), (Nat.le_of_ble_eq_true rfl)⟩ ⟨by have e1 : rm_X8_start.cells = 0 := rfl; have e2 : room_1.cells = 600000 := rfl; omega, by have e1 : rm_X8_start.slots = 0 := rfl; have e2 : room_1.slots = 7302250 := rfl; omega⟩ (Nat.le_of_ble_eq_true rfl) rfl dL_law_52 rfl (fun rv L' M' n' hp => ?_)
  obtain ⟨q1, q2, q3, q4⟩ := hp
  subst q1; subst q2; subst q3; subst q4
  refine r_eqz (z := -1004) (if_pos f0.2.1) ?_
  refine r_gen (A := 60) (B := 9000) (by have e1 : rm_X8_start.cells = 0 := rfl; omega) (by have e2 : rm_X8_start.slots = 0 := rfl; omega) (fun c2 s2 hc hs => ?_)
  refine r_sipush F (by decide) dL_law_55 rfl ?_
  refine r_nesame F (tgt := 104) rfl dL_law_58 rfl (by decide) ?_
  refine r_aload_n F rfl rfl dL_law_61 rfl ?_
  refine r_iload_n F rfl rfl dL_law_62 rfl ?_
  refine r_callV F G (c_X8_setFrame _ _ _ _ hB f0.1.O ⟨by omega, by omega⟩) v_L_124 rfl (hB.1) rfl ⟨(Nat.le_of_ble_eq_true rfl), (Nat.le_of_ble_eq_true rfl)⟩ ⟨by have e1 : rm_X8_setFrame.cells = 0 := rfl; have e2 : room_1.cells = 600000 := rfl; omega, by have e1 : rm_X8_setFrame.slots = 0 := rfl; have e2 : room_1.slots = 7302250 := rfl; omega⟩ (Nat.le_of_ble_eq_true rfl) rfl dL_law_63 rfl (fun rv L2_ M2 n2 hp => ?_)
  obtain ⟨q1, q2, q3, q4⟩ := hp
  subst q1; subst q2; subst q4
  have f2 := Fr7_up f0 (j := 0) (z := nn) (by omega) (show 4 ≤ nn ∧ nn ≤ 16 by omega)
  have eM2 := (if_pos (show (4 ≤ nn ∧ nn ≤ 16) ∧ ¬ B_bg M1 y from ⟨by omega, f0.nb⟩)).symm.trans q3
  rw [eM2] at f2
  refine r_eqz (z := 8) ((if_pos (by omega)).trans ((if_neg f0.nb).trans ((f0.1.set 0 (by omega)).trans (by rfl)))) ?_
  refine r_gen (A := 60) (B := 9000) (by have e1 : rm_X8_setFrame.cells = 0 := rfl; omega) (by have e2 : rm_X8_setFrame.slots = 0 := rfl; omega) (fun c2 s2 hc hs => ?_)
  refine r_bipush F (by decide) dL_law_66 rfl ?_
  refine r_nesame F (tgt := 104) rfl dL_law_68 rfl (by decide) ?_
  refine r_aload_n F rfl rfl dL_law_71 rfl ?_
  refine r_iload F rfl dL_law_72 rfl ?_
  refine r_iload F rfl dL_law_74 rfl ?_
  refine r_callV F G (c_X8_setBlock _ _ _ _ hB f2.1.O ⟨by omega, by omega⟩ ⟨by omega, by omega⟩) v_L_137 rfl (hB.1) rfl ⟨(Nat.le_of_ble_eq_true rfl), (Nat.le_of_ble_eq_true rfl)⟩ ⟨by have e1 : rm_X8_setBlock.cells = 0 := rfl; have e2 : room_1.cells = 600000 := rfl; omega, by have e1 : rm_X8_setBlock.slots = 0 := rfl; have e2 : room_1.slots = 7302250 := rfl; omega⟩ (Nat.le_of_ble_eq_true rfl) rfl dL_law_76 rfl (fun rv L3_ M3 n3 hp => ?_)
  obtain ⟨q1, q2, q3, q4⟩ := hp
  subst q1; subst q2; subst q4
  have g3 := Fr7_up f2 (j := 3) (z := kc) (by omega) (show 2 ≤ kc ∧ kc ≤ 6 by omega)
  have f3 := Fr7_up g3 (j := 4) (z := kr) (by omega) (show 2 ≤ kr ∧ kr ≤ 6 by omega)
  have eM3 := (if_pos (show (2 ≤ kc ∧ kc ≤ 6 ∧ 2 ≤ kr ∧ kr ≤ 6) ∧ ¬ B_bg M2 y from ⟨by omega, f2.nb⟩)).symm.trans q3
  rw [eM3] at f3
  refine r_eqz (z := 44) ((if_pos (by omega)).trans ((if_neg f2.nb).trans (by rw [show M2 (y + 1 + 1) 3 = 4 from (f2.1.set 3 (by omega)).trans (by rw [ja_rs_n (by decide)]; rfl), show M2 (y + 1 + 1) 4 = 4 from (f2.1.set 4 (by omega)).trans (by rw [ja_rs_n (by decide)]; rfl)]; rfl))) ?_
  refine r_gen (A := 60) (B := 9000) (by have e1 : rm_X8_setBlock.cells = 0 := rfl; omega) (by have e2 : rm_X8_setBlock.slots = 0 := rfl; omega) (fun c2 s2 hc hs => ?_)
  refine r_bipush F (by decide) dL_law_79 rfl ?_
  refine r_nesame F (tgt := 104) rfl dL_law_81 rfl (by decide) ?_
  refine r_aload_n F rfl rfl dL_law_84 rfl ?_
  refine r_iload_n F rfl rfl dL_law_85 rfl ?_
  refine r_bipush F (by decide) dL_law_86 rfl ?_
  refine r_ishr F (J_shr32 (k := 10) (p := 1024) ⟨by omega, by omega⟩ rfl (by decide) (by decide)) dL_law_88 rfl ?_
  refine r_bipush F (by decide) dL_law_89 rfl ?_
  refine r_iremP F ⟨by omega, by omega⟩ ⟨by omega, by omega⟩ (by omega) (by omega) dL_law_91 rfl ?_
  refine r_eqz (z := di) (hdi.symm) ?_
  refine r_callV F G (c_X8_setInitialDelay _ _ _ _ hB f3.1.O ⟨by omega, by omega⟩) v_L_140 rfl (hB.1) rfl ⟨(Nat.le_of_ble_eq_true rfl), (Nat.le_of_ble_eq_true rfl)⟩ ⟨by have e1 : rm_X8_setInitialDelay.cells = 0 := rfl; have e2 : room_1.cells = 600000 := rfl; omega, by have e1 : rm_X8_setInitialDelay.slots = 0 := rfl; have e2 : room_1.slots = 7302250 := rfl; omega⟩ (Nat.le_of_ble_eq_true rfl) rfl dL_law_92 rfl (fun rv L4_ M4 n4 hp => ?_)
  obtain ⟨q1, q2, q3, q4⟩ := hp
  subst q1; subst q2; subst q4
  have f4 := Fr7_up f3 (j := 5) (z := di) (by omega) (show 0 ≤ di ∧ di ≤ 200 by omega)
  have eM4 := (if_pos (show (0 ≤ di ∧ di ≤ 200) ∧ ¬ B_bg M3 y from ⟨by omega, f3.nb⟩)).symm.trans q3
  rw [eM4] at f4
  refine r_eqz (z := 16) ((if_pos (by omega)).trans ((if_neg f3.nb).trans ((f3.1.set 5 (by omega)).trans (by rw [ja_rs_n (by decide)]; rw [ja_rs_n (by decide)]; rw [ja_rs_n (by decide)]; rfl)))) ?_
  refine r_gen (A := 60) (B := 9000) (by have e1 : rm_X8_setInitialDelay.cells = 0 := rfl; omega) (by have e2 : rm_X8_setInitialDelay.slots = 0 := rfl; omega) (fun c2 s2 hc hs => ?_)
  refine r_bipush F (by decide) dL_law_95 rfl ?_
  refine r_nesame F (tgt := 104) rfl dL_law_97 rfl (by decide) ?_
  refine r_iconst F dL_law_100 rfl ?_
  refine r_goto F (tgt := 105) dL_law_101 (by decide) ?_
  refine r_ist6 F (by decide) rfl dL_law_105 rfl ?_
  refine r_iload F rfl dL_law_107 rfl ?_
  refine r_if_eq F (tgt := 179) ⟨by omega, by omega⟩ dL_law_109 rfl (by decide) (fun h_109 => ?_) (fun h_109 => ?_)
  ·
    exfalso; omega
  ·
    refine r_aload_n F rfl rfl dL_law_112 rfl ?_
    refine r_iconst F dL_law_113 rfl ?_
    refine r_iload_n F rfl rfl dL_law_114 rfl ?_
    refine r_bipush F (by decide) dL_law_115 rfl ?_
    refine r_ishr F (J_shr32 (k := 16) (p := 65536) ⟨by omega, by omega⟩ rfl (by decide) (by decide)) dL_law_117 rfl ?_
    refine r_bipush F (by decide) dL_law_118 rfl ?_
    refine r_iremP F ⟨by omega, by omega⟩ ⟨by omega, by omega⟩ (by omega) (by omega) dL_law_120 rfl ?_
    refine r_iadd F dL_law_121 rfl ?_
    refine r_eqz (z := pe) (hpe.symm) ?_
    refine r_iconst F dL_law_122 rfl ?_
    refine r_iload_n F rfl rfl dL_law_123 rfl ?_
    refine r_bipush F (by decide) dL_law_124 rfl ?_
    refine r_ishr F (J_shr32 (k := 21) (p := 2097152) ⟨by omega, by omega⟩ rfl (by decide) (by decide)) dL_law_126 rfl ?_
    refine r_sipush F (by decide) dL_law_127 rfl ?_
    refine r_iremP F ⟨by omega, by omega⟩ ⟨by omega, by omega⟩ (by omega) (by omega) dL_law_130 rfl ?_
    refine r_iadd F dL_law_131 rfl ?_
    refine r_eqz (z := sp) (hsp.symm) ?_
    refine r_callV F G (c_X8_setWave _ _ _ _ hB f4.1.O ⟨by omega, by omega⟩ ⟨by omega, by omega⟩) v_L_127 rfl (hB.1) rfl ⟨(Nat.le_of_ble_eq_true rfl), (Nat.le_of_ble_eq_true rfl)⟩ ⟨by have e1 : rm_X8_setWave.cells = 0 := rfl; have e2 : room_1.cells = 600000 := rfl; omega, by have e1 : rm_X8_setWave.slots = 0 := rfl; have e2 : room_1.slots = 7302250 := rfl; omega⟩ (Nat.le_of_ble_eq_true rfl) rfl dL_law_132 rfl (fun rv L5_ M5 n5 hp => ?_)
    obtain ⟨q1, q2, q3, q4⟩ := hp
    subst q1; subst q2; subst q4
    have g5 := Fr7_up f4 (j := 1) (z := pe) (by omega) (show 2 ≤ pe ∧ pe ≤ 32 by omega)
    have f5 := Fr7_up g5 (j := 2) (z := sp) (by omega) (show 1 ≤ sp ∧ sp ≤ 200 by omega)
    have eM5 := (if_pos (show (2 ≤ pe ∧ pe ≤ 32 ∧ 1 ≤ sp ∧ sp ≤ 200) ∧ ¬ B_bg M4 y from ⟨by omega, f4.nb⟩)).symm.trans q3
    rw [eM5] at f5
    refine r_eqz (z := 16025) ((if_pos (by omega)).trans ((if_neg f4.nb).trans (by rw [show M4 (y + 1 + 1) 1 = 16 from (f4.1.set 1 (by omega)).trans (by rw [ja_rs_n (by decide)]; rw [ja_rs_n (by decide)]; rw [ja_rs_n (by decide)]; rw [ja_rs_n (by decide)]; rfl), show M4 (y + 1 + 1) 2 = 25 from (f4.1.set 2 (by omega)).trans (by rw [ja_rs_n (by decide)]; rw [ja_rs_n (by decide)]; rw [ja_rs_n (by decide)]; rw [ja_rs_n (by decide)]; rfl)]; rfl))) ?_
    refine r_gen (A := 60) (B := 9000) (by have e1 : rm_X8_setWave.cells = 0 := rfl; omega) (by have e2 : rm_X8_setWave.slots = 0 := rfl; omega) (fun c2 s2 hc hs => ?_)
    refine r_sipush F (by decide) dL_law_135 rfl ?_
    refine r_nesame F (tgt := 179) rfl dL_law_138 rfl (by decide) ?_
    refine r_aload_n F rfl rfl dL_law_141 rfl ?_
    refine r_iconst F dL_law_142 rfl ?_
    refine r_iload_n F rfl rfl dL_law_143 rfl ?_
    refine r_bipush F (by decide) dL_law_144 rfl ?_
    refine r_ishr F (J_shr32 (k := 12) (p := 4096) ⟨by omega, by omega⟩ rfl (by decide) (by decide)) dL_law_146 rfl ?_
    refine r_bipush F (by decide) dL_law_147 rfl ?_
    refine r_iremP F ⟨by omega, by omega⟩ ⟨by omega, by omega⟩ (by omega) (by omega) dL_law_149 rfl ?_
    refine r_iadd F dL_law_150 rfl ?_
    refine r_eqz (z := qu) (hqu.symm) ?_
    refine r_callV F G (c_X8_setQuantile _ _ _ _ hB f5.1.O ⟨by omega, by omega⟩) v_L_131 rfl (hB.1) rfl ⟨(Nat.le_of_ble_eq_true rfl), (Nat.le_of_ble_eq_true rfl)⟩ ⟨by have e1 : rm_X8_setQuantile.cells = 0 := rfl; have e2 : room_1.cells = 600000 := rfl; omega, by have e1 : rm_X8_setQuantile.slots = 0 := rfl; have e2 : room_1.slots = 7302250 := rfl; omega⟩ (Nat.le_of_ble_eq_true rfl) rfl dL_law_151 rfl (fun rv L6_ M6 n6 hp => ?_)
    obtain ⟨q1, q2, q3, q4⟩ := hp
    subst q1; subst q2; subst q4
    have f6 := Fr7_up f5 (j := 6) (z := qu) (by omega) (show 1 ≤ qu ∧ qu ≤ 100 by omega)
    have eM6 := (if_pos (show 1 ≤ qu ∧ qu ≤ 100 from by omega)).symm.trans q3
    rw [eM6] at f6
    refine r_eqz (z := 90) ((if_pos (by omega)).trans ((f5.1.set 6 (by omega)).trans (by rw [ja_rs_n (by decide)]; rw [ja_rs_n (by decide)]; rw [ja_rs_n (by decide)]; rw [ja_rs_n (by decide)]; rw [ja_rs_n (by decide)]; rw [ja_rs_n (by decide)]; rfl))) ?_
    refine r_gen (A := 60) (B := 9000) (by have e1 : rm_X8_setQuantile.cells = 0 := rfl; omega) (by have e2 : rm_X8_setQuantile.slots = 0 := rfl; omega) (fun c2 s2 hc hs => ?_)
    refine r_bipush F (by decide) dL_law_154 rfl ?_
    refine r_nesame F (tgt := 179) rfl dL_law_156 rfl (by decide) ?_
    refine r_aload_n F rfl rfl dL_law_159 rfl ?_
    refine r_iload_n F rfl rfl dL_law_160 rfl ?_
    refine r_bipush F (by decide) dL_law_161 rfl ?_
    refine r_ishr F (J_shr32 (k := 18) (p := 262144) ⟨by omega, by omega⟩ rfl (by decide) (by decide)) dL_law_163 rfl ?_
    refine r_bipush F (by decide) dL_law_164 rfl ?_
    refine r_iremP F ⟨by omega, by omega⟩ ⟨by omega, by omega⟩ (by omega) (by omega) dL_law_166 rfl ?_
    refine r_eqz (z := ma) (hma.symm) ?_
    refine r_callV F G (c_X8_setMargin _ _ _ _ hB f6.1.O ⟨by omega, by omega⟩) v_L_134 rfl (hB.1) rfl ⟨(Nat.le_of_ble_eq_true rfl), (Nat.le_of_ble_eq_true rfl)⟩ ⟨by have e1 : rm_X8_setMargin.cells = 0 := rfl; have e2 : room_1.cells = 600000 := rfl; omega, by have e1 : rm_X8_setMargin.slots = 0 := rfl; have e2 : room_1.slots = 7302250 := rfl; omega⟩ (Nat.le_of_ble_eq_true rfl) rfl dL_law_167 rfl (fun rv L7_ M7 n7 hp => ?_)
    obtain ⟨q1, q2, q3, q4⟩ := hp
    subst q1; subst q2; subst q4
    have f7 := Fr7_up f6 (j := 7) (z := ma) (by omega) (show 0 ≤ ma ∧ ma ≤ 100 by omega)
    have eM7 := (if_pos (show 0 ≤ ma ∧ ma ≤ 100 from by omega)).symm.trans q3
    rw [eM7] at f7
    refine r_eqz (z := 8) ((if_pos (by omega)).trans ((f6.1.set 7 (by omega)).trans (by rw [ja_rs_n (by decide)]; rw [ja_rs_n (by decide)]; rw [ja_rs_n (by decide)]; rw [ja_rs_n (by decide)]; rw [ja_rs_n (by decide)]; rw [ja_rs_n (by decide)]; rw [ja_rs_n (by decide)]; rfl))) ?_
    refine r_gen (A := 60) (B := 9000) (by have e1 : rm_X8_setMargin.cells = 0 := rfl; omega) (by have e2 : rm_X8_setMargin.slots = 0 := rfl; omega) (fun c2 s2 hc hs => ?_)
    refine r_bipush F (by decide) dL_law_170 rfl ?_
    refine r_nesame F (tgt := 179) rfl dL_law_172 rfl (by decide) ?_
    refine r_iconst F dL_law_175 rfl ?_
    refine r_goto F (tgt := 180) dL_law_176 (by decide) ?_
    refine r_ist6 F (by decide) rfl dL_law_180 rfl ?_
    refine r_iconst F dL_law_182 rfl ?_
    refine r_ist7 F (by decide) rfl dL_law_183 rfl ?_
    refine r_msk [true, true, true, true, true, true, true, true, false, false, false, false] rfl ?_
    exact law_loop F G X hL hE 18 0 _ _ _ _ _ _ _ (by omega) f7.1 (by rw [ja_rs_n (by decide)]; rw [ja_rs_n (by decide)]; rw [ja_rs_n (by decide)]; rw [ja_rs_n (by decide)]; rw [ja_rs_n (by decide)]; rw [ja_rs_n (by decide)]; rw [ja_rs_n (by decide)]; exact ja_rs_s _ _ _) (by rw [ja_rs_n (by decide)]; rw [ja_rs_n (by decide)]; rw [ja_rs_n (by decide)]; rw [ja_rs_n (by decide)]; rw [ja_rs_n (by decide)]; rw [ja_rs_n (by decide)]; exact ja_rs_s _ _ _) (by rw [ja_rs_n (by decide)]; rw [ja_rs_n (by decide)]; rw [ja_rs_n (by decide)]; rw [ja_rs_n (by decide)]; rw [ja_rs_n (by decide)]; exact ja_rs_s _ _ _) (by rw [ja_rs_n (by decide)]; rw [ja_rs_n (by decide)]; rw [ja_rs_n (by decide)]; rw [ja_rs_n (by decide)]; rw [ja_rs_n (by decide)]; rw [ja_rs_n (by decide)]; rw [ja_rs_n (by decide)]; rw [ja_rs_n (by decide)]; decide) (by rw [ja_rs_n (by decide)]; rw [ja_rs_n (by decide)]; rw [ja_rs_n (by decide)]; rw [ja_rs_n (by decide)]; rw [ja_rs_n (by decide)]; rw [ja_rs_n (by decide)]; rw [ja_rs_n (by decide)]; rw [ja_rs_n (by decide)]; decide) (by omega) (by omega)
