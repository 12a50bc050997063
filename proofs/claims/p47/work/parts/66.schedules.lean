abbrev rm_L_schedules : Room := { frames := 5, cells := 0, slots := 0, locals := 110 }
set_option maxRecDepth 100000 in
set_option maxHeartbeats 4000000 in
theorem c_L_schedules (l : Launch) (D : va_G) (cA : Nat → ClassId) (B : Nat) {lay : ja_Y} {mem : ja_M} {n : Nat} {y : Nat} {sl : Nat → Option Nat} {t : Int} {v : Nat → Int} {kc kr w : Int} (h : I7 lay mem n y sl t v) (ht : t ≤ 900) (h3 : mem (y + 1 + 1) 3 = kc) (h4 : mem (y + 1 + 1) 4 = kr) (hw : 0 ≤ w ∧ w ≤ 2147483647) : ja_Mt l D cA B yL_schedules cL_schedules 10 (some .boolean) rm_L_schedules [.ref y, .int (ja_I kc), .int (ja_I kr), .int (ja_I w)] lay mem n (P7 lay n y sl t v) := by
  refine ja_enter [some (.ref y), some (.int (ja_I kc)), some (.int (ja_I kr)), some (.int (ja_I w)), none, none, none, none, none, none] (by decide) (Nat.le_of_ble_eq_true rfl) (fun q hq => hq) (fun C F Rt G hnm => ?_)
  obtain ⟨hB, hO, -⟩ := id h
  have hc3 : 2 ≤ kc ∧ kc ≤ 6 := by rw [← h3]; exact h.R.1.2.2.2.1
  have hr4 : 2 ≤ kr ∧ kr ≤ 6 := by rw [← h4]; exact h.R.1.2.2.2.2.1
  have hm : 4 ≤ kc * kr ∧ kc * kr ≤ 36 := by have := h.R.1.cells; unfold ja_cells at this; rw [h3, h4] at this; exact this
  have hv3 : v 3 = kc := by rw [← h.set 3 (by omega)]; exact h3
  have hv4 : v 4 = kr := by rw [← h.set 4 (by omega)]; exact h4
  obtain ⟨hq1, hq2⟩ := d_60 hm
  obtain ⟨qd, hqd⟩ : ∃ z, z = 60 / (kc * kr) := ⟨_, rfl⟩
  rw [← hqd] at hq1 hq2
  have hC0 := h.N.1.C
  have hv9 : 0 ≤ v 9 ∧ v 9 ≤ t := ⟨hC0.1.1, h.N.2.1.1⟩
  have hv25 : 0 ≤ v 25 ∧ v 25 ≤ 24 := by omega
  clear hC0
  have ha1 := F_and_in w 64
  obtain ⟨xx, hxx⟩ : ∃ z, z = (if F_and w 64 = 0 then 114 else 99 : Int) := ⟨_, rfl⟩
  obtain ⟨ee, hee⟩ : ∃ z, z = (if F_and w 64 = 0 then 1 else 2 : Int) := ⟨_, rfl⟩
  obtain ⟨dd, hdd⟩ : ∃ z, z = (if F_and w 64 = 0 then kr else kc) := ⟨_, rfl⟩
  have xf : (F_and w 64 = 0 ∧ xx = 114 ∧ ee = 1 ∧ dd = kr) ∨ (¬ F_and w 64 = 0 ∧ xx = 99 ∧ ee = 2 ∧ dd = kc) := by rw [hxx, hee, hdd]; split <;> omega
  have hb0 : 0 ≤ w / 128 % qd ∧ w / 128 % qd < qd := ⟨Int.emod_nonneg _ (by omega), Int.emod_lt_of_pos _ (by omega)⟩
  have hi0 : 0 ≤ w / 4096 % dd ∧ w / 4096 % dd < dd := ⟨Int.emod_nonneg _ (by omega), Int.emod_lt_of_pos _ (by omega)⟩
  obtain ⟨bk, hbk⟩ : ∃ z, z = w / 128 % qd := ⟨_, rfl⟩
  obtain ⟨ix, hix⟩ : ∃ z, z = w / 4096 % dd := ⟨_, rfl⟩
  rw [← hbk] at hb0
  rw [← hix] at hi0
  have hNB : N_hB v bk := ⟨hb0.1, by unfold N_ar; rw [hv3, hv4]; omega⟩
  have hP : N_hP v (if ee = 1 then 1 else 0) bk ix := ⟨hNB, hi0.1, by rw [hv3, hv4]; split <;> split <;> omega⟩
  have hA0 : 0 ≤ (w % 60) ∧ (w % 60) ≤ 999 := by omega
  have hA1 : 0 ≤ (v 9 + 1 + w / 64 % 20) ∧ (v 9 + 1 + w / 64 % 20) ≤ 999 := by omega
  have hA2 : (xx = 114 ∧ ee = 1) ∨ (xx = 99 ∧ ee = 2) := by omega
  have hA3 : 0 ≤ bk ∧ bk ≤ 999 := by omega
  have hA4 : 0 ≤ ix ∧ ix ≤ 999 := by omega
  have hA5 : 0 ≤ (v 9 + w / 65536 % 15) ∧ (v 9 + w / 65536 % 15) ≤ 999 := by omega
  obtain ⟨so, hso⟩ : ∃ z, z = (if w / 65536 % 15 = 0 then 1 else 0 : Int) := ⟨_, rfl⟩
  have sof : (w / 65536 % 15 = 0 ∧ so = 1) ∨ (¬ w / 65536 % 15 = 0 ∧ so = 0) := by rw [hso]; split <;> omega
  have sr : 0 ≤ w / 65536 % 15 ∧ w / 65536 % 15 < 15 := by omega
  clear hxx hee hdd hso
  refine r_aload_n F rfl rfl dL_schedules_0 rfl ?_
  refine r_callV F G (c_X8_clearText _ _ _ _ hB hO) v_L_106 rfl (hB.1) rfl (by decide) (by decide) (Nat.le_of_ble_eq_true rfl) rfl dL_schedules_1 rfl (fun rv L0 M0 n0 hp => ?_)
  obtain ⟨q1, q2, q3, q4⟩ := hp
  subst q1; subst q2; subst q4
  have hc0 := X7_0 h
  rw [q3] at hc0
  clear q3
  refine r_pop F rfl dL_schedules_4 rfl ?_
  refine r_aload_n F rfl rfl dL_schedules_5 rfl ?_
  refine r_callV F G (c_X8_scheduled _ _ _ _ hB hc0.1.O) v_L_109 rfl (hB.1) rfl (by decide) (by decide) (Nat.le_of_ble_eq_true rfl) rfl dL_schedules_6 rfl (fun rv lay' mem' n' hp => ?_)
  obtain ⟨q1, q2, q3, q4⟩ := hp
  subst q1; subst q2; subst q3; subst q4
  refine r_eqz (z := v 25) hc0.1.T.2.1 ?_
  refine r_ist4 F (by decide) rfl dL_schedules_9 rfl ?_
  refine r_aload_n F rfl rfl dL_schedules_11 rfl ?_
  refine r_callV F G (c_X8_time _ _ _ _ hB hc0.1.O) v_L_94 rfl (hB.1) rfl (by decide) (by decide) (Nat.le_of_ble_eq_true rfl) rfl dL_schedules_12 rfl (fun rv lay' mem' n' hp => ?_)
  obtain ⟨q1, q2, q3, q4⟩ := hp
  subst q1; subst q2; subst q3; subst q4
  refine r_eqz (z := v 9) hc0.1.T.1.1.2.1 ?_
  refine r_ist5 F (by decide) rfl dL_schedules_15 rfl ?_
  refine r_aload_n F rfl rfl dL_schedules_17 rfl ?_
  refine r_bipush F (by decide) dL_schedules_18 rfl ?_
  refine r_callV F G (c_X8_append _ _ _ _ hB hc0.1.O ⟨by omega, by omega⟩) v_L_103 rfl (hB.1) rfl (by decide) (by decide) (Nat.le_of_ble_eq_true rfl) rfl dL_schedules_20 rfl (fun rv L1 M1 n1 hp => ?_)
  obtain ⟨q1, q2, q3, q4⟩ := hp
  subst q1; subst q2; subst q4
  have hl1 := hc0.len (by omega)
  have eM1 : t_app M0 y (100) = M1 := (if_pos ⟨by omega, by omega, hl1.1⟩).symm.trans q3
  have hc1 := X7_a hc0 (c := 100) ⟨by omega, by omega⟩ (by omega)
  rw [eM1] at hc1
  clear q3
  refine r_pop F rfl dL_schedules_23 rfl ?_
  refine r_aload_n F rfl rfl dL_schedules_24 rfl ?_
  refine r_iload_n F rfl rfl dL_schedules_25 rfl ?_
  refine r_bipush F (by decide) dL_schedules_26 rfl ?_
  refine r_iremP F ⟨by omega, by omega⟩ ⟨by omega, by omega⟩ (by omega) (by omega) dL_schedules_28 rfl ?_
  refine r_callS F G (c_L_number _ _ _ _ hc1 (by omega) (by omega)) s_L_112 rfl (by decide) (by decide) (Nat.le_of_ble_eq_true rfl) rfl dL_schedules_29 rfl (fun rv L2 M2 n2 hp => ?_)
  obtain ⟨q1, q2, q3, hc2⟩ := hp
  subst q1; subst q2; subst q3
  refine r_aload_n F rfl rfl dL_schedules_32 rfl ?_
  refine r_bipush F (by decide) dL_schedules_33 rfl ?_
  refine r_callV F G (c_X8_append _ _ _ _ hB hc2.1.O ⟨by omega, by omega⟩) v_L_103 rfl (hB.1) rfl (by decide) (by decide) (Nat.le_of_ble_eq_true rfl) rfl dL_schedules_35 rfl (fun rv L3 M3 n3 hp => ?_)
  obtain ⟨q1, q2, q3, q4⟩ := hp
  subst q1; subst q2; subst q4
  have hl3 := hc2.len (by omega)
  have eM3 : t_app M2 y (64) = M3 := (if_pos ⟨by omega, by omega, hl3.1⟩).symm.trans q3
  have hc3 := X7_a hc2 (c := 64) ⟨by omega, by omega⟩ (by omega)
  rw [eM3] at hc3
  clear q3
  refine r_pop F rfl dL_schedules_38 rfl ?_
  refine r_aload_n F rfl rfl dL_schedules_39 rfl ?_
  refine r_iload F rfl dL_schedules_40 rfl ?_
  refine r_iconst F dL_schedules_42 rfl ?_
  refine r_iadd F dL_schedules_43 rfl ?_
  refine r_iload_n F rfl rfl dL_schedules_44 rfl ?_
  refine r_bipush F (by decide) dL_schedules_45 rfl ?_
  refine r_ishr F (J_shr32 (k := 6) (p := 64) ⟨by omega, by omega⟩ rfl (by decide) (by decide)) dL_schedules_47 rfl ?_
  refine r_bipush F (by decide) dL_schedules_48 rfl ?_
  refine r_iremP F ⟨by omega, by omega⟩ ⟨by omega, by omega⟩ (by omega) (by omega) dL_schedules_50 rfl ?_
  refine r_iadd F dL_schedules_51 rfl ?_
  refine r_callS F G (c_L_number _ _ _ _ hc3 (by omega) (by omega)) s_L_112 rfl (by decide) (by decide) (Nat.le_of_ble_eq_true rfl) rfl dL_schedules_52 rfl (fun rv L4 M4 n4 hp => ?_)
  obtain ⟨q1, q2, q3, hc4⟩ := hp
  subst q1; subst q2; subst q3
  refine r_aload_n F rfl rfl dL_schedules_55 rfl ?_
  refine r_bipush F (by decide) dL_schedules_56 rfl ?_
  refine r_callV F G (c_X8_append _ _ _ _ hB hc4.1.O ⟨by omega, by omega⟩) v_L_103 rfl (hB.1) rfl (by decide) (by decide) (Nat.le_of_ble_eq_true rfl) rfl dL_schedules_58 rfl (fun rv L5 M5 n5 hp => ?_)
  obtain ⟨q1, q2, q3, q4⟩ := hp
  subst q1; subst q2; subst q4
  have hl5 := hc4.len (by omega)
  have eM5 : t_app M4 y (59) = M5 := (if_pos ⟨by omega, by omega, hl5.1⟩).symm.trans q3
  have hc5 := X7_a hc4 (c := 59) ⟨by omega, by omega⟩ (by omega)
  rw [eM5] at hc5
  clear q3
  refine r_pop F rfl dL_schedules_61 rfl ?_
  have J77 : ja_W C 0 0 lay M5 n 77 [some (.ref (y)), some (.int (ja_I (kc))), some (.int (ja_I (kr))), some (.int (ja_I (w))), some (.int (ja_I (v 25))), some (.int (ja_I (v 9))), none, none, none, none] [.int (ja_I (xx)), .ref (y)] := by
    refine r_callV F G (c_X8_append _ _ _ _ hB hc5.1.O ⟨by omega, by omega⟩) v_L_103 rfl (hB.1) rfl (by decide) (by decide) (Nat.le_of_ble_eq_true rfl) rfl dL_schedules_77 rfl (fun rv L6 M6 n6 hp => ?_)
    obtain ⟨q1, q2, q3, q4⟩ := hp
    subst q1; subst q2; subst q4
    have hl6 := hc5.len (by omega)
    have eM6 : t_app M5 y (xx) = M6 := (if_pos ⟨by omega, by omega, hl6.1⟩).symm.trans q3
    have hc6 := X7_a hc5 (c := xx) ⟨by omega, by omega⟩ (by omega)
    rw [eM6] at hc6
    clear q3
    refine r_pop F rfl dL_schedules_80 rfl ?_
    refine r_aload_n F rfl rfl dL_schedules_81 rfl ?_
    refine r_iload_n F rfl rfl dL_schedules_82 rfl ?_
    refine r_bipush F (by decide) dL_schedules_83 rfl ?_
    refine r_ishr F (J_shr32 (k := 7) (p := 128) ⟨by omega, by omega⟩ rfl (by decide) (by decide)) dL_schedules_85 rfl ?_
    refine r_bipush F (by decide) dL_schedules_86 rfl ?_
    refine r_iload_n F rfl rfl dL_schedules_88 rfl ?_
    refine r_iload_n F rfl rfl dL_schedules_89 rfl ?_
    refine r_imul F dL_schedules_90 rfl ?_
    refine r_idivP F ⟨by omega, by omega⟩ ⟨by omega, by omega⟩ (by omega) (by omega) dL_schedules_91 rfl ?_
    refine r_eqz (z := qd) (hqd.symm) ?_
    refine r_iremP F ⟨by omega, by omega⟩ ⟨by omega, by omega⟩ (by omega) (by omega) dL_schedules_92 rfl ?_
    refine r_eqz (z := bk) (hbk.symm) ?_
    refine r_callS F G (c_L_number _ _ _ _ hc6 (by omega) (by omega)) s_L_112 rfl (by decide) (by decide) (Nat.le_of_ble_eq_true rfl) rfl dL_schedules_93 rfl (fun rv L7 M7 n7 hp => ?_)
    obtain ⟨q1, q2, q3, hc7⟩ := hp
    subst q1; subst q2; subst q3
    refine r_aload_n F rfl rfl dL_schedules_96 rfl ?_
    refine r_bipush F (by decide) dL_schedules_97 rfl ?_
    refine r_callV F G (c_X8_append _ _ _ _ hB hc7.1.O ⟨by omega, by omega⟩) v_L_103 rfl (hB.1) rfl (by decide) (by decide) (Nat.le_of_ble_eq_true rfl) rfl dL_schedules_99 rfl (fun rv L8 M8 n8 hp => ?_)
    obtain ⟨q1, q2, q3, q4⟩ := hp
    subst q1; subst q2; subst q4
    have hl8 := hc7.len (by omega)
    have eM8 : t_app M7 y (46) = M8 := (if_pos ⟨by omega, by omega, hl8.1⟩).symm.trans q3
    have hc8 := X7_a hc7 (c := 46) ⟨by omega, by omega⟩ (by omega)
    rw [eM8] at hc8
    clear q3
    refine r_pop F rfl dL_schedules_102 rfl ?_
    have J120 : ja_W C 0 0 lay M8 n 120 [some (.ref (y)), some (.int (ja_I (kc))), some (.int (ja_I (kr))), some (.int (ja_I (w))), some (.int (ja_I (v 25))), some (.int (ja_I (v 9))), none, none, none, none] [.int (ja_I (dd)), .int (ja_I ((w / 4096))), .ref (y)] := by
      refine r_iremP F ⟨by omega, by omega⟩ ⟨by omega, by omega⟩ (by omega) (by omega) dL_schedules_120 rfl ?_
      refine r_eqz (z := ix) (hix.symm) ?_
      refine r_callS F G (c_L_number _ _ _ _ hc8 (by omega) (by omega)) s_L_112 rfl (by decide) (by decide) (Nat.le_of_ble_eq_true rfl) rfl dL_schedules_121 rfl (fun rv L9 M9 n9 hp => ?_)
      obtain ⟨q1, q2, q3, hc9⟩ := hp
      subst q1; subst q2; subst q3
      refine r_aload_n F rfl rfl dL_schedules_124 rfl ?_
      refine r_bipush F (by decide) dL_schedules_125 rfl ?_
      refine r_callV F G (c_X8_append _ _ _ _ hB hc9.1.O ⟨by omega, by omega⟩) v_L_103 rfl (hB.1) rfl (by decide) (by decide) (Nat.le_of_ble_eq_true rfl) rfl dL_schedules_127 rfl (fun rv L10 M10 n10 hp => ?_)
      obtain ⟨q1, q2, q3, q4⟩ := hp
      subst q1; subst q2; subst q4
      have hl10 := hc9.len (by omega)
      have eM10 : t_app M9 y (64) = M10 := (if_pos ⟨by omega, by omega, hl10.1⟩).symm.trans q3
      have hc10 := X7_a hc9 (c := 64) ⟨by omega, by omega⟩ (by omega)
      rw [eM10] at hc10
      clear q3
      refine r_pop F rfl dL_schedules_130 rfl ?_
      refine r_aload_n F rfl rfl dL_schedules_131 rfl ?_
      refine r_iload F rfl dL_schedules_132 rfl ?_
      refine r_iload_n F rfl rfl dL_schedules_134 rfl ?_
      refine r_bipush F (by decide) dL_schedules_135 rfl ?_
      refine r_ishr F (J_shr32 (k := 16) (p := 65536) ⟨by omega, by omega⟩ rfl (by decide) (by decide)) dL_schedules_137 rfl ?_
      refine r_bipush F (by decide) dL_schedules_138 rfl ?_
      refine r_iremP F ⟨by omega, by omega⟩ ⟨by omega, by omega⟩ (by omega) (by omega) dL_schedules_140 rfl ?_
      refine r_iadd F dL_schedules_141 rfl ?_
      refine r_callS F G (c_L_number _ _ _ _ hc10 (by omega) (by omega)) s_L_112 rfl (by decide) (by decide) (Nat.le_of_ble_eq_true rfl) rfl dL_schedules_142 rfl (fun rv L11 M11 n11 hp => ?_)
      obtain ⟨q1, q2, q3, hc11⟩ := hp
      subst q1; subst q2; subst q3
      refine r_aload_n F rfl rfl dL_schedules_145 rfl ?_
      refine r_bipush F (by decide) dL_schedules_146 rfl ?_
      refine r_callV F G (c_X8_append _ _ _ _ hB hc11.1.O ⟨by omega, by omega⟩) v_L_103 rfl (hB.1) rfl (by decide) (by decide) (Nat.le_of_ble_eq_true rfl) rfl dL_schedules_148 rfl (fun rv L12 M12 n12 hp => ?_)
      obtain ⟨q1, q2, q3, q4⟩ := hp
      subst q1; subst q2; subst q4
      have hl12 := hc11.len (by omega)
      have eM12 : t_app M11 y (59) = M12 := (if_pos ⟨by omega, by omega, hl12.1⟩).symm.trans q3
      have hc12 := X7_a hc11 (c := 59) ⟨by omega, by omega⟩ (by omega)
      rw [eM12] at hc12
      clear q3
      have hcT : X7 lay M12 n y sl t v (t_two (w % 60) (v 9 + 1 + w / 64 % 20) xx bk ix (v 9 + w / 65536 % 15)) 22 := X7_K (by unfold t_two; simp only [List.append_assoc, List.nil_append, List.cons_append]) hc12 (by omega)
      obtain ⟨TL, hTL⟩ : ∃ z, z = ((t_two (w % 60) (v 9 + 1 + w / 64 % 20) xx bk ix (v 9 + w / 65536 % 15)).length : Int) := ⟨_, rfl⟩
      have hTr : 0 ≤ TL ∧ TL ≤ 22 := by have := hcT.2.2.1; omega
      have eL : M11 (y + 42) 1 + 1 = TL := by
        have e := @t_app_1 M11 y 59
        rw [eM12, hcT.2.1] at e
        omega
      refine r_eqz (z := TL) ((if_pos (by decide)).trans ((if_pos hl12.1).trans eL)) ?_
      refine r_ist6 F (by decide) rfl dL_schedules_151 rfl ?_
      refine r_aload_n F rfl rfl dL_schedules_153 rfl ?_
      refine r_callV F G (c_X8_faultPosition _ _ _ _ hB hcT.1.O) v_L_118 rfl (hB.1) rfl (by decide) (by decide) (Nat.le_of_ble_eq_true rfl) rfl dL_schedules_154 rfl (fun rv L13 M13 n13 hp => ?_)
      obtain ⟨q1, q2, q3, q4⟩ := hp
      subst q1; subst q2; subst q4
      have hc13 := X7_rd hcT
      rw [q3] at hc13
      refine r_eqz (z := -1004) (t_fp1 hA0 hA1 hA2 hA3 hA4 hA5 hcT) ?_
      clear q3
      refine r_sipush F (by decide) dL_schedules_157 rfl ?_
      refine r_icmp_ne F (tgt := 167) ⟨by omega, by omega⟩ ⟨by omega, by omega⟩ dL_schedules_160 rfl (by decide) (fun h_160 => ?_) (fun h_160 => ?_)
      ·
        exfalso; omega
      ·
        refine r_iconst F dL_schedules_163 rfl ?_
        refine r_goto F (tgt := 168) dL_schedules_164 (by decide) ?_
        refine r_ist7 F (by decide) rfl dL_schedules_168 rfl ?_
        refine r_aload_n F rfl rfl dL_schedules_170 rfl ?_
        refine r_callV F G (c_X8_schedule _ _ _ _ hB hc13.1.O (by omega)) v_L_121 rfl (hB.1) rfl (by decide) (by decide) (Nat.le_of_ble_eq_true rfl) rfl dL_schedules_171 rfl (fun rv L14 M14 n14 hp => ?_)
        obtain ⟨q1, q2, q3, q4⟩ := hp
        subst q1; subst q2; subst q4
        have hc14 := X7_sc hc13
        have hsc := t_sc1 hA0 hA1 hA2 hA3 hA4 hA5 hP (by omega) hc13
        rw [q3] at hc14
        obtain ⟨u1, hu1⟩ : ∃ u, u = N_sw v (N_rdt (t_G M13 y) 0) := ⟨_, rfl⟩
        have hu9 : ∀ j, j < 24 → u1 j = v j := fun j hj => by rw [hu1]; exact N_sw_n hv25.1 (by omega) (by omega)
        obtain ⟨md, hmd⟩ : ∃ z, z = (B_sc M13 y).1 := ⟨_, rfl⟩
        refine r_eqz (z := md) hmd.symm ?_
        rw [← hu1, ← hmd] at hsc
        rw [← hu1] at hc14
        clear hu1 hmd q3
        obtain ⟨ad, had⟩ : ∃ z, z = (if md = 2 then 2 else 0 : Int) := ⟨_, rfl⟩
        have adf : (md = 2 ∧ ad = 2) ∨ (¬ md = 2 ∧ ad = 0) := by rw [had]; split <;> omega
        have mdf : (w / 65536 % 15 = 0 ∧ md = -1001 ∧ u1 25 = v 25) ∨ (¬ w / 65536 % 15 = 0 ∧ 22 < v 25 ∧ md = -1002 ∧ u1 25 = v 25) ∨ (¬ w / 65536 % 15 = 0 ∧ v 25 ≤ 22 ∧ md = 2 ∧ u1 25 = v 25 + 2) := by
          obtain ⟨g1, g2⟩ := hsc
          by_cases z1 : v 9 < (v 9 + w / 65536 % 15)
          · rw [if_pos z1] at g1
            by_cases z2 : 22 < v 25
            · rw [if_pos z2] at g1
              rw [if_neg (fun z => z.2 z2)] at g2
              omega
            · rw [if_neg z2] at g1
              rw [if_pos ⟨z1, z2⟩] at g2
              omega
          · rw [if_neg z1] at g1
            rw [if_neg (fun z => z1 z.1)] at g2
            omega
        clear hsc had
        refine r_ist8 F (by decide) rfl dL_schedules_174 rfl ?_
        have J191 : ja_W C 0 0 lay M14 n 191 [some (.ref (y)), some (.int (ja_I (kc))), some (.int (ja_I (kr))), some (.int (ja_I (w))), some (.int (ja_I (v 25))), some (.int (ja_I (v 9))), some (.int (ja_I (TL))), some (.int (ja_I (1))), some (.int (ja_I (md))), none] [.int (ja_I (so))] := by
          refine r_ist9 F (by decide) rfl dL_schedules_191 rfl ?_
          refine r_iload F rfl dL_schedules_193 rfl ?_
          refine r_if_eq F (tgt := 263) ⟨by omega, by omega⟩ dL_schedules_195 rfl (by decide) (fun h_195 => ?_) (fun h_195 => ?_)
          ·
            exfalso; omega
          ·
            have J238 : ja_W C 0 0 lay M14 n 238 [some (.ref (y)), some (.int (ja_I (kc))), some (.int (ja_I (kr))), some (.int (ja_I (w))), some (.int (ja_I (v 25))), some (.int (ja_I (v 9))), some (.int (ja_I (TL))), some (.int (ja_I (1))), some (.int (ja_I (md))), some (.int (ja_I (so)))] [] := by
              refine r_aload_n F rfl rfl dL_schedules_238 rfl ?_
              refine r_callV F G (c_X8_scheduled _ _ _ _ hB hc14.1.O) v_L_109 rfl (hB.1) rfl (by decide) (by decide) (Nat.le_of_ble_eq_true rfl) rfl dL_schedules_239 rfl (fun rv lay' mem' n' hp => ?_)
              obtain ⟨q1, q2, q3, q4⟩ := hp
              subst q1; subst q2; subst q3; subst q4
              refine r_eqz (z := u1 25) hc14.1.T.2.1 ?_
              refine r_iload F rfl dL_schedules_242 rfl ?_
              have J255 : ja_W C 0 0 lay M14 n 255 [some (.ref (y)), some (.int (ja_I (kc))), some (.int (ja_I (kr))), some (.int (ja_I (w))), some (.int (ja_I (v 25))), some (.int (ja_I (v 9))), some (.int (ja_I (TL))), some (.int (ja_I (1))), some (.int (ja_I (md))), some (.int (ja_I (so)))] [.int (ja_I (ad)), .int (ja_I (v 25)), .int (ja_I (u1 25))] := by
                refine r_iadd F dL_schedules_255 rfl ?_
                refine r_icmp_ne F (tgt := 263) ⟨by omega, by omega⟩ ⟨by omega, by omega⟩ dL_schedules_256 rfl (by decide) (fun h_256 => ?_) (fun h_256 => ?_)
                ·
                  exfalso; omega
                ·
                  refine r_iconst F dL_schedules_259 rfl ?_
                  refine r_goto F (tgt := 264) dL_schedules_260 (by decide) ?_
                  refine r_ist7 F (by decide) rfl dL_schedules_264 rfl ?_
                  refine r_aload_n F rfl rfl dL_schedules_266 rfl ?_
                  refine r_bipush F (by decide) dL_schedules_267 rfl ?_
                  refine r_callV F G (c_X8_append _ _ _ _ hB hc14.1.O ⟨by omega, by omega⟩) v_L_103 rfl (hB.1) rfl (by decide) (by decide) (Nat.le_of_ble_eq_true rfl) rfl dL_schedules_269 rfl (fun rv L15 M15 n15 hp => ?_)
                  obtain ⟨q1, q2, q3, q4⟩ := hp
                  subst q1; subst q2; subst q4
                  have hl15 := hc14.len (by omega)
                  have eM15 : t_app M14 y (120) = M15 := (if_pos ⟨by omega, by omega, hl15.1⟩).symm.trans q3
                  have hc15 := X7_a hc14 (c := 120) ⟨by omega, by omega⟩ (by omega)
                  rw [eM15] at hc15
                  clear q3
                  refine r_pop F rfl dL_schedules_272 rfl ?_
                  refine r_iload F rfl dL_schedules_273 rfl ?_
                  refine r_if_eq F (tgt := 301) ⟨by omega, by omega⟩ dL_schedules_275 rfl (by decide) (fun h_275 => ?_) (fun h_275 => ?_)
                  ·
                    exfalso; omega
                  ·
                    refine r_aload_n F rfl rfl dL_schedules_278 rfl ?_
                    refine r_callV F G (c_X8_faultPosition _ _ _ _ hB hc15.1.O) v_L_118 rfl (hB.1) rfl (by decide) (by decide) (Nat.le_of_ble_eq_true rfl) rfl dL_schedules_279 rfl (fun rv L16 M16 n16 hp => ?_)
                    obtain ⟨q1, q2, q3, q4⟩ := hp
                    subst q1; subst q2; subst q4
                    have hc16 := X7_rd hc15
                    rw [q3] at hc16
                    refine r_eqz (z := TL) ((t_fp2 hA0 hA1 hA2 hA3 hA4 hA5 hc15).1.trans hTL.symm) ?_
                    clear q3
                    refine r_iload F rfl dL_schedules_282 rfl ?_
                    refine r_icmp_ne F (tgt := 301) ⟨by omega, by omega⟩ ⟨by omega, by omega⟩ dL_schedules_284 rfl (by decide) (fun h_284 => ?_) (fun h_284 => ?_)
                    ·
                      exfalso; omega
                    ·
                      refine r_aload_n F rfl rfl dL_schedules_287 rfl ?_
                      refine r_callV F G (c_X8_schedule _ _ _ _ hB hc16.1.O (by omega)) v_L_121 rfl (hB.1) rfl (by decide) (by decide) (Nat.le_of_ble_eq_true rfl) rfl dL_schedules_288 rfl (fun rv L17 M17 n17 hp => ?_)
                      obtain ⟨q1, q2, q3, q4⟩ := hp
                      subst q1; subst q2; subst q4
                      have hc17 := X7_sc hc16
                      rw [q3] at hc17
                      refine r_eqz (z := -1003) ((t_fp2 hA0 hA1 hA2 hA3 hA4 hA5 hc16).2) ?_
                      have hf17 : ∀ j, j < 24 → N_sw u1 (N_rdt (t_G M16 y) 0) j = v j := fun j hj => (N_sw_n (by omega) (by omega) (by omega)).trans (hu9 j hj)
                      have hf18 := hf17 18 (by omega)
                      clear q3
                      refine r_sipush F (by decide) dL_schedules_291 rfl ?_
                      refine r_icmp_ne F (tgt := 301) ⟨by omega, by omega⟩ ⟨by omega, by omega⟩ dL_schedules_294 rfl (by decide) (fun h_294 => ?_) (fun h_294 => ?_)
                      ·
                        exfalso; omega
                      ·
                        refine r_iconst F dL_schedules_297 rfl ?_
                        refine r_goto F (tgt := 302) dL_schedules_298 (by decide) ?_
                        exact r_zret F Rt (by omega) dL_schedules_302 (by decide) ⟨rfl, rfl, rfl, _, hc17.1, fun j hj => hf17 j (by omega), by omega, by omega⟩
              refine r_iload F rfl dL_schedules_244 rfl ?_
              refine r_iconst F dL_schedules_246 rfl ?_
              refine r_icmp_ne F (tgt := 254) ⟨by omega, by omega⟩ ⟨by omega, by omega⟩ dL_schedules_247 rfl (by decide) (fun h_247 => ?_) (fun h_247 => ?_)
              ·
                refine r_iconst F dL_schedules_254 rfl ?_
                refine r_eqz (z := ad) (by omega) ?_
                exact J255
              ·
                refine r_iconst F dL_schedules_250 rfl ?_
                refine r_goto F (tgt := 255) dL_schedules_251 (by decide) ?_
                refine r_eqz (z := ad) (by omega) ?_
                exact J255
            refine r_iload F rfl dL_schedules_198 rfl ?_
            refine r_if_eq F (tgt := 214) ⟨by omega, by omega⟩ dL_schedules_200 rfl (by decide) (fun h_200 => ?_) (fun h_200 => ?_)
            ·
              refine r_iload F rfl dL_schedules_214 rfl ?_
              refine r_bipush F (by decide) dL_schedules_216 rfl ?_
              refine r_icmp_le F (tgt := 232) ⟨by omega, by omega⟩ ⟨by omega, by omega⟩ dL_schedules_218 rfl (by decide) (fun h_218 => ?_) (fun h_218 => ?_)
              ·
                refine r_iload F rfl dL_schedules_232 rfl ?_
                refine r_iconst F dL_schedules_234 rfl ?_
                refine r_icmp_ne F (tgt := 263) ⟨by omega, by omega⟩ ⟨by omega, by omega⟩ dL_schedules_235 rfl (by decide) (fun h_235 => ?_) (fun h_235 => ?_)
                ·
                  exfalso; omega
                ·
                  exact J238
              ·
                refine r_iload F rfl dL_schedules_221 rfl ?_
                refine r_sipush F (by decide) dL_schedules_223 rfl ?_
                refine r_icmp_ne F (tgt := 263) ⟨by omega, by omega⟩ ⟨by omega, by omega⟩ dL_schedules_226 rfl (by decide) (fun h_226 => ?_) (fun h_226 => ?_)
                ·
                  exfalso; omega
                ·
                  refine r_goto F (tgt := 238) dL_schedules_229 (by decide) ?_
                  exact J238
            ·
              refine r_iload F rfl dL_schedules_203 rfl ?_
              refine r_sipush F (by decide) dL_schedules_205 rfl ?_
              refine r_icmp_ne F (tgt := 263) ⟨by omega, by omega⟩ ⟨by omega, by omega⟩ dL_schedules_208 rfl (by decide) (fun h_208 => ?_) (fun h_208 => ?_)
              ·
                exfalso; omega
              ·
                refine r_goto F (tgt := 238) dL_schedules_211 (by decide) ?_
                exact J238
        refine r_iload_n F rfl rfl dL_schedules_176 rfl ?_
        refine r_bipush F (by decide) dL_schedules_177 rfl ?_
        refine r_ishr F (J_shr32 (k := 16) (p := 65536) ⟨by omega, by omega⟩ rfl (by decide) (by decide)) dL_schedules_179 rfl ?_
        refine r_bipush F (by decide) dL_schedules_180 rfl ?_
        refine r_iremP F ⟨by omega, by omega⟩ ⟨by omega, by omega⟩ (by omega) (by omega) dL_schedules_182 rfl ?_
        refine r_if_ne F (tgt := 190) ⟨by omega, by omega⟩ dL_schedules_183 rfl (by decide) (fun h_183 => ?_) (fun h_183 => ?_)
        ·
          refine r_iconst F dL_schedules_190 rfl ?_
          refine r_eqz (z := so) (by omega) ?_
          exact J191
        ·
          refine r_iconst F dL_schedules_186 rfl ?_
          refine r_goto F (tgt := 191) dL_schedules_187 (by decide) ?_
          refine r_eqz (z := so) (by omega) ?_
          exact J191
    refine r_aload_n F rfl rfl dL_schedules_103 rfl ?_
    refine r_iload_n F rfl rfl dL_schedules_104 rfl ?_
    refine r_bipush F (by decide) dL_schedules_105 rfl ?_
    refine r_ishr F (J_shr32 (k := 12) (p := 4096) ⟨by omega, by omega⟩ rfl (by decide) (by decide)) dL_schedules_107 rfl ?_
    refine r_iload_n F rfl rfl dL_schedules_108 rfl ?_
    refine r_bipush F (by decide) dL_schedules_109 rfl ?_
    refine r_iand F (ja_of' _) dL_schedules_111 rfl ?_
    refine r_eqz (z := F_and w 64) (rfl) ?_
    refine r_if_ne F (tgt := 119) ha1 dL_schedules_112 rfl (by decide) (fun h_112 => ?_) (fun h_112 => ?_)
    ·
      refine r_iload_n F rfl rfl dL_schedules_119 rfl ?_
      refine r_eqz (z := dd) (by omega) ?_
      exact J120
    ·
      refine r_iload_n F rfl rfl dL_schedules_115 rfl ?_
      refine r_goto F (tgt := 120) dL_schedules_116 (by decide) ?_
      refine r_eqz (z := dd) (by omega) ?_
      exact J120
  refine r_aload_n F rfl rfl dL_schedules_62 rfl ?_
  refine r_iload_n F rfl rfl dL_schedules_63 rfl ?_
  refine r_bipush F (by decide) dL_schedules_64 rfl ?_
  refine r_iand F (ja_of' _) dL_schedules_66 rfl ?_
  refine r_eqz (z := F_and w 64) (rfl) ?_
  refine r_if_ne F (tgt := 75) ha1 dL_schedules_67 rfl (by decide) (fun h_67 => ?_) (fun h_67 => ?_)
  ·
    refine r_bipush F (by decide) dL_schedules_75 rfl ?_
    refine r_eqz (z := xx) (by omega) ?_
    exact J77
  ·
    refine r_bipush F (by decide) dL_schedules_70 rfl ?_
    refine r_goto F (tgt := 77) dL_schedules_72 (by decide) ?_
    refine r_eqz (z := xx) (by omega) ?_
    exact J77
