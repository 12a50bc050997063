abbrev rm_L_arrives : Room := { frames := 6, cells := 0, slots := 0, locals := 149 }
set_option maxRecDepth 100000 in
set_option maxHeartbeats 4000000 in
theorem c_L_arrives (l : Launch) (D : va_G) (cA : Nat → ClassId) (B : Nat) {lay : ja_Y} {mem : ja_M} {n : Nat} {y : Nat} {sl : Nat → Option Nat} {t : Int} {v : Nat → Int} {w : Int} (h : I7 lay mem n y sl t v) (ht : t ≤ 1900) (hw : 0 ≤ w ∧ w ≤ 2147483647) : ja_Mt l D cA B yL_arrives cL_arrives 7 (some .boolean) rm_L_arrives [.ref y, .int (ja_I w)] lay mem n (P7 lay n y sl t v) := by
  refine ja_enter [some (.ref y), some (.int (ja_I w)), none, none, none, none, none] (by decide) (Nat.le_of_ble_eq_true rfl) (fun q hq => hq) (fun C F Rt G hnm => ?_)
  obtain ⟨hB, hO, -⟩ := id h
  have hx : 0 ≤ (w % 60) ∧ (w % 60) ≤ 999 := by omega
  have hA := I7_arr h (by omega) hx
  have h1 := I7_af h (by omega) hx
  have h18 := I7_18 h
  have h11 := I7_11 h ht
  have h6 := h.R.2.2.1.2.2.1
  have hst := @F_st_in mem (y + 1 + 1) (y + 1 + 2) (w % 60)
  obtain ⟨s0, e0⟩ : ∃ z, z = F_st mem (y + 1 + 1) (y + 1 + 2) (w % 60) := ⟨_, rfl⟩
  obtain ⟨an, ea⟩ : ∃ z, z = R_an mem (y + 1) (w % 60) := ⟨_, rfl⟩
  obtain ⟨s1, e1⟩ : ∃ z, z = F_st (R_af mem (y + 1) (w % 60)) (y + 1 + 1) (y + 1 + 2) (w % 60) := ⟨_, rfl⟩
  obtain ⟨ad, had⟩ : ∃ z, z = (if (w % 60) < mem (y + 1 + 9) 6 then 1 else 0 : Int) := ⟨_, rfl⟩
  have adf : ((w % 60) < mem (y + 1 + 9) 6 ∧ ad = 1) ∨ (¬ (w % 60) < mem (y + 1 + 9) 6 ∧ ad = 0) := by rw [had]; split <;> omega
  obtain ⟨sx, hsx⟩ : ∃ z, z = (if (R_af mem (y + 1) (w % 60)) (y + 1) 7 = 0 then -1004 else (R_af mem (y + 1) (w % 60)) (y + 1) 8) := ⟨_, rfl⟩
  rw [← e0, ← ea, ← e1, ← had, ← hsx] at hA
  rw [← e0] at hst
  have hs8 := h1.R.2.2.2.2.2.2.2.1
  have hsr : -1004 ≤ sx ∧ sx ≤ 10000 := by rw [hsx]; split <;> omega
  obtain ⟨nx, hnx⟩ : ∃ z, z = (if 999 < mem (y + 1 + 9) 6 then -1004 else mem (y + 1 + 9) 6) := ⟨_, rfl⟩
  have nxf : (nx = -1004 ∧ 999 < mem (y + 1 + 9) 6) ∨ (mem (y + 1 + 9) 6 ≤ 999 ∧ nx = mem (y + 1 + 9) 6) := by rw [hnx]; split <;> omega
  have hP := P7_arr h (by omega) hx
  refine r_aload_n F rfl rfl dL_arrives_0 rfl ?_
  refine r_iload_n F rfl rfl dL_arrives_1 rfl ?_
  refine r_bipush F (by decide) dL_arrives_2 rfl ?_
  refine r_iremP F ⟨by omega, by omega⟩ ⟨by omega, by omega⟩ (by omega) (by omega) dL_arrives_4 rfl ?_
  refine r_callV F G (c_X8_state _ _ _ _ hB hO ⟨by omega, by omega⟩) v_L_53 rfl (hB.1) rfl (by decide) (by decide) (Nat.le_of_ble_eq_true rfl) rfl dL_arrives_5 rfl (fun rv lay' mem' n' hp => ?_)
  obtain ⟨q1, q2, q3, q4⟩ := hp
  subst q1; subst q2; subst q3; subst q4
  refine r_eqz (z := s0) ((if_pos hx).trans e0.symm) ?_
  refine r_ist2 F (by decide) rfl dL_arrives_8 rfl ?_
  refine r_aload_n F rfl rfl dL_arrives_9 rfl ?_
  refine r_callV F G (c_X8_duplicates _ _ _ _ hB hO) v_L_56 rfl (hB.1) rfl (by decide) (by decide) (Nat.le_of_ble_eq_true rfl) rfl dL_arrives_10 rfl (fun rv lay' mem' n' hp => ?_)
  obtain ⟨q1, q2, q3, q4⟩ := hp
  subst q1; subst q2; subst q3; subst q4
  refine r_ist3 F (by decide) rfl dL_arrives_13 rfl ?_
  refine r_aload_n F rfl rfl dL_arrives_14 rfl ?_
  refine r_callV F G (c_X8_late _ _ _ _ hB hO) v_L_59 rfl (hB.1) rfl (by decide) (by decide) (Nat.le_of_ble_eq_true rfl) rfl dL_arrives_15 rfl (fun rv lay' mem' n' hp => ?_)
  obtain ⟨q1, q2, q3, q4⟩ := hp
  subst q1; subst q2; subst q3; subst q4
  refine r_ist4 F (by decide) rfl dL_arrives_18 rfl ?_
  refine r_aload_n F rfl rfl dL_arrives_20 rfl ?_
  refine r_callV F G (c_X8_next _ _ _ _ hB hO) v_L_9 rfl (hB.1) rfl (by decide) (by decide) (Nat.le_of_ble_eq_true rfl) rfl dL_arrives_21 rfl (fun rv lay' mem' n' hp => ?_)
  obtain ⟨q1, q2, q3, q4⟩ := hp
  subst q1; subst q2; subst q3; subst q4
  refine r_eqz (z := nx) (hnx.symm) ?_
  refine r_ist5 F (by decide) rfl dL_arrives_24 rfl ?_
  refine r_aload_n F rfl rfl dL_arrives_26 rfl ?_
  refine r_iload_n F rfl rfl dL_arrives_27 rfl ?_
  refine r_bipush F (by decide) dL_arrives_28 rfl ?_
  refine r_iremP F ⟨by omega, by omega⟩ ⟨by omega, by omega⟩ (by omega) (by omega) dL_arrives_30 rfl ?_
  refine r_callV F G (c_X8_arrive _ _ _ _ hB hO ⟨by omega, by omega⟩ (by omega)) v_L_62 rfl (hB.1) rfl (by decide) (by decide) (Nat.le_of_ble_eq_true rfl) rfl dL_arrives_31 rfl (fun rv lay' mem' n' hp => ?_)
  obtain ⟨q1, q2, q3, q4⟩ := hp
  subst q1; subst q2; subst q3; subst q4
  refine r_mem (mem' := (R_af mem (y + 1) (w % 60))) (if_pos hx) ?_
  refine r_eqz (z := an) ((if_pos hx).trans ea.symm) ?_
  have hO1 := h1.O
  refine r_ist6 F (by decide) rfl dL_arrives_34 rfl ?_
  refine r_iload_n F rfl rfl dL_arrives_36 rfl ?_
  refine r_if_le F (tgt := 82) ⟨by omega, by omega⟩ dL_arrives_37 rfl (by decide) (fun h_37 => ?_) (fun h_37 => ?_)
  ·
    refine r_iload F rfl dL_arrives_82 rfl ?_
    refine r_if_le F (tgt := 142) ⟨by omega, by omega⟩ dL_arrives_84 rfl (by decide) (fun h_84 => ?_) (fun h_84 => ?_)
    ·
      exfalso; omega
    ·
      refine r_aload_n F rfl rfl dL_arrives_87 rfl ?_
      refine r_callV F G (c_X8_duplicates _ _ _ _ hB hO1) v_L_56 rfl (hB.1) rfl (by decide) (by decide) (Nat.le_of_ble_eq_true rfl) rfl dL_arrives_88 rfl (fun rv lay' mem' n' hp => ?_)
      obtain ⟨q1, q2, q3, q4⟩ := hp
      subst q1; subst q2; subst q3; subst q4
      refine r_iload_n F rfl rfl dL_arrives_91 rfl ?_
      refine r_nesame F (tgt := 142) (by omega) dL_arrives_92 rfl (by decide) ?_
      refine r_aload_n F rfl rfl dL_arrives_95 rfl ?_
      refine r_iload_n F rfl rfl dL_arrives_96 rfl ?_
      refine r_bipush F (by decide) dL_arrives_97 rfl ?_
      refine r_iremP F ⟨by omega, by omega⟩ ⟨by omega, by omega⟩ (by omega) (by omega) dL_arrives_99 rfl ?_
      refine r_callV F G (c_X8_state _ _ _ _ hB hO1 ⟨by omega, by omega⟩) v_L_53 rfl (hB.1) rfl (by decide) (by decide) (Nat.le_of_ble_eq_true rfl) rfl dL_arrives_100 rfl (fun rv lay' mem' n' hp => ?_)
      obtain ⟨q1, q2, q3, q4⟩ := hp
      subst q1; subst q2; subst q3; subst q4
      refine r_eqz (z := s1) ((if_pos hx).trans e1.symm) ?_
      refine r_iconst F dL_arrives_103 rfl ?_
      refine r_nesame F (tgt := 142) (by omega) dL_arrives_104 rfl (by decide) ?_
      refine r_aload_n F rfl rfl dL_arrives_107 rfl ?_
      have J127 : ja_W C 0 0 lay (R_af mem (y + 1) (w % 60)) n 127 [some (.ref (y)), some (.int (ja_I (w))), some (.int (ja_I (s0))), some (.int (ja_I (mem (y + 1 + 14) 6))), some (.int (ja_I (mem (y + 1 + 14) 5))), some (.int (ja_I (nx))), some (.int (ja_I (an)))] [.int (ja_I (ad)), .int (ja_I (mem (y + 1 + 14) 5)), .int (ja_I ((R_af mem (y + 1) (w % 60)) (y + 1 + 14) 5))] := by
        refine r_iadd F dL_arrives_127 rfl ?_
        refine r_nesame F (tgt := 142) (by omega) dL_arrives_128 rfl (by decide) ?_
        refine r_aload_n F rfl rfl dL_arrives_131 rfl ?_
        refine r_callV F G (c_X8_start _ _ _ _ hB hO1) v_L_65 rfl (hB.1) rfl (by decide) (by decide) (Nat.le_of_ble_eq_true rfl) rfl dL_arrives_132 rfl (fun rv lay' mem' n' hp => ?_)
        obtain ⟨q1, q2, q3, q4⟩ := hp
        subst q1; subst q2; subst q3; subst q4
        refine r_eqz (z := sx) (hsx.symm) ?_
        refine r_if_lt F (tgt := 142) ⟨by omega, by omega⟩ dL_arrives_135 rfl (by decide) (fun h_135 => ?_) (fun h_135 => ?_)
        ·
          exfalso; omega
        ·
          refine r_iconst F dL_arrives_138 rfl ?_
          refine r_goto F (tgt := 143) dL_arrives_139 (by decide) ?_
          exact r_zret F Rt (by omega) dL_arrives_143 (by decide) ⟨rfl, rfl, rfl, hP⟩
      refine r_callV F G (c_X8_late _ _ _ _ hB hO1) v_L_59 rfl (hB.1) rfl (by decide) (by decide) (Nat.le_of_ble_eq_true rfl) rfl dL_arrives_108 rfl (fun rv lay' mem' n' hp => ?_)
      obtain ⟨q1, q2, q3, q4⟩ := hp
      subst q1; subst q2; subst q3; subst q4
      refine r_iload F rfl dL_arrives_111 rfl ?_
      refine r_iload_n F rfl rfl dL_arrives_113 rfl ?_
      refine r_bipush F (by decide) dL_arrives_114 rfl ?_
      refine r_iremP F ⟨by omega, by omega⟩ ⟨by omega, by omega⟩ (by omega) (by omega) dL_arrives_116 rfl ?_
      refine r_iload F rfl dL_arrives_117 rfl ?_
      refine r_icmp_ge F (tgt := 126) ⟨by omega, by omega⟩ ⟨by omega, by omega⟩ dL_arrives_119 rfl (by decide) (fun h_119 => ?_) (fun h_119 => ?_)
      ·
        refine r_iconst F dL_arrives_126 rfl ?_
        refine r_eqz (z := ad) (by omega) ?_
        exact J127
      ·
        refine r_iconst F dL_arrives_122 rfl ?_
        refine r_goto F (tgt := 127) dL_arrives_123 (by decide) ?_
        refine r_eqz (z := ad) (by omega) ?_
        exact J127
  ·
    refine r_iload F rfl dL_arrives_40 rfl ?_
    refine r_if_ne F (tgt := 80) ⟨by omega, by omega⟩ dL_arrives_42 rfl (by decide) (fun h_42 => ?_) (fun h_42 => ?_)
    ·
      exfalso; omega
    ·
      refine r_aload_n F rfl rfl dL_arrives_45 rfl ?_
      refine r_callV F G (c_X8_duplicates _ _ _ _ hB hO1) v_L_56 rfl (hB.1) rfl (by decide) (by decide) (Nat.le_of_ble_eq_true rfl) rfl dL_arrives_46 rfl (fun rv lay' mem' n' hp => ?_)
      obtain ⟨q1, q2, q3, q4⟩ := hp
      subst q1; subst q2; subst q3; subst q4
      refine r_iload_n F rfl rfl dL_arrives_49 rfl ?_
      refine r_iconst F dL_arrives_50 rfl ?_
      refine r_iadd F dL_arrives_51 rfl ?_
      refine r_nesame F (tgt := 80) (by omega) dL_arrives_52 rfl (by decide) ?_
      refine r_aload_n F rfl rfl dL_arrives_55 rfl ?_
      refine r_iload_n F rfl rfl dL_arrives_56 rfl ?_
      refine r_bipush F (by decide) dL_arrives_57 rfl ?_
      refine r_iremP F ⟨by omega, by omega⟩ ⟨by omega, by omega⟩ (by omega) (by omega) dL_arrives_59 rfl ?_
      refine r_callV F G (c_X8_state _ _ _ _ hB hO1 ⟨by omega, by omega⟩) v_L_53 rfl (hB.1) rfl (by decide) (by decide) (Nat.le_of_ble_eq_true rfl) rfl dL_arrives_60 rfl (fun rv lay' mem' n' hp => ?_)
      obtain ⟨q1, q2, q3, q4⟩ := hp
      subst q1; subst q2; subst q3; subst q4
      refine r_eqz (z := s1) ((if_pos hx).trans e1.symm) ?_
      refine r_iload_n F rfl rfl dL_arrives_63 rfl ?_
      refine r_nesame F (tgt := 80) (by omega) dL_arrives_64 rfl (by decide) ?_
      refine r_aload_n F rfl rfl dL_arrives_67 rfl ?_
      refine r_callV F G (c_X8_late _ _ _ _ hB hO1) v_L_59 rfl (hB.1) rfl (by decide) (by decide) (Nat.le_of_ble_eq_true rfl) rfl dL_arrives_68 rfl (fun rv lay' mem' n' hp => ?_)
      obtain ⟨q1, q2, q3, q4⟩ := hp
      subst q1; subst q2; subst q3; subst q4
      refine r_iload F rfl dL_arrives_71 rfl ?_
      refine r_nesame F (tgt := 80) (by omega) dL_arrives_73 rfl (by decide) ?_
      refine r_iconst F dL_arrives_76 rfl ?_
      refine r_goto F (tgt := 81) dL_arrives_77 (by decide) ?_
      exact r_zret F Rt (by omega) dL_arrives_81 (by decide) ⟨rfl, rfl, rfl, hP⟩
