abbrev rm_X5_putKnown : Room := { frames := 4, cells := 0, slots := 0, locals := 93 }
set_option maxRecDepth 100000 in
set_option maxHeartbeats 4000000 in
theorem c_X5_putKnown (l : Launch) (D : va_G) (cA : Nat → ClassId) (B : Nat) {lay : ja_Y} {mem : ja_M} {n : Nat} {b : Nat} {x : Int} (hR : ja_LR lay b) (hS : ja_SO mem (b + 1)) (hT : ja_TO mem (b + 6)) (hP : ja_PO mem (b + 9)) (hx : 0 ≤ x ∧ x ≤ 999) : ja_Mt l D cA B yX5_putKnown cX5_putKnown 4 none rm_X5_putKnown [.ref b, .int (ja_I x)] lay mem n (ja_rd lay (R_pkn mem b x) n (none)) := by
  refine ja_enter [some (.ref b), some (.int (ja_I x)), none, none] (by decide) (Nat.le_of_ble_eq_true rfl) (fun q hq => hq) (fun C F Rt G hnm => ?_)
  have t0 := R_tg_in hS hT
  have l0 := R_lv_in (b := b) (x := x + 1) hS ⟨by omega, by omega⟩
  have n0 := hS.1
  have d0 := hS.2.2.2.2.2.2.2.2
  have l1 := hP.1
  have hLP : ∀ (c : Nat) (z : Int), ja_PO (ja_up (R_lw mem b x) (b + 14) c z) (b + 9) := fun c z => ja_PO_c (ja_up_row (by omega)) (ja_up_row (by omega)) (ja_up_row (by omega)) (ja_up_row (by omega)) (R_lw_PO hP)
  have e0 : (R_lw mem b x) (b + 1) = mem (b + 1) := by unfold R_lw; exact ja_rw_n (by omega)
  refine r_aload_n F rfl rfl dX5_putKnown_0 rfl ?_
  refine r_iload_n F rfl rfl dX5_putKnown_1 rfl ?_
  refine r_iconst F dX5_putKnown_2 rfl ?_
  refine r_iadd F dX5_putKnown_3 rfl ?_
  refine r_callV F G (c_X5_levelFrom _ _ _ _ hR hS ⟨by omega, by omega⟩) v_X5_198 rfl (hR.1) rfl (by decide) (by decide) (Nat.le_of_ble_eq_true rfl) rfl dX5_putKnown_4 rfl (fun v lay' mem' n' hp => ?_)
  obtain ⟨q1, q2, q3, q4⟩ := hp
  subst q1; subst q2; subst q3; subst q4
  refine r_ist2 F (by decide) rfl dX5_putKnown_7 rfl ?_
  refine r_aload_n F rfl rfl dX5_putKnown_8 rfl ?_
  refine r_callV F G (c_X5_targetNow _ _ _ _ hR hS hT) v_X5_201 rfl (hR.1) rfl (by decide) (by decide) (Nat.le_of_ble_eq_true rfl) rfl dX5_putKnown_9 rfl (fun v lay' mem' n' hp => ?_)
  obtain ⟨q1, q2, q3, q4⟩ := hp
  subst q1; subst q2; subst q3; subst q4
  refine r_ist3 F (by decide) rfl dX5_putKnown_12 rfl ?_
  refine r_aload_n F rfl rfl dX5_putKnown_13 rfl ?_
  refine r_getR F f_X5_35 (hR.1) rfl dX5_putKnown_14 rfl ?_
  refine r_aload_n F rfl rfl dX5_putKnown_17 rfl ?_
  refine r_getR F f_X5_12 (hR.1) rfl dX5_putKnown_18 rfl ?_
  refine r_iload_n F rfl rfl dX5_putKnown_21 rfl ?_
  refine r_callV F G (c_X4_loadWave _ _ _ _ (ja_LR_9 hR) (ja_LR_1 hR) hS ⟨by omega, by omega⟩ (by omega)) v_X5_204 rfl ((ja_LR_9 hR).1) rfl (by decide) (by decide) (Nat.le_of_ble_eq_true rfl) rfl dX5_putKnown_22 rfl (fun v lay' mem' n' hp => ?_)
  obtain ⟨q1, q2, q3, q4⟩ := hp
  subst q1; subst q2; subst q3; subst q4
  refine r_mem (mem' := R_lw mem b x) rfl ?_
  refine r_aload_n F rfl rfl dX5_putKnown_25 rfl ?_
  refine r_getR F f_X5_12 (hR.1) rfl dX5_putKnown_26 rfl ?_
  refine r_getI F f_X5_207 (ja_LR_1 hR) rfl dX5_putKnown_29 rfl ?_
  refine r_eqz (z := mem (b + 1) 8) (by rw [e0]) ?_
  refine r_if_eq F (tgt := 78) ⟨by omega, by omega⟩ dX5_putKnown_32 rfl (by decide) (fun h_32 => ?_) (fun h_32 => ?_)
  ·
    refine r_aload_n F rfl rfl dX5_putKnown_78 rfl ?_
    refine r_getR F f_X5_12 (hR.1) rfl dX5_putKnown_79 rfl ?_
    refine r_getI F f_X5_207 (ja_LR_1 hR) rfl dX5_putKnown_82 rfl ?_
    refine r_eqz (z := mem (b + 1) 8) (by rw [e0]) ?_
    refine r_if_eq F (tgt := 131) ⟨by omega, by omega⟩ dX5_putKnown_85 rfl (by decide) (fun h_85 => ?_) (fun h_85 => ?_)
    ·
      refine r_aload_n F rfl rfl dX5_putKnown_131 rfl ?_
      refine r_getR F f_X5_35 (hR.1) rfl dX5_putKnown_132 rfl ?_
      refine r_aload_n F rfl rfl dX5_putKnown_135 rfl ?_
      refine r_getR F f_X5_12 (hR.1) rfl dX5_putKnown_136 rfl ?_
      refine r_getI F f_X5_96 (ja_LR_1 hR) rfl dX5_putKnown_139 rfl ?_
      refine r_eqz (z := mem (b + 1) 0) (by rw [e0]) ?_
      refine r_callV F G (c_X4_putAsItIs _ _ _ _ (ja_LR_9 hR) (by have := (R_lw_PO (x := x) hP).1; omega) ⟨by omega, by omega⟩) v_X5_222 rfl ((ja_LR_9 hR).1) rfl (by decide) (by decide) (Nat.le_of_ble_eq_true rfl) rfl dX5_putKnown_142 rfl (fun v lay' mem' n' hp => ?_)
      obtain ⟨q1, q2, q3, q4⟩ := hp
      subst q1; subst q2; subst q3; subst q4
      exact r_vret F Rt dX5_putKnown_145 (by decide) ⟨rfl, rfl, by simp only [R_pkn, e0]; first | (exfalso; omega) | rw [if_pos ⟨by omega, by omega⟩] | rw [if_neg (by omega), if_pos ⟨by omega, by omega⟩] | rw [if_neg (by omega), if_neg (by omega)], rfl⟩
    ·
      refine r_iload_n F rfl rfl dX5_putKnown_88 rfl ?_
      refine r_aload_n F rfl rfl dX5_putKnown_89 rfl ?_
      refine r_getR F f_X5_12 (hR.1) rfl dX5_putKnown_90 rfl ?_
      refine r_getI F f_X5_96 (ja_LR_1 hR) rfl dX5_putKnown_93 rfl ?_
      refine r_eqz (z := mem (b + 1) 0) (by rw [e0]) ?_
      refine r_iadd F dX5_putKnown_96 rfl ?_
      refine r_iload_n F rfl rfl dX5_putKnown_97 rfl ?_
      refine r_icmp_ge F (tgt := 131) ⟨by omega, by omega⟩ ⟨by omega, by omega⟩ dX5_putKnown_98 rfl (by decide) (fun h_98 => ?_) (fun h_98 => ?_)
      ·
        refine r_aload_n F rfl rfl dX5_putKnown_131 rfl ?_
        refine r_getR F f_X5_35 (hR.1) rfl dX5_putKnown_132 rfl ?_
        refine r_aload_n F rfl rfl dX5_putKnown_135 rfl ?_
        refine r_getR F f_X5_12 (hR.1) rfl dX5_putKnown_136 rfl ?_
        refine r_getI F f_X5_96 (ja_LR_1 hR) rfl dX5_putKnown_139 rfl ?_
        refine r_eqz (z := mem (b + 1) 0) (by rw [e0]) ?_
        refine r_callV F G (c_X4_putAsItIs _ _ _ _ (ja_LR_9 hR) (by have := (R_lw_PO (x := x) hP).1; omega) ⟨by omega, by omega⟩) v_X5_222 rfl ((ja_LR_9 hR).1) rfl (by decide) (by decide) (Nat.le_of_ble_eq_true rfl) rfl dX5_putKnown_142 rfl (fun v lay' mem' n' hp => ?_)
        obtain ⟨q1, q2, q3, q4⟩ := hp
        subst q1; subst q2; subst q3; subst q4
        exact r_vret F Rt dX5_putKnown_145 (by decide) ⟨rfl, rfl, by simp only [R_pkn, e0]; first | (exfalso; omega) | rw [if_pos ⟨by omega, by omega⟩] | rw [if_neg (by omega), if_pos ⟨by omega, by omega⟩] | rw [if_neg (by omega), if_neg (by omega)], rfl⟩
      ·
        refine r_aload_n F rfl rfl dX5_putKnown_101 rfl ?_
        refine r_getR F f_X5_42 (hR.1) rfl dX5_putKnown_102 rfl ?_
        refine r_dup F rfl dX5_putKnown_105 rfl ?_
        refine r_getI F f_X5_216 (ja_LR_14 hR) rfl dX5_putKnown_106 rfl ?_
        refine r_eqz (z := (R_lw mem b x) (b + 14) 3) (by rfl) ?_
        refine r_iconst F dX5_putKnown_109 rfl ?_
        refine r_iadd F dX5_putKnown_110 rfl ?_
        refine r_putI F f_X5_216 (ja_LR_14 hR) rfl dX5_putKnown_111 rfl ?_
        refine r_aload_n F rfl rfl dX5_putKnown_114 rfl ?_
        refine r_getR F f_X5_35 (hR.1) rfl dX5_putKnown_115 rfl ?_
        refine r_aload_n F rfl rfl dX5_putKnown_118 rfl ?_
        refine r_getR F f_X5_12 (hR.1) rfl dX5_putKnown_119 rfl ?_
        refine r_getI F f_X5_96 (ja_LR_1 hR) rfl dX5_putKnown_122 rfl ?_
        refine r_eqz (z := mem (b + 1) 0) (by rw [ja_up_a (by omega), e0]) ?_
        refine r_callV F G (c_X4_putStretched _ _ _ _ (ja_LR_9 hR) (hLP 3 _) ⟨by omega, by omega⟩) v_X5_219 rfl ((ja_LR_9 hR).1) rfl (by decide) (by decide) (Nat.le_of_ble_eq_true rfl) rfl dX5_putKnown_125 rfl (fun v lay' mem' n' hp => ?_)
        obtain ⟨q1, q2, q3, q4⟩ := hp
        subst q1; subst q2; subst q3; subst q4
        refine r_goto F (tgt := 145) dX5_putKnown_128 (by decide) ?_
        exact r_vret F Rt dX5_putKnown_145 (by decide) ⟨rfl, rfl, by simp only [R_pkn, e0]; first | (exfalso; omega) | rw [if_pos ⟨by omega, by omega⟩] | rw [if_neg (by omega), if_pos ⟨by omega, by omega⟩] | rw [if_neg (by omega), if_neg (by omega)], rfl⟩
  ·
    refine r_iload_n F rfl rfl dX5_putKnown_35 rfl ?_
    refine r_iload_n F rfl rfl dX5_putKnown_36 rfl ?_
    refine r_aload_n F rfl rfl dX5_putKnown_37 rfl ?_
    refine r_getR F f_X5_12 (hR.1) rfl dX5_putKnown_38 rfl ?_
    refine r_getI F f_X5_96 (ja_LR_1 hR) rfl dX5_putKnown_41 rfl ?_
    refine r_eqz (z := mem (b + 1) 0) (by rw [e0]) ?_
    refine r_iadd F dX5_putKnown_44 rfl ?_
    refine r_icmp_le F (tgt := 78) ⟨by omega, by omega⟩ ⟨by omega, by omega⟩ dX5_putKnown_45 rfl (by decide) (fun h_45 => ?_) (fun h_45 => ?_)
    ·
      refine r_aload_n F rfl rfl dX5_putKnown_78 rfl ?_
      refine r_getR F f_X5_12 (hR.1) rfl dX5_putKnown_79 rfl ?_
      refine r_getI F f_X5_207 (ja_LR_1 hR) rfl dX5_putKnown_82 rfl ?_
      refine r_eqz (z := mem (b + 1) 8) (by rw [e0]) ?_
      refine r_if_eq F (tgt := 131) ⟨by omega, by omega⟩ dX5_putKnown_85 rfl (by decide) (fun h_85 => ?_) (fun h_85 => ?_)
      ·
        refine r_aload_n F rfl rfl dX5_putKnown_131 rfl ?_
        refine r_getR F f_X5_35 (hR.1) rfl dX5_putKnown_132 rfl ?_
        refine r_aload_n F rfl rfl dX5_putKnown_135 rfl ?_
        refine r_getR F f_X5_12 (hR.1) rfl dX5_putKnown_136 rfl ?_
        refine r_getI F f_X5_96 (ja_LR_1 hR) rfl dX5_putKnown_139 rfl ?_
        refine r_eqz (z := mem (b + 1) 0) (by rw [e0]) ?_
        refine r_callV F G (c_X4_putAsItIs _ _ _ _ (ja_LR_9 hR) (by have := (R_lw_PO (x := x) hP).1; omega) ⟨by omega, by omega⟩) v_X5_222 rfl ((ja_LR_9 hR).1) rfl (by decide) (by decide) (Nat.le_of_ble_eq_true rfl) rfl dX5_putKnown_142 rfl (fun v lay' mem' n' hp => ?_)
        obtain ⟨q1, q2, q3, q4⟩ := hp
        subst q1; subst q2; subst q3; subst q4
        exact r_vret F Rt dX5_putKnown_145 (by decide) ⟨rfl, rfl, by simp only [R_pkn, e0]; first | (exfalso; omega) | rw [if_pos ⟨by omega, by omega⟩] | rw [if_neg (by omega), if_pos ⟨by omega, by omega⟩] | rw [if_neg (by omega), if_neg (by omega)], rfl⟩
      ·
        refine r_iload_n F rfl rfl dX5_putKnown_88 rfl ?_
        refine r_aload_n F rfl rfl dX5_putKnown_89 rfl ?_
        refine r_getR F f_X5_12 (hR.1) rfl dX5_putKnown_90 rfl ?_
        refine r_getI F f_X5_96 (ja_LR_1 hR) rfl dX5_putKnown_93 rfl ?_
        refine r_eqz (z := mem (b + 1) 0) (by rw [e0]) ?_
        refine r_iadd F dX5_putKnown_96 rfl ?_
        refine r_iload_n F rfl rfl dX5_putKnown_97 rfl ?_
        refine r_icmp_ge F (tgt := 131) ⟨by omega, by omega⟩ ⟨by omega, by omega⟩ dX5_putKnown_98 rfl (by decide) (fun h_98 => ?_) (fun h_98 => ?_)
        ·
          refine r_aload_n F rfl rfl dX5_putKnown_131 rfl ?_
          refine r_getR F f_X5_35 (hR.1) rfl dX5_putKnown_132 rfl ?_
          refine r_aload_n F rfl rfl dX5_putKnown_135 rfl ?_
          refine r_getR F f_X5_12 (hR.1) rfl dX5_putKnown_136 rfl ?_
          refine r_getI F f_X5_96 (ja_LR_1 hR) rfl dX5_putKnown_139 rfl ?_
          refine r_eqz (z := mem (b + 1) 0) (by rw [e0]) ?_
          refine r_callV F G (c_X4_putAsItIs _ _ _ _ (ja_LR_9 hR) (by have := (R_lw_PO (x := x) hP).1; omega) ⟨by omega, by omega⟩) v_X5_222 rfl ((ja_LR_9 hR).1) rfl (by decide) (by decide) (Nat.le_of_ble_eq_true rfl) rfl dX5_putKnown_142 rfl (fun v lay' mem' n' hp => ?_)
          obtain ⟨q1, q2, q3, q4⟩ := hp
          subst q1; subst q2; subst q3; subst q4
          exact r_vret F Rt dX5_putKnown_145 (by decide) ⟨rfl, rfl, by simp only [R_pkn, e0]; first | (exfalso; omega) | rw [if_pos ⟨by omega, by omega⟩] | rw [if_neg (by omega), if_pos ⟨by omega, by omega⟩] | rw [if_neg (by omega), if_neg (by omega)], rfl⟩
        ·
          refine r_aload_n F rfl rfl dX5_putKnown_101 rfl ?_
          refine r_getR F f_X5_42 (hR.1) rfl dX5_putKnown_102 rfl ?_
          refine r_dup F rfl dX5_putKnown_105 rfl ?_
          refine r_getI F f_X5_216 (ja_LR_14 hR) rfl dX5_putKnown_106 rfl ?_
          refine r_eqz (z := (R_lw mem b x) (b + 14) 3) (by rfl) ?_
          refine r_iconst F dX5_putKnown_109 rfl ?_
          refine r_iadd F dX5_putKnown_110 rfl ?_
          refine r_putI F f_X5_216 (ja_LR_14 hR) rfl dX5_putKnown_111 rfl ?_
          refine r_aload_n F rfl rfl dX5_putKnown_114 rfl ?_
          refine r_getR F f_X5_35 (hR.1) rfl dX5_putKnown_115 rfl ?_
          refine r_aload_n F rfl rfl dX5_putKnown_118 rfl ?_
          refine r_getR F f_X5_12 (hR.1) rfl dX5_putKnown_119 rfl ?_
          refine r_getI F f_X5_96 (ja_LR_1 hR) rfl dX5_putKnown_122 rfl ?_
          refine r_eqz (z := mem (b + 1) 0) (by rw [ja_up_a (by omega), e0]) ?_
          refine r_callV F G (c_X4_putStretched _ _ _ _ (ja_LR_9 hR) (hLP 3 _) ⟨by omega, by omega⟩) v_X5_219 rfl ((ja_LR_9 hR).1) rfl (by decide) (by decide) (Nat.le_of_ble_eq_true rfl) rfl dX5_putKnown_125 rfl (fun v lay' mem' n' hp => ?_)
          obtain ⟨q1, q2, q3, q4⟩ := hp
          subst q1; subst q2; subst q3; subst q4
          refine r_goto F (tgt := 145) dX5_putKnown_128 (by decide) ?_
          exact r_vret F Rt dX5_putKnown_145 (by decide) ⟨rfl, rfl, by simp only [R_pkn, e0]; first | (exfalso; omega) | rw [if_pos ⟨by omega, by omega⟩] | rw [if_neg (by omega), if_pos ⟨by omega, by omega⟩] | rw [if_neg (by omega), if_neg (by omega)], rfl⟩
    ·
      refine r_aload_n F rfl rfl dX5_putKnown_48 rfl ?_
      refine r_getR F f_X5_42 (hR.1) rfl dX5_putKnown_49 rfl ?_
      refine r_dup F rfl dX5_putKnown_52 rfl ?_
      refine r_getI F f_X5_210 (ja_LR_14 hR) rfl dX5_putKnown_53 rfl ?_
      refine r_eqz (z := (R_lw mem b x) (b + 14) 4) (by rfl) ?_
      refine r_iconst F dX5_putKnown_56 rfl ?_
      refine r_iadd F dX5_putKnown_57 rfl ?_
      refine r_putI F f_X5_210 (ja_LR_14 hR) rfl dX5_putKnown_58 rfl ?_
      refine r_aload_n F rfl rfl dX5_putKnown_61 rfl ?_
      refine r_getR F f_X5_35 (hR.1) rfl dX5_putKnown_62 rfl ?_
      refine r_aload_n F rfl rfl dX5_putKnown_65 rfl ?_
      refine r_getR F f_X5_12 (hR.1) rfl dX5_putKnown_66 rfl ?_
      refine r_getI F f_X5_96 (ja_LR_1 hR) rfl dX5_putKnown_69 rfl ?_
      refine r_eqz (z := mem (b + 1) 0) (by rw [ja_up_a (by omega), e0]) ?_
      refine r_callV F G (c_X4_putCompressed _ _ _ _ (ja_LR_9 hR) (hLP 4 _) ⟨by omega, by omega⟩) v_X5_213 rfl ((ja_LR_9 hR).1) rfl (by decide) (by decide) (Nat.le_of_ble_eq_true rfl) rfl dX5_putKnown_72 rfl (fun v lay' mem' n' hp => ?_)
      obtain ⟨q1, q2, q3, q4⟩ := hp
      subst q1; subst q2; subst q3; subst q4
      refine r_goto F (tgt := 145) dX5_putKnown_75 (by decide) ?_
      exact r_vret F Rt dX5_putKnown_145 (by decide) ⟨rfl, rfl, by simp only [R_pkn, e0]; first | (exfalso; omega) | rw [if_pos ⟨by omega, by omega⟩] | rw [if_neg (by omega), if_pos ⟨by omega, by omega⟩] | rw [if_neg (by omega), if_neg (by omega)], rfl⟩
abbrev rm_X5_takeFrame : Room := { frames := 5, cells := 0, slots := 0, locals := 116 }
set_option maxRecDepth 100000 in
set_option maxHeartbeats 4000000 in
theorem c_X5_takeFrame (l : Launch) (D : va_G) (cA : Nat → ClassId) (B : Nat) {lay : ja_Y} {mem : ja_M} {n : Nat} {b : Nat} {t : Int} {x : Int} (hR : ja_LR lay b) (hO : ja_RO mem b t) (hn : mem (b + 9) 6 ≤ 999) (hx : x = mem (b + 9) 6) : ja_Mt l D cA B yX5_takeFrame cX5_takeFrame 4 none rm_X5_takeFrame [.ref b, .int (ja_I x)] lay mem n (ja_rd lay (R_tf mem b x) n (none)) := by
  refine ja_enter [some (.ref b), some (.int (ja_I x)), none, none] (by decide) (Nat.le_of_ble_eq_true rfl) (fun q hq => hq) (fun C F Rt G hnm => ?_)
  have hO2 := hO
  obtain ⟨g1, g2, g3, g4, g5, g6, g7, g8, g9, g10, g11, g12⟩ := hO2
  have s0 := g1
  obtain ⟨s0, s1, s2, s3, s4, s5, s6, s7, s8⟩ := s0
  have p0 := g3
  obtain ⟨p1, p2, p3, p4, p5, p6⟩ := p0
  have a0 := g4.1
  have hst := @F_st_in mem (b + 1) (b + 2) x
  have hPc : ja_PO (C_co mem (b + 14)) (b + 9) := ja_PO_c (C_co_o (by omega)) (C_co_o (by omega)) (C_co_o (by omega)) (C_co_o (by omega)) g3
  have hPk : ∀ k, ja_PO (C_kn mem (b + 14) k) (b + 9) := fun k => ja_PO_c (C_kn_o (by omega)) (C_kn_o (by omega)) (C_kn_o (by omega)) (C_kn_o (by omega)) g3
  have n6 : (C_co mem (b + 14)) (b + 9) 6 = mem (b + 9) 6 := by rw [C_co_o (by omega)]
  have k6 : ∀ k, (C_kn mem (b + 14) k) (b + 9) 6 = mem (b + 9) 6 := fun k => by rw [C_kn_o (by omega)]
  have hB : ∀ k : Int, (P_beg (C_kn mem (b + 14) k) (b + 9) k) (b + 1) = mem (b + 1) ∧ (P_beg (C_kn mem (b + 14) k) (b + 9) k) (b + 6) = mem (b + 6) ∧ (P_beg (C_kn mem (b + 14) k) (b + 9) k) (b + 6 + 1) = mem (b + 6 + 1) ∧ (P_beg (C_kn mem (b + 14) k) (b + 9) k) (b + 6 + 2) = mem (b + 6 + 2) := fun k => ⟨by rw [P_beg_o ⟨by omega, by omega⟩, C_kn_o (by omega)], by rw [P_beg_o ⟨by omega, by omega⟩, C_kn_o (by omega)], by rw [P_beg_o ⟨by omega, by omega⟩, C_kn_o (by omega)], by rw [P_beg_o ⟨by omega, by omega⟩, C_kn_o (by omega)]⟩
  refine r_aload_n F rfl rfl dX5_takeFrame_0 rfl ?_
  refine r_getR F f_X5_21 (hR.1) rfl dX5_takeFrame_1 rfl ?_
  refine r_aload_n F rfl rfl dX5_takeFrame_4 rfl ?_
  refine r_getR F f_X5_12 (hR.1) rfl dX5_takeFrame_5 rfl ?_
  refine r_iload_n F rfl rfl dX5_takeFrame_8 rfl ?_
  refine r_callV F G (c_X3_stateOf _ _ _ _ (ja_LR_2 hR) (ja_LR_1 hR) g1 ⟨by omega, by omega⟩) v_X5_103 rfl ((ja_LR_2 hR).1) rfl (by decide) (by decide) (Nat.le_of_ble_eq_true rfl) rfl dX5_takeFrame_9 rfl (fun v lay' mem' n' hp => ?_)
  obtain ⟨q1, q2, q3, q4⟩ := hp
  subst q1; subst q2; subst q3; subst q4
  refine r_ist2 F (by decide) rfl dX5_takeFrame_12 rfl ?_
  refine r_iload_n F rfl rfl dX5_takeFrame_13 rfl ?_
  refine r_if_ne F (tgt := 54) ⟨by omega, by omega⟩ dX5_takeFrame_14 rfl (by decide) (fun h_14 => ?_) (fun h_14 => ?_)
  ·
    refine r_iload_n F rfl rfl dX5_takeFrame_54 rfl ?_
    refine r_iconst F dX5_takeFrame_55 rfl ?_
    refine r_icmp_ne F (tgt := 63) ⟨by omega, by omega⟩ ⟨by omega, by omega⟩ dX5_takeFrame_56 rfl (by decide) (fun h_56 => ?_) (fun h_56 => ?_)
    ·
      refine r_iconst F dX5_takeFrame_63 rfl ?_
      refine r_eqz (z := if F_st mem (b + 1) (b + 2) x = 2 then 1 else 2) (by first | rw [if_pos (by omega)] | rw [if_neg (by omega)]) ?_
      generalize hkd : (if F_st mem (b + 1) (b + 2) x = 2 then (1 : Int) else 2) = kd
      have hkk : 1 ≤ kd ∧ kd ≤ 2 := by rw [← hkd]; split <;> omega
      refine r_ist3 F (by decide) rfl dX5_takeFrame_64 rfl ?_
      refine r_aload_n F rfl rfl dX5_takeFrame_65 rfl ?_
      refine r_getR F f_X5_42 (hR.1) rfl dX5_takeFrame_66 rfl ?_
      refine r_iload_n F rfl rfl dX5_takeFrame_69 rfl ?_
      refine r_callV F G (c_X2_countKnown _ _ _ _ (ja_LR_14 hR) ⟨by omega, by omega⟩) v_X5_192 rfl (ja_LR_14 hR) rfl (by decide) (by decide) (Nat.le_of_ble_eq_true rfl) rfl dX5_takeFrame_70 rfl (fun v lay' mem' n' hp => ?_)
      obtain ⟨q1, q2, q3, q4⟩ := hp
      subst q1; subst q2; subst q3; subst q4
      refine r_aload_n F rfl rfl dX5_takeFrame_73 rfl ?_
      refine r_getR F f_X5_35 (hR.1) rfl dX5_takeFrame_74 rfl ?_
      refine r_iload_n F rfl rfl dX5_takeFrame_77 rfl ?_
      refine r_callV F G (c_X4_begin _ _ _ _ (ja_LR_9 hR) (by rw [k6]; omega)) v_X5_182 rfl ((ja_LR_9 hR).1) rfl (by decide) (by decide) (Nat.le_of_ble_eq_true rfl) rfl dX5_takeFrame_78 rfl (fun v lay' mem' n' hp => ?_)
      obtain ⟨q1, q2, q3, q4⟩ := hp
      subst q1; subst q2; subst q3; subst q4
      refine r_aload_n F rfl rfl dX5_takeFrame_81 rfl ?_
      refine r_iload_n F rfl rfl dX5_takeFrame_82 rfl ?_
      refine r_callV F G (c_X5_putKnown _ _ _ _ hR (ja_SO_c (hB _).1 g1) (ja_TO_c (hB _).2.1 (hB _).2.2.1 (hB _).2.2.2 g2) (P_beg_PO (hPk _) (by rw [k6]; omega)) ⟨by omega, by omega⟩) v_X5_195 rfl (hR.1) rfl (by decide) (by decide) (Nat.le_of_ble_eq_true rfl) rfl dX5_takeFrame_83 rfl (fun v lay' mem' n' hp => ?_)
      obtain ⟨q1, q2, q3, q4⟩ := hp
      subst q1; subst q2; subst q3; subst q4
      exact r_vret F Rt dX5_takeFrame_86 (by decide) ⟨rfl, rfl, by rw [R_tf, if_neg h_14, hkd], rfl⟩
    ·
      refine r_iconst F dX5_takeFrame_59 rfl ?_
      refine r_goto F (tgt := 64) dX5_takeFrame_60 (by decide) ?_
      refine r_eqz (z := if F_st mem (b + 1) (b + 2) x = 2 then 1 else 2) (by first | rw [if_pos (by omega)] | rw [if_neg (by omega)]) ?_
      generalize hkd : (if F_st mem (b + 1) (b + 2) x = 2 then (1 : Int) else 2) = kd
      have hkk : 1 ≤ kd ∧ kd ≤ 2 := by rw [← hkd]; split <;> omega
      refine r_ist3 F (by decide) rfl dX5_takeFrame_64 rfl ?_
      refine r_aload_n F rfl rfl dX5_takeFrame_65 rfl ?_
      refine r_getR F f_X5_42 (hR.1) rfl dX5_takeFrame_66 rfl ?_
      refine r_iload_n F rfl rfl dX5_takeFrame_69 rfl ?_
      refine r_callV F G (c_X2_countKnown _ _ _ _ (ja_LR_14 hR) ⟨by omega, by omega⟩) v_X5_192 rfl (ja_LR_14 hR) rfl (by decide) (by decide) (Nat.le_of_ble_eq_true rfl) rfl dX5_takeFrame_70 rfl (fun v lay' mem' n' hp => ?_)
      obtain ⟨q1, q2, q3, q4⟩ := hp
      subst q1; subst q2; subst q3; subst q4
      refine r_aload_n F rfl rfl dX5_takeFrame_73 rfl ?_
      refine r_getR F f_X5_35 (hR.1) rfl dX5_takeFrame_74 rfl ?_
      refine r_iload_n F rfl rfl dX5_takeFrame_77 rfl ?_
      refine r_callV F G (c_X4_begin _ _ _ _ (ja_LR_9 hR) (by rw [k6]; omega)) v_X5_182 rfl ((ja_LR_9 hR).1) rfl (by decide) (by decide) (Nat.le_of_ble_eq_true rfl) rfl dX5_takeFrame_78 rfl (fun v lay' mem' n' hp => ?_)
      obtain ⟨q1, q2, q3, q4⟩ := hp
      subst q1; subst q2; subst q3; subst q4
      refine r_aload_n F rfl rfl dX5_takeFrame_81 rfl ?_
      refine r_iload_n F rfl rfl dX5_takeFrame_82 rfl ?_
      refine r_callV F G (c_X5_putKnown _ _ _ _ hR (ja_SO_c (hB _).1 g1) (ja_TO_c (hB _).2.1 (hB _).2.2.1 (hB _).2.2.2 g2) (P_beg_PO (hPk _) (by rw [k6]; omega)) ⟨by omega, by omega⟩) v_X5_195 rfl (hR.1) rfl (by decide) (by decide) (Nat.le_of_ble_eq_true rfl) rfl dX5_takeFrame_83 rfl (fun v lay' mem' n' hp => ?_)
      obtain ⟨q1, q2, q3, q4⟩ := hp
      subst q1; subst q2; subst q3; subst q4
      exact r_vret F Rt dX5_takeFrame_86 (by decide) ⟨rfl, rfl, by rw [R_tf, if_neg h_14, hkd], rfl⟩
  ·
    refine r_aload_n F rfl rfl dX5_takeFrame_17 rfl ?_
    refine r_getR F f_X5_42 (hR.1) rfl dX5_takeFrame_18 rfl ?_
    refine r_callV F G (c_X2_countConcealed _ _ _ _ (ja_LR_14 hR) ⟨by omega, by omega⟩ ⟨by omega, by omega⟩) v_X5_179 rfl (ja_LR_14 hR) rfl (by decide) (by decide) (Nat.le_of_ble_eq_true rfl) rfl dX5_takeFrame_21 rfl (fun v lay' mem' n' hp => ?_)
    obtain ⟨q1, q2, q3, q4⟩ := hp
    subst q1; subst q2; subst q3; subst q4
    refine r_aload_n F rfl rfl dX5_takeFrame_24 rfl ?_
    refine r_getR F f_X5_35 (hR.1) rfl dX5_takeFrame_25 rfl ?_
    refine r_iconst F dX5_takeFrame_28 rfl ?_
    refine r_callV F G (c_X4_begin _ _ _ _ (ja_LR_9 hR) (by omega)) v_X5_182 rfl ((ja_LR_9 hR).1) rfl (by decide) (by decide) (Nat.le_of_ble_eq_true rfl) rfl dX5_takeFrame_29 rfl (fun v lay' mem' n' hp => ?_)
    obtain ⟨q1, q2, q3, q4⟩ := hp
    subst q1; subst q2; subst q3; subst q4
    refine r_aload_n F rfl rfl dX5_takeFrame_32 rfl ?_
    refine r_getR F f_X5_35 (hR.1) rfl dX5_takeFrame_33 rfl ?_
    refine r_aload_n F rfl rfl dX5_takeFrame_36 rfl ?_
    refine r_getR F f_X5_12 (hR.1) rfl dX5_takeFrame_37 rfl ?_
    refine r_getI F f_X5_96 (ja_LR_1 hR) rfl dX5_takeFrame_40 rfl ?_
    refine r_eqz (z := mem (b + 1) 0) (by rw [P_beg_o ⟨by omega, by omega⟩, C_co_o (by omega)]) ?_
    refine r_aload_n F rfl rfl dX5_takeFrame_43 rfl ?_
    refine r_getR F f_X5_42 (hR.1) rfl dX5_takeFrame_44 rfl ?_
    refine r_getI F f_X5_185 (ja_LR_14 hR) rfl dX5_takeFrame_47 rfl ?_
    refine r_eqz (z := mem (b + 14) 7 + 1) (by rw [P_beg_o ⟨by omega, by omega⟩, C_co_s.1]) ?_
    refine r_callV F G (c_X4_putConcealed _ _ _ _ (ja_LR_9 hR) (P_beg_PO hPc (by omega)) ⟨by omega, by omega⟩ ⟨by omega, by omega⟩) v_X5_188 rfl ((ja_LR_9 hR).1) rfl (by decide) (by decide) (Nat.le_of_ble_eq_true rfl) rfl dX5_takeFrame_50 rfl (fun v lay' mem' n' hp => ?_)
    obtain ⟨q1, q2, q3, q4⟩ := hp
    subst q1; subst q2; subst q3; subst q4
    exact r_vret F Rt dX5_takeFrame_53 (by decide) ⟨rfl, rfl, by rw [R_tf, if_pos h_14], rfl⟩
abbrev rm_X5_acceptDue : Room := { frames := 5, cells := 0, slots := 0, locals := 130 }
set_option maxRecDepth 100000 in
set_option maxHeartbeats 4000000 in
theorem c_X5_acceptDue (l : Launch) (D : va_G) (cA : Nat → ClassId) (B : Nat) {lay : ja_Y} {mem : ja_M} {n : Nat} {b : Nat} {t : Int} (hR : ja_LR lay b) (hO : ja_RO mem b t) (ht : t ≤ 900000) : ja_Mt l D cA B yX5_acceptDue cX5_acceptDue 2 none rm_X5_acceptDue [.ref b] lay mem n (ja_rd lay (R_due mem b) n (none)) := by
  refine ja_enter [some (.ref b), none] (by decide) (Nat.le_of_ble_eq_true rfl) (fun q hq => hq) (fun C F Rt G hnm => ?_)
  have hO2 := hO
  obtain ⟨g1, g2, g3, g4, g5, g6, g7, g8, g9, g10, g11, g12⟩ := hO2
  have s0 := g1
  obtain ⟨s0, s1, s2, s3, s4, s5, s6, s7, s8⟩ := s0
  have p0 := g3
  obtain ⟨p1, p2, p3, p4, p5, p6⟩ := p0
  have a0 := g4.1
  have hDO := R_du_RO hO ht
  refine r_iconst F dX5_acceptDue_0 rfl ?_
  refine r_ist1 F (by decide) rfl dX5_acceptDue_1 rfl ?_
  have loop : ∀ (d k : Nat), k + d = (mem (b + 15) 4).toNat → ja_W C 0 0 lay (R_du mem b k) n 2 [some (.ref b), some (.int (ja_I (k : Int)))] [] := by
    intro d
    induction d with
    | zero =>
      intro k hk
      refine r_iload_n F rfl rfl dX5_acceptDue_2 rfl ?_
      refine r_aload_n F rfl rfl dX5_acceptDue_3 rfl ?_
      refine r_getR F f_X5_49 (hR.1) rfl dX5_acceptDue_4 rfl ?_
      refine r_getI F f_X5_83 ((ja_LR_15 hR).1) rfl dX5_acceptDue_7 rfl ?_
      refine r_eqz (z := mem (b + 15) 4) (by rw [R_du_o (by omega) k]) ?_
      refine r_icmp_ge F (tgt := 108) ⟨by omega, by omega⟩ ⟨by omega, by omega⟩ dX5_acceptDue_10 rfl (by decide) (fun h_10 => ?_) (fun h_10 => ?_)
      ·
        refine r_aload_n F rfl rfl dX5_acceptDue_108 rfl ?_
        refine r_getR F f_X5_49 (hR.1) rfl dX5_acceptDue_109 rfl ?_
        refine r_aload_n F rfl rfl dX5_acceptDue_112 rfl ?_
        refine r_getI F f_X5_72 (hR.1) rfl dX5_acceptDue_113 rfl ?_
        refine r_eqz (z := mem b 6) (by rw [R_du_6 k]) ?_
        refine r_callV F G (c_X1_removeAllAt _ _ _ _ (ja_LR_15 hR) (by rw [R_du_o (by omega) k]; omega) ⟨by omega, by omega⟩ (fun j => by rw [R_du_o (by omega) k]; have := g4.2.2.2.2 j; exact ⟨by have := this.1; omega, by have := this.2; omega⟩)) v_X5_176 rfl ((ja_LR_15 hR).1) rfl (by decide) (by decide) (Nat.le_of_ble_eq_true rfl) rfl dX5_acceptDue_116 rfl (fun v lay' mem' n' hp => ?_)
        obtain ⟨q1, q2, q3, q4⟩ := hp
        subst q1; subst q2; subst q3; subst q4
        exact r_vret F Rt dX5_acceptDue_119 (by decide) ⟨rfl, rfl, by rw [R_due, show (mem (b + 15) 4).toNat = k by omega]; congr 1; rw [R_du_o (by omega) k]; omega, rfl⟩
      ·
        exfalso; omega
    | succ d ih =>
      intro k hk
      refine r_iload_n F rfl rfl dX5_acceptDue_2 rfl ?_
      refine r_aload_n F rfl rfl dX5_acceptDue_3 rfl ?_
      refine r_getR F f_X5_49 (hR.1) rfl dX5_acceptDue_4 rfl ?_
      refine r_getI F f_X5_83 ((ja_LR_15 hR).1) rfl dX5_acceptDue_7 rfl ?_
      refine r_eqz (z := mem (b + 15) 4) (by rw [R_du_o (by omega) k]) ?_
      refine r_icmp_ge F (tgt := 108) ⟨by omega, by omega⟩ ⟨by omega, by omega⟩ dX5_acceptDue_10 rfl (by decide) (fun h_10 => ?_) (fun h_10 => ?_)
      ·
        exfalso; omega
      ·
        have hv := g5 k (by omega)
        have n1 := g4.2.1 k
        have n2 := g4.2.2.1 k
        have n3 := g4.2.2.2.2 k
        have n4 := g4.2.2.2.1 k
        obtain ⟨m1, m2⟩ := id n3
        refine r_aload_n F rfl rfl dX5_acceptDue_13 rfl ?_
        refine r_getR F f_X5_49 (hR.1) rfl dX5_acceptDue_14 rfl ?_
        refine r_getRN F f_X5_156 ((ja_LR_15 hR).1) rfl dX5_acceptDue_17 rfl ?_
        refine r_iload_n F rfl rfl dX5_acceptDue_20 rfl ?_
        refine r_iald F (ja_LA_4 (ja_LR_15 hR)) (by omega) (by omega) (by decide) dX5_acceptDue_21 rfl ?_
        refine r_eqz (z := mem (b + 15 + 4) k) (by rw [R_du_o (by omega) k, ja_nat]) ?_
        refine r_aload_n F rfl rfl dX5_acceptDue_22 rfl ?_
        refine r_getI F f_X5_72 (hR.1) rfl dX5_acceptDue_23 rfl ?_
        refine r_eqz (z := mem b 6) (by rw [R_du_6 k]) ?_
        refine r_icmp_eq F (tgt := 32) ⟨by omega, by omega⟩ ⟨by omega, by omega⟩ dX5_acceptDue_26 rfl (by decide) (fun h_26 => ?_) (fun h_26 => ?_)
        ·
          refine r_aload_n F rfl rfl dX5_acceptDue_32 rfl ?_
          refine r_getR F f_X5_49 (hR.1) rfl dX5_acceptDue_33 rfl ?_
          refine r_getRN F f_X5_160 ((ja_LR_15 hR).1) rfl dX5_acceptDue_36 rfl ?_
          refine r_iload_n F rfl rfl dX5_acceptDue_39 rfl ?_
          refine r_iald F (ja_LA_1 (ja_LR_15 hR)) (by omega) (by omega) (by decide) dX5_acceptDue_40 rfl ?_
          refine r_eqz (z := mem (b + 15 + 1) k) (by rw [R_du_o (by omega) k, ja_nat]) ?_
          refine r_if_ne F (tgt := 61) ⟨by omega, by omega⟩ dX5_acceptDue_41 rfl (by decide) (fun h_41 => ?_) (fun h_41 => ?_)
          ·
            refine r_aload_n F rfl rfl dX5_acceptDue_61 rfl ?_
            refine r_aload_n F rfl rfl dX5_acceptDue_62 rfl ?_
            refine r_getR F f_X5_49 (hR.1) rfl dX5_acceptDue_63 rfl ?_
            refine r_getRN F f_X5_160 ((ja_LR_15 hR).1) rfl dX5_acceptDue_66 rfl ?_
            refine r_iload_n F rfl rfl dX5_acceptDue_69 rfl ?_
            refine r_iald F (ja_LA_1 (ja_LR_15 hR)) (by omega) (by omega) (by decide) dX5_acceptDue_70 rfl ?_
            refine r_eqz (z := mem (b + 15 + 1) k) (by rw [R_du_o (by omega) k, ja_nat]) ?_
            refine r_iconst F dX5_acceptDue_71 rfl ?_
            refine r_icmp_ne F (tgt := 79) ⟨by omega, by omega⟩ ⟨by omega, by omega⟩ dX5_acceptDue_72 rfl (by decide) (fun h_72 => ?_) (fun h_72 => ?_)
            ·
              refine r_iconst F dX5_acceptDue_79 rfl ?_
              refine r_eqz (z := ja_b (mem (b + 15 + 1) k = 1)) (by unfold ja_b; first | rw [if_pos (by omega)] | rw [if_neg (by omega)]) ?_
              have hbb : 0 ≤ ja_b (mem (b + 15 + 1) k = 1) ∧ ja_b (mem (b + 15 + 1) k = 1) ≤ 1 := by unfold ja_b; split <;> omega
              refine r_aload_n F rfl rfl dX5_acceptDue_80 rfl ?_
              refine r_getR F f_X5_49 (hR.1) rfl dX5_acceptDue_81 rfl ?_
              refine r_getRN F f_X5_163 ((ja_LR_15 hR).1) rfl dX5_acceptDue_84 rfl ?_
              refine r_iload_n F rfl rfl dX5_acceptDue_87 rfl ?_
              refine r_iald F (ja_LA_2 (ja_LR_15 hR)) (by omega) (by omega) (by decide) dX5_acceptDue_88 rfl ?_
              refine r_eqz (z := mem (b + 15 + 2) k) (by rw [R_du_o (by omega) k, ja_nat]) ?_
              refine r_aload_n F rfl rfl dX5_acceptDue_89 rfl ?_
              refine r_getR F f_X5_49 (hR.1) rfl dX5_acceptDue_90 rfl ?_
              refine r_getRN F f_X5_169 ((ja_LR_15 hR).1) rfl dX5_acceptDue_93 rfl ?_
              refine r_iload_n F rfl rfl dX5_acceptDue_96 rfl ?_
              refine r_iald F (ja_LA_3 (ja_LR_15 hR)) (by omega) (by omega) (by decide) dX5_acceptDue_97 rfl ?_
              refine r_eqz (z := mem (b + 15 + 3) k) (by rw [R_du_o (by omega) k, ja_nat]) ?_
              refine r_callV F G (c_X5_acceptPacket _ _ _ _ hR (hDO k (by omega)) ⟨by omega, by omega⟩ (by have := (hv.2 h_41).1; simp only [ja_hasB, ja_cells, R_du_o (show b + 15 ≤ b + 1 ∨ b + 1 = b + 1 by omega)]; exact this)) v_X5_172 rfl (hR.1) rfl (by decide) (by decide) (Nat.le_of_ble_eq_true rfl) rfl dX5_acceptDue_98 rfl (fun v lay' mem' n' hp => ?_)
              obtain ⟨q1, q2, q3, q4⟩ := hp
              subst q1; subst q2; subst q3; subst q4
              refine r_pop F rfl dX5_acceptDue_101 rfl ?_
              refine r_inc1 F (by decide) rfl dX5_acceptDue_102 rfl ?_
              refine r_goto F (tgt := 2) dX5_acceptDue_105 (by decide) ?_
              refine r_mem (mem' := R_du mem b (k + 1)) (by simp only [R_du]; first | rw [if_neg h_26] | rw [if_pos h_26, if_pos h_41] | rw [if_pos h_26, if_neg h_41]) ?_
              exact ih (k + 1) (by omega)
            ·
              refine r_iconst F dX5_acceptDue_75 rfl ?_
              refine r_goto F (tgt := 80) dX5_acceptDue_76 (by decide) ?_
              refine r_eqz (z := ja_b (mem (b + 15 + 1) k = 1)) (by unfold ja_b; first | rw [if_pos (by omega)] | rw [if_neg (by omega)]) ?_
              have hbb : 0 ≤ ja_b (mem (b + 15 + 1) k = 1) ∧ ja_b (mem (b + 15 + 1) k = 1) ≤ 1 := by unfold ja_b; split <;> omega
              refine r_aload_n F rfl rfl dX5_acceptDue_80 rfl ?_
              refine r_getR F f_X5_49 (hR.1) rfl dX5_acceptDue_81 rfl ?_
              refine r_getRN F f_X5_163 ((ja_LR_15 hR).1) rfl dX5_acceptDue_84 rfl ?_
              refine r_iload_n F rfl rfl dX5_acceptDue_87 rfl ?_
              refine r_iald F (ja_LA_2 (ja_LR_15 hR)) (by omega) (by omega) (by decide) dX5_acceptDue_88 rfl ?_
              refine r_eqz (z := mem (b + 15 + 2) k) (by rw [R_du_o (by omega) k, ja_nat]) ?_
              refine r_aload_n F rfl rfl dX5_acceptDue_89 rfl ?_
              refine r_getR F f_X5_49 (hR.1) rfl dX5_acceptDue_90 rfl ?_
              refine r_getRN F f_X5_169 ((ja_LR_15 hR).1) rfl dX5_acceptDue_93 rfl ?_
              refine r_iload_n F rfl rfl dX5_acceptDue_96 rfl ?_
              refine r_iald F (ja_LA_3 (ja_LR_15 hR)) (by omega) (by omega) (by decide) dX5_acceptDue_97 rfl ?_
              refine r_eqz (z := mem (b + 15 + 3) k) (by rw [R_du_o (by omega) k, ja_nat]) ?_
              refine r_callV F G (c_X5_acceptPacket _ _ _ _ hR (hDO k (by omega)) ⟨by omega, by omega⟩ (by have := (hv.2 h_41).1; simp only [ja_hasB, ja_cells, R_du_o (show b + 15 ≤ b + 1 ∨ b + 1 = b + 1 by omega)]; exact this)) v_X5_172 rfl (hR.1) rfl (by decide) (by decide) (Nat.le_of_ble_eq_true rfl) rfl dX5_acceptDue_98 rfl (fun v lay' mem' n' hp => ?_)
              obtain ⟨q1, q2, q3, q4⟩ := hp
              subst q1; subst q2; subst q3; subst q4
              refine r_pop F rfl dX5_acceptDue_101 rfl ?_
              refine r_inc1 F (by decide) rfl dX5_acceptDue_102 rfl ?_
              refine r_goto F (tgt := 2) dX5_acceptDue_105 (by decide) ?_
              refine r_mem (mem' := R_du mem b (k + 1)) (by simp only [R_du]; first | rw [if_neg h_26] | rw [if_pos h_26, if_pos h_41] | rw [if_pos h_26, if_neg h_41]) ?_
              exact ih (k + 1) (by omega)
          ·
            refine r_aload_n F rfl rfl dX5_acceptDue_44 rfl ?_
            refine r_aload_n F rfl rfl dX5_acceptDue_45 rfl ?_
            refine r_getR F f_X5_49 (hR.1) rfl dX5_acceptDue_46 rfl ?_
            refine r_getRN F f_X5_163 ((ja_LR_15 hR).1) rfl dX5_acceptDue_49 rfl ?_
            refine r_iload_n F rfl rfl dX5_acceptDue_52 rfl ?_
            refine r_iald F (ja_LA_2 (ja_LR_15 hR)) (by omega) (by omega) (by decide) dX5_acceptDue_53 rfl ?_
            refine r_eqz (z := mem (b + 15 + 2) k) (by rw [R_du_o (by omega) k, ja_nat]) ?_
            refine r_callV F G (c_X5_acceptFrame _ _ _ _ hR (hDO k (by omega)) (by omega) ⟨n2.1, hv.1 h_41⟩) v_X5_166 rfl (hR.1) rfl (by decide) (by decide) (Nat.le_of_ble_eq_true rfl) rfl dX5_acceptDue_54 rfl (fun v lay' mem' n' hp => ?_)
            obtain ⟨q1, q2, q3, q4⟩ := hp
            subst q1; subst q2; subst q3; subst q4
            refine r_pop F rfl dX5_acceptDue_57 rfl ?_
            refine r_goto F (tgt := 102) dX5_acceptDue_58 (by decide) ?_
            refine r_inc1 F (by decide) rfl dX5_acceptDue_102 rfl ?_
            refine r_goto F (tgt := 2) dX5_acceptDue_105 (by decide) ?_
            refine r_mem (mem' := R_du mem b (k + 1)) (by simp only [R_du]; first | rw [if_neg h_26] | rw [if_pos h_26, if_pos h_41] | rw [if_pos h_26, if_neg h_41]) ?_
            exact ih (k + 1) (by omega)
        ·
          refine r_goto F (tgt := 102) dX5_acceptDue_29 (by decide) ?_
          refine r_inc1 F (by decide) rfl dX5_acceptDue_102 rfl ?_
          refine r_goto F (tgt := 2) dX5_acceptDue_105 (by decide) ?_
          refine r_mem (mem' := R_du mem b (k + 1)) (by simp only [R_du]; first | rw [if_neg h_26] | rw [if_pos h_26, if_pos h_41] | rw [if_pos h_26, if_neg h_41]) ?_
          exact ih (k + 1) (by omega)
  exact loop (mem (b + 15) 4).toNat 0 (by omega)
abbrev rm_X5_passTick : Room := { frames := 6, cells := 0, slots := 0, locals := 151 }
set_option maxRecDepth 100000 in
set_option maxHeartbeats 4000000 in
theorem c_X5_passTick (l : Launch) (D : va_G) (cA : Nat → ClassId) (B : Nat) {lay : ja_Y} {mem : ja_M} {n : Nat} {b : Nat} {t : Int} (hR : ja_LR lay b) (hO : ja_RO mem b t) (ht : t ≤ 900000) : ja_Mt l D cA B yX5_passTick cX5_passTick 1 none rm_X5_passTick [.ref b] lay mem n (ja_rd lay (R_tk mem b) n (none)) := by
  refine ja_enter [some (.ref b)] (by decide) (Nat.le_of_ble_eq_true rfl) (fun q hq => hq) (fun C F Rt G hnm => ?_)
  have hD := R_due_RO hO ht
  obtain ⟨g1, g2, g3, g4, g5, g6, g7, g8, g9, g10, g11, g12⟩ := id hD
  have p1 := g3.1
  have p3 := g3.2.2.1
  refine r_aload_n F rfl rfl dX5_passTick_0 rfl ?_
  refine r_callV F G (c_X5_acceptDue _ _ _ _ hR hO (by omega)) v_X5_141 rfl (hR.1) rfl (by decide) (by decide) (Nat.le_of_ble_eq_true rfl) rfl dX5_passTick_1 rfl (fun v lay' mem' n' hp => ?_)
  obtain ⟨q1, q2, q3, q4⟩ := hp
  subst q1; subst q2; subst q3; subst q4
  refine r_mem (mem' := R_due mem b) rfl ?_
  refine r_aload_n F rfl rfl dX5_passTick_4 rfl ?_
  refine r_getI F f_X5_76 (hR.1) rfl dX5_passTick_5 rfl ?_
  refine r_if_eq F (tgt := 63) ⟨by omega, by omega⟩ dX5_passTick_8 rfl (by decide) (fun h_8 => ?_) (fun h_8 => ?_)
  ·
    refine r_mem (mem' := R_pl (R_due mem b) b) (by unfold R_pl; first | rw [if_pos ⟨by omega, by omega⟩, if_pos ⟨by omega, by omega⟩] | rw [if_pos ⟨by omega, by omega⟩, if_neg (by omega)] | rw [if_neg (by omega)]) ?_
    refine r_aload_n F rfl rfl dX5_passTick_63 rfl ?_
    refine r_dup F rfl dX5_passTick_64 rfl ?_
    refine r_getI F f_X5_72 (hR.1) rfl dX5_passTick_65 rfl ?_
    refine r_iconst F dX5_passTick_68 rfl ?_
    refine r_iadd F dX5_passTick_69 rfl ?_
    refine r_putI F f_X5_72 (hR.1) rfl dX5_passTick_70 rfl ?_
    exact r_vret F Rt dX5_passTick_73 (by decide) ⟨rfl, rfl, rfl, rfl⟩
  ·
    refine r_aload_n F rfl rfl dX5_passTick_11 rfl ?_
    refine r_getI F f_X5_72 (hR.1) rfl dX5_passTick_12 rfl ?_
    refine r_aload_n F rfl rfl dX5_passTick_15 rfl ?_
    refine r_getI F f_X5_80 (hR.1) rfl dX5_passTick_16 rfl ?_
    refine r_icmp_lt F (tgt := 63) ⟨by omega, by omega⟩ ⟨by omega, by omega⟩ dX5_passTick_19 rfl (by decide) (fun h_19 => ?_) (fun h_19 => ?_)
    ·
      refine r_mem (mem' := R_pl (R_due mem b) b) (by unfold R_pl; first | rw [if_pos ⟨by omega, by omega⟩, if_pos ⟨by omega, by omega⟩] | rw [if_pos ⟨by omega, by omega⟩, if_neg (by omega)] | rw [if_neg (by omega)]) ?_
      refine r_aload_n F rfl rfl dX5_passTick_63 rfl ?_
      refine r_dup F rfl dX5_passTick_64 rfl ?_
      refine r_getI F f_X5_72 (hR.1) rfl dX5_passTick_65 rfl ?_
      refine r_iconst F dX5_passTick_68 rfl ?_
      refine r_iadd F dX5_passTick_69 rfl ?_
      refine r_putI F f_X5_72 (hR.1) rfl dX5_passTick_70 rfl ?_
      exact r_vret F Rt dX5_passTick_73 (by decide) ⟨rfl, rfl, rfl, rfl⟩
    ·
      refine r_aload_n F rfl rfl dX5_passTick_22 rfl ?_
      refine r_getR F f_X5_35 (hR.1) rfl dX5_passTick_23 rfl ?_
      refine r_callV F G (c_X4_remaining _ _ _ _ (ja_LR_9 hR)) v_X5_144 rfl ((ja_LR_9 hR).1) rfl (by decide) (by decide) (Nat.le_of_ble_eq_true rfl) rfl dX5_passTick_26 rfl (fun v lay' mem' n' hp => ?_)
      obtain ⟨q1, q2, q3, q4⟩ := hp
      subst q1; subst q2; subst q3; subst q4
      refine r_if_ne F (tgt := 56) ⟨by omega, by omega⟩ dX5_passTick_29 rfl (by decide) (fun h_29 => ?_) (fun h_29 => ?_)
      ·
        have hPO := g3
        
        refine r_aload_n F rfl rfl dX5_passTick_56 rfl ?_
        refine r_getR F f_X5_35 (hR.1) rfl dX5_passTick_57 rfl ?_
        refine r_callV F G (c_X4_putOut _ _ _ _ (ja_LR_9 hR) hPO) v_X5_150 rfl ((ja_LR_9 hR).1) rfl (by decide) (by decide) (Nat.le_of_ble_eq_true rfl) rfl dX5_passTick_60 rfl (fun v lay' mem' n' hp => ?_)
        obtain ⟨q1, q2, q3, q4⟩ := hp
        subst q1; subst q2; subst q3; subst q4
        refine r_mem (mem' := R_pl (R_due mem b) b) (by unfold R_pl; first | rw [if_pos ⟨by omega, by omega⟩, if_pos ⟨by omega, by omega⟩] | rw [if_pos ⟨by omega, by omega⟩, if_neg (by omega)] | rw [if_neg (by omega)]) ?_
        refine r_aload_n F rfl rfl dX5_passTick_63 rfl ?_
        refine r_dup F rfl dX5_passTick_64 rfl ?_
        refine r_getI F f_X5_72 (hR.1) rfl dX5_passTick_65 rfl ?_
        refine r_iconst F dX5_passTick_68 rfl ?_
        refine r_iadd F dX5_passTick_69 rfl ?_
        refine r_putI F f_X5_72 (hR.1) rfl dX5_passTick_70 rfl ?_
        exact r_vret F Rt dX5_passTick_73 (by decide) ⟨rfl, rfl, rfl, rfl⟩
      ·
        refine r_aload_n F rfl rfl dX5_passTick_32 rfl ?_
        refine r_getR F f_X5_35 (hR.1) rfl dX5_passTick_33 rfl ?_
        refine r_getI F f_X5_116 ((ja_LR_9 hR).1) rfl dX5_passTick_36 rfl ?_
        refine r_sipush F (by decide) dX5_passTick_39 rfl ?_
        refine r_icmp_gt F (tgt := 56) ⟨by omega, by omega⟩ ⟨by omega, by omega⟩ dX5_passTick_42 rfl (by decide) (fun h_42 => ?_) (fun h_42 => ?_)
        ·
          have hPO := g3
          
          refine r_aload_n F rfl rfl dX5_passTick_56 rfl ?_
          refine r_getR F f_X5_35 (hR.1) rfl dX5_passTick_57 rfl ?_
          refine r_callV F G (c_X4_putOut _ _ _ _ (ja_LR_9 hR) hPO) v_X5_150 rfl ((ja_LR_9 hR).1) rfl (by decide) (by decide) (Nat.le_of_ble_eq_true rfl) rfl dX5_passTick_60 rfl (fun v lay' mem' n' hp => ?_)
          obtain ⟨q1, q2, q3, q4⟩ := hp
          subst q1; subst q2; subst q3; subst q4
          refine r_mem (mem' := R_pl (R_due mem b) b) (by unfold R_pl; first | rw [if_pos ⟨by omega, by omega⟩, if_pos ⟨by omega, by omega⟩] | rw [if_pos ⟨by omega, by omega⟩, if_neg (by omega)] | rw [if_neg (by omega)]) ?_
          refine r_aload_n F rfl rfl dX5_passTick_63 rfl ?_
          refine r_dup F rfl dX5_passTick_64 rfl ?_
          refine r_getI F f_X5_72 (hR.1) rfl dX5_passTick_65 rfl ?_
          refine r_iconst F dX5_passTick_68 rfl ?_
          refine r_iadd F dX5_passTick_69 rfl ?_
          refine r_putI F f_X5_72 (hR.1) rfl dX5_passTick_70 rfl ?_
          exact r_vret F Rt dX5_passTick_73 (by decide) ⟨rfl, rfl, rfl, rfl⟩
        ·
          refine r_aload_n F rfl rfl dX5_passTick_45 rfl ?_
          refine r_aload_n F rfl rfl dX5_passTick_46 rfl ?_
          refine r_getR F f_X5_35 (hR.1) rfl dX5_passTick_47 rfl ?_
          refine r_getI F f_X5_116 ((ja_LR_9 hR).1) rfl dX5_passTick_50 rfl ?_
          refine r_callV F G (c_X5_takeFrame _ _ _ _ hR hD (by omega) rfl) v_X5_147 rfl (hR.1) rfl (by decide) (by decide) (Nat.le_of_ble_eq_true rfl) rfl dX5_passTick_53 rfl (fun v lay' mem' n' hp => ?_)
          obtain ⟨q1, q2, q3, q4⟩ := hp
          subst q1; subst q2; subst q3; subst q4
          have hPO := (R_tf_RO hD (by omega)).2.2.1
          
          refine r_aload_n F rfl rfl dX5_passTick_56 rfl ?_
          refine r_getR F f_X5_35 (hR.1) rfl dX5_passTick_57 rfl ?_
          refine r_callV F G (c_X4_putOut _ _ _ _ (ja_LR_9 hR) hPO) v_X5_150 rfl ((ja_LR_9 hR).1) rfl (by decide) (by decide) (Nat.le_of_ble_eq_true rfl) rfl dX5_passTick_60 rfl (fun v lay' mem' n' hp => ?_)
          obtain ⟨q1, q2, q3, q4⟩ := hp
          subst q1; subst q2; subst q3; subst q4
          refine r_mem (mem' := R_pl (R_due mem b) b) (by unfold R_pl; first | rw [if_pos ⟨by omega, by omega⟩, if_pos ⟨by omega, by omega⟩] | rw [if_pos ⟨by omega, by omega⟩, if_neg (by omega)] | rw [if_neg (by omega)]) ?_
          refine r_aload_n F rfl rfl dX5_passTick_63 rfl ?_
          refine r_dup F rfl dX5_passTick_64 rfl ?_
          refine r_getI F f_X5_72 (hR.1) rfl dX5_passTick_65 rfl ?_
          refine r_iconst F dX5_passTick_68 rfl ?_
          refine r_iadd F dX5_passTick_69 rfl ?_
          refine r_putI F f_X5_72 (hR.1) rfl dX5_passTick_70 rfl ?_
          exact r_vret F Rt dX5_passTick_73 (by decide) ⟨rfl, rfl, rfl, rfl⟩
