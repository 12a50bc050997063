abbrev rm_X8_setFrame : Room := { frames := 1, cells := 0, slots := 0, locals := 20 }
set_option maxRecDepth 100000 in
set_option maxHeartbeats 4000000 in
theorem c_X8_setFrame (l : Launch) (D : va_G) (cA : Nat → ClassId) (B : Nat) {lay : ja_Y} {mem : ja_M} {n : Nat} {k : Int} {y : Nat} {sl : Nat → Option Nat} {t : Int} (hB : ja_LB lay y sl) (hO : ja_BO mem y sl t) (hk : ja_in k)  : ja_Mt l D cA B yX8_setFrame cX8_setFrame 3 (some .int) rm_X8_setFrame [.ref y, .int (ja_I k)] lay mem n (ja_rd lay (if (4 ≤ k ∧ k ≤ 16) ∧ ¬ B_bg mem y then ja_up mem (y + 1 + 1) 0 k else mem) n (some (.int (ja_I (if 4 ≤ k ∧ k ≤ 16 then (if B_bg mem y then -1003 else mem (y + 1 + 1) 0) else -1001))))) := by
  refine ja_enter [some (.ref y), some (.int (ja_I k)), none] (by decide) (Nat.le_of_ble_eq_true rfl) (fun q hq => hq) (fun C F Rt G hnm => ?_)
  obtain ⟨b1, b2, b3, b4, b5⟩ := id hO
  obtain ⟨g1, g2, g3, g4, g5, g6, g7, g8, g9, g10, g11, g12⟩ := id b1
  obtain ⟨p1, p2, p3, p4, p5, p6⟩ := id g3
  obtain ⟨s0, s1, s2, s3, s4, s5, s6, s7, s8⟩ := id g1
  have tt := g2.1
  have a0 := g4.1
  obtain ⟨k1_, k2_⟩ := id hk
  have hbb : ja_b (B_bg mem y) = 0 ↔ ¬ B_bg mem y := by unfold ja_b; split <;> simp_all
  have hbr : 0 ≤ ja_b (B_bg mem y) ∧ ja_b (B_bg mem y) ≤ 1 := by unfold ja_b; split <;> omega
  refine r_iload_n F rfl rfl dX8_setFrame_0 rfl ?_
  refine r_iconst F dX8_setFrame_1 rfl ?_
  refine r_icmp_lt F (tgt := 11) ⟨by omega, by omega⟩ ⟨by omega, by omega⟩ dX8_setFrame_2 rfl (by decide) (fun h_2 => ?_) (fun h_2 => ?_)
  ·
    refine r_sipush F (by decide) dX8_setFrame_11 rfl ?_
    exact r_iret F Rt dX8_setFrame_14 (by decide) ⟨by rw [if_neg (by omega)], rfl, by rw [if_neg (fun q => absurd q.1 (by omega))], rfl⟩
  ·
    refine r_iload_n F rfl rfl dX8_setFrame_5 rfl ?_
    refine r_bipush F (by decide) dX8_setFrame_6 rfl ?_
    refine r_icmp_le F (tgt := 15) ⟨by omega, by omega⟩ ⟨by omega, by omega⟩ dX8_setFrame_8 rfl (by decide) (fun h_8 => ?_) (fun h_8 => ?_)
    ·
      refine r_aload_n F rfl rfl dX8_setFrame_15 rfl ?_
      refine r_getR F f_X8_10 (hB.1) rfl dX8_setFrame_16 rfl ?_
      refine r_callV F G (c_X5_hasBegun _ _ _ _ (ja_LB_1 hB) b1) v_X8_39 rfl ((ja_LB_1 hB).1) rfl (by decide) (by decide) (Nat.le_of_ble_eq_true rfl) rfl dX8_setFrame_19 rfl (fun v lay' mem' n' hp => ?_)
      obtain ⟨q1, q2, q3, q4⟩ := hp
      subst q1; subst q2; subst q3; subst q4
      refine r_eqz (z := ja_b (B_bg mem y)) rfl ?_
      refine r_if_eq F (tgt := 29) ⟨by omega, by omega⟩ dX8_setFrame_22 rfl (by decide) (fun h_22 => ?_) (fun h_22 => ?_)
      ·
        have hng : ¬ B_bg mem y := hbb.mp h_22
        refine r_aload_n F rfl rfl dX8_setFrame_29 rfl ?_
        refine r_getR F f_X8_10 (hB.1) rfl dX8_setFrame_30 rfl ?_
        refine r_getR F f_X8_43 ((ja_LB_1 hB).1) rfl dX8_setFrame_33 rfl ?_
        refine r_getI F f_X8_47 (ja_LR_1 (ja_LB_1 hB)) rfl dX8_setFrame_36 rfl ?_
        refine r_ist2 F (by decide) rfl dX8_setFrame_39 rfl ?_
        refine r_aload_n F rfl rfl dX8_setFrame_40 rfl ?_
        refine r_getR F f_X8_10 (hB.1) rfl dX8_setFrame_41 rfl ?_
        refine r_getR F f_X8_43 ((ja_LB_1 hB).1) rfl dX8_setFrame_44 rfl ?_
        refine r_iload_n F rfl rfl dX8_setFrame_47 rfl ?_
        refine r_putI F f_X8_47 (ja_LR_1 (ja_LB_1 hB)) rfl dX8_setFrame_48 rfl ?_
        refine r_iload_n F rfl rfl dX8_setFrame_51 rfl ?_
        exact r_iret F Rt dX8_setFrame_52 (by decide) ⟨by rw [if_pos (by omega), if_neg hng], rfl, by rw [if_pos ⟨by omega, hng⟩], rfl⟩
      ·
        have hbg : B_bg mem y := Decidable.byContradiction fun q => h_22 (hbb.mpr q)
        refine r_sipush F (by decide) dX8_setFrame_25 rfl ?_
        exact r_iret F Rt dX8_setFrame_28 (by decide) ⟨by rw [if_pos (by omega), if_pos hbg], rfl, by rw [if_neg (fun q => q.2 hbg)], rfl⟩
    ·
      refine r_sipush F (by decide) dX8_setFrame_11 rfl ?_
      exact r_iret F Rt dX8_setFrame_14 (by decide) ⟨by rw [if_neg (by omega)], rfl, by rw [if_neg (fun q => absurd q.1 (by omega))], rfl⟩
abbrev rm_X8_setWave : Room := { frames := 1, cells := 0, slots := 0, locals := 20 }
set_option maxRecDepth 100000 in
set_option maxHeartbeats 4000000 in
theorem c_X8_setWave (l : Launch) (D : va_G) (cA : Nat → ClassId) (B : Nat) {lay : ja_Y} {mem : ja_M} {n : Nat} {k i : Int} {y : Nat} {sl : Nat → Option Nat} {t : Int} (hB : ja_LB lay y sl) (hO : ja_BO mem y sl t) (hk : ja_in k) (hi : ja_in i)  : ja_Mt l D cA B yX8_setWave cX8_setWave 4 (some .int) rm_X8_setWave [.ref y, .int (ja_I k), .int (ja_I i)] lay mem n (ja_rd lay (if (2 ≤ k ∧ k ≤ 32 ∧ 1 ≤ i ∧ i ≤ 200) ∧ ¬ B_bg mem y then ja_up (ja_up mem (y + 1 + 1) 1 k) (y + 1 + 1) 2 i else mem) n (some (.int (ja_I (if 2 ≤ k ∧ k ≤ 32 ∧ 1 ≤ i ∧ i ≤ 200 then (if B_bg mem y then -1003 else 1000 * mem (y + 1 + 1) 1 + mem (y + 1 + 1) 2) else -1001))))) := by
  refine ja_enter [some (.ref y), some (.int (ja_I k)), some (.int (ja_I i)), none] (by decide) (Nat.le_of_ble_eq_true rfl) (fun q hq => hq) (fun C F Rt G hnm => ?_)
  obtain ⟨b1, b2, b3, b4, b5⟩ := id hO
  obtain ⟨g1, g2, g3, g4, g5, g6, g7, g8, g9, g10, g11, g12⟩ := id b1
  obtain ⟨p1, p2, p3, p4, p5, p6⟩ := id g3
  obtain ⟨s0, s1, s2, s3, s4, s5, s6, s7, s8⟩ := id g1
  have tt := g2.1
  have a0 := g4.1
  obtain ⟨k1_, k2_⟩ := id hk
  obtain ⟨i1_, i2_⟩ := id hi
  have hbb : ja_b (B_bg mem y) = 0 ↔ ¬ B_bg mem y := by unfold ja_b; split <;> simp_all
  have hbr : 0 ≤ ja_b (B_bg mem y) ∧ ja_b (B_bg mem y) ≤ 1 := by unfold ja_b; split <;> omega
  refine r_iload_n F rfl rfl dX8_setWave_0 rfl ?_
  refine r_iconst F dX8_setWave_1 rfl ?_
  refine r_icmp_lt F (tgt := 23) ⟨by omega, by omega⟩ ⟨by omega, by omega⟩ dX8_setWave_2 rfl (by decide) (fun h_2 => ?_) (fun h_2 => ?_)
  ·
    refine r_sipush F (by decide) dX8_setWave_23 rfl ?_
    exact r_iret F Rt dX8_setWave_26 (by decide) ⟨by rw [if_neg (by omega)], rfl, by rw [if_neg (fun q => absurd q.1 (by omega))], rfl⟩
  ·
    refine r_iload_n F rfl rfl dX8_setWave_5 rfl ?_
    refine r_bipush F (by decide) dX8_setWave_6 rfl ?_
    refine r_icmp_gt F (tgt := 23) ⟨by omega, by omega⟩ ⟨by omega, by omega⟩ dX8_setWave_8 rfl (by decide) (fun h_8 => ?_) (fun h_8 => ?_)
    ·
      refine r_sipush F (by decide) dX8_setWave_23 rfl ?_
      exact r_iret F Rt dX8_setWave_26 (by decide) ⟨by rw [if_neg (by omega)], rfl, by rw [if_neg (fun q => absurd q.1 (by omega))], rfl⟩
    ·
      refine r_iload_n F rfl rfl dX8_setWave_11 rfl ?_
      refine r_iconst F dX8_setWave_12 rfl ?_
      refine r_icmp_lt F (tgt := 23) ⟨by omega, by omega⟩ ⟨by omega, by omega⟩ dX8_setWave_13 rfl (by decide) (fun h_13 => ?_) (fun h_13 => ?_)
      ·
        refine r_sipush F (by decide) dX8_setWave_23 rfl ?_
        exact r_iret F Rt dX8_setWave_26 (by decide) ⟨by rw [if_neg (by omega)], rfl, by rw [if_neg (fun q => absurd q.1 (by omega))], rfl⟩
      ·
        refine r_iload_n F rfl rfl dX8_setWave_16 rfl ?_
        refine r_sipush F (by decide) dX8_setWave_17 rfl ?_
        refine r_icmp_le F (tgt := 27) ⟨by omega, by omega⟩ ⟨by omega, by omega⟩ dX8_setWave_20 rfl (by decide) (fun h_20 => ?_) (fun h_20 => ?_)
        ·
          refine r_aload_n F rfl rfl dX8_setWave_27 rfl ?_
          refine r_getR F f_X8_10 (hB.1) rfl dX8_setWave_28 rfl ?_
          refine r_callV F G (c_X5_hasBegun _ _ _ _ (ja_LB_1 hB) b1) v_X8_39 rfl ((ja_LB_1 hB).1) rfl (by decide) (by decide) (Nat.le_of_ble_eq_true rfl) rfl dX8_setWave_31 rfl (fun v lay' mem' n' hp => ?_)
          obtain ⟨q1, q2, q3, q4⟩ := hp
          subst q1; subst q2; subst q3; subst q4
          refine r_eqz (z := ja_b (B_bg mem y)) rfl ?_
          refine r_if_eq F (tgt := 41) ⟨by omega, by omega⟩ dX8_setWave_34 rfl (by decide) (fun h_34 => ?_) (fun h_34 => ?_)
          ·
            have hng : ¬ B_bg mem y := hbb.mp h_34
            refine r_sipush F (by decide) dX8_setWave_41 rfl ?_
            refine r_aload_n F rfl rfl dX8_setWave_44 rfl ?_
            refine r_getR F f_X8_10 (hB.1) rfl dX8_setWave_45 rfl ?_
            refine r_getR F f_X8_43 ((ja_LB_1 hB).1) rfl dX8_setWave_48 rfl ?_
            refine r_getI F f_X8_51 (ja_LR_1 (ja_LB_1 hB)) rfl dX8_setWave_51 rfl ?_
            refine r_imul F dX8_setWave_54 rfl ?_
            refine r_aload_n F rfl rfl dX8_setWave_55 rfl ?_
            refine r_getR F f_X8_10 (hB.1) rfl dX8_setWave_56 rfl ?_
            refine r_getR F f_X8_43 ((ja_LB_1 hB).1) rfl dX8_setWave_59 rfl ?_
            refine r_getI F f_X8_54 (ja_LR_1 (ja_LB_1 hB)) rfl dX8_setWave_62 rfl ?_
            refine r_iadd F dX8_setWave_65 rfl ?_
            refine r_ist3 F (by decide) rfl dX8_setWave_66 rfl ?_
            refine r_aload_n F rfl rfl dX8_setWave_67 rfl ?_
            refine r_getR F f_X8_10 (hB.1) rfl dX8_setWave_68 rfl ?_
            refine r_getR F f_X8_43 ((ja_LB_1 hB).1) rfl dX8_setWave_71 rfl ?_
            refine r_iload_n F rfl rfl dX8_setWave_74 rfl ?_
            refine r_putI F f_X8_51 (ja_LR_1 (ja_LB_1 hB)) rfl dX8_setWave_75 rfl ?_
            refine r_aload_n F rfl rfl dX8_setWave_78 rfl ?_
            refine r_getR F f_X8_10 (hB.1) rfl dX8_setWave_79 rfl ?_
            refine r_getR F f_X8_43 ((ja_LB_1 hB).1) rfl dX8_setWave_82 rfl ?_
            refine r_iload_n F rfl rfl dX8_setWave_85 rfl ?_
            refine r_putI F f_X8_54 (ja_LR_1 (ja_LB_1 hB)) rfl dX8_setWave_86 rfl ?_
            refine r_iload_n F rfl rfl dX8_setWave_89 rfl ?_
            exact r_iret F Rt dX8_setWave_90 (by decide) ⟨by rw [if_pos (by omega), if_neg hng], rfl, by rw [if_pos ⟨by omega, hng⟩], rfl⟩
          ·
            have hbg : B_bg mem y := Decidable.byContradiction fun q => h_34 (hbb.mpr q)
            refine r_sipush F (by decide) dX8_setWave_37 rfl ?_
            exact r_iret F Rt dX8_setWave_40 (by decide) ⟨by rw [if_pos (by omega), if_pos hbg], rfl, by rw [if_neg (fun q => q.2 hbg)], rfl⟩
        ·
          refine r_sipush F (by decide) dX8_setWave_23 rfl ?_
          exact r_iret F Rt dX8_setWave_26 (by decide) ⟨by rw [if_neg (by omega)], rfl, by rw [if_neg (fun q => absurd q.1 (by omega))], rfl⟩
abbrev rm_X8_setBlock : Room := { frames := 1, cells := 0, slots := 0, locals := 20 }
set_option maxRecDepth 100000 in
set_option maxHeartbeats 4000000 in
theorem c_X8_setBlock (l : Launch) (D : va_G) (cA : Nat → ClassId) (B : Nat) {lay : ja_Y} {mem : ja_M} {n : Nat} {k i : Int} {y : Nat} {sl : Nat → Option Nat} {t : Int} (hB : ja_LB lay y sl) (hO : ja_BO mem y sl t) (hk : ja_in k) (hi : ja_in i)  : ja_Mt l D cA B yX8_setBlock cX8_setBlock 4 (some .int) rm_X8_setBlock [.ref y, .int (ja_I k), .int (ja_I i)] lay mem n (ja_rd lay (if (2 ≤ k ∧ k ≤ 6 ∧ 2 ≤ i ∧ i ≤ 6) ∧ ¬ B_bg mem y then ja_up (ja_up mem (y + 1 + 1) 3 k) (y + 1 + 1) 4 i else mem) n (some (.int (ja_I (if 2 ≤ k ∧ k ≤ 6 ∧ 2 ≤ i ∧ i ≤ 6 then (if B_bg mem y then -1003 else 10 * mem (y + 1 + 1) 3 + mem (y + 1 + 1) 4) else -1001))))) := by
  refine ja_enter [some (.ref y), some (.int (ja_I k)), some (.int (ja_I i)), none] (by decide) (Nat.le_of_ble_eq_true rfl) (fun q hq => hq) (fun C F Rt G hnm => ?_)
  obtain ⟨b1, b2, b3, b4, b5⟩ := id hO
  obtain ⟨g1, g2, g3, g4, g5, g6, g7, g8, g9, g10, g11, g12⟩ := id b1
  obtain ⟨p1, p2, p3, p4, p5, p6⟩ := id g3
  obtain ⟨s0, s1, s2, s3, s4, s5, s6, s7, s8⟩ := id g1
  have tt := g2.1
  have a0 := g4.1
  obtain ⟨k1_, k2_⟩ := id hk
  obtain ⟨i1_, i2_⟩ := id hi
  have hbb : ja_b (B_bg mem y) = 0 ↔ ¬ B_bg mem y := by unfold ja_b; split <;> simp_all
  have hbr : 0 ≤ ja_b (B_bg mem y) ∧ ja_b (B_bg mem y) ≤ 1 := by unfold ja_b; split <;> omega
  refine r_iload_n F rfl rfl dX8_setBlock_0 rfl ?_
  refine r_iconst F dX8_setBlock_1 rfl ?_
  refine r_icmp_lt F (tgt := 22) ⟨by omega, by omega⟩ ⟨by omega, by omega⟩ dX8_setBlock_2 rfl (by decide) (fun h_2 => ?_) (fun h_2 => ?_)
  ·
    refine r_sipush F (by decide) dX8_setBlock_22 rfl ?_
    exact r_iret F Rt dX8_setBlock_25 (by decide) ⟨by rw [if_neg (by omega)], rfl, by rw [if_neg (fun q => absurd q.1 (by omega))], rfl⟩
  ·
    refine r_iload_n F rfl rfl dX8_setBlock_5 rfl ?_
    refine r_bipush F (by decide) dX8_setBlock_6 rfl ?_
    refine r_icmp_gt F (tgt := 22) ⟨by omega, by omega⟩ ⟨by omega, by omega⟩ dX8_setBlock_8 rfl (by decide) (fun h_8 => ?_) (fun h_8 => ?_)
    ·
      refine r_sipush F (by decide) dX8_setBlock_22 rfl ?_
      exact r_iret F Rt dX8_setBlock_25 (by decide) ⟨by rw [if_neg (by omega)], rfl, by rw [if_neg (fun q => absurd q.1 (by omega))], rfl⟩
    ·
      refine r_iload_n F rfl rfl dX8_setBlock_11 rfl ?_
      refine r_iconst F dX8_setBlock_12 rfl ?_
      refine r_icmp_lt F (tgt := 22) ⟨by omega, by omega⟩ ⟨by omega, by omega⟩ dX8_setBlock_13 rfl (by decide) (fun h_13 => ?_) (fun h_13 => ?_)
      ·
        refine r_sipush F (by decide) dX8_setBlock_22 rfl ?_
        exact r_iret F Rt dX8_setBlock_25 (by decide) ⟨by rw [if_neg (by omega)], rfl, by rw [if_neg (fun q => absurd q.1 (by omega))], rfl⟩
      ·
        refine r_iload_n F rfl rfl dX8_setBlock_16 rfl ?_
        refine r_bipush F (by decide) dX8_setBlock_17 rfl ?_
        refine r_icmp_le F (tgt := 26) ⟨by omega, by omega⟩ ⟨by omega, by omega⟩ dX8_setBlock_19 rfl (by decide) (fun h_19 => ?_) (fun h_19 => ?_)
        ·
          refine r_aload_n F rfl rfl dX8_setBlock_26 rfl ?_
          refine r_getR F f_X8_10 (hB.1) rfl dX8_setBlock_27 rfl ?_
          refine r_callV F G (c_X5_hasBegun _ _ _ _ (ja_LB_1 hB) b1) v_X8_39 rfl ((ja_LB_1 hB).1) rfl (by decide) (by decide) (Nat.le_of_ble_eq_true rfl) rfl dX8_setBlock_30 rfl (fun v lay' mem' n' hp => ?_)
          obtain ⟨q1, q2, q3, q4⟩ := hp
          subst q1; subst q2; subst q3; subst q4
          refine r_eqz (z := ja_b (B_bg mem y)) rfl ?_
          refine r_if_eq F (tgt := 40) ⟨by omega, by omega⟩ dX8_setBlock_33 rfl (by decide) (fun h_33 => ?_) (fun h_33 => ?_)
          ·
            have hng : ¬ B_bg mem y := hbb.mp h_33
            refine r_bipush F (by decide) dX8_setBlock_40 rfl ?_
            refine r_aload_n F rfl rfl dX8_setBlock_42 rfl ?_
            refine r_getR F f_X8_10 (hB.1) rfl dX8_setBlock_43 rfl ?_
            refine r_getR F f_X8_43 ((ja_LB_1 hB).1) rfl dX8_setBlock_46 rfl ?_
            refine r_getI F f_X8_57 (ja_LR_1 (ja_LB_1 hB)) rfl dX8_setBlock_49 rfl ?_
            refine r_imul F dX8_setBlock_52 rfl ?_
            refine r_aload_n F rfl rfl dX8_setBlock_53 rfl ?_
            refine r_getR F f_X8_10 (hB.1) rfl dX8_setBlock_54 rfl ?_
            refine r_getR F f_X8_43 ((ja_LB_1 hB).1) rfl dX8_setBlock_57 rfl ?_
            refine r_getI F f_X8_60 (ja_LR_1 (ja_LB_1 hB)) rfl dX8_setBlock_60 rfl ?_
            refine r_iadd F dX8_setBlock_63 rfl ?_
            refine r_ist3 F (by decide) rfl dX8_setBlock_64 rfl ?_
            refine r_aload_n F rfl rfl dX8_setBlock_65 rfl ?_
            refine r_getR F f_X8_10 (hB.1) rfl dX8_setBlock_66 rfl ?_
            refine r_getR F f_X8_43 ((ja_LB_1 hB).1) rfl dX8_setBlock_69 rfl ?_
            refine r_iload_n F rfl rfl dX8_setBlock_72 rfl ?_
            refine r_putI F f_X8_57 (ja_LR_1 (ja_LB_1 hB)) rfl dX8_setBlock_73 rfl ?_
            refine r_aload_n F rfl rfl dX8_setBlock_76 rfl ?_
            refine r_getR F f_X8_10 (hB.1) rfl dX8_setBlock_77 rfl ?_
            refine r_getR F f_X8_43 ((ja_LB_1 hB).1) rfl dX8_setBlock_80 rfl ?_
            refine r_iload_n F rfl rfl dX8_setBlock_83 rfl ?_
            refine r_putI F f_X8_60 (ja_LR_1 (ja_LB_1 hB)) rfl dX8_setBlock_84 rfl ?_
            refine r_iload_n F rfl rfl dX8_setBlock_87 rfl ?_
            exact r_iret F Rt dX8_setBlock_88 (by decide) ⟨by rw [if_pos (by omega), if_neg hng], rfl, by rw [if_pos ⟨by omega, hng⟩], rfl⟩
          ·
            have hbg : B_bg mem y := Decidable.byContradiction fun q => h_33 (hbb.mpr q)
            refine r_sipush F (by decide) dX8_setBlock_36 rfl ?_
            exact r_iret F Rt dX8_setBlock_39 (by decide) ⟨by rw [if_pos (by omega), if_pos hbg], rfl, by rw [if_neg (fun q => q.2 hbg)], rfl⟩
        ·
          refine r_sipush F (by decide) dX8_setBlock_22 rfl ?_
          exact r_iret F Rt dX8_setBlock_25 (by decide) ⟨by rw [if_neg (by omega)], rfl, by rw [if_neg (fun q => absurd q.1 (by omega))], rfl⟩
abbrev rm_X8_setInitialDelay : Room := { frames := 1, cells := 0, slots := 0, locals := 20 }
set_option maxRecDepth 100000 in
set_option maxHeartbeats 4000000 in
theorem c_X8_setInitialDelay (l : Launch) (D : va_G) (cA : Nat → ClassId) (B : Nat) {lay : ja_Y} {mem : ja_M} {n : Nat} {k : Int} {y : Nat} {sl : Nat → Option Nat} {t : Int} (hB : ja_LB lay y sl) (hO : ja_BO mem y sl t) (hk : ja_in k)  : ja_Mt l D cA B yX8_setInitialDelay cX8_setInitialDelay 3 (some .int) rm_X8_setInitialDelay [.ref y, .int (ja_I k)] lay mem n (ja_rd lay (if (0 ≤ k ∧ k ≤ 200) ∧ ¬ B_bg mem y then ja_up mem (y + 1 + 1) 5 k else mem) n (some (.int (ja_I (if 0 ≤ k ∧ k ≤ 200 then (if B_bg mem y then -1003 else mem (y + 1 + 1) 5) else -1001))))) := by
  refine ja_enter [some (.ref y), some (.int (ja_I k)), none] (by decide) (Nat.le_of_ble_eq_true rfl) (fun q hq => hq) (fun C F Rt G hnm => ?_)
  obtain ⟨b1, b2, b3, b4, b5⟩ := id hO
  obtain ⟨g1, g2, g3, g4, g5, g6, g7, g8, g9, g10, g11, g12⟩ := id b1
  obtain ⟨p1, p2, p3, p4, p5, p6⟩ := id g3
  obtain ⟨s0, s1, s2, s3, s4, s5, s6, s7, s8⟩ := id g1
  have tt := g2.1
  have a0 := g4.1
  obtain ⟨k1_, k2_⟩ := id hk
  have hbb : ja_b (B_bg mem y) = 0 ↔ ¬ B_bg mem y := by unfold ja_b; split <;> simp_all
  have hbr : 0 ≤ ja_b (B_bg mem y) ∧ ja_b (B_bg mem y) ≤ 1 := by unfold ja_b; split <;> omega
  refine r_iload_n F rfl rfl dX8_setInitialDelay_0 rfl ?_
  refine r_if_lt F (tgt := 11) ⟨by omega, by omega⟩ dX8_setInitialDelay_1 rfl (by decide) (fun h_1 => ?_) (fun h_1 => ?_)
  ·
    refine r_sipush F (by decide) dX8_setInitialDelay_11 rfl ?_
    exact r_iret F Rt dX8_setInitialDelay_14 (by decide) ⟨by rw [if_neg (by omega)], rfl, by rw [if_neg (fun q => absurd q.1 (by omega))], rfl⟩
  ·
    refine r_iload_n F rfl rfl dX8_setInitialDelay_4 rfl ?_
    refine r_sipush F (by decide) dX8_setInitialDelay_5 rfl ?_
    refine r_icmp_le F (tgt := 15) ⟨by omega, by omega⟩ ⟨by omega, by omega⟩ dX8_setInitialDelay_8 rfl (by decide) (fun h_8 => ?_) (fun h_8 => ?_)
    ·
      refine r_aload_n F rfl rfl dX8_setInitialDelay_15 rfl ?_
      refine r_getR F f_X8_10 (hB.1) rfl dX8_setInitialDelay_16 rfl ?_
      refine r_callV F G (c_X5_hasBegun _ _ _ _ (ja_LB_1 hB) b1) v_X8_39 rfl ((ja_LB_1 hB).1) rfl (by decide) (by decide) (Nat.le_of_ble_eq_true rfl) rfl dX8_setInitialDelay_19 rfl (fun v lay' mem' n' hp => ?_)
      obtain ⟨q1, q2, q3, q4⟩ := hp
      subst q1; subst q2; subst q3; subst q4
      refine r_eqz (z := ja_b (B_bg mem y)) rfl ?_
      refine r_if_eq F (tgt := 29) ⟨by omega, by omega⟩ dX8_setInitialDelay_22 rfl (by decide) (fun h_22 => ?_) (fun h_22 => ?_)
      ·
        have hng : ¬ B_bg mem y := hbb.mp h_22
        refine r_aload_n F rfl rfl dX8_setInitialDelay_29 rfl ?_
        refine r_getR F f_X8_10 (hB.1) rfl dX8_setInitialDelay_30 rfl ?_
        refine r_getR F f_X8_43 ((ja_LB_1 hB).1) rfl dX8_setInitialDelay_33 rfl ?_
        refine r_getI F f_X8_63 (ja_LR_1 (ja_LB_1 hB)) rfl dX8_setInitialDelay_36 rfl ?_
        refine r_ist2 F (by decide) rfl dX8_setInitialDelay_39 rfl ?_
        refine r_aload_n F rfl rfl dX8_setInitialDelay_40 rfl ?_
        refine r_getR F f_X8_10 (hB.1) rfl dX8_setInitialDelay_41 rfl ?_
        refine r_getR F f_X8_43 ((ja_LB_1 hB).1) rfl dX8_setInitialDelay_44 rfl ?_
        refine r_iload_n F rfl rfl dX8_setInitialDelay_47 rfl ?_
        refine r_putI F f_X8_63 (ja_LR_1 (ja_LB_1 hB)) rfl dX8_setInitialDelay_48 rfl ?_
        refine r_iload_n F rfl rfl dX8_setInitialDelay_51 rfl ?_
        exact r_iret F Rt dX8_setInitialDelay_52 (by decide) ⟨by rw [if_pos (by omega), if_neg hng], rfl, by rw [if_pos ⟨by omega, hng⟩], rfl⟩
      ·
        have hbg : B_bg mem y := Decidable.byContradiction fun q => h_22 (hbb.mpr q)
        refine r_sipush F (by decide) dX8_setInitialDelay_25 rfl ?_
        exact r_iret F Rt dX8_setInitialDelay_28 (by decide) ⟨by rw [if_pos (by omega), if_pos hbg], rfl, by rw [if_neg (fun q => q.2 hbg)], rfl⟩
    ·
      refine r_sipush F (by decide) dX8_setInitialDelay_11 rfl ?_
      exact r_iret F Rt dX8_setInitialDelay_14 (by decide) ⟨by rw [if_neg (by omega)], rfl, by rw [if_neg (fun q => absurd q.1 (by omega))], rfl⟩
abbrev rm_X8_setQuantile : Room := { frames := 0, cells := 0, slots := 0, locals := 0 }
set_option maxRecDepth 100000 in
set_option maxHeartbeats 4000000 in
theorem c_X8_setQuantile (l : Launch) (D : va_G) (cA : Nat → ClassId) (B : Nat) {lay : ja_Y} {mem : ja_M} {n : Nat} {k : Int} {y : Nat} {sl : Nat → Option Nat} {t : Int} (hB : ja_LB lay y sl) (hO : ja_BO mem y sl t) (hk : ja_in k)  : ja_Mt l D cA B yX8_setQuantile cX8_setQuantile 3 (some .int) rm_X8_setQuantile [.ref y, .int (ja_I k)] lay mem n (ja_rd lay (if 1 ≤ k ∧ k ≤ 100 then ja_up mem (y + 1 + 1) 6 k else mem) n (some (.int (ja_I (if 1 ≤ k ∧ k ≤ 100 then mem (y + 1 + 1) 6 else -1001))))) := by
  refine ja_enter [some (.ref y), some (.int (ja_I k)), none] (by decide) (Nat.le_of_ble_eq_true rfl) (fun q hq => hq) (fun C F Rt G hnm => ?_)
  obtain ⟨b1, b2, b3, b4, b5⟩ := id hO
  obtain ⟨g1, g2, g3, g4, g5, g6, g7, g8, g9, g10, g11, g12⟩ := id b1
  obtain ⟨p1, p2, p3, p4, p5, p6⟩ := id g3
  obtain ⟨s0, s1, s2, s3, s4, s5, s6, s7, s8⟩ := id g1
  have tt := g2.1
  have a0 := g4.1
  obtain ⟨k1_, k2_⟩ := id hk
  refine r_iload_n F rfl rfl dX8_setQuantile_0 rfl ?_
  refine r_iconst F dX8_setQuantile_1 rfl ?_
  refine r_icmp_lt F (tgt := 11) ⟨by omega, by omega⟩ ⟨by omega, by omega⟩ dX8_setQuantile_2 rfl (by decide) (fun h_2 => ?_) (fun h_2 => ?_)
  ·
    refine r_sipush F (by decide) dX8_setQuantile_11 rfl ?_
    exact r_iret F Rt dX8_setQuantile_14 (by decide) ⟨by first | rfl | rw [if_pos (by omega), if_pos (by omega)] | rw [if_pos (by omega), if_neg (by omega)] | rw [if_neg (by omega)] | rw [if_pos (by omega)], rfl, by first | rfl | rw [if_pos (by omega), if_pos (by omega)] | rw [if_pos (by omega), if_neg (by omega)] | rw [if_neg (by omega)] | rw [if_pos (by omega)], rfl⟩
  ·
    refine r_iload_n F rfl rfl dX8_setQuantile_5 rfl ?_
    refine r_bipush F (by decide) dX8_setQuantile_6 rfl ?_
    refine r_icmp_le F (tgt := 15) ⟨by omega, by omega⟩ ⟨by omega, by omega⟩ dX8_setQuantile_8 rfl (by decide) (fun h_8 => ?_) (fun h_8 => ?_)
    ·
      refine r_aload_n F rfl rfl dX8_setQuantile_15 rfl ?_
      refine r_getR F f_X8_10 (hB.1) rfl dX8_setQuantile_16 rfl ?_
      refine r_getR F f_X8_43 ((ja_LB_1 hB).1) rfl dX8_setQuantile_19 rfl ?_
      refine r_getI F f_X8_66 (ja_LR_1 (ja_LB_1 hB)) rfl dX8_setQuantile_22 rfl ?_
      refine r_ist2 F (by decide) rfl dX8_setQuantile_25 rfl ?_
      refine r_aload_n F rfl rfl dX8_setQuantile_26 rfl ?_
      refine r_getR F f_X8_10 (hB.1) rfl dX8_setQuantile_27 rfl ?_
      refine r_getR F f_X8_43 ((ja_LB_1 hB).1) rfl dX8_setQuantile_30 rfl ?_
      refine r_iload_n F rfl rfl dX8_setQuantile_33 rfl ?_
      refine r_putI F f_X8_66 (ja_LR_1 (ja_LB_1 hB)) rfl dX8_setQuantile_34 rfl ?_
      refine r_iload_n F rfl rfl dX8_setQuantile_37 rfl ?_
      exact r_iret F Rt dX8_setQuantile_38 (by decide) ⟨by first | rfl | rw [if_pos (by omega), if_pos (by omega)] | rw [if_pos (by omega), if_neg (by omega)] | rw [if_neg (by omega)] | rw [if_pos (by omega)], rfl, by first | rfl | rw [if_pos (by omega), if_pos (by omega)] | rw [if_pos (by omega), if_neg (by omega)] | rw [if_neg (by omega)] | rw [if_pos (by omega)], rfl⟩
    ·
      refine r_sipush F (by decide) dX8_setQuantile_11 rfl ?_
      exact r_iret F Rt dX8_setQuantile_14 (by decide) ⟨by first | rfl | rw [if_pos (by omega), if_pos (by omega)] | rw [if_pos (by omega), if_neg (by omega)] | rw [if_neg (by omega)] | rw [if_pos (by omega)], rfl, by first | rfl | rw [if_pos (by omega), if_pos (by omega)] | rw [if_pos (by omega), if_neg (by omega)] | rw [if_neg (by omega)] | rw [if_pos (by omega)], rfl⟩
abbrev rm_X8_setMargin : Room := { frames := 0, cells := 0, slots := 0, locals := 0 }
set_option maxRecDepth 100000 in
set_option maxHeartbeats 4000000 in
theorem c_X8_setMargin (l : Launch) (D : va_G) (cA : Nat → ClassId) (B : Nat) {lay : ja_Y} {mem : ja_M} {n : Nat} {k : Int} {y : Nat} {sl : Nat → Option Nat} {t : Int} (hB : ja_LB lay y sl) (hO : ja_BO mem y sl t) (hk : ja_in k)  : ja_Mt l D cA B yX8_setMargin cX8_setMargin 3 (some .int) rm_X8_setMargin [.ref y, .int (ja_I k)] lay mem n (ja_rd lay (if 0 ≤ k ∧ k ≤ 100 then ja_up mem (y + 1 + 1) 7 k else mem) n (some (.int (ja_I (if 0 ≤ k ∧ k ≤ 100 then mem (y + 1 + 1) 7 else -1001))))) := by
  refine ja_enter [some (.ref y), some (.int (ja_I k)), none] (by decide) (Nat.le_of_ble_eq_true rfl) (fun q hq => hq) (fun C F Rt G hnm => ?_)
  obtain ⟨b1, b2, b3, b4, b5⟩ := id hO
  obtain ⟨g1, g2, g3, g4, g5, g6, g7, g8, g9, g10, g11, g12⟩ := id b1
  obtain ⟨p1, p2, p3, p4, p5, p6⟩ := id g3
  obtain ⟨s0, s1, s2, s3, s4, s5, s6, s7, s8⟩ := id g1
  have tt := g2.1
  have a0 := g4.1
  obtain ⟨k1_, k2_⟩ := id hk
  refine r_iload_n F rfl rfl dX8_setMargin_0 rfl ?_
  refine r_if_lt F (tgt := 10) ⟨by omega, by omega⟩ dX8_setMargin_1 rfl (by decide) (fun h_1 => ?_) (fun h_1 => ?_)
  ·
    refine r_sipush F (by decide) dX8_setMargin_10 rfl ?_
    exact r_iret F Rt dX8_setMargin_13 (by decide) ⟨by first | rfl | rw [if_pos (by omega), if_pos (by omega)] | rw [if_pos (by omega), if_neg (by omega)] | rw [if_neg (by omega)] | rw [if_pos (by omega)], rfl, by first | rfl | rw [if_pos (by omega), if_pos (by omega)] | rw [if_pos (by omega), if_neg (by omega)] | rw [if_neg (by omega)] | rw [if_pos (by omega)], rfl⟩
  ·
    refine r_iload_n F rfl rfl dX8_setMargin_4 rfl ?_
    refine r_bipush F (by decide) dX8_setMargin_5 rfl ?_
    refine r_icmp_le F (tgt := 14) ⟨by omega, by omega⟩ ⟨by omega, by omega⟩ dX8_setMargin_7 rfl (by decide) (fun h_7 => ?_) (fun h_7 => ?_)
    ·
      refine r_aload_n F rfl rfl dX8_setMargin_14 rfl ?_
      refine r_getR F f_X8_10 (hB.1) rfl dX8_setMargin_15 rfl ?_
      refine r_getR F f_X8_43 ((ja_LB_1 hB).1) rfl dX8_setMargin_18 rfl ?_
      refine r_getI F f_X8_69 (ja_LR_1 (ja_LB_1 hB)) rfl dX8_setMargin_21 rfl ?_
      refine r_ist2 F (by decide) rfl dX8_setMargin_24 rfl ?_
      refine r_aload_n F rfl rfl dX8_setMargin_25 rfl ?_
      refine r_getR F f_X8_10 (hB.1) rfl dX8_setMargin_26 rfl ?_
      refine r_getR F f_X8_43 ((ja_LB_1 hB).1) rfl dX8_setMargin_29 rfl ?_
      refine r_iload_n F rfl rfl dX8_setMargin_32 rfl ?_
      refine r_putI F f_X8_69 (ja_LR_1 (ja_LB_1 hB)) rfl dX8_setMargin_33 rfl ?_
      refine r_iload_n F rfl rfl dX8_setMargin_36 rfl ?_
      exact r_iret F Rt dX8_setMargin_37 (by decide) ⟨by first | rfl | rw [if_pos (by omega), if_pos (by omega)] | rw [if_pos (by omega), if_neg (by omega)] | rw [if_neg (by omega)] | rw [if_pos (by omega)], rfl, by first | rfl | rw [if_pos (by omega), if_pos (by omega)] | rw [if_pos (by omega), if_neg (by omega)] | rw [if_neg (by omega)] | rw [if_pos (by omega)], rfl⟩
    ·
      refine r_sipush F (by decide) dX8_setMargin_10 rfl ?_
      exact r_iret F Rt dX8_setMargin_13 (by decide) ⟨by first | rfl | rw [if_pos (by omega), if_pos (by omega)] | rw [if_pos (by omega), if_neg (by omega)] | rw [if_neg (by omega)] | rw [if_pos (by omega)], rfl, by first | rfl | rw [if_pos (by omega), if_pos (by omega)] | rw [if_pos (by omega), if_neg (by omega)] | rw [if_neg (by omega)] | rw [if_pos (by omega)], rfl⟩
abbrev rm_X8_setAdapting : Room := { frames := 0, cells := 0, slots := 0, locals := 0 }
set_option maxRecDepth 100000 in
set_option maxHeartbeats 4000000 in
theorem c_X8_setAdapting (l : Launch) (D : va_G) (cA : Nat → ClassId) (B : Nat) {lay : ja_Y} {mem : ja_M} {n : Nat} {k : Int} {y : Nat} {sl : Nat → Option Nat} {t : Int} (hB : ja_LB lay y sl) (hO : ja_BO mem y sl t) (hk : 0 ≤ k ∧ k ≤ 1) : ja_Mt l D cA B yX8_setAdapting cX8_setAdapting 3 (some .int) rm_X8_setAdapting [.ref y, .int (ja_I k)] lay mem n (ja_rd lay (ja_up mem (y + 1 + 1) 8 k) n (some (.int (ja_I (mem (y + 1 + 1) 8))))) := by
  refine ja_enter [some (.ref y), some (.int (ja_I k)), none] (by decide) (Nat.le_of_ble_eq_true rfl) (fun q hq => hq) (fun C F Rt G hnm => ?_)
  obtain ⟨b1, b2, b3, b4, b5⟩ := id hO
  obtain ⟨g1, g2, g3, g4, g5, g6, g7, g8, g9, g10, g11, g12⟩ := id b1
  obtain ⟨p1, p2, p3, p4, p5, p6⟩ := id g3
  obtain ⟨s0, s1, s2, s3, s4, s5, s6, s7, s8⟩ := id g1
  have tt := g2.1
  have a0 := g4.1
  refine r_aload_n F rfl rfl dX8_setAdapting_0 rfl ?_
  refine r_getR F f_X8_10 (hB.1) rfl dX8_setAdapting_1 rfl ?_
  refine r_getR F f_X8_43 ((ja_LB_1 hB).1) rfl dX8_setAdapting_4 rfl ?_
  refine r_getI F f_X8_72 (ja_LR_1 (ja_LB_1 hB)) rfl dX8_setAdapting_7 rfl ?_
  refine r_if_eq F (tgt := 17) ⟨by omega, by omega⟩ dX8_setAdapting_10 rfl (by decide) (fun h_10 => ?_) (fun h_10 => ?_)
  ·
    refine r_iconst F dX8_setAdapting_17 rfl ?_
    refine r_eqz (z := mem (y + 1 + 1) 8) (by omega) ?_
    refine r_ist2 F (by decide) rfl dX8_setAdapting_18 rfl ?_
    refine r_aload_n F rfl rfl dX8_setAdapting_19 rfl ?_
    refine r_getR F f_X8_10 (hB.1) rfl dX8_setAdapting_20 rfl ?_
    refine r_getR F f_X8_43 ((ja_LB_1 hB).1) rfl dX8_setAdapting_23 rfl ?_
    refine r_iload_n F rfl rfl dX8_setAdapting_26 rfl ?_
    refine r_putZ F (by omega) f_X8_72 (ja_LR_1 (ja_LB_1 hB)) rfl dX8_setAdapting_27 rfl ?_
    refine r_iload_n F rfl rfl dX8_setAdapting_30 rfl ?_
    exact r_iret F Rt dX8_setAdapting_31 (by decide) ⟨rfl, rfl, rfl, rfl⟩
  ·
    refine r_iconst F dX8_setAdapting_13 rfl ?_
    refine r_goto F (tgt := 18) dX8_setAdapting_14 (by decide) ?_
    refine r_eqz (z := mem (y + 1 + 1) 8) (by omega) ?_
    refine r_ist2 F (by decide) rfl dX8_setAdapting_18 rfl ?_
    refine r_aload_n F rfl rfl dX8_setAdapting_19 rfl ?_
    refine r_getR F f_X8_10 (hB.1) rfl dX8_setAdapting_20 rfl ?_
    refine r_getR F f_X8_43 ((ja_LB_1 hB).1) rfl dX8_setAdapting_23 rfl ?_
    refine r_iload_n F rfl rfl dX8_setAdapting_26 rfl ?_
    refine r_putZ F (by omega) f_X8_72 (ja_LR_1 (ja_LB_1 hB)) rfl dX8_setAdapting_27 rfl ?_
    refine r_iload_n F rfl rfl dX8_setAdapting_30 rfl ?_
    exact r_iret F Rt dX8_setAdapting_31 (by decide) ⟨rfl, rfl, rfl, rfl⟩
abbrev rm_X8_arrive : Room := { frames := 5, cells := 0, slots := 0, locals := 128 }
set_option maxRecDepth 100000 in
set_option maxHeartbeats 4000000 in
theorem c_X8_arrive (l : Launch) (D : va_G) (cA : Nat → ClassId) (B : Nat) {lay : ja_Y} {mem : ja_M} {n : Nat} {x : Int} {y : Nat} {sl : Nat → Option Nat} {t : Int} (hB : ja_LB lay y sl) (hO : ja_BO mem y sl t) (hx : ja_in x) (ht : t ≤ 898000) : ja_Mt l D cA B yX8_arrive cX8_arrive 2 (some .int) rm_X8_arrive [.ref y, .int (ja_I x)] lay mem n (ja_rd lay (if B_isF x then R_af mem (y + 1) x else mem) n (some (.int (ja_I (if B_isF x then R_an mem (y + 1) x else -1001))))) := by
  refine ja_enter [some (.ref y), some (.int (ja_I x))] (by decide) (Nat.le_of_ble_eq_true rfl) (fun q hq => hq) (fun C F Rt G hnm => ?_)
  obtain ⟨b1, b2, b3, b4, b5⟩ := id hO
  obtain ⟨g1, g2, g3, g4, g5, g6, g7, g8, g9, g10, g11, g12⟩ := id b1
  obtain ⟨p1, p2, p3, p4, p5, p6⟩ := id g3
  obtain ⟨s0, s1, s2, s3, s4, s5, s6, s7, s8⟩ := id g1
  have tt := g2.1
  have a0 := g4.1
  obtain ⟨x1_, x2_⟩ := id hx
  have hbf : ja_b (B_isF x) = 0 ↔ ¬ B_isF x := by unfold ja_b; split <;> simp_all
  have hbr : 0 ≤ ja_b (B_isF x) ∧ ja_b (B_isF x) ≤ 1 := by unfold ja_b; split <;> omega
  refine r_iload_n F rfl rfl dX8_arrive_0 rfl ?_
  refine r_callS F G (c_X8_isFrame _ _ _ _ hx) s_X8_76 rfl (by decide) (by decide) (Nat.le_of_ble_eq_true rfl) rfl dX8_arrive_1 rfl (fun v lay' mem' n' hp => ?_)
  obtain ⟨q1, q2, q3, q4⟩ := hp
  subst q1; subst q2; subst q3; subst q4
  refine r_if_ne F (tgt := 11) ⟨by omega, by omega⟩ dX8_arrive_4 rfl (by decide) (fun h_4 => ?_) (fun h_4 => ?_)
  ·
    refine r_aload_n F rfl rfl dX8_arrive_11 rfl ?_
    refine r_getR F f_X8_10 (hB.1) rfl dX8_arrive_12 rfl ?_
    refine r_iload_n F rfl rfl dX8_arrive_15 rfl ?_
    refine r_callV F G (c_X5_acceptFrame _ _ _ _ (ja_LB_1 hB) b1 (by omega) (Decidable.byContradiction fun q => h_4 (hbf.mpr q))) v_X8_80 rfl ((ja_LB_1 hB).1) rfl (by decide) (by decide) (Nat.le_of_ble_eq_true rfl) rfl dX8_arrive_16 rfl (fun v lay' mem' n' hp => ?_)
    obtain ⟨q1, q2, q3, q4⟩ := hp
    subst q1; subst q2; subst q3; subst q4
    exact r_iret F Rt dX8_arrive_19 (by decide) ⟨by rw [if_pos (Decidable.byContradiction fun q => h_4 (hbf.mpr q))], rfl, by rw [if_pos (Decidable.byContradiction fun q => h_4 (hbf.mpr q))], rfl⟩
  ·
    refine r_sipush F (by decide) dX8_arrive_7 rfl ?_
    exact r_iret F Rt dX8_arrive_10 (by decide) ⟨by rw [if_neg (hbf.mp h_4)], rfl, by rw [if_neg (hbf.mp h_4)], rfl⟩
abbrev rm_X8_arriveParity : Room := { frames := 5, cells := 0, slots := 0, locals := 130 }
set_option maxRecDepth 100000 in
set_option maxHeartbeats 4000000 in
theorem c_X8_arriveParity (l : Launch) (D : va_G) (cA : Nat → ClassId) (B : Nat) {lay : ja_Y} {mem : ja_M} {n : Nat} {r k i : Int} {y : Nat} {sl : Nat → Option Nat} {t : Int} (hB : ja_LB lay y sl) (hO : ja_BO mem y sl t) (hr : ja_in r) (hk : ja_in k) (hi : ja_in i) (h01 : 0 ≤ r ∧ r ≤ 1) : ja_Mt l D cA B yX8_arriveParity cX8_arriveParity 4 (some .int) rm_X8_arriveParity [.ref y, .int (ja_I r), .int (ja_I k), .int (ja_I i)] lay mem n (ja_rd lay (if ja_hasP mem (y + 1 + 1) r k i then R_ap mem (y + 1) r k i else mem) n (some (.int (ja_I (if ja_hasP mem (y + 1 + 1) r k i then R_pn mem (y + 1) r k i else -1001))))) := by
  refine ja_enter [some (.ref y), some (.int (ja_I r)), some (.int (ja_I k)), some (.int (ja_I i))] (by decide) (Nat.le_of_ble_eq_true rfl) (fun q hq => hq) (fun C F Rt G hnm => ?_)
  obtain ⟨b1, b2, b3, b4, b5⟩ := id hO
  obtain ⟨g1, g2, g3, g4, g5, g6, g7, g8, g9, g10, g11, g12⟩ := id b1
  obtain ⟨p1, p2, p3, p4, p5, p6⟩ := id g3
  obtain ⟨s0, s1, s2, s3, s4, s5, s6, s7, s8⟩ := id g1
  have tt := g2.1
  have a0 := g4.1
  obtain ⟨r1_, r2_⟩ := id hr
  obtain ⟨k1_, k2_⟩ := id hk
  obtain ⟨i1_, i2_⟩ := id hi
  have hbp : ja_b (ja_hasP mem (y + 1 + 1) r k i) = 0 ↔ ¬ ja_hasP mem (y + 1 + 1) r k i := by unfold ja_b; split <;> simp_all
  have hbr : 0 ≤ ja_b (ja_hasP mem (y + 1 + 1) r k i) ∧ ja_b (ja_hasP mem (y + 1 + 1) r k i) ≤ 1 := by unfold ja_b; split <;> omega
  refine r_aload_n F rfl rfl dX8_arriveParity_0 rfl ?_
  refine r_getR F f_X8_10 (hB.1) rfl dX8_arriveParity_1 rfl ?_
  refine r_getR F f_X8_43 ((ja_LB_1 hB).1) rfl dX8_arriveParity_4 rfl ?_
  refine r_iload_n F rfl rfl dX8_arriveParity_7 rfl ?_
  refine r_iload_n F rfl rfl dX8_arriveParity_8 rfl ?_
  refine r_iload_n F rfl rfl dX8_arriveParity_9 rfl ?_
  refine r_callV F G (c_X6_hasPacket _ _ _ _ (ja_LR_1 (ja_LB_1 hB)) g1 h01 hk hi) v_X8_84 rfl (ja_LR_1 (ja_LB_1 hB)) rfl (by decide) (by decide) (Nat.le_of_ble_eq_true rfl) rfl dX8_arriveParity_10 rfl (fun v lay' mem' n' hp => ?_)
  obtain ⟨q1, q2, q3, q4⟩ := hp
  subst q1; subst q2; subst q3; subst q4
  refine r_if_ne F (tgt := 20) ⟨by omega, by omega⟩ dX8_arriveParity_13 rfl (by decide) (fun h_13 => ?_) (fun h_13 => ?_)
  ·
    refine r_aload_n F rfl rfl dX8_arriveParity_20 rfl ?_
    refine r_getR F f_X8_10 (hB.1) rfl dX8_arriveParity_21 rfl ?_
    refine r_iload_n F rfl rfl dX8_arriveParity_24 rfl ?_
    refine r_iload_n F rfl rfl dX8_arriveParity_25 rfl ?_
    refine r_iload_n F rfl rfl dX8_arriveParity_26 rfl ?_
    refine r_callV F G (c_X5_acceptPacket _ _ _ _ (ja_LB_1 hB) b1 h01 (Decidable.byContradiction fun q => h_13 (hbp.mpr q)).1) v_X8_88 rfl ((ja_LB_1 hB).1) rfl (by decide) (by decide) (Nat.le_of_ble_eq_true rfl) rfl dX8_arriveParity_27 rfl (fun v lay' mem' n' hp => ?_)
    obtain ⟨q1, q2, q3, q4⟩ := hp
    subst q1; subst q2; subst q3; subst q4
    exact r_iret F Rt dX8_arriveParity_30 (by decide) ⟨by rw [if_pos (Decidable.byContradiction fun q => h_13 (hbp.mpr q))], rfl, by rw [if_pos (Decidable.byContradiction fun q => h_13 (hbp.mpr q))], rfl⟩
  ·
    refine r_sipush F (by decide) dX8_arriveParity_16 rfl ?_
    exact r_iret F Rt dX8_arriveParity_19 (by decide) ⟨by rw [if_neg (hbp.mp h_13)], rfl, by rw [if_neg (hbp.mp h_13)], rfl⟩
abbrev rm_X8_advance : Room := { frames := 7, cells := 0, slots := 0, locals := 171 }
set_option maxRecDepth 100000 in
set_option maxHeartbeats 4000000 in
theorem c_X8_advance (l : Launch) (D : va_G) (cA : Nat → ClassId) (B : Nat) {lay : ja_Y} {mem : ja_M} {n : Nat} {x : Int} {y : Nat} {sl : Nat → Option Nat} {t : Int} (hB : ja_LB lay y sl) (hO : ja_BO mem y sl t) (hx : ja_in x) (ht : t ≤ 898000) : ja_Mt l D cA B yX8_advance cX8_advance 4 (some .int) rm_X8_advance [.ref y, .int (ja_I x)] lay mem n (ja_rd lay (if 1 ≤ x ∧ x ≤ 500 then B_adv mem (y + 1) x.toNat else mem) n (some (.int (ja_I (if 1 ≤ x ∧ x ≤ 500 then (B_adv mem (y + 1) x.toNat) (y + 1 + 9) 4 - mem (y + 1 + 9) 4 else -1001))))) := by
  refine ja_enter [some (.ref y), some (.int (ja_I x)), none, none] (by decide) (Nat.le_of_ble_eq_true rfl) (fun q hq => hq) (fun C F Rt G hnm => ?_)
  obtain ⟨b1, b2, b3, b4, b5⟩ := id hO
  obtain ⟨g1, g2, g3, g4, g5, g6, g7, g8, g9, g10, g11, g12⟩ := id b1
  obtain ⟨p1, p2, p3, p4, p5, p6⟩ := id g3
  obtain ⟨s0, s1, s2, s3, s4, s5, s6, s7, s8⟩ := id g1
  have tt := g2.1
  have a0 := g4.1
  obtain ⟨x1_, x2_⟩ := id hx
  refine r_iload_n F rfl rfl dX8_advance_0 rfl ?_
  refine r_iconst F dX8_advance_1 rfl ?_
  refine r_icmp_lt F (tgt := 12) ⟨by omega, by omega⟩ ⟨by omega, by omega⟩ dX8_advance_2 rfl (by decide) (fun h_2 => ?_) (fun h_2 => ?_)
  ·
    refine r_sipush F (by decide) dX8_advance_12 rfl ?_
    exact r_iret F Rt dX8_advance_15 (by decide) ⟨by first | rfl | rw [if_pos (by omega), if_pos (by omega)] | rw [if_pos (by omega), if_neg (by omega)] | rw [if_neg (by omega)] | rw [if_pos (by omega)], rfl, by first | rfl | rw [if_pos (by omega), if_pos (by omega)] | rw [if_pos (by omega), if_neg (by omega)] | rw [if_neg (by omega)] | rw [if_pos (by omega)], rfl⟩
  ·
    refine r_iload_n F rfl rfl dX8_advance_5 rfl ?_
    refine r_sipush F (by decide) dX8_advance_6 rfl ?_
    refine r_icmp_le F (tgt := 16) ⟨by omega, by omega⟩ ⟨by omega, by omega⟩ dX8_advance_9 rfl (by decide) (fun h_9 => ?_) (fun h_9 => ?_)
    ·
      refine r_aload_n F rfl rfl dX8_advance_16 rfl ?_
      refine r_getR F f_X8_10 (hB.1) rfl dX8_advance_17 rfl ?_
      refine r_getR F f_X8_92 ((ja_LB_1 hB).1) rfl dX8_advance_20 rfl ?_
      refine r_getI F f_X8_96 ((ja_LR_9 (ja_LB_1 hB)).1) rfl dX8_advance_23 rfl ?_
      refine r_ist2 F (by decide) rfl dX8_advance_26 rfl ?_
      refine r_iconst F dX8_advance_27 rfl ?_
      refine r_ist3 F (by decide) rfl dX8_advance_28 rfl ?_
      have loop : ∀ (d k : Nat), k + d = x.toNat → ja_W C 0 0 lay (B_adv mem (y + 1) k) n 29 [some (.ref y), some (.int (ja_I x)), some (.int (ja_I (mem (y + 1 + 9) 4))), some (.int (ja_I (k : Int)))] [] := by
        intro d
        induction d with
        | zero =>
          intro k hk
          refine r_iload_n F rfl rfl dX8_advance_29 rfl ?_
          refine r_iload_n F rfl rfl dX8_advance_30 rfl ?_
          refine r_icmp_ge F (tgt := 47) ⟨by omega, by omega⟩ ⟨by omega, by omega⟩ dX8_advance_31 rfl (by decide) (fun h_31 => ?_) (fun h_31 => ?_)
          ·
            refine r_aload_n F rfl rfl dX8_advance_47 rfl ?_
            refine r_getR F f_X8_10 (hB.1) rfl dX8_advance_48 rfl ?_
            refine r_getR F f_X8_92 ((ja_LB_1 hB).1) rfl dX8_advance_51 rfl ?_
            refine r_getI F f_X8_96 ((ja_LR_9 (ja_LB_1 hB)).1) rfl dX8_advance_54 rfl ?_
            refine r_eqz (z := (B_adv mem (y + 1) k) (y + 1 + 9) 4) (by rfl) ?_
            refine r_iload_n F rfl rfl dX8_advance_57 rfl ?_
            refine r_isub F dX8_advance_58 rfl ?_
            exact r_iret F Rt dX8_advance_59 (by decide) ⟨by rw [if_pos ⟨by omega, by omega⟩, show x.toNat = k by omega], rfl, by rw [if_pos ⟨by omega, by omega⟩, show x.toNat = k by omega], rfl⟩
          ·
            exfalso; omega
        | succ d ih =>
          intro k hk
          refine r_iload_n F rfl rfl dX8_advance_29 rfl ?_
          refine r_iload_n F rfl rfl dX8_advance_30 rfl ?_
          refine r_icmp_ge F (tgt := 47) ⟨by omega, by omega⟩ ⟨by omega, by omega⟩ dX8_advance_31 rfl (by decide) (fun h_31 => ?_) (fun h_31 => ?_)
          ·
            exfalso; omega
          ·
            refine r_aload_n F rfl rfl dX8_advance_34 rfl ?_
            refine r_getR F f_X8_10 (hB.1) rfl dX8_advance_35 rfl ?_
            refine r_callV F G (c_X5_passTick _ _ _ _ (ja_LB_1 hB) (B_adv_RO b1 k (by omega)) (by omega)) v_X8_101 rfl ((ja_LB_1 hB).1) rfl (by decide) (by decide) (Nat.le_of_ble_eq_true rfl) rfl dX8_advance_38 rfl (fun v lay' mem' n' hp => ?_)
            obtain ⟨q1, q2, q3, q4⟩ := hp
            subst q1; subst q2; subst q3; subst q4
            refine r_inc3 F (by decide) rfl dX8_advance_41 rfl ?_
            refine r_goto F (tgt := 29) dX8_advance_44 (by decide) ?_
            exact ih (k + 1) (by omega)
      exact loop x.toNat 0 (by omega)
    ·
      refine r_sipush F (by decide) dX8_advance_12 rfl ?_
      exact r_iret F Rt dX8_advance_15 (by decide) ⟨by first | rfl | rw [if_pos (by omega), if_pos (by omega)] | rw [if_pos (by omega), if_neg (by omega)] | rw [if_neg (by omega)] | rw [if_pos (by omega)], rfl, by first | rfl | rw [if_pos (by omega), if_pos (by omega)] | rw [if_pos (by omega), if_neg (by omega)] | rw [if_neg (by omega)] | rw [if_pos (by omega)], rfl⟩
abbrev rm_X8_gapsIn : Room := { frames := 7, cells := 0, slots := 0, locals := 171 }
set_option maxRecDepth 100000 in
set_option maxHeartbeats 4000000 in
theorem c_X8_gapsIn (l : Launch) (D : va_G) (cA : Nat → ClassId) (B : Nat) {lay : ja_Y} {mem : ja_M} {n : Nat} {x : Int} {y : Nat} {sl : Nat → Option Nat} {t : Int} (hB : ja_LB lay y sl) (hO : ja_BO mem y sl t) (hx : ja_in x) (ht : t ≤ 898000) : ja_Mt l D cA B yX8_gapsIn cX8_gapsIn 4 (some .int) rm_X8_gapsIn [.ref y, .int (ja_I x)] lay mem n (ja_rd lay (if 1 ≤ x ∧ x ≤ 1000 then B_adv (R_cp mem (y + 21) (y + 1)) (y + 21) x.toNat else mem) n (some (.int (ja_I (if 1 ≤ x ∧ x ≤ 1000 then (B_adv (R_cp mem (y + 21) (y + 1)) (y + 21) x.toNat) (y + 21 + 14) 2 - (R_cp mem (y + 21) (y + 1)) (y + 21 + 14) 2 else -1001))))) := by
  refine ja_enter [some (.ref y), some (.int (ja_I x)), none, none] (by decide) (Nat.le_of_ble_eq_true rfl) (fun q hq => hq) (fun C F Rt G hnm => ?_)
  obtain ⟨b1, b2, b3, b4, b5⟩ := id hO
  obtain ⟨g1, g2, g3, g4, g5, g6, g7, g8, g9, g10, g11, g12⟩ := id b1
  obtain ⟨p1, p2, p3, p4, p5, p6⟩ := id g3
  obtain ⟨s0, s1, s2, s3, s4, s5, s6, s7, s8⟩ := id g1
  have tt := g2.1
  have a0 := g4.1
  obtain ⟨x1_, x2_⟩ := id hx
  refine r_iload_n F rfl rfl dX8_gapsIn_0 rfl ?_
  refine r_iconst F dX8_gapsIn_1 rfl ?_
  refine r_icmp_lt F (tgt := 12) ⟨by omega, by omega⟩ ⟨by omega, by omega⟩ dX8_gapsIn_2 rfl (by decide) (fun h_2 => ?_) (fun h_2 => ?_)
  ·
    refine r_sipush F (by decide) dX8_gapsIn_12 rfl ?_
    exact r_iret F Rt dX8_gapsIn_15 (by decide) ⟨by first | rfl | rw [if_pos (by omega), if_pos (by omega)] | rw [if_pos (by omega), if_neg (by omega)] | rw [if_neg (by omega)] | rw [if_pos (by omega)], rfl, by first | rfl | rw [if_pos (by omega), if_pos (by omega)] | rw [if_pos (by omega), if_neg (by omega)] | rw [if_neg (by omega)] | rw [if_pos (by omega)], rfl⟩
  ·
    refine r_iload_n F rfl rfl dX8_gapsIn_5 rfl ?_
    refine r_sipush F (by decide) dX8_gapsIn_6 rfl ?_
    refine r_icmp_le F (tgt := 16) ⟨by omega, by omega⟩ ⟨by omega, by omega⟩ dX8_gapsIn_9 rfl (by decide) (fun h_9 => ?_) (fun h_9 => ?_)
    ·
      refine r_aload_n F rfl rfl dX8_gapsIn_16 rfl ?_
      refine r_getR F f_X8_16 (hB.1) rfl dX8_gapsIn_17 rfl ?_
      refine r_aload_n F rfl rfl dX8_gapsIn_20 rfl ?_
      refine r_getR F f_X8_10 (hB.1) rfl dX8_gapsIn_21 rfl ?_
      refine r_callV F G (c_X5_copyFrom _ _ _ _ (ja_LB_21 hB) (ja_LB_1 hB) b1 (by omega)) v_X8_207 rfl ((ja_LB_21 hB).1) rfl (by decide) (by decide) (Nat.le_of_ble_eq_true rfl) rfl dX8_gapsIn_24 rfl (fun v lay' mem' n' hp => ?_)
      obtain ⟨q1, q2, q3, q4⟩ := hp
      subst q1; subst q2; subst q3; subst q4
      obtain ⟨t2, b2⟩ := b2
      have hF := R_cp_RO b1 b2 (by omega)
      generalize hm0 : R_cp mem (y + 21) (y + 1) = m0 at *
      have f12 := hF.2.2.2.2.2.2.2.2.2.2.2
      have f3 := hF.2.2.1.2.2.1
      refine r_aload_n F rfl rfl dX8_gapsIn_27 rfl ?_
      refine r_getR F f_X8_16 (hB.1) rfl dX8_gapsIn_28 rfl ?_
      refine r_getR F f_X8_177 ((ja_LB_21 hB).1) rfl dX8_gapsIn_31 rfl ?_
      refine r_getI F f_X8_198 (ja_LR_14 (ja_LB_21 hB)) rfl dX8_gapsIn_34 rfl ?_
      refine r_eqz (z := m0 (y + 21 + 14) 2) (by rfl) ?_
      refine r_ist2 F (by decide) rfl dX8_gapsIn_37 rfl ?_
      refine r_iconst F dX8_gapsIn_38 rfl ?_
      refine r_ist3 F (by decide) rfl dX8_gapsIn_39 rfl ?_
      have loop : ∀ (d k : Nat), k + d = x.toNat → ja_W C 0 0 lay (B_adv m0 (y + 21) k) n 40 [some (.ref y), some (.int (ja_I x)), some (.int (ja_I (m0 (y + 21 + 14) 2))), some (.int (ja_I (k : Int)))] [] := by
        intro d
        induction d with
        | zero =>
          intro k hk
          refine r_iload_n F rfl rfl dX8_gapsIn_40 rfl ?_
          refine r_iload_n F rfl rfl dX8_gapsIn_41 rfl ?_
          refine r_icmp_ge F (tgt := 58) ⟨by omega, by omega⟩ ⟨by omega, by omega⟩ dX8_gapsIn_42 rfl (by decide) (fun h_42 => ?_) (fun h_42 => ?_)
          ·
            refine r_aload_n F rfl rfl dX8_gapsIn_58 rfl ?_
            refine r_getR F f_X8_16 (hB.1) rfl dX8_gapsIn_59 rfl ?_
            refine r_getR F f_X8_177 ((ja_LB_21 hB).1) rfl dX8_gapsIn_62 rfl ?_
            refine r_getI F f_X8_198 (ja_LR_14 (ja_LB_21 hB)) rfl dX8_gapsIn_65 rfl ?_
            refine r_eqz (z := (B_adv m0 (y + 21) k) (y + 21 + 14) 2) (by rfl) ?_
            refine r_iload_n F rfl rfl dX8_gapsIn_68 rfl ?_
            refine r_isub F dX8_gapsIn_69 rfl ?_
            exact r_iret F Rt dX8_gapsIn_70 (by decide) ⟨by rw [if_pos ⟨by omega, by omega⟩, show x.toNat = k by omega], rfl, by rw [if_pos ⟨by omega, by omega⟩, show x.toNat = k by omega], rfl⟩
          ·
            exfalso; omega
        | succ d ih =>
          intro k hk
          refine r_iload_n F rfl rfl dX8_gapsIn_40 rfl ?_
          refine r_iload_n F rfl rfl dX8_gapsIn_41 rfl ?_
          refine r_icmp_ge F (tgt := 58) ⟨by omega, by omega⟩ ⟨by omega, by omega⟩ dX8_gapsIn_42 rfl (by decide) (fun h_42 => ?_) (fun h_42 => ?_)
          ·
            exfalso; omega
          ·
            refine r_aload_n F rfl rfl dX8_gapsIn_45 rfl ?_
            refine r_getR F f_X8_16 (hB.1) rfl dX8_gapsIn_46 rfl ?_
            refine r_callV F G (c_X5_passTick _ _ _ _ (ja_LB_21 hB) (B_adv_RO hF k (by omega)) (by omega)) v_X8_101 rfl ((ja_LB_21 hB).1) rfl (by decide) (by decide) (Nat.le_of_ble_eq_true rfl) rfl dX8_gapsIn_49 rfl (fun v lay' mem' n' hp => ?_)
            obtain ⟨q1, q2, q3, q4⟩ := hp
            subst q1; subst q2; subst q3; subst q4
            refine r_inc3 F (by decide) rfl dX8_gapsIn_52 rfl ?_
            refine r_goto F (tgt := 40) dX8_gapsIn_55 (by decide) ?_
            exact ih (k + 1) (by omega)
      exact loop x.toNat 0 (by omega)
    ·
      refine r_sipush F (by decide) dX8_gapsIn_12 rfl ?_
      exact r_iret F Rt dX8_gapsIn_15 (by decide) ⟨by first | rfl | rw [if_pos (by omega), if_pos (by omega)] | rw [if_pos (by omega), if_neg (by omega)] | rw [if_neg (by omega)] | rw [if_pos (by omega)], rfl, by first | rfl | rw [if_pos (by omega), if_pos (by omega)] | rw [if_pos (by omega), if_neg (by omega)] | rw [if_neg (by omega)] | rw [if_pos (by omega)], rfl⟩
abbrev rm_X8_ticksToGap : Room := { frames := 7, cells := 0, slots := 0, locals := 171 }
set_option maxRecDepth 100000 in
set_option maxHeartbeats 4000000 in
theorem c_X8_ticksToGap (l : Launch) (D : va_G) (cA : Nat → ClassId) (B : Nat) {lay : ja_Y} {mem : ja_M} {n : Nat} {y : Nat} {sl : Nat → Option Nat} {t : Int} (hB : ja_LB lay y sl) (hO : ja_BO mem y sl t) (ht : t ≤ 898000) : ja_Mt l D cA B yX8_ticksToGap cX8_ticksToGap 3 (some .int) rm_X8_ticksToGap [.ref y] lay mem n (ja_rd lay ((B_gap (y + 21) ((R_cp mem (y + 21) (y + 1)) (y + 21 + 14) 2) 1000 0 (R_cp mem (y + 21) (y + 1))).2) n (some (.int (ja_I (B_gap (y + 21) ((R_cp mem (y + 21) (y + 1)) (y + 21 + 14) 2) 1000 0 (R_cp mem (y + 21) (y + 1))).1)))) := by
  refine ja_enter [some (.ref y), none, none] (by decide) (Nat.le_of_ble_eq_true rfl) (fun q hq => hq) (fun C F Rt G hnm => ?_)
  obtain ⟨b1, b2, b3, b4, b5⟩ := id hO
  obtain ⟨g1, g2, g3, g4, g5, g6, g7, g8, g9, g10, g11, g12⟩ := id b1
  obtain ⟨p1, p2, p3, p4, p5, p6⟩ := id g3
  obtain ⟨s0, s1, s2, s3, s4, s5, s6, s7, s8⟩ := id g1
  have tt := g2.1
  have a0 := g4.1
  refine r_aload_n F rfl rfl dX8_ticksToGap_0 rfl ?_
  refine r_getR F f_X8_16 (hB.1) rfl dX8_ticksToGap_1 rfl ?_
  refine r_aload_n F rfl rfl dX8_ticksToGap_4 rfl ?_
  refine r_getR F f_X8_10 (hB.1) rfl dX8_ticksToGap_5 rfl ?_
  refine r_callV F G (c_X5_copyFrom _ _ _ _ (ja_LB_21 hB) (ja_LB_1 hB) b1 (by omega)) v_X8_207 rfl ((ja_LB_21 hB).1) rfl (by decide) (by decide) (Nat.le_of_ble_eq_true rfl) rfl dX8_ticksToGap_8 rfl (fun v lay' mem' n' hp => ?_)
  obtain ⟨q1, q2, q3, q4⟩ := hp
  subst q1; subst q2; subst q3; subst q4
  obtain ⟨t2, b2⟩ := b2
  have hF := R_cp_RO b1 b2 (by omega)
  generalize hm0 : R_cp mem (y + 21) (y + 1) = m0 at *
  have f12 := hF.2.2.2.2.2.2.2.2.2.2.2
  have f3 := hF.2.2.1.2.2.1
  refine r_aload_n F rfl rfl dX8_ticksToGap_11 rfl ?_
  refine r_getR F f_X8_16 (hB.1) rfl dX8_ticksToGap_12 rfl ?_
  refine r_getR F f_X8_177 ((ja_LB_21 hB).1) rfl dX8_ticksToGap_15 rfl ?_
  refine r_getI F f_X8_198 (ja_LR_14 (ja_LB_21 hB)) rfl dX8_ticksToGap_18 rfl ?_
  refine r_eqz (z := m0 (y + 21 + 14) 2) (by rfl) ?_
  refine r_ist1 F (by decide) rfl dX8_ticksToGap_21 rfl ?_
  refine r_iconst F dX8_ticksToGap_22 rfl ?_
  refine r_ist2 F (by decide) rfl dX8_ticksToGap_23 rfl ?_
  have loop : ∀ (d k : Nat) (m : ja_M), k + d = 1000 → ja_RO m (y + 21) (t + k) → B_gap (y + 21) (m0 (y + 21 + 14) 2) d k m = B_gap (y + 21) (m0 (y + 21 + 14) 2) 1000 0 m0 → ja_W C 0 0 lay m n 24 [some (.ref y), some (.int (ja_I (m0 (y + 21 + 14) 2))), some (.int (ja_I (k : Int)))] [] := by
    intro d
    induction d with
    | zero =>
      intro k m hk hM hl
      refine r_iload_n F rfl rfl dX8_ticksToGap_24 rfl ?_
      refine r_sipush F (by decide) dX8_ticksToGap_25 rfl ?_
      refine r_icmp_ge F (tgt := 60) ⟨by omega, by omega⟩ ⟨by omega, by omega⟩ dX8_ticksToGap_28 rfl (by decide) (fun h_28 => ?_) (fun h_28 => ?_)
      ·
        refine r_sipush F (by decide) dX8_ticksToGap_60 rfl ?_
        exact r_iret F Rt dX8_ticksToGap_63 (by decide) ⟨by rw [← hl]; rfl, rfl, by rw [← hl]; rfl, rfl⟩
      ·
        exfalso; omega
    | succ d ih =>
      intro k m hk hM hl
      have hT := R_tk_RO hM (by omega)
      have h12 := hT.2.2.2.2.2.2.2.2.2.2.2
      have h3 := hT.2.2.1.2.2.1
      refine r_iload_n F rfl rfl dX8_ticksToGap_24 rfl ?_
      refine r_sipush F (by decide) dX8_ticksToGap_25 rfl ?_
      refine r_icmp_ge F (tgt := 60) ⟨by omega, by omega⟩ ⟨by omega, by omega⟩ dX8_ticksToGap_28 rfl (by decide) (fun h_28 => ?_) (fun h_28 => ?_)
      ·
        exfalso; omega
      ·
        refine r_aload_n F rfl rfl dX8_ticksToGap_31 rfl ?_
        refine r_getR F f_X8_16 (hB.1) rfl dX8_ticksToGap_32 rfl ?_
        refine r_callV F G (c_X5_passTick _ _ _ _ (ja_LB_21 hB) hM (by omega)) v_X8_101 rfl ((ja_LB_21 hB).1) rfl (by decide) (by decide) (Nat.le_of_ble_eq_true rfl) rfl dX8_ticksToGap_35 rfl (fun v lay' mem' n' hp => ?_)
        obtain ⟨q1, q2, q3, q4⟩ := hp
        subst q1; subst q2; subst q3; subst q4
        refine r_aload_n F rfl rfl dX8_ticksToGap_38 rfl ?_
        refine r_getR F f_X8_16 (hB.1) rfl dX8_ticksToGap_39 rfl ?_
        refine r_getR F f_X8_177 ((ja_LB_21 hB).1) rfl dX8_ticksToGap_42 rfl ?_
        refine r_getI F f_X8_198 (ja_LR_14 (ja_LB_21 hB)) rfl dX8_ticksToGap_45 rfl ?_
        refine r_eqz (z := (R_tk m (y + 21)) (y + 21 + 14) 2) (by rfl) ?_
        refine r_iload_n F rfl rfl dX8_ticksToGap_48 rfl ?_
        refine r_icmp_le F (tgt := 54) ⟨by omega, by omega⟩ ⟨by omega, by omega⟩ dX8_ticksToGap_49 rfl (by decide) (fun h_49 => ?_) (fun h_49 => ?_)
        ·
          refine r_inc2 F (by decide) rfl dX8_ticksToGap_54 rfl ?_
          refine r_goto F (tgt := 24) dX8_ticksToGap_57 (by decide) ?_
          exact ih (k + 1) _ (by omega) (by rw [show t + ((k + 1 : Nat) : Int) = t + k + 1 by omega]; exact hT) (by rw [← hl]; simp only [B_gap]; rw [if_neg (by omega)])
        ·
          refine r_iload_n F rfl rfl dX8_ticksToGap_52 rfl ?_
          exact r_iret F Rt dX8_ticksToGap_53 (by decide) ⟨by rw [← hl]; simp only [B_gap]; rw [if_pos (by omega)], rfl, by rw [← hl]; simp only [B_gap]; rw [if_pos (by omega)], rfl⟩
  exact loop 1000 0 m0 (by omega) (by rw [show t + ((0 : Nat) : Int) = t by omega]; exact hF) rfl
abbrev rm_X8_ticksToFrame : Room := { frames := 7, cells := 0, slots := 0, locals := 171 }
set_option maxRecDepth 100000 in
set_option maxHeartbeats 4000000 in
theorem c_X8_ticksToFrame (l : Launch) (D : va_G) (cA : Nat → ClassId) (B : Nat) {lay : ja_Y} {mem : ja_M} {n : Nat} {x : Int} {y : Nat} {sl : Nat → Option Nat} {t : Int} (hB : ja_LB lay y sl) (hO : ja_BO mem y sl t) (hx : ja_in x) (ht : t ≤ 898000) : ja_Mt l D cA B yX8_ticksToFrame cX8_ticksToFrame 3 (some .int) rm_X8_ticksToFrame [.ref y, .int (ja_I x)] lay mem n (ja_tf lay mem n y x) := by
  refine ja_enter [some (.ref y), some (.int (ja_I x)), none] (by decide) (Nat.le_of_ble_eq_true rfl) (fun q hq => hq) (fun C F Rt G hnm => ?_)
  obtain ⟨b1, b2, b3, b4, b5⟩ := id hO
  obtain ⟨g1, g2, g3, g4, g5, g6, g7, g8, g9, g10, g11, g12⟩ := id b1
  obtain ⟨p1, p2, p3, p4, p5, p6⟩ := id g3
  obtain ⟨s0, s1, s2, s3, s4, s5, s6, s7, s8⟩ := id g1
  have tt := g2.1
  have a0 := g4.1
  obtain ⟨x1_, x2_⟩ := id hx
  have hbf : ja_b (B_isF x) = 0 ↔ ¬ B_isF x := by unfold ja_b; split <;> simp_all
  have hbr : 0 ≤ ja_b (B_isF x) ∧ ja_b (B_isF x) ≤ 1 := by unfold ja_b; split <;> omega
  refine r_iload_n F rfl rfl dX8_ticksToFrame_0 rfl ?_
  refine r_callS F G (c_X8_isFrame _ _ _ _ hx) s_X8_76 rfl (by decide) (by decide) (Nat.le_of_ble_eq_true rfl) rfl dX8_ticksToFrame_1 rfl (fun v lay' mem' n' hp => ?_)
  obtain ⟨q1, q2, q3, q4⟩ := hp
  subst q1; subst q2; subst q3; subst q4
  refine r_if_ne F (tgt := 11) ⟨by omega, by omega⟩ dX8_ticksToFrame_4 rfl (by decide) (fun h_4 => ?_) (fun h_4 => ?_)
  ·
    have hx4 : B_isF x := (Decidable.byContradiction fun q => h_4 (hbf.mpr q))
    refine r_iload_n F rfl rfl dX8_ticksToFrame_11 rfl ?_
    refine r_aload_n F rfl rfl dX8_ticksToFrame_12 rfl ?_
    refine r_getR F f_X8_10 (hB.1) rfl dX8_ticksToFrame_13 rfl ?_
    refine r_getR F f_X8_92 ((ja_LB_1 hB).1) rfl dX8_ticksToFrame_16 rfl ?_
    refine r_getI F f_X8_120 ((ja_LR_9 (ja_LB_1 hB)).1) rfl dX8_ticksToFrame_19 rfl ?_
    refine r_icmp_ge F (tgt := 29) ⟨by omega, by omega⟩ ⟨by omega, by omega⟩ dX8_ticksToFrame_22 rfl (by decide) (fun h_22 => ?_) (fun h_22 => ?_)
    ·
      refine r_aload_n F rfl rfl dX8_ticksToFrame_29 rfl ?_
      refine r_getR F f_X8_16 (hB.1) rfl dX8_ticksToFrame_30 rfl ?_
      refine r_aload_n F rfl rfl dX8_ticksToFrame_33 rfl ?_
      refine r_getR F f_X8_10 (hB.1) rfl dX8_ticksToFrame_34 rfl ?_
      refine r_callV F G (c_X5_copyFrom _ _ _ _ (ja_LB_21 hB) (ja_LB_1 hB) b1 (by omega)) v_X8_207 rfl ((ja_LB_21 hB).1) rfl (by decide) (by decide) (Nat.le_of_ble_eq_true rfl) rfl dX8_ticksToFrame_37 rfl (fun v lay' mem' n' hp => ?_)
      obtain ⟨q1, q2, q3, q4⟩ := hp
      subst q1; subst q2; subst q3; subst q4
      obtain ⟨t2, b2⟩ := b2
      have hF := R_cp_RO b1 b2 (by omega)
      generalize hm0 : R_cp mem (y + 21) (y + 1) = m0 at *
      have f12 := hF.2.2.2.2.2.2.2.2.2.2.2
      have f3 := hF.2.2.1.2.2.1
      refine r_iconst F dX8_ticksToFrame_40 rfl ?_
      refine r_ist2 F (by decide) rfl dX8_ticksToFrame_41 rfl ?_
      have loop : ∀ (d k : Nat) (m : ja_M), k + d = 2000 → ja_RO m (y + 21) (t + k) → B_fra (y + 21) x d k m = B_fra (y + 21) x 2000 0 m0 → ja_W C 0 0 lay m n 42 [some (.ref y), some (.int (ja_I x)), some (.int (ja_I (k : Int)))] [] := by
        intro d
        induction d with
        | zero =>
          intro k m hk hM hl
          refine r_iload_n F rfl rfl dX8_ticksToFrame_42 rfl ?_
          refine r_sipush F (by decide) dX8_ticksToFrame_43 rfl ?_
          refine r_icmp_ge F (tgt := 78) ⟨by omega, by omega⟩ ⟨by omega, by omega⟩ dX8_ticksToFrame_46 rfl (by decide) (fun h_46 => ?_) (fun h_46 => ?_)
          ·
            refine r_sipush F (by decide) dX8_ticksToFrame_78 rfl ?_
            exact r_iret F Rt dX8_ticksToFrame_81 (by decide) ⟨by rw [if_pos hx4, if_neg (by omega), hm0]; rw [← hl]; rfl, rfl, by rw [if_pos hx4, if_neg (by omega), hm0]; rw [← hl]; rfl, rfl⟩
          ·
            exfalso; omega
        | succ d ih =>
          intro k m hk hM hl
          have hT := R_tk_RO hM (by omega)
          have h3 := hT.2.2.1.2.2.1
          refine r_iload_n F rfl rfl dX8_ticksToFrame_42 rfl ?_
          refine r_sipush F (by decide) dX8_ticksToFrame_43 rfl ?_
          refine r_icmp_ge F (tgt := 78) ⟨by omega, by omega⟩ ⟨by omega, by omega⟩ dX8_ticksToFrame_46 rfl (by decide) (fun h_46 => ?_) (fun h_46 => ?_)
          ·
            exfalso; omega
          ·
            refine r_aload_n F rfl rfl dX8_ticksToFrame_49 rfl ?_
            refine r_getR F f_X8_16 (hB.1) rfl dX8_ticksToFrame_50 rfl ?_
            refine r_callV F G (c_X5_passTick _ _ _ _ (ja_LB_21 hB) hM (by omega)) v_X8_101 rfl ((ja_LB_21 hB).1) rfl (by decide) (by decide) (Nat.le_of_ble_eq_true rfl) rfl dX8_ticksToFrame_53 rfl (fun v lay' mem' n' hp => ?_)
            obtain ⟨q1, q2, q3, q4⟩ := hp
            subst q1; subst q2; subst q3; subst q4
            refine r_aload_n F rfl rfl dX8_ticksToFrame_56 rfl ?_
            refine r_getR F f_X8_16 (hB.1) rfl dX8_ticksToFrame_57 rfl ?_
            refine r_getR F f_X8_92 ((ja_LB_21 hB).1) rfl dX8_ticksToFrame_60 rfl ?_
            refine r_getI F f_X8_120 ((ja_LR_9 (ja_LB_21 hB)).1) rfl dX8_ticksToFrame_63 rfl ?_
            refine r_eqz (z := (R_tk m (y + 21)) (y + 21 + 9) 6) (by rfl) ?_
            refine r_iload_n F rfl rfl dX8_ticksToFrame_66 rfl ?_
            refine r_icmp_le F (tgt := 72) ⟨by omega, by omega⟩ ⟨by omega, by omega⟩ dX8_ticksToFrame_67 rfl (by decide) (fun h_67 => ?_) (fun h_67 => ?_)
            ·
              refine r_inc2 F (by decide) rfl dX8_ticksToFrame_72 rfl ?_
              refine r_goto F (tgt := 42) dX8_ticksToFrame_75 (by decide) ?_
              exact ih (k + 1) _ (by omega) (by rw [show t + ((k + 1 : Nat) : Int) = t + k + 1 by omega]; exact hT) (by rw [← hl]; simp only [B_fra]; rw [if_neg (by omega)])
            ·
              refine r_iload_n F rfl rfl dX8_ticksToFrame_70 rfl ?_
              exact r_iret F Rt dX8_ticksToFrame_71 (by decide) ⟨by rw [if_pos hx4, if_neg (by omega), hm0]; rw [← hl]; simp only [B_fra]; rw [if_pos (by omega)], rfl, by rw [if_pos hx4, if_neg (by omega), hm0]; rw [← hl]; simp only [B_fra]; rw [if_pos (by omega)], rfl⟩
      exact loop 2000 0 m0 (by omega) (by rw [show t + ((0 : Nat) : Int) = t by omega]; exact hF) rfl
    ·
      refine r_sipush F (by decide) dX8_ticksToFrame_25 rfl ?_
      exact r_iret F Rt dX8_ticksToFrame_28 (by decide) ⟨by rw [if_pos hx4, if_pos (by omega)], rfl, by rw [if_pos hx4, if_pos (by omega)], rfl⟩
  ·
    refine r_sipush F (by decide) dX8_ticksToFrame_7 rfl ?_
    exact r_iret F Rt dX8_ticksToFrame_10 (by decide) ⟨by rw [if_neg (hbf.mp h_4)], rfl, by rw [if_neg (hbf.mp h_4)], rfl⟩
