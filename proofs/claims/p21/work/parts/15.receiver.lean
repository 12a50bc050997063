abbrev rm_X5_hasBegun : Room := { frames := 0, cells := 0, slots := 0, locals := 0 }
set_option maxRecDepth 100000 in
set_option maxHeartbeats 4000000 in
theorem c_X5_hasBegun (l : Launch) (D : va_G) (cA : Nat → ClassId) (B : Nat) {lay : ja_Y} {mem : ja_M} {n : Nat} {b : Nat} {t : Int} (hR : ja_LR lay b) (hO : ja_RO mem b t)  : ja_Mt l D cA B yX5_hasBegun cX5_hasBegun 1 (some .boolean) rm_X5_hasBegun [.ref b] lay mem n (ja_rd lay mem n (some (.int (ja_I (ja_b (¬ mem b 7 = 0 ∨ 0 < mem (b + 15) 4)))))) := by
  refine ja_enter [some (.ref b)] (by decide) (Nat.le_of_ble_eq_true rfl) (fun q hq => hq) (fun C F Rt G hnm => ?_)
  have hO2 := hO
  obtain ⟨g1, g2, g3, g4, g5, g6, g7, g8, g9, g10, g11, g12⟩ := hO2
  have s0 := g1
  obtain ⟨s0, s1, s2, s3, s4, s5, s6, s7, s8⟩ := s0
  have p0 := g3
  obtain ⟨p1, p2, p3, p4, p5, p6⟩ := p0
  have a0 := g4.1
  refine r_aload_n F rfl rfl dX5_hasBegun_0 rfl ?_
  refine r_getI F f_X5_76 (hR.1) rfl dX5_hasBegun_1 rfl ?_
  refine r_if_ne F (tgt := 17) ⟨by omega, by omega⟩ dX5_hasBegun_4 rfl (by decide) (fun h_4 => ?_) (fun h_4 => ?_)
  ·
    refine r_iconst F dX5_hasBegun_17 rfl ?_
    refine r_goto F (tgt := 22) dX5_hasBegun_18 (by decide) ?_
    exact r_zret F Rt (by omega) dX5_hasBegun_22 (by decide) ⟨by unfold ja_b; first | rw [if_pos (by omega)] | rw [if_neg (by omega)], rfl, rfl, rfl⟩
  ·
    refine r_aload_n F rfl rfl dX5_hasBegun_7 rfl ?_
    refine r_getR F f_X5_49 (hR.1) rfl dX5_hasBegun_8 rfl ?_
    refine r_getI F f_X5_83 ((ja_LR_15 hR).1) rfl dX5_hasBegun_11 rfl ?_
    refine r_if_le F (tgt := 21) ⟨by omega, by omega⟩ dX5_hasBegun_14 rfl (by decide) (fun h_14 => ?_) (fun h_14 => ?_)
    ·
      refine r_iconst F dX5_hasBegun_21 rfl ?_
      exact r_zret F Rt (by omega) dX5_hasBegun_22 (by decide) ⟨by unfold ja_b; first | rw [if_pos (by omega)] | rw [if_neg (by omega)], rfl, rfl, rfl⟩
    ·
      refine r_iconst F dX5_hasBegun_17 rfl ?_
      refine r_goto F (tgt := 22) dX5_hasBegun_18 (by decide) ?_
      exact r_zret F Rt (by omega) dX5_hasBegun_22 (by decide) ⟨by unfold ja_b; first | rw [if_pos (by omega)] | rw [if_neg (by omega)], rfl, rfl, rfl⟩
abbrev rm_X5_targetNow : Room := { frames := 1, cells := 0, slots := 0, locals := 21 }
set_option maxRecDepth 100000 in
set_option maxHeartbeats 4000000 in
theorem c_X5_targetNow (l : Launch) (D : va_G) (cA : Nat → ClassId) (B : Nat) {lay : ja_Y} {mem : ja_M} {n : Nat} {b : Nat} (hR : ja_LR lay b) (hS : ja_SO mem (b + 1)) (hT : ja_TO mem (b + 6)) : ja_Mt l D cA B yX5_targetNow cX5_targetNow 1 (some .int) rm_X5_targetNow [.ref b] lay mem n (ja_rd lay mem n (some (.int (ja_I (R_tg mem b))))) := by
  refine ja_enter [some (.ref b)] (by decide) (Nat.le_of_ble_eq_true rfl) (fun q hq => hq) (fun C F Rt G hnm => ?_)
  have hq := hS.2.2.2.2.2.2.1
  refine r_aload_n F rfl rfl dX5_targetNow_0 rfl ?_
  refine r_getR F f_X5_28 (hR.1) rfl dX5_targetNow_1 rfl ?_
  refine r_aload_n F rfl rfl dX5_targetNow_4 rfl ?_
  refine r_getR F f_X5_12 (hR.1) rfl dX5_targetNow_5 rfl ?_
  refine r_getI F f_X5_86 (ja_LR_1 hR) rfl dX5_targetNow_8 rfl ?_
  refine r_callV F G (c_X7_spread _ _ _ _ (ja_LR_6 hR) hT hq) v_X5_89 rfl ((ja_LR_6 hR).1) rfl (by decide) (by decide) (Nat.le_of_ble_eq_true rfl) rfl dX5_targetNow_11 rfl (fun v lay' mem' n' hp => ?_)
  obtain ⟨q1, q2, q3, q4⟩ := hp
  subst q1; subst q2; subst q3; subst q4
  refine r_aload_n F rfl rfl dX5_targetNow_14 rfl ?_
  refine r_getR F f_X5_12 (hR.1) rfl dX5_targetNow_15 rfl ?_
  refine r_getI F f_X5_93 (ja_LR_1 hR) rfl dX5_targetNow_18 rfl ?_
  refine r_iadd F dX5_targetNow_21 rfl ?_
  exact r_iret F Rt dX5_targetNow_22 (by decide) ⟨rfl, rfl, rfl, rfl⟩
abbrev rm_X5_levelFrom : Room := { frames := 3, cells := 0, slots := 0, locals := 67 }
set_option maxRecDepth 100000 in
set_option maxHeartbeats 4000000 in
theorem c_X5_levelFrom (l : Launch) (D : va_G) (cA : Nat → ClassId) (B : Nat) {lay : ja_Y} {mem : ja_M} {n : Nat} {b : Nat} {x : Int} (hR : ja_LR lay b) (hS : ja_SO mem (b + 1)) (hx : 0 ≤ x ∧ x ≤ 1000) : ja_Mt l D cA B yX5_levelFrom cX5_levelFrom 2 (some .int) rm_X5_levelFrom [.ref b, .int (ja_I x)] lay mem n (ja_rd lay mem n (some (.int (ja_I (R_lv mem b x))))) := by
  refine ja_enter [some (.ref b), some (.int (ja_I x))] (by decide) (Nat.le_of_ble_eq_true rfl) (fun q hq => hq) (fun C F Rt G hnm => ?_)
  refine r_aload_n F rfl rfl dX5_levelFrom_0 rfl ?_
  refine r_getR F f_X5_12 (hR.1) rfl dX5_levelFrom_1 rfl ?_
  refine r_getI F f_X5_96 (ja_LR_1 hR) rfl dX5_levelFrom_4 rfl ?_
  refine r_aload_n F rfl rfl dX5_levelFrom_7 rfl ?_
  refine r_getR F f_X5_21 (hR.1) rfl dX5_levelFrom_8 rfl ?_
  refine r_aload_n F rfl rfl dX5_levelFrom_11 rfl ?_
  refine r_getR F f_X5_12 (hR.1) rfl dX5_levelFrom_12 rfl ?_
  refine r_iload_n F rfl rfl dX5_levelFrom_15 rfl ?_
  refine r_callV F G (c_X3_knownFrom _ _ _ _ (ja_LR_2 hR) (ja_LR_1 hR) hS hx) v_X5_99 rfl ((ja_LR_2 hR).1) rfl (by decide) (by decide) (Nat.le_of_ble_eq_true rfl) rfl dX5_levelFrom_16 rfl (fun v lay' mem' n' hp => ?_)
  obtain ⟨q1, q2, q3, q4⟩ := hp
  subst q1; subst q2; subst q3; subst q4
  refine r_imul F dX5_levelFrom_19 rfl ?_
  exact r_iret F Rt dX5_levelFrom_20 (by decide) ⟨rfl, rfl, rfl, rfl⟩
abbrev rm_X5_startOnce : Room := { frames := 0, cells := 0, slots := 0, locals := 0 }
set_option maxRecDepth 100000 in
set_option maxHeartbeats 4000000 in
theorem c_X5_startOnce (l : Launch) (D : va_G) (cA : Nat → ClassId) (B : Nat) {lay : ja_Y} {mem : ja_M} {n : Nat} {b : Nat} {t : Int} (hR : ja_LR lay b) (hO : ja_RO mem b t)  : ja_Mt l D cA B yX5_startOnce cX5_startOnce 1 none rm_X5_startOnce [.ref b] lay mem n (ja_rd lay (R_so mem b) n (none)) := by
  refine ja_enter [some (.ref b)] (by decide) (Nat.le_of_ble_eq_true rfl) (fun q hq => hq) (fun C F Rt G hnm => ?_)
  have hO2 := hO
  obtain ⟨g1, g2, g3, g4, g5, g6, g7, g8, g9, g10, g11, g12⟩ := hO2
  have s0 := g1
  obtain ⟨s0, s1, s2, s3, s4, s5, s6, s7, s8⟩ := s0
  have p0 := g3
  obtain ⟨p1, p2, p3, p4, p5, p6⟩ := p0
  have a0 := g4.1
  refine r_aload_n F rfl rfl dX5_startOnce_0 rfl ?_
  refine r_getI F f_X5_76 (hR.1) rfl dX5_startOnce_1 rfl ?_
  refine r_if_ne F (tgt := 28) ⟨by omega, by omega⟩ dX5_startOnce_4 rfl (by decide) (fun h_4 => ?_) (fun h_4 => ?_)
  ·
    exact r_vret F Rt dX5_startOnce_28 (by decide) ⟨rfl, rfl, by unfold R_so; first | rw [if_pos (by omega)] | rw [if_neg (by omega)], rfl⟩
  ·
    refine r_aload_n F rfl rfl dX5_startOnce_7 rfl ?_
    refine r_iconst F dX5_startOnce_8 rfl ?_
    refine r_putZ F (by omega) f_X5_76 (hR.1) rfl dX5_startOnce_9 rfl ?_
    refine r_aload_n F rfl rfl dX5_startOnce_12 rfl ?_
    refine r_aload_n F rfl rfl dX5_startOnce_13 rfl ?_
    refine r_getI F f_X5_72 (hR.1) rfl dX5_startOnce_14 rfl ?_
    refine r_eqz (z := mem b 6) (by simp [ja_up]) ?_
    refine r_aload_n F rfl rfl dX5_startOnce_17 rfl ?_
    refine r_getR F f_X5_12 (hR.1) rfl dX5_startOnce_18 rfl ?_
    refine r_getI F f_X5_153 (ja_LR_1 hR) rfl dX5_startOnce_21 rfl ?_
    refine r_eqz (z := mem (b + 1) 5) (by simp [ja_up]) ?_
    refine r_iadd F dX5_startOnce_24 rfl ?_
    refine r_putI F f_X5_80 (hR.1) rfl dX5_startOnce_25 rfl ?_
    exact r_vret F Rt dX5_startOnce_28 (by decide) ⟨rfl, rfl, by unfold R_so; first | rw [if_pos (by omega)] | rw [if_neg (by omega)], rfl⟩
abbrev rm_X5_acceptFrame : Room := { frames := 4, cells := 0, slots := 0, locals := 107 }
set_option maxRecDepth 100000 in
set_option maxHeartbeats 4000000 in
theorem c_X5_acceptFrame (l : Launch) (D : va_G) (cA : Nat → ClassId) (B : Nat) {lay : ja_Y} {mem : ja_M} {n : Nat} {b : Nat} {t : Int} {x : Int} (hR : ja_LR lay b) (hO : ja_RO mem b t) (ht : t ≤ 900000) (hx : 0 ≤ x ∧ x ≤ 999) : ja_Mt l D cA B yX5_acceptFrame cX5_acceptFrame 2 (some .int) rm_X5_acceptFrame [.ref b, .int (ja_I x)] lay mem n (ja_rd lay (R_af mem b x) n (some (.int (ja_I (R_an mem b x))))) := by
  refine ja_enter [some (.ref b), some (.int (ja_I x))] (by decide) (Nat.le_of_ble_eq_true rfl) (fun q hq => hq) (fun C F Rt G hnm => ?_)
  have hO2 := hO
  obtain ⟨g1, g2, g3, g4, g5, g6, g7, g8, g9, g10, g11, g12⟩ := hO2
  have s0 := g1
  obtain ⟨s0, s1, s2, s3, s4, s5, s6, s7, s8⟩ := s0
  have p0 := g3
  obtain ⟨p1, p2, p3, p4, p5, p6⟩ := p0
  have a0 := g4.1
  have hsO := R_so_RO hO
  have hAO := R_ad_RO hO ht hx
  have hLO := R_lt_RO (x := x) hAO
  have hKO := R_kn_RO hO ht hx
  have hfr := ja_frame hsO hx
  have hs6 := hsO.2.2.2.2.2.1
  have hA6 := hAO.2.2.1.2.2.1
  have hKc := hKO.1.cells
  have hKb := ja_blk hKO.1 hx
  have hst := @F_st_in mem (b + 1) (b + 2) x
  refine r_aload_n F rfl rfl dX5_acceptFrame_0 rfl ?_
  refine r_getR F f_X5_21 (hR.1) rfl dX5_acceptFrame_1 rfl ?_
  refine r_aload_n F rfl rfl dX5_acceptFrame_4 rfl ?_
  refine r_getR F f_X5_12 (hR.1) rfl dX5_acceptFrame_5 rfl ?_
  refine r_iload_n F rfl rfl dX5_acceptFrame_8 rfl ?_
  refine r_callV F G (c_X3_stateOf _ _ _ _ (ja_LR_2 hR) (ja_LR_1 hR) g1 hx) v_X5_103 rfl ((ja_LR_2 hR).1) rfl (by decide) (by decide) (Nat.le_of_ble_eq_true rfl) rfl dX5_acceptFrame_9 rfl (fun v lay' mem' n' hp => ?_)
  obtain ⟨q1, q2, q3, q4⟩ := hp
  subst q1; subst q2; subst q3; subst q4
  refine r_if_eq F (tgt := 30) ⟨by omega, by omega⟩ dX5_acceptFrame_12 rfl (by decide) (fun h_12 => ?_) (fun h_12 => ?_)
  ·
    refine r_aload_n F rfl rfl dX5_acceptFrame_30 rfl ?_
    refine r_callV F G (c_X5_startOnce _ _ _ _ hR hO) v_X5_109 rfl (hR.1) rfl (by decide) (by decide) (Nat.le_of_ble_eq_true rfl) rfl dX5_acceptFrame_31 rfl (fun v lay' mem' n' hp => ?_)
    obtain ⟨q1, q2, q3, q4⟩ := hp
    subst q1; subst q2; subst q3; subst q4
    refine r_aload_n F rfl rfl dX5_acceptFrame_34 rfl ?_
    refine r_getR F f_X5_28 (hR.1) rfl dX5_acceptFrame_35 rfl ?_
    refine r_aload_n F rfl rfl dX5_acceptFrame_38 rfl ?_
    refine r_getI F f_X5_72 (hR.1) rfl dX5_acceptFrame_39 rfl ?_
    refine r_iload_n F rfl rfl dX5_acceptFrame_42 rfl ?_
    refine r_aload_n F rfl rfl dX5_acceptFrame_43 rfl ?_
    refine r_getR F f_X5_12 (hR.1) rfl dX5_acceptFrame_44 rfl ?_
    refine r_getI F f_X5_96 (ja_LR_1 hR) rfl dX5_acceptFrame_47 rfl ?_
    refine r_imul F dX5_acceptFrame_50 rfl ?_
    refine r_isub F dX5_acceptFrame_51 rfl ?_
    refine r_callV F G (c_X7_add _ _ _ _ (ja_LR_6 hR) hsO.2.1 ⟨by omega, by omega⟩) v_X5_112 rfl ((ja_LR_6 hR).1) rfl (by decide) (by decide) (Nat.le_of_ble_eq_true rfl) rfl dX5_acceptFrame_52 rfl (fun v lay' mem' n' hp => ?_)
    obtain ⟨q1, q2, q3, q4⟩ := hp
    subst q1; subst q2; subst q3; subst q4
    refine r_mem (mem' := R_ad mem b x) rfl ?_
    refine r_iload_n F rfl rfl dX5_acceptFrame_55 rfl ?_
    refine r_aload_n F rfl rfl dX5_acceptFrame_56 rfl ?_
    refine r_getR F f_X5_35 (hR.1) rfl dX5_acceptFrame_57 rfl ?_
    refine r_getI F f_X5_116 ((ja_LR_9 hR).1) rfl dX5_acceptFrame_60 rfl ?_
    refine r_icmp_ge F (tgt := 79) ⟨by omega, by omega⟩ ⟨by omega, by omega⟩ dX5_acceptFrame_63 rfl (by decide) (fun h_63 => ?_) (fun h_63 => ?_)
    ·
      refine r_mem (mem' := R_lt (R_ad mem b x) b x) (by unfold R_lt; first | rw [if_pos (by omega)] | rw [if_neg (by omega)]) ?_
      refine r_aload_n F rfl rfl dX5_acceptFrame_79 rfl ?_
      refine r_getR F f_X5_21 (hR.1) rfl dX5_acceptFrame_80 rfl ?_
      refine r_aload_n F rfl rfl dX5_acceptFrame_83 rfl ?_
      refine r_getR F f_X5_12 (hR.1) rfl dX5_acceptFrame_84 rfl ?_
      refine r_iload_n F rfl rfl dX5_acceptFrame_87 rfl ?_
      refine r_callV F G (c_X3_addFrame _ _ _ _ (ja_LR_2 hR) (ja_LR_1 hR) hLO.1 hx (by omega)) v_X5_122 rfl ((ja_LR_2 hR).1) rfl (by decide) (by decide) (Nat.le_of_ble_eq_true rfl) rfl dX5_acceptFrame_88 rfl (fun v lay' mem' n' hp => ?_)
      obtain ⟨q1, q2, q3, q4⟩ := hp
      subst q1; subst q2; subst q3; subst q4
      refine r_mem (mem' := R_kn mem b x) rfl ?_
      refine r_iconst F dX5_acceptFrame_91 rfl ?_
      refine r_aload_n F rfl rfl dX5_acceptFrame_92 rfl ?_
      refine r_getR F f_X5_21 (hR.1) rfl dX5_acceptFrame_93 rfl ?_
      refine r_aload_n F rfl rfl dX5_acceptFrame_96 rfl ?_
      refine r_getR F f_X5_12 (hR.1) rfl dX5_acceptFrame_97 rfl ?_
      refine r_iload_n F rfl rfl dX5_acceptFrame_100 rfl ?_
      refine r_aload_n F rfl rfl dX5_acceptFrame_101 rfl ?_
      refine r_getR F f_X5_12 (hR.1) rfl dX5_acceptFrame_102 rfl ?_
      refine r_callV F G (c_X6_cells _ _ _ _ (ja_LR_1 hR)) v_X5_126 rfl (ja_LR_1 hR) rfl (by decide) (by decide) (Nat.le_of_ble_eq_true rfl) rfl dX5_acceptFrame_105 rfl (fun v lay' mem' n' hp => ?_)
      obtain ⟨q1, q2, q3, q4⟩ := hp
      subst q1; subst q2; subst q3; subst q4
      refine r_idivP F ⟨by omega, by omega⟩ ⟨by omega, by omega⟩ (by omega) (by omega) dX5_acceptFrame_108 rfl ?_
      refine r_callV F G (c_X3_restoreIn _ _ _ _ (ja_LR_2 hR) (ja_LR_1 hR) hKO.1 ⟨hKb.1.1, Int.ediv_le_ediv (by omega) hx.2⟩) v_X5_130 rfl ((ja_LR_2 hR).1) rfl (by decide) (by decide) (Nat.le_of_ble_eq_true rfl) rfl dX5_acceptFrame_109 rfl (fun v lay' mem' n' hp => ?_)
      obtain ⟨q1, q2, q3, q4⟩ := hp
      subst q1; subst q2; subst q3; subst q4
      refine r_iadd F dX5_acceptFrame_112 rfl ?_
      exact r_iret F Rt dX5_acceptFrame_113 (by decide) ⟨by rw [R_an, if_pos h_12]; rfl, rfl, by rw [R_af, if_pos h_12]; rfl, rfl⟩
    ·
      refine r_aload_n F rfl rfl dX5_acceptFrame_66 rfl ?_
      refine r_getR F f_X5_42 (hR.1) rfl dX5_acceptFrame_67 rfl ?_
      refine r_dup F rfl dX5_acceptFrame_70 rfl ?_
      refine r_getI F f_X5_119 (ja_LR_14 hR) rfl dX5_acceptFrame_71 rfl ?_
      refine r_iconst F dX5_acceptFrame_74 rfl ?_
      refine r_iadd F dX5_acceptFrame_75 rfl ?_
      refine r_putI F f_X5_119 (ja_LR_14 hR) rfl dX5_acceptFrame_76 rfl ?_
      refine r_mem (mem' := R_lt (R_ad mem b x) b x) (by unfold R_lt; first | rw [if_pos (by omega)] | rw [if_neg (by omega)]) ?_
      refine r_aload_n F rfl rfl dX5_acceptFrame_79 rfl ?_
      refine r_getR F f_X5_21 (hR.1) rfl dX5_acceptFrame_80 rfl ?_
      refine r_aload_n F rfl rfl dX5_acceptFrame_83 rfl ?_
      refine r_getR F f_X5_12 (hR.1) rfl dX5_acceptFrame_84 rfl ?_
      refine r_iload_n F rfl rfl dX5_acceptFrame_87 rfl ?_
      refine r_callV F G (c_X3_addFrame _ _ _ _ (ja_LR_2 hR) (ja_LR_1 hR) hLO.1 hx (by omega)) v_X5_122 rfl ((ja_LR_2 hR).1) rfl (by decide) (by decide) (Nat.le_of_ble_eq_true rfl) rfl dX5_acceptFrame_88 rfl (fun v lay' mem' n' hp => ?_)
      obtain ⟨q1, q2, q3, q4⟩ := hp
      subst q1; subst q2; subst q3; subst q4
      refine r_mem (mem' := R_kn mem b x) rfl ?_
      refine r_iconst F dX5_acceptFrame_91 rfl ?_
      refine r_aload_n F rfl rfl dX5_acceptFrame_92 rfl ?_
      refine r_getR F f_X5_21 (hR.1) rfl dX5_acceptFrame_93 rfl ?_
      refine r_aload_n F rfl rfl dX5_acceptFrame_96 rfl ?_
      refine r_getR F f_X5_12 (hR.1) rfl dX5_acceptFrame_97 rfl ?_
      refine r_iload_n F rfl rfl dX5_acceptFrame_100 rfl ?_
      refine r_aload_n F rfl rfl dX5_acceptFrame_101 rfl ?_
      refine r_getR F f_X5_12 (hR.1) rfl dX5_acceptFrame_102 rfl ?_
      refine r_callV F G (c_X6_cells _ _ _ _ (ja_LR_1 hR)) v_X5_126 rfl (ja_LR_1 hR) rfl (by decide) (by decide) (Nat.le_of_ble_eq_true rfl) rfl dX5_acceptFrame_105 rfl (fun v lay' mem' n' hp => ?_)
      obtain ⟨q1, q2, q3, q4⟩ := hp
      subst q1; subst q2; subst q3; subst q4
      refine r_idivP F ⟨by omega, by omega⟩ ⟨by omega, by omega⟩ (by omega) (by omega) dX5_acceptFrame_108 rfl ?_
      refine r_callV F G (c_X3_restoreIn _ _ _ _ (ja_LR_2 hR) (ja_LR_1 hR) hKO.1 ⟨hKb.1.1, Int.ediv_le_ediv (by omega) hx.2⟩) v_X5_130 rfl ((ja_LR_2 hR).1) rfl (by decide) (by decide) (Nat.le_of_ble_eq_true rfl) rfl dX5_acceptFrame_109 rfl (fun v lay' mem' n' hp => ?_)
      obtain ⟨q1, q2, q3, q4⟩ := hp
      subst q1; subst q2; subst q3; subst q4
      refine r_iadd F dX5_acceptFrame_112 rfl ?_
      exact r_iret F Rt dX5_acceptFrame_113 (by decide) ⟨by rw [R_an, if_pos h_12]; rfl, rfl, by rw [R_af, if_pos h_12]; rfl, rfl⟩
  ·
    refine r_aload_n F rfl rfl dX5_acceptFrame_15 rfl ?_
    refine r_getR F f_X5_42 (hR.1) rfl dX5_acceptFrame_16 rfl ?_
    refine r_dup F rfl dX5_acceptFrame_19 rfl ?_
    refine r_getI F f_X5_106 (ja_LR_14 hR) rfl dX5_acceptFrame_20 rfl ?_
    refine r_iconst F dX5_acceptFrame_23 rfl ?_
    refine r_iadd F dX5_acceptFrame_24 rfl ?_
    refine r_putI F f_X5_106 (ja_LR_14 hR) rfl dX5_acceptFrame_25 rfl ?_
    refine r_iconst F dX5_acceptFrame_28 rfl ?_
    exact r_iret F Rt dX5_acceptFrame_29 (by decide) ⟨by rw [R_an, if_neg h_12], rfl, by rw [R_af, if_neg h_12]; rfl, rfl⟩
abbrev rm_X5_acceptPacket : Room := { frames := 4, cells := 0, slots := 0, locals := 107 }
set_option maxRecDepth 100000 in
set_option maxHeartbeats 4000000 in
theorem c_X5_acceptPacket (l : Launch) (D : va_G) (cA : Nat → ClassId) (B : Nat) {lay : ja_Y} {mem : ja_M} {n : Nat} {b : Nat} {t : Int} {r k i : Int} (hR : ja_LR lay b) (hO : ja_RO mem b t) (hr : 0 ≤ r ∧ r ≤ 1) (hk : ja_hasB mem (b + 1) k) : ja_Mt l D cA B yX5_acceptPacket cX5_acceptPacket 4 (some .int) rm_X5_acceptPacket [.ref b, .int (ja_I r), .int (ja_I k), .int (ja_I i)] lay mem n (ja_rd lay (R_ap mem b r k i) n (some (.int (ja_I (R_pn mem b r k i))))) := by
  refine ja_enter [some (.ref b), some (.int (ja_I r)), some (.int (ja_I k)), some (.int (ja_I i))] (by decide) (Nat.le_of_ble_eq_true rfl) (fun q hq => hq) (fun C F Rt G hnm => ?_)
  have hO2 := hO
  obtain ⟨g1, g2, g3, g4, g5, g6, g7, g8, g9, g10, g11, g12⟩ := hO2
  have s0 := g1
  obtain ⟨s0, s1, s2, s3, s4, s5, s6, s7, s8⟩ := s0
  have p0 := g3
  obtain ⟨p1, p2, p3, p4, p5, p6⟩ := p0
  have a0 := g4.1
  have hsO := R_so_RO hO
  have hK := ja_blk2 g1 hk
  have hkO := @R_pk_RO mem b t r k i hO
  have hbb : ja_b (¬ F_and (mem (b + 2 + 3) k.toNat) (F_pb r i) = 0) = 0 ↔ F_and (mem (b + 2 + 3) k.toNat) (F_pb r i) = 0 := by unfold ja_b; split <;> simp_all
  have hbr : 0 ≤ ja_b (¬ F_and (mem (b + 2 + 3) k.toNat) (F_pb r i) = 0) ∧ ja_b (¬ F_and (mem (b + 2 + 3) k.toNat) (F_pb r i) = 0) ≤ 1 := by unfold ja_b; split <;> omega
  refine r_aload_n F rfl rfl dX5_acceptPacket_0 rfl ?_
  refine r_getR F f_X5_21 (hR.1) rfl dX5_acceptPacket_1 rfl ?_
  refine r_iload_n F rfl rfl dX5_acceptPacket_4 rfl ?_
  refine r_iload_n F rfl rfl dX5_acceptPacket_5 rfl ?_
  refine r_iload_n F rfl rfl dX5_acceptPacket_6 rfl ?_
  refine r_callV F G (c_X3_hasPacket _ _ _ _ (ja_LR_2 hR) hr hK.1) v_X5_133 rfl ((ja_LR_2 hR).1) rfl (by decide) (by decide) (Nat.le_of_ble_eq_true rfl) rfl dX5_acceptPacket_7 rfl (fun v lay' mem' n' hp => ?_)
  obtain ⟨q1, q2, q3, q4⟩ := hp
  subst q1; subst q2; subst q3; subst q4
  refine r_if_eq F (tgt := 28) ⟨by omega, by omega⟩ dX5_acceptPacket_10 rfl (by decide) (fun h_10 => ?_) (fun h_10 => ?_)
  ·
    refine r_aload_n F rfl rfl dX5_acceptPacket_28 rfl ?_
    refine r_callV F G (c_X5_startOnce _ _ _ _ hR hO) v_X5_109 rfl (hR.1) rfl (by decide) (by decide) (Nat.le_of_ble_eq_true rfl) rfl dX5_acceptPacket_29 rfl (fun v lay' mem' n' hp => ?_)
    obtain ⟨q1, q2, q3, q4⟩ := hp
    subst q1; subst q2; subst q3; subst q4
    refine r_aload_n F rfl rfl dX5_acceptPacket_32 rfl ?_
    refine r_getR F f_X5_21 (hR.1) rfl dX5_acceptPacket_33 rfl ?_
    refine r_iload_n F rfl rfl dX5_acceptPacket_36 rfl ?_
    refine r_iload_n F rfl rfl dX5_acceptPacket_37 rfl ?_
    refine r_iload_n F rfl rfl dX5_acceptPacket_38 rfl ?_
    refine r_callV F G (c_X3_addPacket _ _ _ _ (ja_LR_2 hR) hr hK.1) v_X5_137 rfl ((ja_LR_2 hR).1) rfl (by decide) (by decide) (Nat.le_of_ble_eq_true rfl) rfl dX5_acceptPacket_39 rfl (fun v lay' mem' n' hp => ?_)
    obtain ⟨q1, q2, q3, q4⟩ := hp
    subst q1; subst q2; subst q3; subst q4
    refine r_mem (mem' := R_pk mem b r k i) rfl ?_
    refine r_aload_n F rfl rfl dX5_acceptPacket_42 rfl ?_
    refine r_getR F f_X5_21 (hR.1) rfl dX5_acceptPacket_43 rfl ?_
    refine r_aload_n F rfl rfl dX5_acceptPacket_46 rfl ?_
    refine r_getR F f_X5_12 (hR.1) rfl dX5_acceptPacket_47 rfl ?_
    refine r_iload_n F rfl rfl dX5_acceptPacket_50 rfl ?_
    refine r_callV F G (c_X3_restoreIn _ _ _ _ (ja_LR_2 hR) (ja_LR_1 hR) hkO.1 (by have e : R_pk mem b r k i (b + 1) = mem (b + 1) := by { unfold R_pk; rw [F_ap_o (by omega), R_so_o (by omega)] }; simp only [ja_hasB, ja_cells, e]; exact hk)) v_X5_130 rfl ((ja_LR_2 hR).1) rfl (by decide) (by decide) (Nat.le_of_ble_eq_true rfl) rfl dX5_acceptPacket_51 rfl (fun v lay' mem' n' hp => ?_)
    obtain ⟨q1, q2, q3, q4⟩ := hp
    subst q1; subst q2; subst q3; subst q4
    exact r_iret F Rt dX5_acceptPacket_54 (by decide) ⟨by rw [R_pn, if_pos (hbb.mp h_10)]; rfl, rfl, by rw [R_ap, if_pos (hbb.mp h_10)]; rfl, rfl⟩
  ·
    refine r_aload_n F rfl rfl dX5_acceptPacket_13 rfl ?_
    refine r_getR F f_X5_42 (hR.1) rfl dX5_acceptPacket_14 rfl ?_
    refine r_dup F rfl dX5_acceptPacket_17 rfl ?_
    refine r_getI F f_X5_106 (ja_LR_14 hR) rfl dX5_acceptPacket_18 rfl ?_
    refine r_iconst F dX5_acceptPacket_21 rfl ?_
    refine r_iadd F dX5_acceptPacket_22 rfl ?_
    refine r_putI F f_X5_106 (ja_LR_14 hR) rfl dX5_acceptPacket_23 rfl ?_
    refine r_iconst F dX5_acceptPacket_26 rfl ?_
    exact r_iret F Rt dX5_acceptPacket_27 (by decide) ⟨by rw [R_pn, if_neg (fun q => h_10 (hbb.mpr q))], rfl, by rw [R_ap, if_neg (fun q => h_10 (hbb.mpr q))]; rfl, rfl⟩
