section
abbrev rm_X8_time : Room := { frames := 0, cells := 0, slots := 0, locals := 0 }
set_option maxRecDepth 100000 in
set_option maxHeartbeats 4000000 in
theorem c_X8_time (l : Launch) (D : va_G) (cA : Nat → ClassId) (B : Nat) {lay : ja_Y} {mem : ja_M} {n : Nat} {y : Nat} {sl : Nat → Option Nat} {t : Int} (hB : ja_LB lay y sl) (hO : ja_BO mem y sl t)  : ja_Mt l D cA B yX8_time cX8_time 1 (some .int) rm_X8_time [.ref y] lay mem n (ja_rd lay mem n (some (.int (ja_I (mem (y + 1) 6))))) := by
  refine ja_enter [some (.ref y)] (by decide) (Nat.le_of_ble_eq_true rfl) (fun q hq => hq) (fun C F Rt G hnm => ?_)
  obtain ⟨b1, b2, b3, b4, b5⟩ := id hO
  obtain ⟨g1, g2, g3, g4, g5, g6, g7, g8, g9, g10, g11, g12⟩ := id b1
  obtain ⟨p1, p2, p3, p4, p5, p6⟩ := id g3
  obtain ⟨s0, s1, s2, s3, s4, s5, s6, s7, s8⟩ := id g1
  have tt := g2.1
  have a0 := g4.1
  refine r_aload_n F rfl rfl dX8_time_0 rfl ?_
  refine r_getR F f_X8_10 (hB.1) rfl dX8_time_1 rfl ?_
  refine r_getI F f_X8_104 ((ja_LB_1 hB).1) rfl dX8_time_4 rfl ?_
  exact r_iret F Rt dX8_time_7 (by decide) ⟨by first | rfl | rw [if_pos (by omega)] | rw [if_neg (by omega)], rfl, rfl, rfl⟩
abbrev rm_X8_start : Room := { frames := 0, cells := 0, slots := 0, locals := 0 }
set_option maxRecDepth 100000 in
set_option maxHeartbeats 4000000 in
theorem c_X8_start (l : Launch) (D : va_G) (cA : Nat → ClassId) (B : Nat) {lay : ja_Y} {mem : ja_M} {n : Nat} {y : Nat} {sl : Nat → Option Nat} {t : Int} (hB : ja_LB lay y sl) (hO : ja_BO mem y sl t)  : ja_Mt l D cA B yX8_start cX8_start 1 (some .int) rm_X8_start [.ref y] lay mem n (ja_rd lay mem n (some (.int (ja_I (if mem (y + 1) 7 = 0 then -1004 else mem (y + 1) 8))))) := by
  refine ja_enter [some (.ref y)] (by decide) (Nat.le_of_ble_eq_true rfl) (fun q hq => hq) (fun C F Rt G hnm => ?_)
  obtain ⟨b1, b2, b3, b4, b5⟩ := id hO
  obtain ⟨g1, g2, g3, g4, g5, g6, g7, g8, g9, g10, g11, g12⟩ := id b1
  obtain ⟨p1, p2, p3, p4, p5, p6⟩ := id g3
  obtain ⟨s0, s1, s2, s3, s4, s5, s6, s7, s8⟩ := id g1
  have tt := g2.1
  have a0 := g4.1
  refine r_aload_n F rfl rfl dX8_start_0 rfl ?_
  refine r_getR F f_X8_10 (hB.1) rfl dX8_start_1 rfl ?_
  refine r_getI F f_X8_107 ((ja_LB_1 hB).1) rfl dX8_start_4 rfl ?_
  refine r_if_eq F (tgt := 20) ⟨by omega, by omega⟩ dX8_start_7 rfl (by decide) (fun h_7 => ?_) (fun h_7 => ?_)
  ·
    refine r_sipush F (by decide) dX8_start_20 rfl ?_
    exact r_iret F Rt dX8_start_23 (by decide) ⟨by first | rfl | rw [if_pos (by omega)] | rw [if_neg (by omega)], rfl, rfl, rfl⟩
  ·
    refine r_aload_n F rfl rfl dX8_start_10 rfl ?_
    refine r_getR F f_X8_10 (hB.1) rfl dX8_start_11 rfl ?_
    refine r_getI F f_X8_110 ((ja_LB_1 hB).1) rfl dX8_start_14 rfl ?_
    refine r_goto F (tgt := 23) dX8_start_17 (by decide) ?_
    exact r_iret F Rt dX8_start_23 (by decide) ⟨by first | rfl | rw [if_pos (by omega)] | rw [if_neg (by omega)], rfl, rfl, rfl⟩
abbrev rm_X8_outputs : Room := { frames := 0, cells := 0, slots := 0, locals := 0 }
set_option maxRecDepth 100000 in
set_option maxHeartbeats 4000000 in
theorem c_X8_outputs (l : Launch) (D : va_G) (cA : Nat → ClassId) (B : Nat) {lay : ja_Y} {mem : ja_M} {n : Nat} {y : Nat} {sl : Nat → Option Nat} {t : Int} (hB : ja_LB lay y sl) (hO : ja_BO mem y sl t)  : ja_Mt l D cA B yX8_outputs cX8_outputs 1 (some .int) rm_X8_outputs [.ref y] lay mem n (ja_rd lay mem n (some (.int (ja_I (mem (y + 1 + 9) 4))))) := by
  refine ja_enter [some (.ref y)] (by decide) (Nat.le_of_ble_eq_true rfl) (fun q hq => hq) (fun C F Rt G hnm => ?_)
  obtain ⟨b1, b2, b3, b4, b5⟩ := id hO
  obtain ⟨g1, g2, g3, g4, g5, g6, g7, g8, g9, g10, g11, g12⟩ := id b1
  obtain ⟨p1, p2, p3, p4, p5, p6⟩ := id g3
  obtain ⟨s0, s1, s2, s3, s4, s5, s6, s7, s8⟩ := id g1
  have tt := g2.1
  have a0 := g4.1
  refine r_aload_n F rfl rfl dX8_outputs_0 rfl ?_
  refine r_getR F f_X8_10 (hB.1) rfl dX8_outputs_1 rfl ?_
  refine r_getR F f_X8_92 ((ja_LB_1 hB).1) rfl dX8_outputs_4 rfl ?_
  refine r_getI F f_X8_96 ((ja_LR_9 (ja_LB_1 hB)).1) rfl dX8_outputs_7 rfl ?_
  exact r_iret F Rt dX8_outputs_10 (by decide) ⟨by first | rfl | rw [if_pos (by omega)] | rw [if_neg (by omega)], rfl, rfl, rfl⟩
abbrev rm_X8_left : Room := { frames := 1, cells := 0, slots := 0, locals := 20 }
set_option maxRecDepth 100000 in
set_option maxHeartbeats 4000000 in
theorem c_X8_left (l : Launch) (D : va_G) (cA : Nat → ClassId) (B : Nat) {lay : ja_Y} {mem : ja_M} {n : Nat} {y : Nat} {sl : Nat → Option Nat} {t : Int} (hB : ja_LB lay y sl) (hO : ja_BO mem y sl t)  : ja_Mt l D cA B yX8_left cX8_left 1 (some .int) rm_X8_left [.ref y] lay mem n (ja_rd lay mem n (some (.int (ja_I (mem (y + 1 + 9) 1 - mem (y + 1 + 9) 2))))) := by
  refine ja_enter [some (.ref y)] (by decide) (Nat.le_of_ble_eq_true rfl) (fun q hq => hq) (fun C F Rt G hnm => ?_)
  obtain ⟨b1, b2, b3, b4, b5⟩ := id hO
  obtain ⟨g1, g2, g3, g4, g5, g6, g7, g8, g9, g10, g11, g12⟩ := id b1
  obtain ⟨p1, p2, p3, p4, p5, p6⟩ := id g3
  obtain ⟨s0, s1, s2, s3, s4, s5, s6, s7, s8⟩ := id g1
  have tt := g2.1
  have a0 := g4.1
  refine r_aload_n F rfl rfl dX8_left_0 rfl ?_
  refine r_getR F f_X8_10 (hB.1) rfl dX8_left_1 rfl ?_
  refine r_getR F f_X8_92 ((ja_LB_1 hB).1) rfl dX8_left_4 rfl ?_
  refine r_callV F G (c_X4_remaining _ _ _ _ (ja_LR_9 (ja_LB_1 hB))) v_X8_116 rfl ((ja_LR_9 (ja_LB_1 hB)).1) rfl (by decide) (by decide) (Nat.le_of_ble_eq_true rfl) rfl dX8_left_7 rfl (fun v lay' mem' n' hp => ?_)
  obtain ⟨q1, q2, q3, q4⟩ := hp
  subst q1; subst q2; subst q3; subst q4
  exact r_iret F Rt dX8_left_10 (by decide) ⟨by first | rfl | rw [if_pos (by omega)] | rw [if_neg (by omega)], rfl, rfl, rfl⟩
abbrev rm_X8_next : Room := { frames := 0, cells := 0, slots := 0, locals := 0 }
set_option maxRecDepth 100000 in
set_option maxHeartbeats 4000000 in
theorem c_X8_next (l : Launch) (D : va_G) (cA : Nat → ClassId) (B : Nat) {lay : ja_Y} {mem : ja_M} {n : Nat} {y : Nat} {sl : Nat → Option Nat} {t : Int} (hB : ja_LB lay y sl) (hO : ja_BO mem y sl t)  : ja_Mt l D cA B yX8_next cX8_next 1 (some .int) rm_X8_next [.ref y] lay mem n (ja_rd lay mem n (some (.int (ja_I (if 999 < mem (y + 1 + 9) 6 then -1004 else mem (y + 1 + 9) 6))))) := by
  refine ja_enter [some (.ref y)] (by decide) (Nat.le_of_ble_eq_true rfl) (fun q hq => hq) (fun C F Rt G hnm => ?_)
  obtain ⟨b1, b2, b3, b4, b5⟩ := id hO
  obtain ⟨g1, g2, g3, g4, g5, g6, g7, g8, g9, g10, g11, g12⟩ := id b1
  obtain ⟨p1, p2, p3, p4, p5, p6⟩ := id g3
  obtain ⟨s0, s1, s2, s3, s4, s5, s6, s7, s8⟩ := id g1
  have tt := g2.1
  have a0 := g4.1
  refine r_aload_n F rfl rfl dX8_next_0 rfl ?_
  refine r_getR F f_X8_10 (hB.1) rfl dX8_next_1 rfl ?_
  refine r_getR F f_X8_92 ((ja_LB_1 hB).1) rfl dX8_next_4 rfl ?_
  refine r_getI F f_X8_120 ((ja_LR_9 (ja_LB_1 hB)).1) rfl dX8_next_7 rfl ?_
  refine r_sipush F (by decide) dX8_next_10 rfl ?_
  refine r_icmp_le F (tgt := 22) ⟨by omega, by omega⟩ ⟨by omega, by omega⟩ dX8_next_13 rfl (by decide) (fun h_13 => ?_) (fun h_13 => ?_)
  ·
    refine r_aload_n F rfl rfl dX8_next_22 rfl ?_
    refine r_getR F f_X8_10 (hB.1) rfl dX8_next_23 rfl ?_
    refine r_getR F f_X8_92 ((ja_LB_1 hB).1) rfl dX8_next_26 rfl ?_
    refine r_getI F f_X8_120 ((ja_LR_9 (ja_LB_1 hB)).1) rfl dX8_next_29 rfl ?_
    exact r_iret F Rt dX8_next_32 (by decide) ⟨by first | rfl | rw [if_pos (by omega)] | rw [if_neg (by omega)], rfl, rfl, rfl⟩
  ·
    refine r_sipush F (by decide) dX8_next_16 rfl ?_
    refine r_goto F (tgt := 32) dX8_next_19 (by decide) ?_
    exact r_iret F Rt dX8_next_32 (by decide) ⟨by first | rfl | rw [if_pos (by omega)] | rw [if_neg (by omega)], rfl, rfl, rfl⟩
abbrev rm_X8_transits : Room := { frames := 0, cells := 0, slots := 0, locals := 0 }
set_option maxRecDepth 100000 in
set_option maxHeartbeats 4000000 in
theorem c_X8_transits (l : Launch) (D : va_G) (cA : Nat → ClassId) (B : Nat) {lay : ja_Y} {mem : ja_M} {n : Nat} {y : Nat} {sl : Nat → Option Nat} {t : Int} (hB : ja_LB lay y sl) (hO : ja_BO mem y sl t)  : ja_Mt l D cA B yX8_transits cX8_transits 1 (some .int) rm_X8_transits [.ref y] lay mem n (ja_rd lay mem n (some (.int (ja_I (mem (y + 1 + 6) 2))))) := by
  refine ja_enter [some (.ref y)] (by decide) (Nat.le_of_ble_eq_true rfl) (fun q hq => hq) (fun C F Rt G hnm => ?_)
  obtain ⟨b1, b2, b3, b4, b5⟩ := id hO
  obtain ⟨g1, g2, g3, g4, g5, g6, g7, g8, g9, g10, g11, g12⟩ := id b1
  obtain ⟨p1, p2, p3, p4, p5, p6⟩ := id g3
  obtain ⟨s0, s1, s2, s3, s4, s5, s6, s7, s8⟩ := id g1
  have tt := g2.1
  have a0 := g4.1
  refine r_aload_n F rfl rfl dX8_transits_0 rfl ?_
  refine r_getR F f_X8_10 (hB.1) rfl dX8_transits_1 rfl ?_
  refine r_getR F f_X8_154 ((ja_LB_1 hB).1) rfl dX8_transits_4 rfl ?_
  refine r_getI F f_X8_158 ((ja_LR_6 (ja_LB_1 hB)).1) rfl dX8_transits_7 rfl ?_
  exact r_iret F Rt dX8_transits_10 (by decide) ⟨by first | rfl | rw [if_pos (by omega)] | rw [if_neg (by omega)], rfl, rfl, rfl⟩
abbrev rm_X8_target : Room := { frames := 2, cells := 0, slots := 0, locals := 41 }
set_option maxRecDepth 100000 in
set_option maxHeartbeats 4000000 in
theorem c_X8_target (l : Launch) (D : va_G) (cA : Nat → ClassId) (B : Nat) {lay : ja_Y} {mem : ja_M} {n : Nat} {y : Nat} {sl : Nat → Option Nat} {t : Int} (hB : ja_LB lay y sl) (hO : ja_BO mem y sl t)  : ja_Mt l D cA B yX8_target cX8_target 1 (some .int) rm_X8_target [.ref y] lay mem n (ja_rd lay mem n (some (.int (ja_I (R_tg mem (y + 1)))))) := by
  refine ja_enter [some (.ref y)] (by decide) (Nat.le_of_ble_eq_true rfl) (fun q hq => hq) (fun C F Rt G hnm => ?_)
  obtain ⟨b1, b2, b3, b4, b5⟩ := id hO
  obtain ⟨g1, g2, g3, g4, g5, g6, g7, g8, g9, g10, g11, g12⟩ := id b1
  obtain ⟨p1, p2, p3, p4, p5, p6⟩ := id g3
  obtain ⟨s0, s1, s2, s3, s4, s5, s6, s7, s8⟩ := id g1
  have tt := g2.1
  have a0 := g4.1
  refine r_aload_n F rfl rfl dX8_target_0 rfl ?_
  refine r_getR F f_X8_10 (hB.1) rfl dX8_target_1 rfl ?_
  refine r_callV F G (c_X5_targetNow _ _ _ _ (ja_LB_1 hB) g1 g2) v_X8_171 rfl ((ja_LB_1 hB).1) rfl (by decide) (by decide) (Nat.le_of_ble_eq_true rfl) rfl dX8_target_4 rfl (fun v lay' mem' n' hp => ?_)
  obtain ⟨q1, q2, q3, q4⟩ := hp
  subst q1; subst q2; subst q3; subst q4
  exact r_iret F Rt dX8_target_7 (by decide) ⟨by first | rfl | rw [if_pos (by omega)] | rw [if_neg (by omega)], rfl, rfl, rfl⟩
abbrev rm_X8_level : Room := { frames := 4, cells := 0, slots := 0, locals := 88 }
set_option maxRecDepth 100000 in
set_option maxHeartbeats 4000000 in
theorem c_X8_level (l : Launch) (D : va_G) (cA : Nat → ClassId) (B : Nat) {lay : ja_Y} {mem : ja_M} {n : Nat} {y : Nat} {sl : Nat → Option Nat} {t : Int} (hB : ja_LB lay y sl) (hO : ja_BO mem y sl t)  : ja_Mt l D cA B yX8_level cX8_level 1 (some .int) rm_X8_level [.ref y] lay mem n (ja_rd lay mem n (some (.int (ja_I (R_lv mem (y + 1) (mem (y + 1 + 9) 6)))))) := by
  refine ja_enter [some (.ref y)] (by decide) (Nat.le_of_ble_eq_true rfl) (fun q hq => hq) (fun C F Rt G hnm => ?_)
  obtain ⟨b1, b2, b3, b4, b5⟩ := id hO
  obtain ⟨g1, g2, g3, g4, g5, g6, g7, g8, g9, g10, g11, g12⟩ := id b1
  obtain ⟨p1, p2, p3, p4, p5, p6⟩ := id g3
  obtain ⟨s0, s1, s2, s3, s4, s5, s6, s7, s8⟩ := id g1
  have tt := g2.1
  have a0 := g4.1
  refine r_aload_n F rfl rfl dX8_level_0 rfl ?_
  refine r_getR F f_X8_10 (hB.1) rfl dX8_level_1 rfl ?_
  refine r_aload_n F rfl rfl dX8_level_4 rfl ?_
  refine r_getR F f_X8_10 (hB.1) rfl dX8_level_5 rfl ?_
  refine r_getR F f_X8_92 ((ja_LB_1 hB).1) rfl dX8_level_8 rfl ?_
  refine r_getI F f_X8_120 ((ja_LR_9 (ja_LB_1 hB)).1) rfl dX8_level_11 rfl ?_
  refine r_callV F G (c_X5_levelFrom _ _ _ _ (ja_LB_1 hB) g1 ⟨by omega, by omega⟩) v_X8_174 rfl ((ja_LB_1 hB).1) rfl (by decide) (by decide) (Nat.le_of_ble_eq_true rfl) rfl dX8_level_14 rfl (fun v lay' mem' n' hp => ?_)
  obtain ⟨q1, q2, q3, q4⟩ := hp
  subst q1; subst q2; subst q3; subst q4
  exact r_iret F Rt dX8_level_17 (by decide) ⟨by first | rfl | rw [if_pos (by omega)] | rw [if_neg (by omega)], rfl, rfl, rfl⟩
abbrev rm_X8_stretched : Room := { frames := 0, cells := 0, slots := 0, locals := 0 }
set_option maxRecDepth 100000 in
set_option maxHeartbeats 4000000 in
theorem c_X8_stretched (l : Launch) (D : va_G) (cA : Nat → ClassId) (B : Nat) {lay : ja_Y} {mem : ja_M} {n : Nat} {y : Nat} {sl : Nat → Option Nat} {t : Int} (hB : ja_LB lay y sl) (hO : ja_BO mem y sl t)  : ja_Mt l D cA B yX8_stretched cX8_stretched 1 (some .int) rm_X8_stretched [.ref y] lay mem n (ja_rd lay mem n (some (.int (ja_I (mem (y + 1 + 14) 3))))) := by
  refine ja_enter [some (.ref y)] (by decide) (Nat.le_of_ble_eq_true rfl) (fun q hq => hq) (fun C F Rt G hnm => ?_)
  obtain ⟨b1, b2, b3, b4, b5⟩ := id hO
  obtain ⟨g1, g2, g3, g4, g5, g6, g7, g8, g9, g10, g11, g12⟩ := id b1
  obtain ⟨p1, p2, p3, p4, p5, p6⟩ := id g3
  obtain ⟨s0, s1, s2, s3, s4, s5, s6, s7, s8⟩ := id g1
  have tt := g2.1
  have a0 := g4.1
  refine r_aload_n F rfl rfl dX8_stretched_0 rfl ?_
  refine r_getR F f_X8_10 (hB.1) rfl dX8_stretched_1 rfl ?_
  refine r_getR F f_X8_177 ((ja_LB_1 hB).1) rfl dX8_stretched_4 rfl ?_
  refine r_getI F f_X8_186 (ja_LR_14 (ja_LB_1 hB)) rfl dX8_stretched_7 rfl ?_
  exact r_iret F Rt dX8_stretched_10 (by decide) ⟨by first | rfl | rw [if_pos (by omega)] | rw [if_neg (by omega)], rfl, rfl, rfl⟩
abbrev rm_X8_compressed : Room := { frames := 0, cells := 0, slots := 0, locals := 0 }
set_option maxRecDepth 100000 in
set_option maxHeartbeats 4000000 in
theorem c_X8_compressed (l : Launch) (D : va_G) (cA : Nat → ClassId) (B : Nat) {lay : ja_Y} {mem : ja_M} {n : Nat} {y : Nat} {sl : Nat → Option Nat} {t : Int} (hB : ja_LB lay y sl) (hO : ja_BO mem y sl t)  : ja_Mt l D cA B yX8_compressed cX8_compressed 1 (some .int) rm_X8_compressed [.ref y] lay mem n (ja_rd lay mem n (some (.int (ja_I (mem (y + 1 + 14) 4))))) := by
  refine ja_enter [some (.ref y)] (by decide) (Nat.le_of_ble_eq_true rfl) (fun q hq => hq) (fun C F Rt G hnm => ?_)
  obtain ⟨b1, b2, b3, b4, b5⟩ := id hO
  obtain ⟨g1, g2, g3, g4, g5, g6, g7, g8, g9, g10, g11, g12⟩ := id b1
  obtain ⟨p1, p2, p3, p4, p5, p6⟩ := id g3
  obtain ⟨s0, s1, s2, s3, s4, s5, s6, s7, s8⟩ := id g1
  have tt := g2.1
  have a0 := g4.1
  refine r_aload_n F rfl rfl dX8_compressed_0 rfl ?_
  refine r_getR F f_X8_10 (hB.1) rfl dX8_compressed_1 rfl ?_
  refine r_getR F f_X8_177 ((ja_LB_1 hB).1) rfl dX8_compressed_4 rfl ?_
  refine r_getI F f_X8_189 (ja_LR_14 (ja_LB_1 hB)) rfl dX8_compressed_7 rfl ?_
  exact r_iret F Rt dX8_compressed_10 (by decide) ⟨by first | rfl | rw [if_pos (by omega)] | rw [if_neg (by omega)], rfl, rfl, rfl⟩
abbrev rm_X8_late : Room := { frames := 0, cells := 0, slots := 0, locals := 0 }
set_option maxRecDepth 100000 in
set_option maxHeartbeats 4000000 in
theorem c_X8_late (l : Launch) (D : va_G) (cA : Nat → ClassId) (B : Nat) {lay : ja_Y} {mem : ja_M} {n : Nat} {y : Nat} {sl : Nat → Option Nat} {t : Int} (hB : ja_LB lay y sl) (hO : ja_BO mem y sl t)  : ja_Mt l D cA B yX8_late cX8_late 1 (some .int) rm_X8_late [.ref y] lay mem n (ja_rd lay mem n (some (.int (ja_I (mem (y + 1 + 14) 5))))) := by
  refine ja_enter [some (.ref y)] (by decide) (Nat.le_of_ble_eq_true rfl) (fun q hq => hq) (fun C F Rt G hnm => ?_)
  obtain ⟨b1, b2, b3, b4, b5⟩ := id hO
  obtain ⟨g1, g2, g3, g4, g5, g6, g7, g8, g9, g10, g11, g12⟩ := id b1
  obtain ⟨p1, p2, p3, p4, p5, p6⟩ := id g3
  obtain ⟨s0, s1, s2, s3, s4, s5, s6, s7, s8⟩ := id g1
  have tt := g2.1
  have a0 := g4.1
  refine r_aload_n F rfl rfl dX8_late_0 rfl ?_
  refine r_getR F f_X8_10 (hB.1) rfl dX8_late_1 rfl ?_
  refine r_getR F f_X8_177 ((ja_LB_1 hB).1) rfl dX8_late_4 rfl ?_
  refine r_getI F f_X8_192 (ja_LR_14 (ja_LB_1 hB)) rfl dX8_late_7 rfl ?_
  exact r_iret F Rt dX8_late_10 (by decide) ⟨by first | rfl | rw [if_pos (by omega)] | rw [if_neg (by omega)], rfl, rfl, rfl⟩
abbrev rm_X8_duplicates : Room := { frames := 0, cells := 0, slots := 0, locals := 0 }
set_option maxRecDepth 100000 in
set_option maxHeartbeats 4000000 in
theorem c_X8_duplicates (l : Launch) (D : va_G) (cA : Nat → ClassId) (B : Nat) {lay : ja_Y} {mem : ja_M} {n : Nat} {y : Nat} {sl : Nat → Option Nat} {t : Int} (hB : ja_LB lay y sl) (hO : ja_BO mem y sl t)  : ja_Mt l D cA B yX8_duplicates cX8_duplicates 1 (some .int) rm_X8_duplicates [.ref y] lay mem n (ja_rd lay mem n (some (.int (ja_I (mem (y + 1 + 14) 6))))) := by
  refine ja_enter [some (.ref y)] (by decide) (Nat.le_of_ble_eq_true rfl) (fun q hq => hq) (fun C F Rt G hnm => ?_)
  obtain ⟨b1, b2, b3, b4, b5⟩ := id hO
  obtain ⟨g1, g2, g3, g4, g5, g6, g7, g8, g9, g10, g11, g12⟩ := id b1
  obtain ⟨p1, p2, p3, p4, p5, p6⟩ := id g3
  obtain ⟨s0, s1, s2, s3, s4, s5, s6, s7, s8⟩ := id g1
  have tt := g2.1
  have a0 := g4.1
  refine r_aload_n F rfl rfl dX8_duplicates_0 rfl ?_
  refine r_getR F f_X8_10 (hB.1) rfl dX8_duplicates_1 rfl ?_
  refine r_getR F f_X8_177 ((ja_LB_1 hB).1) rfl dX8_duplicates_4 rfl ?_
  refine r_getI F f_X8_195 (ja_LR_14 (ja_LB_1 hB)) rfl dX8_duplicates_7 rfl ?_
  exact r_iret F Rt dX8_duplicates_10 (by decide) ⟨by first | rfl | rw [if_pos (by omega)] | rw [if_neg (by omega)], rfl, rfl, rfl⟩
abbrev rm_X8_longestGap : Room := { frames := 0, cells := 0, slots := 0, locals := 0 }
set_option maxRecDepth 100000 in
set_option maxHeartbeats 4000000 in
theorem c_X8_longestGap (l : Launch) (D : va_G) (cA : Nat → ClassId) (B : Nat) {lay : ja_Y} {mem : ja_M} {n : Nat} {y : Nat} {sl : Nat → Option Nat} {t : Int} (hB : ja_LB lay y sl) (hO : ja_BO mem y sl t)  : ja_Mt l D cA B yX8_longestGap cX8_longestGap 1 (some .int) rm_X8_longestGap [.ref y] lay mem n (ja_rd lay mem n (some (.int (ja_I (mem (y + 1 + 14) 8))))) := by
  refine ja_enter [some (.ref y)] (by decide) (Nat.le_of_ble_eq_true rfl) (fun q hq => hq) (fun C F Rt G hnm => ?_)
  obtain ⟨b1, b2, b3, b4, b5⟩ := id hO
  obtain ⟨g1, g2, g3, g4, g5, g6, g7, g8, g9, g10, g11, g12⟩ := id b1
  obtain ⟨p1, p2, p3, p4, p5, p6⟩ := id g3
  obtain ⟨s0, s1, s2, s3, s4, s5, s6, s7, s8⟩ := id g1
  have tt := g2.1
  have a0 := g4.1
  refine r_aload_n F rfl rfl dX8_longestGap_0 rfl ?_
  refine r_getR F f_X8_10 (hB.1) rfl dX8_longestGap_1 rfl ?_
  refine r_getR F f_X8_177 ((ja_LB_1 hB).1) rfl dX8_longestGap_4 rfl ?_
  refine r_getI F f_X8_204 (ja_LR_14 (ja_LB_1 hB)) rfl dX8_longestGap_7 rfl ?_
  exact r_iret F Rt dX8_longestGap_10 (by decide) ⟨by first | rfl | rw [if_pos (by omega)] | rw [if_neg (by omega)], rfl, rfl, rfl⟩
abbrev rm_X8_scheduled : Room := { frames := 0, cells := 0, slots := 0, locals := 0 }
set_option maxRecDepth 100000 in
set_option maxHeartbeats 4000000 in
theorem c_X8_scheduled (l : Launch) (D : va_G) (cA : Nat → ClassId) (B : Nat) {lay : ja_Y} {mem : ja_M} {n : Nat} {y : Nat} {sl : Nat → Option Nat} {t : Int} (hB : ja_LB lay y sl) (hO : ja_BO mem y sl t)  : ja_Mt l D cA B yX8_scheduled cX8_scheduled 1 (some .int) rm_X8_scheduled [.ref y] lay mem n (ja_rd lay mem n (some (.int (ja_I (mem (y + 1 + 15) 4))))) := by
  refine ja_enter [some (.ref y)] (by decide) (Nat.le_of_ble_eq_true rfl) (fun q hq => hq) (fun C F Rt G hnm => ?_)
  obtain ⟨b1, b2, b3, b4, b5⟩ := id hO
  obtain ⟨g1, g2, g3, g4, g5, g6, g7, g8, g9, g10, g11, g12⟩ := id b1
  obtain ⟨p1, p2, p3, p4, p5, p6⟩ := id g3
  obtain ⟨s0, s1, s2, s3, s4, s5, s6, s7, s8⟩ := id g1
  have tt := g2.1
  have a0 := g4.1
  refine r_aload_n F rfl rfl dX8_scheduled_0 rfl ?_
  refine r_getR F f_X8_10 (hB.1) rfl dX8_scheduled_1 rfl ?_
  refine r_getR F f_X8_228 ((ja_LB_1 hB).1) rfl dX8_scheduled_4 rfl ?_
  refine r_getI F f_X8_222 ((ja_LR_15 (ja_LB_1 hB)).1) rfl dX8_scheduled_7 rfl ?_
  exact r_iret F Rt dX8_scheduled_10 (by decide) ⟨by first | rfl | rw [if_pos (by omega)] | rw [if_neg (by omega)], rfl, rfl, rfl⟩
abbrev rm_X8_isFrame : Room := { frames := 0, cells := 0, slots := 0, locals := 0 }
set_option maxRecDepth 100000 in
set_option maxHeartbeats 4000000 in
theorem c_X8_isFrame (l : Launch) (D : va_G) (cA : Nat → ClassId) (B : Nat) {lay : ja_Y} {mem : ja_M} {n : Nat} {x : Int} (hx : ja_in x) : ja_Mt l D cA B yX8_isFrame cX8_isFrame 1 (some .boolean) rm_X8_isFrame [.int (ja_I x)] lay mem n (ja_rd lay mem n (some (.int (ja_I (ja_b (B_isF x)))))) := by
  refine ja_enter [some (.int (ja_I x))] (by decide) (Nat.le_of_ble_eq_true rfl) (fun q hq => hq) (fun C F Rt G hnm => ?_)
  obtain ⟨hx1, hx2⟩ := hx
  refine r_iload_n F rfl rfl dX8_isFrame_0 rfl ?_
  refine r_if_lt F (tgt := 15) ⟨by omega, by omega⟩ dX8_isFrame_1 rfl (by decide) (fun h_1 => ?_) (fun h_1 => ?_)
  ·
    refine r_iconst F dX8_isFrame_15 rfl ?_
    exact r_zret F Rt (by omega) dX8_isFrame_16 (by decide) ⟨by simp only [ja_b]; split <;> first | rfl | (exfalso; omega), rfl, rfl, rfl⟩
  ·
    refine r_iload_n F rfl rfl dX8_isFrame_4 rfl ?_
    refine r_sipush F (by decide) dX8_isFrame_5 rfl ?_
    refine r_icmp_gt F (tgt := 15) ⟨by omega, by omega⟩ ⟨by omega, by omega⟩ dX8_isFrame_8 rfl (by decide) (fun h_8 => ?_) (fun h_8 => ?_)
    ·
      refine r_iconst F dX8_isFrame_15 rfl ?_
      exact r_zret F Rt (by omega) dX8_isFrame_16 (by decide) ⟨by simp only [ja_b]; split <;> first | rfl | (exfalso; omega), rfl, rfl, rfl⟩
    ·
      refine r_iconst F dX8_isFrame_11 rfl ?_
      refine r_goto F (tgt := 16) dX8_isFrame_12 (by decide) ?_
      exact r_zret F Rt (by omega) dX8_isFrame_16 (by decide) ⟨by simp only [ja_b]; split <;> first | rfl | (exfalso; omega), rfl, rfl, rfl⟩
abbrev rm_X8_taken : Room := { frames := 1, cells := 0, slots := 0, locals := 21 }
set_option maxRecDepth 100000 in
set_option maxHeartbeats 4000000 in
theorem c_X8_taken (l : Launch) (D : va_G) (cA : Nat → ClassId) (B : Nat) {lay : ja_Y} {mem : ja_M} {n : Nat} {k : Int} {y : Nat} {sl : Nat → Option Nat} {t : Int} (hB : ja_LB lay y sl) (hO : ja_BO mem y sl t) (hk : ja_in k)  : ja_Mt l D cA B yX8_taken cX8_taken 2 (some .int) rm_X8_taken [.ref y, .int (ja_I k)] lay mem n (ja_rd lay mem n (some (.int (ja_I (if 1 ≤ k ∧ k ≤ 3 then (if k = 3 then mem (y + 1 + 14) 2 else if k = 1 then mem (y + 1 + 14) 0 else mem (y + 1 + 14) 1) else -1001))))) := by
  refine ja_enter [some (.ref y), some (.int (ja_I k))] (by decide) (Nat.le_of_ble_eq_true rfl) (fun q hq => hq) (fun C F Rt G hnm => ?_)
  obtain ⟨b1, b2, b3, b4, b5⟩ := id hO
  obtain ⟨g1, g2, g3, g4, g5, g6, g7, g8, g9, g10, g11, g12⟩ := id b1
  obtain ⟨p1, p2, p3, p4, p5, p6⟩ := id g3
  obtain ⟨s0, s1, s2, s3, s4, s5, s6, s7, s8⟩ := id g1
  have tt := g2.1
  have a0 := g4.1
  obtain ⟨k1_, k2_⟩ := id hk
  refine r_iload_n F rfl rfl dX8_taken_0 rfl ?_
  refine r_iconst F dX8_taken_1 rfl ?_
  refine r_icmp_lt F (tgt := 10) ⟨by omega, by omega⟩ ⟨by omega, by omega⟩ dX8_taken_2 rfl (by decide) (fun h_2 => ?_) (fun h_2 => ?_)
  ·
    refine r_sipush F (by decide) dX8_taken_10 rfl ?_
    exact r_iret F Rt dX8_taken_13 (by decide) ⟨by first | rfl | rw [if_pos (by omega)] | rw [if_neg (by omega)], rfl, rfl, rfl⟩
  ·
    refine r_iload_n F rfl rfl dX8_taken_5 rfl ?_
    refine r_iconst F dX8_taken_6 rfl ?_
    refine r_icmp_le F (tgt := 14) ⟨by omega, by omega⟩ ⟨by omega, by omega⟩ dX8_taken_7 rfl (by decide) (fun h_7 => ?_) (fun h_7 => ?_)
    ·
      refine r_aload_n F rfl rfl dX8_taken_14 rfl ?_
      refine r_getR F f_X8_10 (hB.1) rfl dX8_taken_15 rfl ?_
      refine r_getR F f_X8_177 ((ja_LB_1 hB).1) rfl dX8_taken_18 rfl ?_
      refine r_iload_n F rfl rfl dX8_taken_21 rfl ?_
      refine r_callV F G (c_X2_takenAs _ _ _ _ (ja_LR_14 (ja_LB_1 hB)) ⟨by omega, by omega⟩) v_X8_181 rfl (ja_LR_14 (ja_LB_1 hB)) rfl (by decide) (by decide) (Nat.le_of_ble_eq_true rfl) rfl dX8_taken_22 rfl (fun v lay' mem' n' hp => ?_)
      obtain ⟨q1, q2, q3, q4⟩ := hp
      subst q1; subst q2; subst q3; subst q4
      exact r_iret F Rt dX8_taken_25 (by decide) ⟨by first | rfl | rw [if_pos (by omega)] | rw [if_neg (by omega)], rfl, rfl, rfl⟩
    ·
      refine r_sipush F (by decide) dX8_taken_10 rfl ?_
      exact r_iret F Rt dX8_taken_13 (by decide) ⟨by first | rfl | rw [if_pos (by omega)] | rw [if_neg (by omega)], rfl, rfl, rfl⟩
abbrev rm_X8_output : Room := { frames := 1, cells := 0, slots := 0, locals := 21 }
set_option maxRecDepth 100000 in
set_option maxHeartbeats 4000000 in
theorem c_X8_output (l : Launch) (D : va_G) (cA : Nat → ClassId) (B : Nat) {lay : ja_Y} {mem : ja_M} {n : Nat} {k : Int} {y : Nat} {sl : Nat → Option Nat} {t : Int} (hB : ja_LB lay y sl) (hO : ja_BO mem y sl t) (hk : ja_in k)  : ja_Mt l D cA B yX8_output cX8_output 2 (some .int) rm_X8_output [.ref y, .int (ja_I k)] lay mem n (ja_rd lay mem n (some (.int (ja_I (if 1 ≤ k ∧ k ≤ 256 then (if mem (y + 1 + 9) 4 < k then -1004 else mem (y + 1 + 9 + 2) ((mem (y + 1 + 9) 4 - k) % 256).toNat) else -1001))))) := by
  refine ja_enter [some (.ref y), some (.int (ja_I k))] (by decide) (Nat.le_of_ble_eq_true rfl) (fun q hq => hq) (fun C F Rt G hnm => ?_)
  obtain ⟨b1, b2, b3, b4, b5⟩ := id hO
  obtain ⟨g1, g2, g3, g4, g5, g6, g7, g8, g9, g10, g11, g12⟩ := id b1
  obtain ⟨p1, p2, p3, p4, p5, p6⟩ := id g3
  obtain ⟨s0, s1, s2, s3, s4, s5, s6, s7, s8⟩ := id g1
  have tt := g2.1
  have a0 := g4.1
  obtain ⟨k1_, k2_⟩ := id hk
  refine r_iload_n F rfl rfl dX8_output_0 rfl ?_
  refine r_iconst F dX8_output_1 rfl ?_
  refine r_icmp_lt F (tgt := 12) ⟨by omega, by omega⟩ ⟨by omega, by omega⟩ dX8_output_2 rfl (by decide) (fun h_2 => ?_) (fun h_2 => ?_)
  ·
    refine r_sipush F (by decide) dX8_output_12 rfl ?_
    exact r_iret F Rt dX8_output_15 (by decide) ⟨by rw [if_neg (by omega)], rfl, rfl, rfl⟩
  ·
    refine r_iload_n F rfl rfl dX8_output_5 rfl ?_
    refine r_sipush F (by decide) dX8_output_6 rfl ?_
    refine r_icmp_le F (tgt := 16) ⟨by omega, by omega⟩ ⟨by omega, by omega⟩ dX8_output_9 rfl (by decide) (fun h_9 => ?_) (fun h_9 => ?_)
    ·
      refine r_iload_n F rfl rfl dX8_output_16 rfl ?_
      refine r_aload_n F rfl rfl dX8_output_17 rfl ?_
      refine r_getR F f_X8_10 (hB.1) rfl dX8_output_18 rfl ?_
      refine r_getR F f_X8_92 ((ja_LB_1 hB).1) rfl dX8_output_21 rfl ?_
      refine r_getI F f_X8_96 ((ja_LR_9 (ja_LB_1 hB)).1) rfl dX8_output_24 rfl ?_
      refine r_icmp_le F (tgt := 36) ⟨by omega, by omega⟩ ⟨by omega, by omega⟩ dX8_output_27 rfl (by decide) (fun h_27 => ?_) (fun h_27 => ?_)
      ·
        refine r_aload_n F rfl rfl dX8_output_36 rfl ?_
        refine r_getR F f_X8_10 (hB.1) rfl dX8_output_37 rfl ?_
        refine r_getR F f_X8_92 ((ja_LB_1 hB).1) rfl dX8_output_40 rfl ?_
        refine r_iload_n F rfl rfl dX8_output_43 rfl ?_
        refine r_callV F G (c_X4_outputAt _ _ _ _ (ja_LR_9 (ja_LB_1 hB)) ⟨by omega, by omega⟩ ⟨by omega, by omega⟩) v_X8_113 rfl ((ja_LR_9 (ja_LB_1 hB)).1) rfl (by decide) (by decide) (Nat.le_of_ble_eq_true rfl) rfl dX8_output_44 rfl (fun v lay' mem' n' hp => ?_)
        obtain ⟨q1, q2, q3, q4⟩ := hp
        subst q1; subst q2; subst q3; subst q4
        exact r_iret F Rt dX8_output_47 (by decide) ⟨by rw [if_pos ⟨by omega, by omega⟩]; first | rw [if_pos (by omega)] | rw [if_neg (by omega)], rfl, rfl, rfl⟩
      ·
        refine r_sipush F (by decide) dX8_output_30 rfl ?_
        refine r_goto F (tgt := 47) dX8_output_33 (by decide) ?_
        exact r_iret F Rt dX8_output_47 (by decide) ⟨by rw [if_pos ⟨by omega, by omega⟩]; first | rw [if_pos (by omega)] | rw [if_neg (by omega)], rfl, rfl, rfl⟩
    ·
      refine r_sipush F (by decide) dX8_output_12 rfl ?_
      exact r_iret F Rt dX8_output_15 (by decide) ⟨by rw [if_neg (by omega)], rfl, rfl, rfl⟩
abbrev rm_X8_kind : Room := { frames := 1, cells := 0, slots := 0, locals := 21 }
set_option maxRecDepth 100000 in
set_option maxHeartbeats 4000000 in
theorem c_X8_kind (l : Launch) (D : va_G) (cA : Nat → ClassId) (B : Nat) {lay : ja_Y} {mem : ja_M} {n : Nat} {k : Int} {y : Nat} {sl : Nat → Option Nat} {t : Int} (hB : ja_LB lay y sl) (hO : ja_BO mem y sl t) (hk : ja_in k)  : ja_Mt l D cA B yX8_kind cX8_kind 2 (some .int) rm_X8_kind [.ref y, .int (ja_I k)] lay mem n (ja_rd lay mem n (some (.int (ja_I (if 1 ≤ k ∧ k ≤ 32 then (if mem (y + 1 + 9) 6 < k then -1004 else mem (y + 1 + 9 + 3) ((mem (y + 1 + 9) 6 - k) % 32).toNat) else -1001))))) := by
  refine ja_enter [some (.ref y), some (.int (ja_I k))] (by decide) (Nat.le_of_ble_eq_true rfl) (fun q hq => hq) (fun C F Rt G hnm => ?_)
  obtain ⟨b1, b2, b3, b4, b5⟩ := id hO
  obtain ⟨g1, g2, g3, g4, g5, g6, g7, g8, g9, g10, g11, g12⟩ := id b1
  obtain ⟨p1, p2, p3, p4, p5, p6⟩ := id g3
  obtain ⟨s0, s1, s2, s3, s4, s5, s6, s7, s8⟩ := id g1
  have tt := g2.1
  have a0 := g4.1
  obtain ⟨k1_, k2_⟩ := id hk
  refine r_iload_n F rfl rfl dX8_kind_0 rfl ?_
  refine r_iconst F dX8_kind_1 rfl ?_
  refine r_icmp_lt F (tgt := 11) ⟨by omega, by omega⟩ ⟨by omega, by omega⟩ dX8_kind_2 rfl (by decide) (fun h_2 => ?_) (fun h_2 => ?_)
  ·
    refine r_sipush F (by decide) dX8_kind_11 rfl ?_
    exact r_iret F Rt dX8_kind_14 (by decide) ⟨by rw [if_neg (by omega)], rfl, rfl, rfl⟩
  ·
    refine r_iload_n F rfl rfl dX8_kind_5 rfl ?_
    refine r_bipush F (by decide) dX8_kind_6 rfl ?_
    refine r_icmp_le F (tgt := 15) ⟨by omega, by omega⟩ ⟨by omega, by omega⟩ dX8_kind_8 rfl (by decide) (fun h_8 => ?_) (fun h_8 => ?_)
    ·
      refine r_iload_n F rfl rfl dX8_kind_15 rfl ?_
      refine r_aload_n F rfl rfl dX8_kind_16 rfl ?_
      refine r_getR F f_X8_10 (hB.1) rfl dX8_kind_17 rfl ?_
      refine r_getR F f_X8_92 ((ja_LB_1 hB).1) rfl dX8_kind_20 rfl ?_
      refine r_getI F f_X8_120 ((ja_LR_9 (ja_LB_1 hB)).1) rfl dX8_kind_23 rfl ?_
      refine r_icmp_le F (tgt := 35) ⟨by omega, by omega⟩ ⟨by omega, by omega⟩ dX8_kind_26 rfl (by decide) (fun h_26 => ?_) (fun h_26 => ?_)
      ·
        refine r_aload_n F rfl rfl dX8_kind_35 rfl ?_
        refine r_getR F f_X8_10 (hB.1) rfl dX8_kind_36 rfl ?_
        refine r_getR F f_X8_92 ((ja_LB_1 hB).1) rfl dX8_kind_39 rfl ?_
        refine r_iload_n F rfl rfl dX8_kind_42 rfl ?_
        refine r_callV F G (c_X4_kindAt _ _ _ _ (ja_LR_9 (ja_LB_1 hB)) ⟨by omega, by omega⟩ ⟨by omega, by omega⟩) v_X8_123 rfl ((ja_LR_9 (ja_LB_1 hB)).1) rfl (by decide) (by decide) (Nat.le_of_ble_eq_true rfl) rfl dX8_kind_43 rfl (fun v lay' mem' n' hp => ?_)
        obtain ⟨q1, q2, q3, q4⟩ := hp
        subst q1; subst q2; subst q3; subst q4
        exact r_iret F Rt dX8_kind_46 (by decide) ⟨by rw [if_pos ⟨by omega, by omega⟩]; first | rw [if_pos (by omega)] | rw [if_neg (by omega)], rfl, rfl, rfl⟩
      ·
        refine r_sipush F (by decide) dX8_kind_29 rfl ?_
        refine r_goto F (tgt := 46) dX8_kind_32 (by decide) ?_
        exact r_iret F Rt dX8_kind_46 (by decide) ⟨by rw [if_pos ⟨by omega, by omega⟩]; first | rw [if_pos (by omega)] | rw [if_neg (by omega)], rfl, rfl, rfl⟩
    ·
      refine r_sipush F (by decide) dX8_kind_11 rfl ?_
      exact r_iret F Rt dX8_kind_14 (by decide) ⟨by rw [if_neg (by omega)], rfl, rfl, rfl⟩
abbrev rm_X8_state : Room := { frames := 2, cells := 0, slots := 0, locals := 44 }
set_option maxRecDepth 100000 in
set_option maxHeartbeats 4000000 in
theorem c_X8_state (l : Launch) (D : va_G) (cA : Nat → ClassId) (B : Nat) {lay : ja_Y} {mem : ja_M} {n : Nat} {x : Int} {y : Nat} {sl : Nat → Option Nat} {t : Int} (hB : ja_LB lay y sl) (hO : ja_BO mem y sl t) (hx : ja_in x)  : ja_Mt l D cA B yX8_state cX8_state 2 (some .int) rm_X8_state [.ref y, .int (ja_I x)] lay mem n (ja_rd lay mem n (some (.int (ja_I (if B_isF x then F_st mem (y + 1 + 1) (y + 1 + 2) x else -1001))))) := by
  refine ja_enter [some (.ref y), some (.int (ja_I x))] (by decide) (Nat.le_of_ble_eq_true rfl) (fun q hq => hq) (fun C F Rt G hnm => ?_)
  obtain ⟨b1, b2, b3, b4, b5⟩ := id hO
  obtain ⟨g1, g2, g3, g4, g5, g6, g7, g8, g9, g10, g11, g12⟩ := id b1
  obtain ⟨p1, p2, p3, p4, p5, p6⟩ := id g3
  obtain ⟨s0, s1, s2, s3, s4, s5, s6, s7, s8⟩ := id g1
  have tt := g2.1
  have a0 := g4.1
  obtain ⟨x1_, x2_⟩ := id hx
  have hbf : ja_b (B_isF x) = 0 ↔ ¬ B_isF x := by unfold ja_b; split <;> simp_all
  have hbr : 0 ≤ ja_b (B_isF x) ∧ ja_b (B_isF x) ≤ 1 := by unfold ja_b; split <;> omega
  refine r_iload_n F rfl rfl dX8_state_0 rfl ?_
  refine r_callS F G (c_X8_isFrame _ _ _ _ hx) s_X8_76 rfl (by decide) (by decide) (Nat.le_of_ble_eq_true rfl) rfl dX8_state_1 rfl (fun v lay' mem' n' hp => ?_)
  obtain ⟨q1, q2, q3, q4⟩ := hp
  subst q1; subst q2; subst q3; subst q4
  refine r_if_ne F (tgt := 11) ⟨by omega, by omega⟩ dX8_state_4 rfl (by decide) (fun h_4 => ?_) (fun h_4 => ?_)
  ·
    refine r_aload_n F rfl rfl dX8_state_11 rfl ?_
    refine r_getR F f_X8_10 (hB.1) rfl dX8_state_12 rfl ?_
    refine r_getR F f_X8_126 ((ja_LB_1 hB).1) rfl dX8_state_15 rfl ?_
    refine r_aload_n F rfl rfl dX8_state_18 rfl ?_
    refine r_getR F f_X8_10 (hB.1) rfl dX8_state_19 rfl ?_
    refine r_getR F f_X8_43 ((ja_LB_1 hB).1) rfl dX8_state_22 rfl ?_
    refine r_iload_n F rfl rfl dX8_state_25 rfl ?_
    refine r_callV F G (c_X3_stateOf _ _ _ _ (ja_LR_2 (ja_LB_1 hB)) (ja_LR_1 (ja_LB_1 hB)) g1 (Decidable.byContradiction fun q => h_4 (hbf.mpr q))) v_X8_130 rfl ((ja_LR_2 (ja_LB_1 hB)).1) rfl (by decide) (by decide) (Nat.le_of_ble_eq_true rfl) rfl dX8_state_26 rfl (fun v lay' mem' n' hp => ?_)
    obtain ⟨q1, q2, q3, q4⟩ := hp
    subst q1; subst q2; subst q3; subst q4
    exact r_iret F Rt dX8_state_29 (by decide) ⟨by rw [if_pos (Decidable.byContradiction fun q => h_4 (hbf.mpr q))], rfl, rfl, rfl⟩
  ·
    refine r_sipush F (by decide) dX8_state_7 rfl ?_
    exact r_iret F Rt dX8_state_10 (by decide) ⟨by rw [if_neg (hbf.mp h_4)], rfl, rfl, rfl⟩
abbrev rm_X8_sample : Room := { frames := 1, cells := 0, slots := 0, locals := 23 }
set_option maxRecDepth 100000 in
set_option maxHeartbeats 4000000 in
theorem c_X8_sample (l : Launch) (D : va_G) (cA : Nat → ClassId) (B : Nat) {lay : ja_Y} {mem : ja_M} {n : Nat} {x j : Int} {y : Nat} {sl : Nat → Option Nat} {t : Int} (hB : ja_LB lay y sl) (hO : ja_BO mem y sl t) (hx : ja_in x) (hj : ja_in j)  : ja_Mt l D cA B yX8_sample cX8_sample 3 (some .int) rm_X8_sample [.ref y, .int (ja_I x), .int (ja_I j)] lay mem n (ja_rd lay mem n (some (.int (ja_I (if B_isF x ∧ 0 ≤ j ∧ j < mem (y + 1 + 1) 0 then ja_wave mem (y + 1 + 1) x j else -1001))))) := by
  refine ja_enter [some (.ref y), some (.int (ja_I x)), some (.int (ja_I j))] (by decide) (Nat.le_of_ble_eq_true rfl) (fun q hq => hq) (fun C F Rt G hnm => ?_)
  obtain ⟨b1, b2, b3, b4, b5⟩ := id hO
  obtain ⟨g1, g2, g3, g4, g5, g6, g7, g8, g9, g10, g11, g12⟩ := id b1
  obtain ⟨p1, p2, p3, p4, p5, p6⟩ := id g3
  obtain ⟨s0, s1, s2, s3, s4, s5, s6, s7, s8⟩ := id g1
  have tt := g2.1
  have a0 := g4.1
  obtain ⟨x1_, x2_⟩ := id hx
  obtain ⟨j1_, j2_⟩ := id hj
  have hbf : ja_b (B_isF x) = 0 ↔ ¬ B_isF x := by unfold ja_b; split <;> simp_all
  have hbr : 0 ≤ ja_b (B_isF x) ∧ ja_b (B_isF x) ≤ 1 := by unfold ja_b; split <;> omega
  refine r_iload_n F rfl rfl dX8_sample_0 rfl ?_
  refine r_callS F G (c_X8_isFrame _ _ _ _ hx) s_X8_76 rfl (by decide) (by decide) (Nat.le_of_ble_eq_true rfl) rfl dX8_sample_1 rfl (fun v lay' mem' n' hp => ?_)
  obtain ⟨q1, q2, q3, q4⟩ := hp
  subst q1; subst q2; subst q3; subst q4
  refine r_if_eq F (tgt := 25) ⟨by omega, by omega⟩ dX8_sample_4 rfl (by decide) (fun h_4 => ?_) (fun h_4 => ?_)
  ·
    refine r_sipush F (by decide) dX8_sample_25 rfl ?_
    exact r_iret F Rt dX8_sample_28 (by decide) ⟨by first | rw [if_neg (fun q => hbf.mp h_4 q.1)] | rw [if_neg (by omega)], rfl, rfl, rfl⟩
  ·
    have h4 := Decidable.byContradiction fun q => h_4 (hbf.mpr q)
    refine r_iload_n F rfl rfl dX8_sample_7 rfl ?_
    refine r_if_lt F (tgt := 25) ⟨by omega, by omega⟩ dX8_sample_8 rfl (by decide) (fun h_8 => ?_) (fun h_8 => ?_)
    ·
      refine r_sipush F (by decide) dX8_sample_25 rfl ?_
      exact r_iret F Rt dX8_sample_28 (by decide) ⟨by first | rw [if_neg (fun q => hbf.mp h_4 q.1)] | rw [if_neg (by omega)], rfl, rfl, rfl⟩
    ·
      refine r_iload_n F rfl rfl dX8_sample_11 rfl ?_
      refine r_aload_n F rfl rfl dX8_sample_12 rfl ?_
      refine r_getR F f_X8_10 (hB.1) rfl dX8_sample_13 rfl ?_
      refine r_getR F f_X8_43 ((ja_LB_1 hB).1) rfl dX8_sample_16 rfl ?_
      refine r_getI F f_X8_47 (ja_LR_1 (ja_LB_1 hB)) rfl dX8_sample_19 rfl ?_
      refine r_icmp_lt F (tgt := 29) ⟨by omega, by omega⟩ ⟨by omega, by omega⟩ dX8_sample_22 rfl (by decide) (fun h_22 => ?_) (fun h_22 => ?_)
      ·
        refine r_aload_n F rfl rfl dX8_sample_29 rfl ?_
        refine r_getR F f_X8_10 (hB.1) rfl dX8_sample_30 rfl ?_
        refine r_getR F f_X8_43 ((ja_LB_1 hB).1) rfl dX8_sample_33 rfl ?_
        refine r_iload_n F rfl rfl dX8_sample_36 rfl ?_
        refine r_iload_n F rfl rfl dX8_sample_37 rfl ?_
        refine r_callV F G (c_X6_waveAt _ _ _ _ (ja_LR_1 (ja_LB_1 hB)) g1 ⟨h4.1, by have := h4.2; omega⟩ ⟨by omega, by omega⟩) v_X8_136 rfl (ja_LR_1 (ja_LB_1 hB)) rfl (by decide) (by decide) (Nat.le_of_ble_eq_true rfl) rfl dX8_sample_38 rfl (fun v lay' mem' n' hp => ?_)
        obtain ⟨q1, q2, q3, q4⟩ := hp
        subst q1; subst q2; subst q3; subst q4
        exact r_iret F Rt dX8_sample_41 (by decide) ⟨by rw [if_pos ⟨h4, by omega, by omega⟩], rfl, rfl, rfl⟩
      ·
        refine r_sipush F (by decide) dX8_sample_25 rfl ?_
        exact r_iret F Rt dX8_sample_28 (by decide) ⟨by first | rw [if_neg (fun q => hbf.mp h_4 q.1)] | rw [if_neg (by omega)], rfl, rfl, rfl⟩
abbrev rm_X8_transit : Room := { frames := 1, cells := 0, slots := 0, locals := 21 }
set_option maxRecDepth 100000 in
set_option maxHeartbeats 4000000 in
theorem c_X8_transit (l : Launch) (D : va_G) (cA : Nat → ClassId) (B : Nat) {lay : ja_Y} {mem : ja_M} {n : Nat} {k : Int} {y : Nat} {sl : Nat → Option Nat} {t : Int} (hB : ja_LB lay y sl) (hO : ja_BO mem y sl t) (hk : ja_in k)  : ja_Mt l D cA B yX8_transit cX8_transit 2 (some .int) rm_X8_transit [.ref y, .int (ja_I k)] lay mem n (ja_rd lay mem n (some (.int (ja_I (if 0 ≤ k ∧ k < mem (y + 1 + 6) 2 then (if -999 < mem (y + 1 + 6 + 2) k.toNat then mem (y + 1 + 6 + 2) k.toNat else -999) else -1001))))) := by
  refine ja_enter [some (.ref y), some (.int (ja_I k))] (by decide) (Nat.le_of_ble_eq_true rfl) (fun q hq => hq) (fun C F Rt G hnm => ?_)
  obtain ⟨b1, b2, b3, b4, b5⟩ := id hO
  obtain ⟨g1, g2, g3, g4, g5, g6, g7, g8, g9, g10, g11, g12⟩ := id b1
  obtain ⟨p1, p2, p3, p4, p5, p6⟩ := id g3
  obtain ⟨s0, s1, s2, s3, s4, s5, s6, s7, s8⟩ := id g1
  have tt := g2.1
  have a0 := g4.1
  obtain ⟨k1_, k2_⟩ := id hk
  refine r_iload_n F rfl rfl dX8_transit_0 rfl ?_
  refine r_if_lt F (tgt := 18) ⟨by omega, by omega⟩ dX8_transit_1 rfl (by decide) (fun h_1 => ?_) (fun h_1 => ?_)
  ·
    refine r_sipush F (by decide) dX8_transit_18 rfl ?_
    exact r_iret F Rt dX8_transit_21 (by decide) ⟨by rw [if_neg (by omega)], rfl, rfl, rfl⟩
  ·
    refine r_iload_n F rfl rfl dX8_transit_4 rfl ?_
    refine r_aload_n F rfl rfl dX8_transit_5 rfl ?_
    refine r_getR F f_X8_10 (hB.1) rfl dX8_transit_6 rfl ?_
    refine r_getR F f_X8_154 ((ja_LB_1 hB).1) rfl dX8_transit_9 rfl ?_
    refine r_getI F f_X8_158 ((ja_LR_6 (ja_LB_1 hB)).1) rfl dX8_transit_12 rfl ?_
    refine r_icmp_lt F (tgt := 22) ⟨by omega, by omega⟩ ⟨by omega, by omega⟩ dX8_transit_15 rfl (by decide) (fun h_15 => ?_) (fun h_15 => ?_)
    ·
      refine r_sipush F (by decide) dX8_transit_22 rfl ?_
      refine r_aload_n F rfl rfl dX8_transit_25 rfl ?_
      refine r_getR F f_X8_10 (hB.1) rfl dX8_transit_26 rfl ?_
      refine r_getR F f_X8_154 ((ja_LB_1 hB).1) rfl dX8_transit_29 rfl ?_
      refine r_iload_n F rfl rfl dX8_transit_32 rfl ?_
      refine r_callV F G (c_X7_ascendingAt _ _ _ _ (ja_LR_6 (ja_LB_1 hB)) ⟨by omega, by omega⟩) v_X8_163 rfl ((ja_LR_6 (ja_LB_1 hB)).1) rfl (by decide) (by decide) (Nat.le_of_ble_eq_true rfl) rfl dX8_transit_33 rfl (fun v lay' mem' n' hp => ?_)
      obtain ⟨q1, q2, q3, q4⟩ := hp
      subst q1; subst q2; subst q3; subst q4
      have q2 := g2.2.2.2 k.toNat
      obtain ⟨q3, q4⟩ := q2
      refine r_mmax F ⟨by omega, by omega⟩ ⟨by omega, by omega⟩ s_X8_166 (Nat.le_of_ble_eq_true rfl) (by decide) (by decide) (by decide) dX8_transit_36 rfl ?_
      exact r_iret F Rt dX8_transit_39 (by decide) ⟨by rw [if_pos ⟨by omega, by omega⟩], rfl, rfl, rfl⟩
    ·
      refine r_sipush F (by decide) dX8_transit_18 rfl ?_
      exact r_iret F Rt dX8_transit_21 (by decide) ⟨by rw [if_neg (by omega)], rfl, rfl, rfl⟩
abbrev rm_X8_missing : Room := { frames := 3, cells := 0, slots := 0, locals := 69 }
set_option maxRecDepth 100000 in
set_option maxHeartbeats 4000000 in
theorem c_X8_missing (l : Launch) (D : va_G) (cA : Nat → ClassId) (B : Nat) {lay : ja_Y} {mem : ja_M} {n : Nat} {r k i : Int} {y : Nat} {sl : Nat → Option Nat} {t : Int} (hB : ja_LB lay y sl) (hO : ja_BO mem y sl t) (hr : ja_in r) (hk : ja_in k) (hi : ja_in i) (h01 : 0 ≤ r ∧ r ≤ 1) : ja_Mt l D cA B yX8_missing cX8_missing 4 (some .int) rm_X8_missing [.ref y, .int (ja_I r), .int (ja_I k), .int (ja_I i)] lay mem n (ja_rd lay mem n (some (.int (ja_I (if ja_hasP mem (y + 1 + 1) r k i then J_bc (F_lb mem (y + 1 + 1) r i &&& (F_kn mem (y + 1 + 1) (y + 1 + 2) k ^^^ (-1))) else -1001))))) := by
  refine ja_enter [some (.ref y), some (.int (ja_I r)), some (.int (ja_I k)), some (.int (ja_I i))] (by decide) (Nat.le_of_ble_eq_true rfl) (fun q hq => hq) (fun C F Rt G hnm => ?_)
  obtain ⟨b1, b2, b3, b4, b5⟩ := id hO
  obtain ⟨g1, g2, g3, g4, g5, g6, g7, g8, g9, g10, g11, g12⟩ := id b1
  obtain ⟨p1, p2, p3, p4, p5, p6⟩ := id g3
  obtain ⟨s0, s1, s2, s3, s4, s5, s6, s7, s8⟩ := id g1
  have tt := g2.1
  have a0 := g4.1
  obtain ⟨r1_, r2_⟩ := id hr
  obtain ⟨k1_, k2_⟩ := id hk
  obtain ⟨i1_, i2_⟩ := id hi
  have hbp : ja_b (ja_hasP mem (y + 1 + 1) r k i) = 0 ↔ ¬ ja_hasP mem (y + 1 + 1) r k i := by unfold ja_b; split <;> simp_all
  have hbr : 0 ≤ ja_b (ja_hasP mem (y + 1 + 1) r k i) ∧ ja_b (ja_hasP mem (y + 1 + 1) r k i) ≤ 1 := by unfold ja_b; split <;> omega
  refine r_aload_n F rfl rfl dX8_missing_0 rfl ?_
  refine r_getR F f_X8_10 (hB.1) rfl dX8_missing_1 rfl ?_
  refine r_getR F f_X8_43 ((ja_LB_1 hB).1) rfl dX8_missing_4 rfl ?_
  refine r_iload_n F rfl rfl dX8_missing_7 rfl ?_
  refine r_iload_n F rfl rfl dX8_missing_8 rfl ?_
  refine r_iload_n F rfl rfl dX8_missing_9 rfl ?_
  refine r_callV F G (c_X6_hasPacket _ _ _ _ (ja_LR_1 (ja_LB_1 hB)) g1 h01 hk hi) v_X8_84 rfl (ja_LR_1 (ja_LB_1 hB)) rfl (by decide) (by decide) (Nat.le_of_ble_eq_true rfl) rfl dX8_missing_10 rfl (fun v lay' mem' n' hp => ?_)
  obtain ⟨q1, q2, q3, q4⟩ := hp
  subst q1; subst q2; subst q3; subst q4
  refine r_if_ne F (tgt := 20) ⟨by omega, by omega⟩ dX8_missing_13 rfl (by decide) (fun h_13 => ?_) (fun h_13 => ?_)
  ·
    refine r_aload_n F rfl rfl dX8_missing_20 rfl ?_
    refine r_getR F f_X8_10 (hB.1) rfl dX8_missing_21 rfl ?_
    refine r_getR F f_X8_126 ((ja_LB_1 hB).1) rfl dX8_missing_24 rfl ?_
    refine r_aload_n F rfl rfl dX8_missing_27 rfl ?_
    refine r_getR F f_X8_10 (hB.1) rfl dX8_missing_28 rfl ?_
    refine r_getR F f_X8_43 ((ja_LB_1 hB).1) rfl dX8_missing_31 rfl ?_
    refine r_iload_n F rfl rfl dX8_missing_34 rfl ?_
    refine r_iload_n F rfl rfl dX8_missing_35 rfl ?_
    refine r_iload_n F rfl rfl dX8_missing_36 rfl ?_
    refine r_callV F G (c_X3_missingIn _ _ _ _ (ja_LR_2 (ja_LB_1 hB)) (ja_LR_1 (ja_LB_1 hB)) g1 h01 (Decidable.byContradiction fun q => h_13 (hbp.mpr q)).1) v_X8_140 rfl ((ja_LR_2 (ja_LB_1 hB)).1) rfl (by decide) (by decide) (Nat.le_of_ble_eq_true rfl) rfl dX8_missing_37 rfl (fun v lay' mem' n' hp => ?_)
    obtain ⟨q1, q2, q3, q4⟩ := hp
    subst q1; subst q2; subst q3; subst q4
    exact r_iret F Rt dX8_missing_40 (by decide) ⟨by rw [if_pos (Decidable.byContradiction fun q => h_13 (hbp.mpr q))], rfl, rfl, rfl⟩
  ·
    refine r_sipush F (by decide) dX8_missing_16 rfl ?_
    exact r_iret F Rt dX8_missing_19 (by decide) ⟨by rw [if_neg (hbp.mp h_13)], rfl, rfl, rfl⟩
abbrev rm_X8_unrestorable : Room := { frames := 4, cells := 0, slots := 0, locals := 105 }
set_option maxRecDepth 100000 in
set_option maxHeartbeats 4000000 in
theorem c_X8_unrestorable (l : Launch) (D : va_G) (cA : Nat → ClassId) (B : Nat) {lay : ja_Y} {mem : ja_M} {n : Nat} {k : Int} {y : Nat} {sl : Nat → Option Nat} {t : Int} (hB : ja_LB lay y sl) (hO : ja_BO mem y sl t) (hk : ja_in k)  : ja_Mt l D cA B yX8_unrestorable cX8_unrestorable 2 (some .int) rm_X8_unrestorable [.ref y, .int (ja_I k)] lay mem n (ja_rd lay mem n (some (.int (ja_I (if ja_hasB mem (y + 1 + 1) k then J_bc ((ja_shl 1 (ja_cells mem (y + 1 + 1)) - 1) &&& (F_cp mem (y + 1 + 1) (-1) 37 (F_kn mem (y + 1 + 1) (y + 1 + 2) k) ^^^ (-1))) else -1001))))) := by
  refine ja_enter [some (.ref y), some (.int (ja_I k))] (by decide) (Nat.le_of_ble_eq_true rfl) (fun q hq => hq) (fun C F Rt G hnm => ?_)
  obtain ⟨b1, b2, b3, b4, b5⟩ := id hO
  obtain ⟨g1, g2, g3, g4, g5, g6, g7, g8, g9, g10, g11, g12⟩ := id b1
  obtain ⟨p1, p2, p3, p4, p5, p6⟩ := id g3
  obtain ⟨s0, s1, s2, s3, s4, s5, s6, s7, s8⟩ := id g1
  have tt := g2.1
  have a0 := g4.1
  obtain ⟨k1_, k2_⟩ := id hk
  have hbp : ja_b (ja_hasB mem (y + 1 + 1) k) = 0 ↔ ¬ ja_hasB mem (y + 1 + 1) k := by unfold ja_b; split <;> simp_all
  have hbr : 0 ≤ ja_b (ja_hasB mem (y + 1 + 1) k) ∧ ja_b (ja_hasB mem (y + 1 + 1) k) ≤ 1 := by unfold ja_b; split <;> omega
  refine r_aload_n F rfl rfl dX8_unrestorable_0 rfl ?_
  refine r_getR F f_X8_10 (hB.1) rfl dX8_unrestorable_1 rfl ?_
  refine r_getR F f_X8_43 ((ja_LB_1 hB).1) rfl dX8_unrestorable_4 rfl ?_
  refine r_iload_n F rfl rfl dX8_unrestorable_7 rfl ?_
  refine r_callV F G (c_X6_hasBlock _ _ _ _ (ja_LR_1 (ja_LB_1 hB)) g1 hk) v_X8_144 rfl (ja_LR_1 (ja_LB_1 hB)) rfl (by decide) (by decide) (Nat.le_of_ble_eq_true rfl) rfl dX8_unrestorable_8 rfl (fun v lay' mem' n' hp => ?_)
  obtain ⟨q1, q2, q3, q4⟩ := hp
  subst q1; subst q2; subst q3; subst q4
  refine r_if_ne F (tgt := 18) ⟨by omega, by omega⟩ dX8_unrestorable_11 rfl (by decide) (fun h_11 => ?_) (fun h_11 => ?_)
  ·
    refine r_aload_n F rfl rfl dX8_unrestorable_18 rfl ?_
    refine r_getR F f_X8_10 (hB.1) rfl dX8_unrestorable_19 rfl ?_
    refine r_getR F f_X8_126 ((ja_LB_1 hB).1) rfl dX8_unrestorable_22 rfl ?_
    refine r_aload_n F rfl rfl dX8_unrestorable_25 rfl ?_
    refine r_getR F f_X8_10 (hB.1) rfl dX8_unrestorable_26 rfl ?_
    refine r_getR F f_X8_43 ((ja_LB_1 hB).1) rfl dX8_unrestorable_29 rfl ?_
    refine r_iload_n F rfl rfl dX8_unrestorable_32 rfl ?_
    refine r_callV F G (c_X3_unrestorableIn _ _ _ _ (ja_LR_2 (ja_LB_1 hB)) (ja_LR_1 (ja_LB_1 hB)) g1 (Decidable.byContradiction fun q => h_11 (hbp.mpr q))) v_X8_147 rfl ((ja_LR_2 (ja_LB_1 hB)).1) rfl (by decide) (by decide) (Nat.le_of_ble_eq_true rfl) rfl dX8_unrestorable_33 rfl (fun v lay' mem' n' hp => ?_)
    obtain ⟨q1, q2, q3, q4⟩ := hp
    subst q1; subst q2; subst q3; subst q4
    exact r_iret F Rt dX8_unrestorable_36 (by decide) ⟨by rw [if_pos (Decidable.byContradiction fun q => h_11 (hbp.mpr q))], rfl, rfl, rfl⟩
  ·
    refine r_sipush F (by decide) dX8_unrestorable_14 rfl ?_
    exact r_iret F Rt dX8_unrestorable_17 (by decide) ⟨by rw [if_neg (hbp.mp h_11)], rfl, rfl, rfl⟩
end
section
abbrev rm_X8_setFrame : Room := { frames := 1, cells := 0, slots := 0, locals := 20 }
set_option maxRecDepth 100000 in
set_option maxHeartbeats 4000000 in
theorem c_X8_setFrame (l : Launch) (D : va_G) (cA : Nat → ClassId) (B : Nat) {lay : ja_Y} {mem : ja_M} {n : Nat} {k : Int} {y : Nat} {sl : Nat → Option Nat} {t : Int} (hB : ja_LB lay y sl) (hO : ja_BO mem y sl t) (hk : ja_in k)  : ja_Mt l D cA B yX8_setFrame cX8_setFrame 3 (some .int) rm_X8_setFrame [.ref y, .int (ja_I k)] lay mem n (ja_rd lay (if (4 ≤ k ∧ k ≤ 16) ∧ ¬ B_bg mem y then ja_up mem (y + 1 + 1) 0 k else mem) n (some (.int (ja_I (if 4 ≤ k ∧ k ≤ 16 then (if B_bg mem y then -1003 else mem (y + 1 + 1) 0) else -1001))))) := by
  refine ja_enter [some (.ref y), some (.int (ja_I k)), none] (by decide) (Nat.le_of_ble_eq_true rfl) (fun q hq => hq) (fun C F Rt G hnm => ?_)
  obtain ⟨b1, b2, b3, b4, b5⟩ := id hO
  obtain ⟨g1, g2, g3, g4, g5, g6, g7, g8, g9, g10, g11, g12⟩ := id b1
  obtain ⟨p1, p2, p3, p4, p5, p6⟩ := id g3
  obtain ⟨s0, s1, s2, s3, s4, s5, s6, s7, s8⟩ := id g1
  have tt := g2.1
  have a0 := g4.1
  obtain ⟨k1_, k2_⟩ := id hk
  have hbb : ja_b (B_bg mem y) = 0 ↔ ¬ B_bg mem y := by unfold ja_b; split <;> simp_all
  have hbr : 0 ≤ ja_b (B_bg mem y) ∧ ja_b (B_bg mem y) ≤ 1 := by unfold ja_b; split <;> omega
  refine r_iload_n F rfl rfl dX8_setFrame_0 rfl ?_
  refine r_iconst F dX8_setFrame_1 rfl ?_
  refine r_icmp_lt F (tgt := 11) ⟨by omega, by omega⟩ ⟨by omega, by omega⟩ dX8_setFrame_2 rfl (by decide) (fun h_2 => ?_) (fun h_2 => ?_)
  ·
    refine r_sipush F (by decide) dX8_setFrame_11 rfl ?_
    exact r_iret F Rt dX8_setFrame_14 (by decide) ⟨by rw [if_neg (by omega)], rfl, by rw [if_neg (fun q => absurd q.1 (by omega))], rfl⟩
  ·
    refine r_iload_n F rfl rfl dX8_setFrame_5 rfl ?_
    refine r_bipush F (by decide) dX8_setFrame_6 rfl ?_
    refine r_icmp_le F (tgt := 15) ⟨by omega, by omega⟩ ⟨by omega, by omega⟩ dX8_setFrame_8 rfl (by decide) (fun h_8 => ?_) (fun h_8 => ?_)
    ·
      refine r_aload_n F rfl rfl dX8_setFrame_15 rfl ?_
      refine r_getR F f_X8_10 (hB.1) rfl dX8_setFrame_16 rfl ?_
      refine r_callV F G (c_X5_hasBegun _ _ _ _ (ja_LB_1 hB) b1) v_X8_39 rfl ((ja_LB_1 hB).1) rfl (by decide) (by decide) (Nat.le_of_ble_eq_true rfl) rfl dX8_setFrame_19 rfl (fun v lay' mem' n' hp => ?_)
      obtain ⟨q1, q2, q3, q4⟩ := hp
      subst q1; subst q2; subst q3; subst q4
      refine r_eqz (z := ja_b (B_bg mem y)) rfl ?_
      refine r_if_eq F (tgt := 29) ⟨by omega, by omega⟩ dX8_setFrame_22 rfl (by decide) (fun h_22 => ?_) (fun h_22 => ?_)
      ·
        have hng : ¬ B_bg mem y := hbb.mp h_22
        refine r_aload_n F rfl rfl dX8_setFrame_29 rfl ?_
        refine r_getR F f_X8_10 (hB.1) rfl dX8_setFrame_30 rfl ?_
        refine r_getR F f_X8_43 ((ja_LB_1 hB).1) rfl dX8_setFrame_33 rfl ?_
        refine r_getI F f_X8_47 (ja_LR_1 (ja_LB_1 hB)) rfl dX8_setFrame_36 rfl ?_
        refine r_ist2 F (by decide) rfl dX8_setFrame_39 rfl ?_
        refine r_aload_n F rfl rfl dX8_setFrame_40 rfl ?_
        refine r_getR F f_X8_10 (hB.1) rfl dX8_setFrame_41 rfl ?_
        refine r_getR F f_X8_43 ((ja_LB_1 hB).1) rfl dX8_setFrame_44 rfl ?_
        refine r_iload_n F rfl rfl dX8_setFrame_47 rfl ?_
        refine r_putI F f_X8_47 (ja_LR_1 (ja_LB_1 hB)) rfl dX8_setFrame_48 rfl ?_
        refine r_iload_n F rfl rfl dX8_setFrame_51 rfl ?_
        exact r_iret F Rt dX8_setFrame_52 (by decide) ⟨by rw [if_pos (by omega), if_neg hng], rfl, by rw [if_pos ⟨by omega, hng⟩], rfl⟩
      ·
        have hbg : B_bg mem y := Decidable.byContradiction fun q => h_22 (hbb.mpr q)
        refine r_sipush F (by decide) dX8_setFrame_25 rfl ?_
        exact r_iret F Rt dX8_setFrame_28 (by decide) ⟨by rw [if_pos (by omega), if_pos hbg], rfl, by rw [if_neg (fun q => q.2 hbg)], rfl⟩
    ·
      refine r_sipush F (by decide) dX8_setFrame_11 rfl ?_
      exact r_iret F Rt dX8_setFrame_14 (by decide) ⟨by rw [if_neg (by omega)], rfl, by rw [if_neg (fun q => absurd q.1 (by omega))], rfl⟩
abbrev rm_X8_setWave : Room := { frames := 1, cells := 0, slots := 0, locals := 20 }
set_option maxRecDepth 100000 in
set_option maxHeartbeats 4000000 in
theorem c_X8_setWave (l : Launch) (D : va_G) (cA : Nat → ClassId) (B : Nat) {lay : ja_Y} {mem : ja_M} {n : Nat} {k i : Int} {y : Nat} {sl : Nat → Option Nat} {t : Int} (hB : ja_LB lay y sl) (hO : ja_BO mem y sl t) (hk : ja_in k) (hi : ja_in i)  : ja_Mt l D cA B yX8_setWave cX8_setWave 4 (some .int) rm_X8_setWave [.ref y, .int (ja_I k), .int (ja_I i)] lay mem n (ja_rd lay (if (2 ≤ k ∧ k ≤ 32 ∧ 1 ≤ i ∧ i ≤ 200) ∧ ¬ B_bg mem y then ja_up (ja_up mem (y + 1 + 1) 1 k) (y + 1 + 1) 2 i else mem) n (some (.int (ja_I (if 2 ≤ k ∧ k ≤ 32 ∧ 1 ≤ i ∧ i ≤ 200 then (if B_bg mem y then -1003 else 1000 * mem (y + 1 + 1) 1 + mem (y + 1 + 1) 2) else -1001))))) := by
  refine ja_enter [some (.ref y), some (.int (ja_I k)), some (.int (ja_I i)), none] (by decide) (Nat.le_of_ble_eq_true rfl) (fun q hq => hq) (fun C F Rt G hnm => ?_)
  obtain ⟨b1, b2, b3, b4, b5⟩ := id hO
  obtain ⟨g1, g2, g3, g4, g5, g6, g7, g8, g9, g10, g11, g12⟩ := id b1
  obtain ⟨p1, p2, p3, p4, p5, p6⟩ := id g3
  obtain ⟨s0, s1, s2, s3, s4, s5, s6, s7, s8⟩ := id g1
  have tt := g2.1
  have a0 := g4.1
  obtain ⟨k1_, k2_⟩ := id hk
  obtain ⟨i1_, i2_⟩ := id hi
  have hbb : ja_b (B_bg mem y) = 0 ↔ ¬ B_bg mem y := by unfold ja_b; split <;> simp_all
  have hbr : 0 ≤ ja_b (B_bg mem y) ∧ ja_b (B_bg mem y) ≤ 1 := by unfold ja_b; split <;> omega
  refine r_iload_n F rfl rfl dX8_setWave_0 rfl ?_
  refine r_iconst F dX8_setWave_1 rfl ?_
  refine r_icmp_lt F (tgt := 23) ⟨by omega, by omega⟩ ⟨by omega, by omega⟩ dX8_setWave_2 rfl (by decide) (fun h_2 => ?_) (fun h_2 => ?_)
  ·
    refine r_sipush F (by decide) dX8_setWave_23 rfl ?_
    exact r_iret F Rt dX8_setWave_26 (by decide) ⟨by rw [if_neg (by omega)], rfl, by rw [if_neg (fun q => absurd q.1 (by omega))], rfl⟩
  ·
    refine r_iload_n F rfl rfl dX8_setWave_5 rfl ?_
    refine r_bipush F (by decide) dX8_setWave_6 rfl ?_
    refine r_icmp_gt F (tgt := 23) ⟨by omega, by omega⟩ ⟨by omega, by omega⟩ dX8_setWave_8 rfl (by decide) (fun h_8 => ?_) (fun h_8 => ?_)
    ·
      refine r_sipush F (by decide) dX8_setWave_23 rfl ?_
      exact r_iret F Rt dX8_setWave_26 (by decide) ⟨by rw [if_neg (by omega)], rfl, by rw [if_neg (fun q => absurd q.1 (by omega))], rfl⟩
    ·
      refine r_iload_n F rfl rfl dX8_setWave_11 rfl ?_
      refine r_iconst F dX8_setWave_12 rfl ?_
      refine r_icmp_lt F (tgt := 23) ⟨by omega, by omega⟩ ⟨by omega, by omega⟩ dX8_setWave_13 rfl (by decide) (fun h_13 => ?_) (fun h_13 => ?_)
      ·
        refine r_sipush F (by decide) dX8_setWave_23 rfl ?_
        exact r_iret F Rt dX8_setWave_26 (by decide) ⟨by rw [if_neg (by omega)], rfl, by rw [if_neg (fun q => absurd q.1 (by omega))], rfl⟩
      ·
        refine r_iload_n F rfl rfl dX8_setWave_16 rfl ?_
        refine r_sipush F (by decide) dX8_setWave_17 rfl ?_
        refine r_icmp_le F (tgt := 27) ⟨by omega, by omega⟩ ⟨by omega, by omega⟩ dX8_setWave_20 rfl (by decide) (fun h_20 => ?_) (fun h_20 => ?_)
        ·
          refine r_aload_n F rfl rfl dX8_setWave_27 rfl ?_
          refine r_getR F f_X8_10 (hB.1) rfl dX8_setWave_28 rfl ?_
          refine r_callV F G (c_X5_hasBegun _ _ _ _ (ja_LB_1 hB) b1) v_X8_39 rfl ((ja_LB_1 hB).1) rfl (by decide) (by decide) (Nat.le_of_ble_eq_true rfl) rfl dX8_setWave_31 rfl (fun v lay' mem' n' hp => ?_)
          obtain ⟨q1, q2, q3, q4⟩ := hp
          subst q1; subst q2; subst q3; subst q4
          refine r_eqz (z := ja_b (B_bg mem y)) rfl ?_
          refine r_if_eq F (tgt := 41) ⟨by omega, by omega⟩ dX8_setWave_34 rfl (by decide) (fun h_34 => ?_) (fun h_34 => ?_)
          ·
            have hng : ¬ B_bg mem y := hbb.mp h_34
            refine r_sipush F (by decide) dX8_setWave_41 rfl ?_
            refine r_aload_n F rfl rfl dX8_setWave_44 rfl ?_
            refine r_getR F f_X8_10 (hB.1) rfl dX8_setWave_45 rfl ?_
            refine r_getR F f_X8_43 ((ja_LB_1 hB).1) rfl dX8_setWave_48 rfl ?_
            refine r_getI F f_X8_51 (ja_LR_1 (ja_LB_1 hB)) rfl dX8_setWave_51 rfl ?_
            refine r_imul F dX8_setWave_54 rfl ?_
            refine r_aload_n F rfl rfl dX8_setWave_55 rfl ?_
            refine r_getR F f_X8_10 (hB.1) rfl dX8_setWave_56 rfl ?_
            refine r_getR F f_X8_43 ((ja_LB_1 hB).1) rfl dX8_setWave_59 rfl ?_
            refine r_getI F f_X8_54 (ja_LR_1 (ja_LB_1 hB)) rfl dX8_setWave_62 rfl ?_
            refine r_iadd F dX8_setWave_65 rfl ?_
            refine r_ist3 F (by decide) rfl dX8_setWave_66 rfl ?_
            refine r_aload_n F rfl rfl dX8_setWave_67 rfl ?_
            refine r_getR F f_X8_10 (hB.1) rfl dX8_setWave_68 rfl ?_
            refine r_getR F f_X8_43 ((ja_LB_1 hB).1) rfl dX8_setWave_71 rfl ?_
            refine r_iload_n F rfl rfl dX8_setWave_74 rfl ?_
            refine r_putI F f_X8_51 (ja_LR_1 (ja_LB_1 hB)) rfl dX8_setWave_75 rfl ?_
            refine r_aload_n F rfl rfl dX8_setWave_78 rfl ?_
            refine r_getR F f_X8_10 (hB.1) rfl dX8_setWave_79 rfl ?_
            refine r_getR F f_X8_43 ((ja_LB_1 hB).1) rfl dX8_setWave_82 rfl ?_
            refine r_iload_n F rfl rfl dX8_setWave_85 rfl ?_
            refine r_putI F f_X8_54 (ja_LR_1 (ja_LB_1 hB)) rfl dX8_setWave_86 rfl ?_
            refine r_iload_n F rfl rfl dX8_setWave_89 rfl ?_
            exact r_iret F Rt dX8_setWave_90 (by decide) ⟨by rw [if_pos (by omega), if_neg hng], rfl, by rw [if_pos ⟨by omega, hng⟩], rfl⟩
          ·
            have hbg : B_bg mem y := Decidable.byContradiction fun q => h_34 (hbb.mpr q)
            refine r_sipush F (by decide) dX8_setWave_37 rfl ?_
            exact r_iret F Rt dX8_setWave_40 (by decide) ⟨by rw [if_pos (by omega), if_pos hbg], rfl, by rw [if_neg (fun q => q.2 hbg)], rfl⟩
        ·
          refine r_sipush F (by decide) dX8_setWave_23 rfl ?_
          exact r_iret F Rt dX8_setWave_26 (by decide) ⟨by rw [if_neg (by omega)], rfl, by rw [if_neg (fun q => absurd q.1 (by omega))], rfl⟩
abbrev rm_X8_setBlock : Room := { frames := 1, cells := 0, slots := 0, locals := 20 }
set_option maxRecDepth 100000 in
set_option maxHeartbeats 4000000 in
theorem c_X8_setBlock (l : Launch) (D : va_G) (cA : Nat → ClassId) (B : Nat) {lay : ja_Y} {mem : ja_M} {n : Nat} {k i : Int} {y : Nat} {sl : Nat → Option Nat} {t : Int} (hB : ja_LB lay y sl) (hO : ja_BO mem y sl t) (hk : ja_in k) (hi : ja_in i)  : ja_Mt l D cA B yX8_setBlock cX8_setBlock 4 (some .int) rm_X8_setBlock [.ref y, .int (ja_I k), .int (ja_I i)] lay mem n (ja_rd lay (if (2 ≤ k ∧ k ≤ 6 ∧ 2 ≤ i ∧ i ≤ 6) ∧ ¬ B_bg mem y then ja_up (ja_up mem (y + 1 + 1) 3 k) (y + 1 + 1) 4 i else mem) n (some (.int (ja_I (if 2 ≤ k ∧ k ≤ 6 ∧ 2 ≤ i ∧ i ≤ 6 then (if B_bg mem y then -1003 else 10 * mem (y + 1 + 1) 3 + mem (y + 1 + 1) 4) else -1001))))) := by
  refine ja_enter [some (.ref y), some (.int (ja_I k)), some (.int (ja_I i)), none] (by decide) (Nat.le_of_ble_eq_true rfl) (fun q hq => hq) (fun C F Rt G hnm => ?_)
  obtain ⟨b1, b2, b3, b4, b5⟩ := id hO
  obtain ⟨g1, g2, g3, g4, g5, g6, g7, g8, g9, g10, g11, g12⟩ := id b1
  obtain ⟨p1, p2, p3, p4, p5, p6⟩ := id g3
  obtain ⟨s0, s1, s2, s3, s4, s5, s6, s7, s8⟩ := id g1
  have tt := g2.1
  have a0 := g4.1
  obtain ⟨k1_, k2_⟩ := id hk
  obtain ⟨i1_, i2_⟩ := id hi
  have hbb : ja_b (B_bg mem y) = 0 ↔ ¬ B_bg mem y := by unfold ja_b; split <;> simp_all
  have hbr : 0 ≤ ja_b (B_bg mem y) ∧ ja_b (B_bg mem y) ≤ 1 := by unfold ja_b; split <;> omega
  refine r_iload_n F rfl rfl dX8_setBlock_0 rfl ?_
  refine r_iconst F dX8_setBlock_1 rfl ?_
  refine r_icmp_lt F (tgt := 22) ⟨by omega, by omega⟩ ⟨by omega, by omega⟩ dX8_setBlock_2 rfl (by decide) (fun h_2 => ?_) (fun h_2 => ?_)
  ·
    refine r_sipush F (by decide) dX8_setBlock_22 rfl ?_
    exact r_iret F Rt dX8_setBlock_25 (by decide) ⟨by rw [if_neg (by omega)], rfl, by rw [if_neg (fun q => absurd q.1 (by omega))], rfl⟩
  ·
    refine r_iload_n F rfl rfl dX8_setBlock_5 rfl ?_
    refine r_bipush F (by decide) dX8_setBlock_6 rfl ?_
    refine r_icmp_gt F (tgt := 22) ⟨by omega, by omega⟩ ⟨by omega, by omega⟩ dX8_setBlock_8 rfl (by decide) (fun h_8 => ?_) (fun h_8 => ?_)
    ·
      refine r_sipush F (by decide) dX8_setBlock_22 rfl ?_
      exact r_iret F Rt dX8_setBlock_25 (by decide) ⟨by rw [if_neg (by omega)], rfl, by rw [if_neg (fun q => absurd q.1 (by omega))], rfl⟩
    ·
      refine r_iload_n F rfl rfl dX8_setBlock_11 rfl ?_
      refine r_iconst F dX8_setBlock_12 rfl ?_
      refine r_icmp_lt F (tgt := 22) ⟨by omega, by omega⟩ ⟨by omega, by omega⟩ dX8_setBlock_13 rfl (by decide) (fun h_13 => ?_) (fun h_13 => ?_)
      ·
        refine r_sipush F (by decide) dX8_setBlock_22 rfl ?_
        exact r_iret F Rt dX8_setBlock_25 (by decide) ⟨by rw [if_neg (by omega)], rfl, by rw [if_neg (fun q => absurd q.1 (by omega))], rfl⟩
      ·
        refine r_iload_n F rfl rfl dX8_setBlock_16 rfl ?_
        refine r_bipush F (by decide) dX8_setBlock_17 rfl ?_
        refine r_icmp_le F (tgt := 26) ⟨by omega, by omega⟩ ⟨by omega, by omega⟩ dX8_setBlock_19 rfl (by decide) (fun h_19 => ?_) (fun h_19 => ?_)
        ·
          refine r_aload_n F rfl rfl dX8_setBlock_26 rfl ?_
          refine r_getR F f_X8_10 (hB.1) rfl dX8_setBlock_27 rfl ?_
          refine r_callV F G (c_X5_hasBegun _ _ _ _ (ja_LB_1 hB) b1) v_X8_39 rfl ((ja_LB_1 hB).1) rfl (by decide) (by decide) (Nat.le_of_ble_eq_true rfl) rfl dX8_setBlock_30 rfl (fun v lay' mem' n' hp => ?_)
          obtain ⟨q1, q2, q3, q4⟩ := hp
          subst q1; subst q2; subst q3; subst q4
          refine r_eqz (z := ja_b (B_bg mem y)) rfl ?_
          refine r_if_eq F (tgt := 40) ⟨by omega, by omega⟩ dX8_setBlock_33 rfl (by decide) (fun h_33 => ?_) (fun h_33 => ?_)
          ·
            have hng : ¬ B_bg mem y := hbb.mp h_33
            refine r_bipush F (by decide) dX8_setBlock_40 rfl ?_
            refine r_aload_n F rfl rfl dX8_setBlock_42 rfl ?_
            refine r_getR F f_X8_10 (hB.1) rfl dX8_setBlock_43 rfl ?_
            refine r_getR F f_X8_43 ((ja_LB_1 hB).1) rfl dX8_setBlock_46 rfl ?_
            refine r_getI F f_X8_57 (ja_LR_1 (ja_LB_1 hB)) rfl dX8_setBlock_49 rfl ?_
            refine r_imul F dX8_setBlock_52 rfl ?_
            refine r_aload_n F rfl rfl dX8_setBlock_53 rfl ?_
            refine r_getR F f_X8_10 (hB.1) rfl dX8_setBlock_54 rfl ?_
            refine r_getR F f_X8_43 ((ja_LB_1 hB).1) rfl dX8_setBlock_57 rfl ?_
            refine r_getI F f_X8_60 (ja_LR_1 (ja_LB_1 hB)) rfl dX8_setBlock_60 rfl ?_
            refine r_iadd F dX8_setBlock_63 rfl ?_
            refine r_ist3 F (by decide) rfl dX8_setBlock_64 rfl ?_
            refine r_aload_n F rfl rfl dX8_setBlock_65 rfl ?_
            refine r_getR F f_X8_10 (hB.1) rfl dX8_setBlock_66 rfl ?_
            refine r_getR F f_X8_43 ((ja_LB_1 hB).1) rfl dX8_setBlock_69 rfl ?_
            refine r_iload_n F rfl rfl dX8_setBlock_72 rfl ?_
            refine r_putI F f_X8_57 (ja_LR_1 (ja_LB_1 hB)) rfl dX8_setBlock_73 rfl ?_
            refine r_aload_n F rfl rfl dX8_setBlock_76 rfl ?_
            refine r_getR F f_X8_10 (hB.1) rfl dX8_setBlock_77 rfl ?_
            refine r_getR F f_X8_43 ((ja_LB_1 hB).1) rfl dX8_setBlock_80 rfl ?_
            refine r_iload_n F rfl rfl dX8_setBlock_83 rfl ?_
            refine r_putI F f_X8_60 (ja_LR_1 (ja_LB_1 hB)) rfl dX8_setBlock_84 rfl ?_
            refine r_iload_n F rfl rfl dX8_setBlock_87 rfl ?_
            exact r_iret F Rt dX8_setBlock_88 (by decide) ⟨by rw [if_pos (by omega), if_neg hng], rfl, by rw [if_pos ⟨by omega, hng⟩], rfl⟩
          ·
            have hbg : B_bg mem y := Decidable.byContradiction fun q => h_33 (hbb.mpr q)
            refine r_sipush F (by decide) dX8_setBlock_36 rfl ?_
            exact r_iret F Rt dX8_setBlock_39 (by decide) ⟨by rw [if_pos (by omega), if_pos hbg], rfl, by rw [if_neg (fun q => q.2 hbg)], rfl⟩
        ·
          refine r_sipush F (by decide) dX8_setBlock_22 rfl ?_
          exact r_iret F Rt dX8_setBlock_25 (by decide) ⟨by rw [if_neg (by omega)], rfl, by rw [if_neg (fun q => absurd q.1 (by omega))], rfl⟩
abbrev rm_X8_setInitialDelay : Room := { frames := 1, cells := 0, slots := 0, locals := 20 }
set_option maxRecDepth 100000 in
set_option maxHeartbeats 4000000 in
theorem c_X8_setInitialDelay (l : Launch) (D : va_G) (cA : Nat → ClassId) (B : Nat) {lay : ja_Y} {mem : ja_M} {n : Nat} {k : Int} {y : Nat} {sl : Nat → Option Nat} {t : Int} (hB : ja_LB lay y sl) (hO : ja_BO mem y sl t) (hk : ja_in k)  : ja_Mt l D cA B yX8_setInitialDelay cX8_setInitialDelay 3 (some .int) rm_X8_setInitialDelay [.ref y, .int (ja_I k)] lay mem n (ja_rd lay (if (0 ≤ k ∧ k ≤ 200) ∧ ¬ B_bg mem y then ja_up mem (y + 1 + 1) 5 k else mem) n (some (.int (ja_I (if 0 ≤ k ∧ k ≤ 200 then (if B_bg mem y then -1003 else mem (y + 1 + 1) 5) else -1001))))) := by
  refine ja_enter [some (.ref y), some (.int (ja_I k)), none] (by decide) (Nat.le_of_ble_eq_true rfl) (fun q hq => hq) (fun C F Rt G hnm => ?_)
  obtain ⟨b1, b2, b3, b4, b5⟩ := id hO
  obtain ⟨g1, g2, g3, g4, g5, g6, g7, g8, g9, g10, g11, g12⟩ := id b1
  obtain ⟨p1, p2, p3, p4, p5, p6⟩ := id g3
  obtain ⟨s0, s1, s2, s3, s4, s5, s6, s7, s8⟩ := id g1
  have tt := g2.1
  have a0 := g4.1
  obtain ⟨k1_, k2_⟩ := id hk
  have hbb : ja_b (B_bg mem y) = 0 ↔ ¬ B_bg mem y := by unfold ja_b; split <;> simp_all
  have hbr : 0 ≤ ja_b (B_bg mem y) ∧ ja_b (B_bg mem y) ≤ 1 := by unfold ja_b; split <;> omega
  refine r_iload_n F rfl rfl dX8_setInitialDelay_0 rfl ?_
  refine r_if_lt F (tgt := 11) ⟨by omega, by omega⟩ dX8_setInitialDelay_1 rfl (by decide) (fun h_1 => ?_) (fun h_1 => ?_)
  ·
    refine r_sipush F (by decide) dX8_setInitialDelay_11 rfl ?_
    exact r_iret F Rt dX8_setInitialDelay_14 (by decide) ⟨by rw [if_neg (by omega)], rfl, by rw [if_neg (fun q => absurd q.1 (by omega))], rfl⟩
  ·
    refine r_iload_n F rfl rfl dX8_setInitialDelay_4 rfl ?_
    refine r_sipush F (by decide) dX8_setInitialDelay_5 rfl ?_
    refine r_icmp_le F (tgt := 15) ⟨by omega, by omega⟩ ⟨by omega, by omega⟩ dX8_setInitialDelay_8 rfl (by decide) (fun h_8 => ?_) (fun h_8 => ?_)
    ·
      refine r_aload_n F rfl rfl dX8_setInitialDelay_15 rfl ?_
      refine r_getR F f_X8_10 (hB.1) rfl dX8_setInitialDelay_16 rfl ?_
      refine r_callV F G (c_X5_hasBegun _ _ _ _ (ja_LB_1 hB) b1) v_X8_39 rfl ((ja_LB_1 hB).1) rfl (by decide) (by decide) (Nat.le_of_ble_eq_true rfl) rfl dX8_setInitialDelay_19 rfl (fun v lay' mem' n' hp => ?_)
      obtain ⟨q1, q2, q3, q4⟩ := hp
      subst q1; subst q2; subst q3; subst q4
      refine r_eqz (z := ja_b (B_bg mem y)) rfl ?_
      refine r_if_eq F (tgt := 29) ⟨by omega, by omega⟩ dX8_setInitialDelay_22 rfl (by decide) (fun h_22 => ?_) (fun h_22 => ?_)
      ·
        have hng : ¬ B_bg mem y := hbb.mp h_22
        refine r_aload_n F rfl rfl dX8_setInitialDelay_29 rfl ?_
        refine r_getR F f_X8_10 (hB.1) rfl dX8_setInitialDelay_30 rfl ?_
        refine r_getR F f_X8_43 ((ja_LB_1 hB).1) rfl dX8_setInitialDelay_33 rfl ?_
        refine r_getI F f_X8_63 (ja_LR_1 (ja_LB_1 hB)) rfl dX8_setInitialDelay_36 rfl ?_
        refine r_ist2 F (by decide) rfl dX8_setInitialDelay_39 rfl ?_
        refine r_aload_n F rfl rfl dX8_setInitialDelay_40 rfl ?_
        refine r_getR F f_X8_10 (hB.1) rfl dX8_setInitialDelay_41 rfl ?_
        refine r_getR F f_X8_43 ((ja_LB_1 hB).1) rfl dX8_setInitialDelay_44 rfl ?_
        refine r_iload_n F rfl rfl dX8_setInitialDelay_47 rfl ?_
        refine r_putI F f_X8_63 (ja_LR_1 (ja_LB_1 hB)) rfl dX8_setInitialDelay_48 rfl ?_
        refine r_iload_n F rfl rfl dX8_setInitialDelay_51 rfl ?_
        exact r_iret F Rt dX8_setInitialDelay_52 (by decide) ⟨by rw [if_pos (by omega), if_neg hng], rfl, by rw [if_pos ⟨by omega, hng⟩], rfl⟩
      ·
        have hbg : B_bg mem y := Decidable.byContradiction fun q => h_22 (hbb.mpr q)
        refine r_sipush F (by decide) dX8_setInitialDelay_25 rfl ?_
        exact r_iret F Rt dX8_setInitialDelay_28 (by decide) ⟨by rw [if_pos (by omega), if_pos hbg], rfl, by rw [if_neg (fun q => q.2 hbg)], rfl⟩
    ·
      refine r_sipush F (by decide) dX8_setInitialDelay_11 rfl ?_
      exact r_iret F Rt dX8_setInitialDelay_14 (by decide) ⟨by rw [if_neg (by omega)], rfl, by rw [if_neg (fun q => absurd q.1 (by omega))], rfl⟩
abbrev rm_X8_setQuantile : Room := { frames := 0, cells := 0, slots := 0, locals := 0 }
set_option maxRecDepth 100000 in
set_option maxHeartbeats 4000000 in
theorem c_X8_setQuantile (l : Launch) (D : va_G) (cA : Nat → ClassId) (B : Nat) {lay : ja_Y} {mem : ja_M} {n : Nat} {k : Int} {y : Nat} {sl : Nat → Option Nat} {t : Int} (hB : ja_LB lay y sl) (hO : ja_BO mem y sl t) (hk : ja_in k)  : ja_Mt l D cA B yX8_setQuantile cX8_setQuantile 3 (some .int) rm_X8_setQuantile [.ref y, .int (ja_I k)] lay mem n (ja_rd lay (if 1 ≤ k ∧ k ≤ 100 then ja_up mem (y + 1 + 1) 6 k else mem) n (some (.int (ja_I (if 1 ≤ k ∧ k ≤ 100 then mem (y + 1 + 1) 6 else -1001))))) := by
  refine ja_enter [some (.ref y), some (.int (ja_I k)), none] (by decide) (Nat.le_of_ble_eq_true rfl) (fun q hq => hq) (fun C F Rt G hnm => ?_)
  obtain ⟨b1, b2, b3, b4, b5⟩ := id hO
  obtain ⟨g1, g2, g3, g4, g5, g6, g7, g8, g9, g10, g11, g12⟩ := id b1
  obtain ⟨p1, p2, p3, p4, p5, p6⟩ := id g3
  obtain ⟨s0, s1, s2, s3, s4, s5, s6, s7, s8⟩ := id g1
  have tt := g2.1
  have a0 := g4.1
  obtain ⟨k1_, k2_⟩ := id hk
  refine r_iload_n F rfl rfl dX8_setQuantile_0 rfl ?_
  refine r_iconst F dX8_setQuantile_1 rfl ?_
  refine r_icmp_lt F (tgt := 11) ⟨by omega, by omega⟩ ⟨by omega, by omega⟩ dX8_setQuantile_2 rfl (by decide) (fun h_2 => ?_) (fun h_2 => ?_)
  ·
    refine r_sipush F (by decide) dX8_setQuantile_11 rfl ?_
    exact r_iret F Rt dX8_setQuantile_14 (by decide) ⟨by first | rfl | rw [if_pos (by omega), if_pos (by omega)] | rw [if_pos (by omega), if_neg (by omega)] | rw [if_neg (by omega)] | rw [if_pos (by omega)], rfl, by first | rfl | rw [if_pos (by omega), if_pos (by omega)] | rw [if_pos (by omega), if_neg (by omega)] | rw [if_neg (by omega)] | rw [if_pos (by omega)], rfl⟩
  ·
    refine r_iload_n F rfl rfl dX8_setQuantile_5 rfl ?_
    refine r_bipush F (by decide) dX8_setQuantile_6 rfl ?_
    refine r_icmp_le F (tgt := 15) ⟨by omega, by omega⟩ ⟨by omega, by omega⟩ dX8_setQuantile_8 rfl (by decide) (fun h_8 => ?_) (fun h_8 => ?_)
    ·
      refine r_aload_n F rfl rfl dX8_setQuantile_15 rfl ?_
      refine r_getR F f_X8_10 (hB.1) rfl dX8_setQuantile_16 rfl ?_
      refine r_getR F f_X8_43 ((ja_LB_1 hB).1) rfl dX8_setQuantile_19 rfl ?_
      refine r_getI F f_X8_66 (ja_LR_1 (ja_LB_1 hB)) rfl dX8_setQuantile_22 rfl ?_
      refine r_ist2 F (by decide) rfl dX8_setQuantile_25 rfl ?_
      refine r_aload_n F rfl rfl dX8_setQuantile_26 rfl ?_
      refine r_getR F f_X8_10 (hB.1) rfl dX8_setQuantile_27 rfl ?_
      refine r_getR F f_X8_43 ((ja_LB_1 hB).1) rfl dX8_setQuantile_30 rfl ?_
      refine r_iload_n F rfl rfl dX8_setQuantile_33 rfl ?_
      refine r_putI F f_X8_66 (ja_LR_1 (ja_LB_1 hB)) rfl dX8_setQuantile_34 rfl ?_
      refine r_iload_n F rfl rfl dX8_setQuantile_37 rfl ?_
      exact r_iret F Rt dX8_setQuantile_38 (by decide) ⟨by first | rfl | rw [if_pos (by omega), if_pos (by omega)] | rw [if_pos (by omega), if_neg (by omega)] | rw [if_neg (by omega)] | rw [if_pos (by omega)], rfl, by first | rfl | rw [if_pos (by omega), if_pos (by omega)] | rw [if_pos (by omega), if_neg (by omega)] | rw [if_neg (by omega)] | rw [if_pos (by omega)], rfl⟩
    ·
      refine r_sipush F (by decide) dX8_setQuantile_11 rfl ?_
      exact r_iret F Rt dX8_setQuantile_14 (by decide) ⟨by first | rfl | rw [if_pos (by omega), if_pos (by omega)] | rw [if_pos (by omega), if_neg (by omega)] | rw [if_neg (by omega)] | rw [if_pos (by omega)], rfl, by first | rfl | rw [if_pos (by omega), if_pos (by omega)] | rw [if_pos (by omega), if_neg (by omega)] | rw [if_neg (by omega)] | rw [if_pos (by omega)], rfl⟩
abbrev rm_X8_setMargin : Room := { frames := 0, cells := 0, slots := 0, locals := 0 }
set_option maxRecDepth 100000 in
set_option maxHeartbeats 4000000 in
theorem c_X8_setMargin (l : Launch) (D : va_G) (cA : Nat → ClassId) (B : Nat) {lay : ja_Y} {mem : ja_M} {n : Nat} {k : Int} {y : Nat} {sl : Nat → Option Nat} {t : Int} (hB : ja_LB lay y sl) (hO : ja_BO mem y sl t) (hk : ja_in k)  : ja_Mt l D cA B yX8_setMargin cX8_setMargin 3 (some .int) rm_X8_setMargin [.ref y, .int (ja_I k)] lay mem n (ja_rd lay (if 0 ≤ k ∧ k ≤ 100 then ja_up mem (y + 1 + 1) 7 k else mem) n (some (.int (ja_I (if 0 ≤ k ∧ k ≤ 100 then mem (y + 1 + 1) 7 else -1001))))) := by
  refine ja_enter [some (.ref y), some (.int (ja_I k)), none] (by decide) (Nat.le_of_ble_eq_true rfl) (fun q hq => hq) (fun C F Rt G hnm => ?_)
  obtain ⟨b1, b2, b3, b4, b5⟩ := id hO
  obtain ⟨g1, g2, g3, g4, g5, g6, g7, g8, g9, g10, g11, g12⟩ := id b1
  obtain ⟨p1, p2, p3, p4, p5, p6⟩ := id g3
  obtain ⟨s0, s1, s2, s3, s4, s5, s6, s7, s8⟩ := id g1
  have tt := g2.1
  have a0 := g4.1
  obtain ⟨k1_, k2_⟩ := id hk
  refine r_iload_n F rfl rfl dX8_setMargin_0 rfl ?_
  refine r_if_lt F (tgt := 10) ⟨by omega, by omega⟩ dX8_setMargin_1 rfl (by decide) (fun h_1 => ?_) (fun h_1 => ?_)
  ·
    refine r_sipush F (by decide) dX8_setMargin_10 rfl ?_
    exact r_iret F Rt dX8_setMargin_13 (by decide) ⟨by first | rfl | rw [if_pos (by omega), if_pos (by omega)] | rw [if_pos (by omega), if_neg (by omega)] | rw [if_neg (by omega)] | rw [if_pos (by omega)], rfl, by first | rfl | rw [if_pos (by omega), if_pos (by omega)] | rw [if_pos (by omega), if_neg (by omega)] | rw [if_neg (by omega)] | rw [if_pos (by omega)], rfl⟩
  ·
    refine r_iload_n F rfl rfl dX8_setMargin_4 rfl ?_
    refine r_bipush F (by decide) dX8_setMargin_5 rfl ?_
    refine r_icmp_le F (tgt := 14) ⟨by omega, by omega⟩ ⟨by omega, by omega⟩ dX8_setMargin_7 rfl (by decide) (fun h_7 => ?_) (fun h_7 => ?_)
    ·
      refine r_aload_n F rfl rfl dX8_setMargin_14 rfl ?_
      refine r_getR F f_X8_10 (hB.1) rfl dX8_setMargin_15 rfl ?_
      refine r_getR F f_X8_43 ((ja_LB_1 hB).1) rfl dX8_setMargin_18 rfl ?_
      refine r_getI F f_X8_69 (ja_LR_1 (ja_LB_1 hB)) rfl dX8_setMargin_21 rfl ?_
      refine r_ist2 F (by decide) rfl dX8_setMargin_24 rfl ?_
      refine r_aload_n F rfl rfl dX8_setMargin_25 rfl ?_
      refine r_getR F f_X8_10 (hB.1) rfl dX8_setMargin_26 rfl ?_
      refine r_getR F f_X8_43 ((ja_LB_1 hB).1) rfl dX8_setMargin_29 rfl ?_
      refine r_iload_n F rfl rfl dX8_setMargin_32 rfl ?_
      refine r_putI F f_X8_69 (ja_LR_1 (ja_LB_1 hB)) rfl dX8_setMargin_33 rfl ?_
      refine r_iload_n F rfl rfl dX8_setMargin_36 rfl ?_
      exact r_iret F Rt dX8_setMargin_37 (by decide) ⟨by first | rfl | rw [if_pos (by omega), if_pos (by omega)] | rw [if_pos (by omega), if_neg (by omega)] | rw [if_neg (by omega)] | rw [if_pos (by omega)], rfl, by first | rfl | rw [if_pos (by omega), if_pos (by omega)] | rw [if_pos (by omega), if_neg (by omega)] | rw [if_neg (by omega)] | rw [if_pos (by omega)], rfl⟩
    ·
      refine r_sipush F (by decide) dX8_setMargin_10 rfl ?_
      exact r_iret F Rt dX8_setMargin_13 (by decide) ⟨by first | rfl | rw [if_pos (by omega), if_pos (by omega)] | rw [if_pos (by omega), if_neg (by omega)] | rw [if_neg (by omega)] | rw [if_pos (by omega)], rfl, by first | rfl | rw [if_pos (by omega), if_pos (by omega)] | rw [if_pos (by omega), if_neg (by omega)] | rw [if_neg (by omega)] | rw [if_pos (by omega)], rfl⟩
abbrev rm_X8_setAdapting : Room := { frames := 0, cells := 0, slots := 0, locals := 0 }
set_option maxRecDepth 100000 in
set_option maxHeartbeats 4000000 in
theorem c_X8_setAdapting (l : Launch) (D : va_G) (cA : Nat → ClassId) (B : Nat) {lay : ja_Y} {mem : ja_M} {n : Nat} {k : Int} {y : Nat} {sl : Nat → Option Nat} {t : Int} (hB : ja_LB lay y sl) (hO : ja_BO mem y sl t) (hk : 0 ≤ k ∧ k ≤ 1) : ja_Mt l D cA B yX8_setAdapting cX8_setAdapting 3 (some .int) rm_X8_setAdapting [.ref y, .int (ja_I k)] lay mem n (ja_rd lay (ja_up mem (y + 1 + 1) 8 k) n (some (.int (ja_I (mem (y + 1 + 1) 8))))) := by
  refine ja_enter [some (.ref y), some (.int (ja_I k)), none] (by decide) (Nat.le_of_ble_eq_true rfl) (fun q hq => hq) (fun C F Rt G hnm => ?_)
  obtain ⟨b1, b2, b3, b4, b5⟩ := id hO
  obtain ⟨g1, g2, g3, g4, g5, g6, g7, g8, g9, g10, g11, g12⟩ := id b1
  obtain ⟨p1, p2, p3, p4, p5, p6⟩ := id g3
  obtain ⟨s0, s1, s2, s3, s4, s5, s6, s7, s8⟩ := id g1
  have tt := g2.1
  have a0 := g4.1
  refine r_aload_n F rfl rfl dX8_setAdapting_0 rfl ?_
  refine r_getR F f_X8_10 (hB.1) rfl dX8_setAdapting_1 rfl ?_
  refine r_getR F f_X8_43 ((ja_LB_1 hB).1) rfl dX8_setAdapting_4 rfl ?_
  refine r_getI F f_X8_72 (ja_LR_1 (ja_LB_1 hB)) rfl dX8_setAdapting_7 rfl ?_
  refine r_if_eq F (tgt := 17) ⟨by omega, by omega⟩ dX8_setAdapting_10 rfl (by decide) (fun h_10 => ?_) (fun h_10 => ?_)
  ·
    refine r_iconst F dX8_setAdapting_17 rfl ?_
    refine r_eqz (z := mem (y + 1 + 1) 8) (by omega) ?_
    refine r_ist2 F (by decide) rfl dX8_setAdapting_18 rfl ?_
    refine r_aload_n F rfl rfl dX8_setAdapting_19 rfl ?_
    refine r_getR F f_X8_10 (hB.1) rfl dX8_setAdapting_20 rfl ?_
    refine r_getR F f_X8_43 ((ja_LB_1 hB).1) rfl dX8_setAdapting_23 rfl ?_
    refine r_iload_n F rfl rfl dX8_setAdapting_26 rfl ?_
    refine r_putZ F (by omega) f_X8_72 (ja_LR_1 (ja_LB_1 hB)) rfl dX8_setAdapting_27 rfl ?_
    refine r_iload_n F rfl rfl dX8_setAdapting_30 rfl ?_
    exact r_iret F Rt dX8_setAdapting_31 (by decide) ⟨rfl, rfl, rfl, rfl⟩
  ·
    refine r_iconst F dX8_setAdapting_13 rfl ?_
    refine r_goto F (tgt := 18) dX8_setAdapting_14 (by decide) ?_
    refine r_eqz (z := mem (y + 1 + 1) 8) (by omega) ?_
    refine r_ist2 F (by decide) rfl dX8_setAdapting_18 rfl ?_
    refine r_aload_n F rfl rfl dX8_setAdapting_19 rfl ?_
    refine r_getR F f_X8_10 (hB.1) rfl dX8_setAdapting_20 rfl ?_
    refine r_getR F f_X8_43 ((ja_LB_1 hB).1) rfl dX8_setAdapting_23 rfl ?_
    refine r_iload_n F rfl rfl dX8_setAdapting_26 rfl ?_
    refine r_putZ F (by omega) f_X8_72 (ja_LR_1 (ja_LB_1 hB)) rfl dX8_setAdapting_27 rfl ?_
    refine r_iload_n F rfl rfl dX8_setAdapting_30 rfl ?_
    exact r_iret F Rt dX8_setAdapting_31 (by decide) ⟨rfl, rfl, rfl, rfl⟩
abbrev rm_X8_arrive : Room := { frames := 5, cells := 0, slots := 0, locals := 128 }
set_option maxRecDepth 100000 in
set_option maxHeartbeats 4000000 in
theorem c_X8_arrive (l : Launch) (D : va_G) (cA : Nat → ClassId) (B : Nat) {lay : ja_Y} {mem : ja_M} {n : Nat} {x : Int} {y : Nat} {sl : Nat → Option Nat} {t : Int} (hB : ja_LB lay y sl) (hO : ja_BO mem y sl t) (hx : ja_in x) (ht : t ≤ 898000) : ja_Mt l D cA B yX8_arrive cX8_arrive 2 (some .int) rm_X8_arrive [.ref y, .int (ja_I x)] lay mem n (ja_rd lay (if B_isF x then R_af mem (y + 1) x else mem) n (some (.int (ja_I (if B_isF x then R_an mem (y + 1) x else -1001))))) := by
  refine ja_enter [some (.ref y), some (.int (ja_I x))] (by decide) (Nat.le_of_ble_eq_true rfl) (fun q hq => hq) (fun C F Rt G hnm => ?_)
  obtain ⟨b1, b2, b3, b4, b5⟩ := id hO
  obtain ⟨g1, g2, g3, g4, g5, g6, g7, g8, g9, g10, g11, g12⟩ := id b1
  obtain ⟨p1, p2, p3, p4, p5, p6⟩ := id g3
  obtain ⟨s0, s1, s2, s3, s4, s5, s6, s7, s8⟩ := id g1
  have tt := g2.1
  have a0 := g4.1
  obtain ⟨x1_, x2_⟩ := id hx
  have hbf : ja_b (B_isF x) = 0 ↔ ¬ B_isF x := by unfold ja_b; split <;> simp_all
  have hbr : 0 ≤ ja_b (B_isF x) ∧ ja_b (B_isF x) ≤ 1 := by unfold ja_b; split <;> omega
  refine r_iload_n F rfl rfl dX8_arrive_0 rfl ?_
  refine r_callS F G (c_X8_isFrame _ _ _ _ hx) s_X8_76 rfl (by decide) (by decide) (Nat.le_of_ble_eq_true rfl) rfl dX8_arrive_1 rfl (fun v lay' mem' n' hp => ?_)
  obtain ⟨q1, q2, q3, q4⟩ := hp
  subst q1; subst q2; subst q3; subst q4
  refine r_if_ne F (tgt := 11) ⟨by omega, by omega⟩ dX8_arrive_4 rfl (by decide) (fun h_4 => ?_) (fun h_4 => ?_)
  ·
    refine r_aload_n F rfl rfl dX8_arrive_11 rfl ?_
    refine r_getR F f_X8_10 (hB.1) rfl dX8_arrive_12 rfl ?_
    refine r_iload_n F rfl rfl dX8_arrive_15 rfl ?_
    refine r_callV F G (c_X5_acceptFrame _ _ _ _ (ja_LB_1 hB) b1 (by omega) (Decidable.byContradiction fun q => h_4 (hbf.mpr q))) v_X8_80 rfl ((ja_LB_1 hB).1) rfl (by decide) (by decide) (Nat.le_of_ble_eq_true rfl) rfl dX8_arrive_16 rfl (fun v lay' mem' n' hp => ?_)
    obtain ⟨q1, q2, q3, q4⟩ := hp
    subst q1; subst q2; subst q3; subst q4
    exact r_iret F Rt dX8_arrive_19 (by decide) ⟨by rw [if_pos (Decidable.byContradiction fun q => h_4 (hbf.mpr q))], rfl, by rw [if_pos (Decidable.byContradiction fun q => h_4 (hbf.mpr q))], rfl⟩
  ·
    refine r_sipush F (by decide) dX8_arrive_7 rfl ?_
    exact r_iret F Rt dX8_arrive_10 (by decide) ⟨by rw [if_neg (hbf.mp h_4)], rfl, by rw [if_neg (hbf.mp h_4)], rfl⟩
abbrev rm_X8_arriveParity : Room := { frames := 5, cells := 0, slots := 0, locals := 130 }
set_option maxRecDepth 100000 in
set_option maxHeartbeats 4000000 in
theorem c_X8_arriveParity (l : Launch) (D : va_G) (cA : Nat → ClassId) (B : Nat) {lay : ja_Y} {mem : ja_M} {n : Nat} {r k i : Int} {y : Nat} {sl : Nat → Option Nat} {t : Int} (hB : ja_LB lay y sl) (hO : ja_BO mem y sl t) (hr : ja_in r) (hk : ja_in k) (hi : ja_in i) (h01 : 0 ≤ r ∧ r ≤ 1) : ja_Mt l D cA B yX8_arriveParity cX8_arriveParity 4 (some .int) rm_X8_arriveParity [.ref y, .int (ja_I r), .int (ja_I k), .int (ja_I i)] lay mem n (ja_rd lay (if ja_hasP mem (y + 1 + 1) r k i then R_ap mem (y + 1) r k i else mem) n (some (.int (ja_I (if ja_hasP mem (y + 1 + 1) r k i then R_pn mem (y + 1) r k i else -1001))))) := by
  refine ja_enter [some (.ref y), some (.int (ja_I r)), some (.int (ja_I k)), some (.int (ja_I i))] (by decide) (Nat.le_of_ble_eq_true rfl) (fun q hq => hq) (fun C F Rt G hnm => ?_)
  obtain ⟨b1, b2, b3, b4, b5⟩ := id hO
  obtain ⟨g1, g2, g3, g4, g5, g6, g7, g8, g9, g10, g11, g12⟩ := id b1
  obtain ⟨p1, p2, p3, p4, p5, p6⟩ := id g3
  obtain ⟨s0, s1, s2, s3, s4, s5, s6, s7, s8⟩ := id g1
  have tt := g2.1
  have a0 := g4.1
  obtain ⟨r1_, r2_⟩ := id hr
  obtain ⟨k1_, k2_⟩ := id hk
  obtain ⟨i1_, i2_⟩ := id hi
  have hbp : ja_b (ja_hasP mem (y + 1 + 1) r k i) = 0 ↔ ¬ ja_hasP mem (y + 1 + 1) r k i := by unfold ja_b; split <;> simp_all
  have hbr : 0 ≤ ja_b (ja_hasP mem (y + 1 + 1) r k i) ∧ ja_b (ja_hasP mem (y + 1 + 1) r k i) ≤ 1 := by unfold ja_b; split <;> omega
  refine r_aload_n F rfl rfl dX8_arriveParity_0 rfl ?_
  refine r_getR F f_X8_10 (hB.1) rfl dX8_arriveParity_1 rfl ?_
  refine r_getR F f_X8_43 ((ja_LB_1 hB).1) rfl dX8_arriveParity_4 rfl ?_
  refine r_iload_n F rfl rfl dX8_arriveParity_7 rfl ?_
  refine r_iload_n F rfl rfl dX8_arriveParity_8 rfl ?_
  refine r_iload_n F rfl rfl dX8_arriveParity_9 rfl ?_
  refine r_callV F G (c_X6_hasPacket _ _ _ _ (ja_LR_1 (ja_LB_1 hB)) g1 h01 hk hi) v_X8_84 rfl (ja_LR_1 (ja_LB_1 hB)) rfl (by decide) (by decide) (Nat.le_of_ble_eq_true rfl) rfl dX8_arriveParity_10 rfl (fun v lay' mem' n' hp => ?_)
  obtain ⟨q1, q2, q3, q4⟩ := hp
  subst q1; subst q2; subst q3; subst q4
  refine r_if_ne F (tgt := 20) ⟨by omega, by omega⟩ dX8_arriveParity_13 rfl (by decide) (fun h_13 => ?_) (fun h_13 => ?_)
  ·
    refine r_aload_n F rfl rfl dX8_arriveParity_20 rfl ?_
    refine r_getR F f_X8_10 (hB.1) rfl dX8_arriveParity_21 rfl ?_
    refine r_iload_n F rfl rfl dX8_arriveParity_24 rfl ?_
    refine r_iload_n F rfl rfl dX8_arriveParity_25 rfl ?_
    refine r_iload_n F rfl rfl dX8_arriveParity_26 rfl ?_
    refine r_callV F G (c_X5_acceptPacket _ _ _ _ (ja_LB_1 hB) b1 h01 (Decidable.byContradiction fun q => h_13 (hbp.mpr q)).1) v_X8_88 rfl ((ja_LB_1 hB).1) rfl (by decide) (by decide) (Nat.le_of_ble_eq_true rfl) rfl dX8_arriveParity_27 rfl (fun v lay' mem' n' hp => ?_)
    obtain ⟨q1, q2, q3, q4⟩ := hp
    subst q1; subst q2; subst q3; subst q4
    exact r_iret F Rt dX8_arriveParity_30 (by decide) ⟨by rw [if_pos (Decidable.byContradiction fun q => h_13 (hbp.mpr q))], rfl, by rw [if_pos (Decidable.byContradiction fun q => h_13 (hbp.mpr q))], rfl⟩
  ·
    refine r_sipush F (by decide) dX8_arriveParity_16 rfl ?_
    exact r_iret F Rt dX8_arriveParity_19 (by decide) ⟨by rw [if_neg (hbp.mp h_13)], rfl, by rw [if_neg (hbp.mp h_13)], rfl⟩
abbrev rm_X8_advance : Room := { frames := 7, cells := 0, slots := 0, locals := 171 }
set_option maxRecDepth 100000 in
set_option maxHeartbeats 4000000 in
theorem c_X8_advance (l : Launch) (D : va_G) (cA : Nat → ClassId) (B : Nat) {lay : ja_Y} {mem : ja_M} {n : Nat} {x : Int} {y : Nat} {sl : Nat → Option Nat} {t : Int} (hB : ja_LB lay y sl) (hO : ja_BO mem y sl t) (hx : ja_in x) (ht : t ≤ 898000) : ja_Mt l D cA B yX8_advance cX8_advance 4 (some .int) rm_X8_advance [.ref y, .int (ja_I x)] lay mem n (ja_rd lay (if 1 ≤ x ∧ x ≤ 500 then B_adv mem (y + 1) x.toNat else mem) n (some (.int (ja_I (if 1 ≤ x ∧ x ≤ 500 then (B_adv mem (y + 1) x.toNat) (y + 1 + 9) 4 - mem (y + 1 + 9) 4 else -1001))))) := by
  refine ja_enter [some (.ref y), some (.int (ja_I x)), none, none] (by decide) (Nat.le_of_ble_eq_true rfl) (fun q hq => hq) (fun C F Rt G hnm => ?_)
  obtain ⟨b1, b2, b3, b4, b5⟩ := id hO
  obtain ⟨g1, g2, g3, g4, g5, g6, g7, g8, g9, g10, g11, g12⟩ := id b1
  obtain ⟨p1, p2, p3, p4, p5, p6⟩ := id g3
  obtain ⟨s0, s1, s2, s3, s4, s5, s6, s7, s8⟩ := id g1
  have tt := g2.1
  have a0 := g4.1
  obtain ⟨x1_, x2_⟩ := id hx
  refine r_iload_n F rfl rfl dX8_advance_0 rfl ?_
  refine r_iconst F dX8_advance_1 rfl ?_
  refine r_icmp_lt F (tgt := 12) ⟨by omega, by omega⟩ ⟨by omega, by omega⟩ dX8_advance_2 rfl (by decide) (fun h_2 => ?_) (fun h_2 => ?_)
  ·
    refine r_sipush F (by decide) dX8_advance_12 rfl ?_
    exact r_iret F Rt dX8_advance_15 (by decide) ⟨by first | rfl | rw [if_pos (by omega), if_pos (by omega)] | rw [if_pos (by omega), if_neg (by omega)] | rw [if_neg (by omega)] | rw [if_pos (by omega)], rfl, by first | rfl | rw [if_pos (by omega), if_pos (by omega)] | rw [if_pos (by omega), if_neg (by omega)] | rw [if_neg (by omega)] | rw [if_pos (by omega)], rfl⟩
  ·
    refine r_iload_n F rfl rfl dX8_advance_5 rfl ?_
    refine r_sipush F (by decide) dX8_advance_6 rfl ?_
    refine r_icmp_le F (tgt := 16) ⟨by omega, by omega⟩ ⟨by omega, by omega⟩ dX8_advance_9 rfl (by decide) (fun h_9 => ?_) (fun h_9 => ?_)
    ·
      refine r_aload_n F rfl rfl dX8_advance_16 rfl ?_
      refine r_getR F f_X8_10 (hB.1) rfl dX8_advance_17 rfl ?_
      refine r_getR F f_X8_92 ((ja_LB_1 hB).1) rfl dX8_advance_20 rfl ?_
      refine r_getI F f_X8_96 ((ja_LR_9 (ja_LB_1 hB)).1) rfl dX8_advance_23 rfl ?_
      refine r_ist2 F (by decide) rfl dX8_advance_26 rfl ?_
      refine r_iconst F dX8_advance_27 rfl ?_
      refine r_ist3 F (by decide) rfl dX8_advance_28 rfl ?_
      have loop : ∀ (d k : Nat), k + d = x.toNat → ja_W C 0 0 lay (B_adv mem (y + 1) k) n 29 [some (.ref y), some (.int (ja_I x)), some (.int (ja_I (mem (y + 1 + 9) 4))), some (.int (ja_I (k : Int)))] [] := by
        intro d
        induction d with
        | zero =>
          intro k hk
          refine r_iload_n F rfl rfl dX8_advance_29 rfl ?_
          refine r_iload_n F rfl rfl dX8_advance_30 rfl ?_
          refine r_icmp_ge F (tgt := 47) ⟨by omega, by omega⟩ ⟨by omega, by omega⟩ dX8_advance_31 rfl (by decide) (fun h_31 => ?_) (fun h_31 => ?_)
          ·
            refine r_aload_n F rfl rfl dX8_advance_47 rfl ?_
            refine r_getR F f_X8_10 (hB.1) rfl dX8_advance_48 rfl ?_
            refine r_getR F f_X8_92 ((ja_LB_1 hB).1) rfl dX8_advance_51 rfl ?_
            refine r_getI F f_X8_96 ((ja_LR_9 (ja_LB_1 hB)).1) rfl dX8_advance_54 rfl ?_
            refine r_eqz (z := (B_adv mem (y + 1) k) (y + 1 + 9) 4) (by rfl) ?_
            refine r_iload_n F rfl rfl dX8_advance_57 rfl ?_
            refine r_isub F dX8_advance_58 rfl ?_
            exact r_iret F Rt dX8_advance_59 (by decide) ⟨by rw [if_pos ⟨by omega, by omega⟩, show x.toNat = k by omega], rfl, by rw [if_pos ⟨by omega, by omega⟩, show x.toNat = k by omega], rfl⟩
          ·
            exfalso; omega
        | succ d ih =>
          intro k hk
          refine r_iload_n F rfl rfl dX8_advance_29 rfl ?_
          refine r_iload_n F rfl rfl dX8_advance_30 rfl ?_
          refine r_icmp_ge F (tgt := 47) ⟨by omega, by omega⟩ ⟨by omega, by omega⟩ dX8_advance_31 rfl (by decide) (fun h_31 => ?_) (fun h_31 => ?_)
          ·
            exfalso; omega
          ·
            refine r_aload_n F rfl rfl dX8_advance_34 rfl ?_
            refine r_getR F f_X8_10 (hB.1) rfl dX8_advance_35 rfl ?_
            refine r_callV F G (c_X5_passTick _ _ _ _ (ja_LB_1 hB) (B_adv_RO b1 k (by omega)) (by omega)) v_X8_101 rfl ((ja_LB_1 hB).1) rfl (by decide) (by decide) (Nat.le_of_ble_eq_true rfl) rfl dX8_advance_38 rfl (fun v lay' mem' n' hp => ?_)
            obtain ⟨q1, q2, q3, q4⟩ := hp
            subst q1; subst q2; subst q3; subst q4
            refine r_inc3 F (by decide) rfl dX8_advance_41 rfl ?_
            refine r_goto F (tgt := 29) dX8_advance_44 (by decide) ?_
            exact ih (k + 1) (by omega)
      exact loop x.toNat 0 (by omega)
    ·
      refine r_sipush F (by decide) dX8_advance_12 rfl ?_
      exact r_iret F Rt dX8_advance_15 (by decide) ⟨by first | rfl | rw [if_pos (by omega), if_pos (by omega)] | rw [if_pos (by omega), if_neg (by omega)] | rw [if_neg (by omega)] | rw [if_pos (by omega)], rfl, by first | rfl | rw [if_pos (by omega), if_pos (by omega)] | rw [if_pos (by omega), if_neg (by omega)] | rw [if_neg (by omega)] | rw [if_pos (by omega)], rfl⟩
abbrev rm_X8_gapsIn : Room := { frames := 7, cells := 0, slots := 0, locals := 171 }
set_option maxRecDepth 100000 in
set_option maxHeartbeats 4000000 in
theorem c_X8_gapsIn (l : Launch) (D : va_G) (cA : Nat → ClassId) (B : Nat) {lay : ja_Y} {mem : ja_M} {n : Nat} {x : Int} {y : Nat} {sl : Nat → Option Nat} {t : Int} (hB : ja_LB lay y sl) (hO : ja_BO mem y sl t) (hx : ja_in x) (ht : t ≤ 898000) : ja_Mt l D cA B yX8_gapsIn cX8_gapsIn 4 (some .int) rm_X8_gapsIn [.ref y, .int (ja_I x)] lay mem n (ja_rd lay (if 1 ≤ x ∧ x ≤ 1000 then B_adv (R_cp mem (y + 21) (y + 1)) (y + 21) x.toNat else mem) n (some (.int (ja_I (if 1 ≤ x ∧ x ≤ 1000 then (B_adv (R_cp mem (y + 21) (y + 1)) (y + 21) x.toNat) (y + 21 + 14) 2 - (R_cp mem (y + 21) (y + 1)) (y + 21 + 14) 2 else -1001))))) := by
  refine ja_enter [some (.ref y), some (.int (ja_I x)), none, none] (by decide) (Nat.le_of_ble_eq_true rfl) (fun q hq => hq) (fun C F Rt G hnm => ?_)
  obtain ⟨b1, b2, b3, b4, b5⟩ := id hO
  obtain ⟨g1, g2, g3, g4, g5, g6, g7, g8, g9, g10, g11, g12⟩ := id b1
  obtain ⟨p1, p2, p3, p4, p5, p6⟩ := id g3
  obtain ⟨s0, s1, s2, s3, s4, s5, s6, s7, s8⟩ := id g1
  have tt := g2.1
  have a0 := g4.1
  obtain ⟨x1_, x2_⟩ := id hx
  refine r_iload_n F rfl rfl dX8_gapsIn_0 rfl ?_
  refine r_iconst F dX8_gapsIn_1 rfl ?_
  refine r_icmp_lt F (tgt := 12) ⟨by omega, by omega⟩ ⟨by omega, by omega⟩ dX8_gapsIn_2 rfl (by decide) (fun h_2 => ?_) (fun h_2 => ?_)
  ·
    refine r_sipush F (by decide) dX8_gapsIn_12 rfl ?_
    exact r_iret F Rt dX8_gapsIn_15 (by decide) ⟨by first | rfl | rw [if_pos (by omega), if_pos (by omega)] | rw [if_pos (by omega), if_neg (by omega)] | rw [if_neg (by omega)] | rw [if_pos (by omega)], rfl, by first | rfl | rw [if_pos (by omega), if_pos (by omega)] | rw [if_pos (by omega), if_neg (by omega)] | rw [if_neg (by omega)] | rw [if_pos (by omega)], rfl⟩
  ·
    refine r_iload_n F rfl rfl dX8_gapsIn_5 rfl ?_
    refine r_sipush F (by decide) dX8_gapsIn_6 rfl ?_
    refine r_icmp_le F (tgt := 16) ⟨by omega, by omega⟩ ⟨by omega, by omega⟩ dX8_gapsIn_9 rfl (by decide) (fun h_9 => ?_) (fun h_9 => ?_)
    ·
      refine r_aload_n F rfl rfl dX8_gapsIn_16 rfl ?_
      refine r_getR F f_X8_16 (hB.1) rfl dX8_gapsIn_17 rfl ?_
      refine r_aload_n F rfl rfl dX8_gapsIn_20 rfl ?_
      refine r_getR F f_X8_10 (hB.1) rfl dX8_gapsIn_21 rfl ?_
      refine r_callV F G (c_X5_copyFrom _ _ _ _ (ja_LB_21 hB) (ja_LB_1 hB) b1 (by omega)) v_X8_207 rfl ((ja_LB_21 hB).1) rfl (by decide) (by decide) (Nat.le_of_ble_eq_true rfl) rfl dX8_gapsIn_24 rfl (fun v lay' mem' n' hp => ?_)
      obtain ⟨q1, q2, q3, q4⟩ := hp
      subst q1; subst q2; subst q3; subst q4
      obtain ⟨t2, b2⟩ := b2
      have hF := R_cp_RO b1 b2 (by omega)
      generalize hm0 : R_cp mem (y + 21) (y + 1) = m0 at *
      have f12 := hF.2.2.2.2.2.2.2.2.2.2.2
      have f3 := hF.2.2.1.2.2.1
      refine r_aload_n F rfl rfl dX8_gapsIn_27 rfl ?_
      refine r_getR F f_X8_16 (hB.1) rfl dX8_gapsIn_28 rfl ?_
      refine r_getR F f_X8_177 ((ja_LB_21 hB).1) rfl dX8_gapsIn_31 rfl ?_
      refine r_getI F f_X8_198 (ja_LR_14 (ja_LB_21 hB)) rfl dX8_gapsIn_34 rfl ?_
      refine r_eqz (z := m0 (y + 21 + 14) 2) (by rfl) ?_
      refine r_ist2 F (by decide) rfl dX8_gapsIn_37 rfl ?_
      refine r_iconst F dX8_gapsIn_38 rfl ?_
      refine r_ist3 F (by decide) rfl dX8_gapsIn_39 rfl ?_
      have loop : ∀ (d k : Nat), k + d = x.toNat → ja_W C 0 0 lay (B_adv m0 (y + 21) k) n 40 [some (.ref y), some (.int (ja_I x)), some (.int (ja_I (m0 (y + 21 + 14) 2))), some (.int (ja_I (k : Int)))] [] := by
        intro d
        induction d with
        | zero =>
          intro k hk
          refine r_iload_n F rfl rfl dX8_gapsIn_40 rfl ?_
          refine r_iload_n F rfl rfl dX8_gapsIn_41 rfl ?_
          refine r_icmp_ge F (tgt := 58) ⟨by omega, by omega⟩ ⟨by omega, by omega⟩ dX8_gapsIn_42 rfl (by decide) (fun h_42 => ?_) (fun h_42 => ?_)
          ·
            refine r_aload_n F rfl rfl dX8_gapsIn_58 rfl ?_
            refine r_getR F f_X8_16 (hB.1) rfl dX8_gapsIn_59 rfl ?_
            refine r_getR F f_X8_177 ((ja_LB_21 hB).1) rfl dX8_gapsIn_62 rfl ?_
            refine r_getI F f_X8_198 (ja_LR_14 (ja_LB_21 hB)) rfl dX8_gapsIn_65 rfl ?_
            refine r_eqz (z := (B_adv m0 (y + 21) k) (y + 21 + 14) 2) (by rfl) ?_
            refine r_iload_n F rfl rfl dX8_gapsIn_68 rfl ?_
            refine r_isub F dX8_gapsIn_69 rfl ?_
            exact r_iret F Rt dX8_gapsIn_70 (by decide) ⟨by rw [if_pos ⟨by omega, by omega⟩, show x.toNat = k by omega], rfl, by rw [if_pos ⟨by omega, by omega⟩, show x.toNat = k by omega], rfl⟩
          ·
            exfalso; omega
        | succ d ih =>
          intro k hk
          refine r_iload_n F rfl rfl dX8_gapsIn_40 rfl ?_
          refine r_iload_n F rfl rfl dX8_gapsIn_41 rfl ?_
          refine r_icmp_ge F (tgt := 58) ⟨by omega, by omega⟩ ⟨by omega, by omega⟩ dX8_gapsIn_42 rfl (by decide) (fun h_42 => ?_) (fun h_42 => ?_)
          ·
            exfalso; omega
          ·
            refine r_aload_n F rfl rfl dX8_gapsIn_45 rfl ?_
            refine r_getR F f_X8_16 (hB.1) rfl dX8_gapsIn_46 rfl ?_
            refine r_callV F G (c_X5_passTick _ _ _ _ (ja_LB_21 hB) (B_adv_RO hF k (by omega)) (by omega)) v_X8_101 rfl ((ja_LB_21 hB).1) rfl (by decide) (by decide) (Nat.le_of_ble_eq_true rfl) rfl dX8_gapsIn_49 rfl (fun v lay' mem' n' hp => ?_)
            obtain ⟨q1, q2, q3, q4⟩ := hp
            subst q1; subst q2; subst q3; subst q4
            refine r_inc3 F (by decide) rfl dX8_gapsIn_52 rfl ?_
            refine r_goto F (tgt := 40) dX8_gapsIn_55 (by decide) ?_
            exact ih (k + 1) (by omega)
      exact loop x.toNat 0 (by omega)
    ·
      refine r_sipush F (by decide) dX8_gapsIn_12 rfl ?_
      exact r_iret F Rt dX8_gapsIn_15 (by decide) ⟨by first | rfl | rw [if_pos (by omega), if_pos (by omega)] | rw [if_pos (by omega), if_neg (by omega)] | rw [if_neg (by omega)] | rw [if_pos (by omega)], rfl, by first | rfl | rw [if_pos (by omega), if_pos (by omega)] | rw [if_pos (by omega), if_neg (by omega)] | rw [if_neg (by omega)] | rw [if_pos (by omega)], rfl⟩
abbrev rm_X8_ticksToGap : Room := { frames := 7, cells := 0, slots := 0, locals := 171 }
set_option maxRecDepth 100000 in
set_option maxHeartbeats 4000000 in
theorem c_X8_ticksToGap (l : Launch) (D : va_G) (cA : Nat → ClassId) (B : Nat) {lay : ja_Y} {mem : ja_M} {n : Nat} {y : Nat} {sl : Nat → Option Nat} {t : Int} (hB : ja_LB lay y sl) (hO : ja_BO mem y sl t) (ht : t ≤ 898000) : ja_Mt l D cA B yX8_ticksToGap cX8_ticksToGap 3 (some .int) rm_X8_ticksToGap [.ref y] lay mem n (ja_rd lay ((B_gap (y + 21) ((R_cp mem (y + 21) (y + 1)) (y + 21 + 14) 2) 1000 0 (R_cp mem (y + 21) (y + 1))).2) n (some (.int (ja_I (B_gap (y + 21) ((R_cp mem (y + 21) (y + 1)) (y + 21 + 14) 2) 1000 0 (R_cp mem (y + 21) (y + 1))).1)))) := by
  refine ja_enter [some (.ref y), none, none] (by decide) (Nat.le_of_ble_eq_true rfl) (fun q hq => hq) (fun C F Rt G hnm => ?_)
  obtain ⟨b1, b2, b3, b4, b5⟩ := id hO
  obtain ⟨g1, g2, g3, g4, g5, g6, g7, g8, g9, g10, g11, g12⟩ := id b1
  obtain ⟨p1, p2, p3, p4, p5, p6⟩ := id g3
  obtain ⟨s0, s1, s2, s3, s4, s5, s6, s7, s8⟩ := id g1
  have tt := g2.1
  have a0 := g4.1
  refine r_aload_n F rfl rfl dX8_ticksToGap_0 rfl ?_
  refine r_getR F f_X8_16 (hB.1) rfl dX8_ticksToGap_1 rfl ?_
  refine r_aload_n F rfl rfl dX8_ticksToGap_4 rfl ?_
  refine r_getR F f_X8_10 (hB.1) rfl dX8_ticksToGap_5 rfl ?_
  refine r_callV F G (c_X5_copyFrom _ _ _ _ (ja_LB_21 hB) (ja_LB_1 hB) b1 (by omega)) v_X8_207 rfl ((ja_LB_21 hB).1) rfl (by decide) (by decide) (Nat.le_of_ble_eq_true rfl) rfl dX8_ticksToGap_8 rfl (fun v lay' mem' n' hp => ?_)
  obtain ⟨q1, q2, q3, q4⟩ := hp
  subst q1; subst q2; subst q3; subst q4
  obtain ⟨t2, b2⟩ := b2
  have hF := R_cp_RO b1 b2 (by omega)
  generalize hm0 : R_cp mem (y + 21) (y + 1) = m0 at *
  have f12 := hF.2.2.2.2.2.2.2.2.2.2.2
  have f3 := hF.2.2.1.2.2.1
  refine r_aload_n F rfl rfl dX8_ticksToGap_11 rfl ?_
  refine r_getR F f_X8_16 (hB.1) rfl dX8_ticksToGap_12 rfl ?_
  refine r_getR F f_X8_177 ((ja_LB_21 hB).1) rfl dX8_ticksToGap_15 rfl ?_
  refine r_getI F f_X8_198 (ja_LR_14 (ja_LB_21 hB)) rfl dX8_ticksToGap_18 rfl ?_
  refine r_eqz (z := m0 (y + 21 + 14) 2) (by rfl) ?_
  refine r_ist1 F (by decide) rfl dX8_ticksToGap_21 rfl ?_
  refine r_iconst F dX8_ticksToGap_22 rfl ?_
  refine r_ist2 F (by decide) rfl dX8_ticksToGap_23 rfl ?_
  have loop : ∀ (d k : Nat) (m : ja_M), k + d = 1000 → ja_RO m (y + 21) (t + k) → B_gap (y + 21) (m0 (y + 21 + 14) 2) d k m = B_gap (y + 21) (m0 (y + 21 + 14) 2) 1000 0 m0 → ja_W C 0 0 lay m n 24 [some (.ref y), some (.int (ja_I (m0 (y + 21 + 14) 2))), some (.int (ja_I (k : Int)))] [] := by
    intro d
    induction d with
    | zero =>
      intro k m hk hM hl
      refine r_iload_n F rfl rfl dX8_ticksToGap_24 rfl ?_
      refine r_sipush F (by decide) dX8_ticksToGap_25 rfl ?_
      refine r_icmp_ge F (tgt := 60) ⟨by omega, by omega⟩ ⟨by omega, by omega⟩ dX8_ticksToGap_28 rfl (by decide) (fun h_28 => ?_) (fun h_28 => ?_)
      ·
        refine r_sipush F (by decide) dX8_ticksToGap_60 rfl ?_
        exact r_iret F Rt dX8_ticksToGap_63 (by decide) ⟨by rw [← hl]; rfl, rfl, by rw [← hl]; rfl, rfl⟩
      ·
        exfalso; omega
    | succ d ih =>
      intro k m hk hM hl
      have hT := R_tk_RO hM (by omega)
      have h12 := hT.2.2.2.2.2.2.2.2.2.2.2
      have h3 := hT.2.2.1.2.2.1
      refine r_iload_n F rfl rfl dX8_ticksToGap_24 rfl ?_
      refine r_sipush F (by decide) dX8_ticksToGap_25 rfl ?_
      refine r_icmp_ge F (tgt := 60) ⟨by omega, by omega⟩ ⟨by omega, by omega⟩ dX8_ticksToGap_28 rfl (by decide) (fun h_28 => ?_) (fun h_28 => ?_)
      ·
        exfalso; omega
      ·
        refine r_aload_n F rfl rfl dX8_ticksToGap_31 rfl ?_
        refine r_getR F f_X8_16 (hB.1) rfl dX8_ticksToGap_32 rfl ?_
        refine r_callV F G (c_X5_passTick _ _ _ _ (ja_LB_21 hB) hM (by omega)) v_X8_101 rfl ((ja_LB_21 hB).1) rfl (by decide) (by decide) (Nat.le_of_ble_eq_true rfl) rfl dX8_ticksToGap_35 rfl (fun v lay' mem' n' hp => ?_)
        obtain ⟨q1, q2, q3, q4⟩ := hp
        subst q1; subst q2; subst q3; subst q4
        refine r_aload_n F rfl rfl dX8_ticksToGap_38 rfl ?_
        refine r_getR F f_X8_16 (hB.1) rfl dX8_ticksToGap_39 rfl ?_
        refine r_getR F f_X8_177 ((ja_LB_21 hB).1) rfl dX8_ticksToGap_42 rfl ?_
        refine r_getI F f_X8_198 (ja_LR_14 (ja_LB_21 hB)) rfl dX8_ticksToGap_45 rfl ?_
        refine r_eqz (z := (R_tk m (y + 21)) (y + 21 + 14) 2) (by rfl) ?_
        refine r_iload_n F rfl rfl dX8_ticksToGap_48 rfl ?_
        refine r_icmp_le F (tgt := 54) ⟨by omega, by omega⟩ ⟨by omega, by omega⟩ dX8_ticksToGap_49 rfl (by decide) (fun h_49 => ?_) (fun h_49 => ?_)
        ·
          refine r_inc2 F (by decide) rfl dX8_ticksToGap_54 rfl ?_
          refine r_goto F (tgt := 24) dX8_ticksToGap_57 (by decide) ?_
          exact ih (k + 1) _ (by omega) (by rw [show t + ((k + 1 : Nat) : Int) = t + k + 1 by omega]; exact hT) (by rw [← hl]; simp only [B_gap]; rw [if_neg (by omega)])
        ·
          refine r_iload_n F rfl rfl dX8_ticksToGap_52 rfl ?_
          exact r_iret F Rt dX8_ticksToGap_53 (by decide) ⟨by rw [← hl]; simp only [B_gap]; rw [if_pos (by omega)], rfl, by rw [← hl]; simp only [B_gap]; rw [if_pos (by omega)], rfl⟩
  exact loop 1000 0 m0 (by omega) (by rw [show t + ((0 : Nat) : Int) = t by omega]; exact hF) rfl
abbrev rm_X8_ticksToFrame : Room := { frames := 7, cells := 0, slots := 0, locals := 171 }
set_option maxRecDepth 100000 in
set_option maxHeartbeats 4000000 in
theorem c_X8_ticksToFrame (l : Launch) (D : va_G) (cA : Nat → ClassId) (B : Nat) {lay : ja_Y} {mem : ja_M} {n : Nat} {x : Int} {y : Nat} {sl : Nat → Option Nat} {t : Int} (hB : ja_LB lay y sl) (hO : ja_BO mem y sl t) (hx : ja_in x) (ht : t ≤ 898000) : ja_Mt l D cA B yX8_ticksToFrame cX8_ticksToFrame 3 (some .int) rm_X8_ticksToFrame [.ref y, .int (ja_I x)] lay mem n (ja_tf lay mem n y x) := by
  refine ja_enter [some (.ref y), some (.int (ja_I x)), none] (by decide) (Nat.le_of_ble_eq_true rfl) (fun q hq => hq) (fun C F Rt G hnm => ?_)
  obtain ⟨b1, b2, b3, b4, b5⟩ := id hO
  obtain ⟨g1, g2, g3, g4, g5, g6, g7, g8, g9, g10, g11, g12⟩ := id b1
  obtain ⟨p1, p2, p3, p4, p5, p6⟩ := id g3
  obtain ⟨s0, s1, s2, s3, s4, s5, s6, s7, s8⟩ := id g1
  have tt := g2.1
  have a0 := g4.1
  obtain ⟨x1_, x2_⟩ := id hx
  have hbf : ja_b (B_isF x) = 0 ↔ ¬ B_isF x := by unfold ja_b; split <;> simp_all
  have hbr : 0 ≤ ja_b (B_isF x) ∧ ja_b (B_isF x) ≤ 1 := by unfold ja_b; split <;> omega
  refine r_iload_n F rfl rfl dX8_ticksToFrame_0 rfl ?_
  refine r_callS F G (c_X8_isFrame _ _ _ _ hx) s_X8_76 rfl (by decide) (by decide) (Nat.le_of_ble_eq_true rfl) rfl dX8_ticksToFrame_1 rfl (fun v lay' mem' n' hp => ?_)
  obtain ⟨q1, q2, q3, q4⟩ := hp
  subst q1; subst q2; subst q3; subst q4
  refine r_if_ne F (tgt := 11) ⟨by omega, by omega⟩ dX8_ticksToFrame_4 rfl (by decide) (fun h_4 => ?_) (fun h_4 => ?_)
  ·
    have hx4 : B_isF x := (Decidable.byContradiction fun q => h_4 (hbf.mpr q))
    refine r_iload_n F rfl rfl dX8_ticksToFrame_11 rfl ?_
    refine r_aload_n F rfl rfl dX8_ticksToFrame_12 rfl ?_
    refine r_getR F f_X8_10 (hB.1) rfl dX8_ticksToFrame_13 rfl ?_
    refine r_getR F f_X8_92 ((ja_LB_1 hB).1) rfl dX8_ticksToFrame_16 rfl ?_
    refine r_getI F f_X8_120 ((ja_LR_9 (ja_LB_1 hB)).1) rfl dX8_ticksToFrame_19 rfl ?_
    refine r_icmp_ge F (tgt := 29) ⟨by omega, by omega⟩ ⟨by omega, by omega⟩ dX8_ticksToFrame_22 rfl (by decide) (fun h_22 => ?_) (fun h_22 => ?_)
    ·
      refine r_aload_n F rfl rfl dX8_ticksToFrame_29 rfl ?_
      refine r_getR F f_X8_16 (hB.1) rfl dX8_ticksToFrame_30 rfl ?_
      refine r_aload_n F rfl rfl dX8_ticksToFrame_33 rfl ?_
      refine r_getR F f_X8_10 (hB.1) rfl dX8_ticksToFrame_34 rfl ?_
      refine r_callV F G (c_X5_copyFrom _ _ _ _ (ja_LB_21 hB) (ja_LB_1 hB) b1 (by omega)) v_X8_207 rfl ((ja_LB_21 hB).1) rfl (by decide) (by decide) (Nat.le_of_ble_eq_true rfl) rfl dX8_ticksToFrame_37 rfl (fun v lay' mem' n' hp => ?_)
      obtain ⟨q1, q2, q3, q4⟩ := hp
      subst q1; subst q2; subst q3; subst q4
      obtain ⟨t2, b2⟩ := b2
      have hF := R_cp_RO b1 b2 (by omega)
      generalize hm0 : R_cp mem (y + 21) (y + 1) = m0 at *
      have f12 := hF.2.2.2.2.2.2.2.2.2.2.2
      have f3 := hF.2.2.1.2.2.1
      refine r_iconst F dX8_ticksToFrame_40 rfl ?_
      refine r_ist2 F (by decide) rfl dX8_ticksToFrame_41 rfl ?_
      have loop : ∀ (d k : Nat) (m : ja_M), k + d = 2000 → ja_RO m (y + 21) (t + k) → B_fra (y + 21) x d k m = B_fra (y + 21) x 2000 0 m0 → ja_W C 0 0 lay m n 42 [some (.ref y), some (.int (ja_I x)), some (.int (ja_I (k : Int)))] [] := by
        intro d
        induction d with
        | zero =>
          intro k m hk hM hl
          refine r_iload_n F rfl rfl dX8_ticksToFrame_42 rfl ?_
          refine r_sipush F (by decide) dX8_ticksToFrame_43 rfl ?_
          refine r_icmp_ge F (tgt := 78) ⟨by omega, by omega⟩ ⟨by omega, by omega⟩ dX8_ticksToFrame_46 rfl (by decide) (fun h_46 => ?_) (fun h_46 => ?_)
          ·
            refine r_sipush F (by decide) dX8_ticksToFrame_78 rfl ?_
            exact r_iret F Rt dX8_ticksToFrame_81 (by decide) ⟨by rw [if_pos hx4, if_neg (by omega), hm0]; rw [← hl]; rfl, rfl, by rw [if_pos hx4, if_neg (by omega), hm0]; rw [← hl]; rfl, rfl⟩
          ·
            exfalso; omega
        | succ d ih =>
          intro k m hk hM hl
          have hT := R_tk_RO hM (by omega)
          have h3 := hT.2.2.1.2.2.1
          refine r_iload_n F rfl rfl dX8_ticksToFrame_42 rfl ?_
          refine r_sipush F (by decide) dX8_ticksToFrame_43 rfl ?_
          refine r_icmp_ge F (tgt := 78) ⟨by omega, by omega⟩ ⟨by omega, by omega⟩ dX8_ticksToFrame_46 rfl (by decide) (fun h_46 => ?_) (fun h_46 => ?_)
          ·
            exfalso; omega
          ·
            refine r_aload_n F rfl rfl dX8_ticksToFrame_49 rfl ?_
            refine r_getR F f_X8_16 (hB.1) rfl dX8_ticksToFrame_50 rfl ?_
            refine r_callV F G (c_X5_passTick _ _ _ _ (ja_LB_21 hB) hM (by omega)) v_X8_101 rfl ((ja_LB_21 hB).1) rfl (by decide) (by decide) (Nat.le_of_ble_eq_true rfl) rfl dX8_ticksToFrame_53 rfl (fun v lay' mem' n' hp => ?_)
            obtain ⟨q1, q2, q3, q4⟩ := hp
            subst q1; subst q2; subst q3; subst q4
            refine r_aload_n F rfl rfl dX8_ticksToFrame_56 rfl ?_
            refine r_getR F f_X8_16 (hB.1) rfl dX8_ticksToFrame_57 rfl ?_
            refine r_getR F f_X8_92 ((ja_LB_21 hB).1) rfl dX8_ticksToFrame_60 rfl ?_
            refine r_getI F f_X8_120 ((ja_LR_9 (ja_LB_21 hB)).1) rfl dX8_ticksToFrame_63 rfl ?_
            refine r_eqz (z := (R_tk m (y + 21)) (y + 21 + 9) 6) (by rfl) ?_
            refine r_iload_n F rfl rfl dX8_ticksToFrame_66 rfl ?_
            refine r_icmp_le F (tgt := 72) ⟨by omega, by omega⟩ ⟨by omega, by omega⟩ dX8_ticksToFrame_67 rfl (by decide) (fun h_67 => ?_) (fun h_67 => ?_)
            ·
              refine r_inc2 F (by decide) rfl dX8_ticksToFrame_72 rfl ?_
              refine r_goto F (tgt := 42) dX8_ticksToFrame_75 (by decide) ?_
              exact ih (k + 1) _ (by omega) (by rw [show t + ((k + 1 : Nat) : Int) = t + k + 1 by omega]; exact hT) (by rw [← hl]; simp only [B_fra]; rw [if_neg (by omega)])
            ·
              refine r_iload_n F rfl rfl dX8_ticksToFrame_70 rfl ?_
              exact r_iret F Rt dX8_ticksToFrame_71 (by decide) ⟨by rw [if_pos hx4, if_neg (by omega), hm0]; rw [← hl]; simp only [B_fra]; rw [if_pos (by omega)], rfl, by rw [if_pos hx4, if_neg (by omega), hm0]; rw [← hl]; simp only [B_fra]; rw [if_pos (by omega)], rfl⟩
      exact loop 2000 0 m0 (by omega) (by rw [show t + ((0 : Nat) : Int) = t by omega]; exact hF) rfl
    ·
      refine r_sipush F (by decide) dX8_ticksToFrame_25 rfl ?_
      exact r_iret F Rt dX8_ticksToFrame_28 (by decide) ⟨by rw [if_pos hx4, if_pos (by omega)], rfl, by rw [if_pos hx4, if_pos (by omega)], rfl⟩
  ·
    refine r_sipush F (by decide) dX8_ticksToFrame_7 rfl ?_
    exact r_iret F Rt dX8_ticksToFrame_10 (by decide) ⟨by rw [if_neg (hbf.mp h_4)], rfl, by rw [if_neg (hbf.mp h_4)], rfl⟩
end
section
abbrev rm_X8_append : Room := { frames := 1, cells := 0, slots := 0, locals := 21 }
set_option maxRecDepth 100000 in
set_option maxHeartbeats 4000000 in
theorem c_X8_append (l : Launch) (D : va_G) (cA : Nat → ClassId) (B : Nat) {lay : ja_Y} {mem : ja_M} {n : Nat} {k : Int} {y : Nat} {sl : Nat → Option Nat} {t : Int} (hB : ja_LB lay y sl) (hO : ja_BO mem y sl t) (hk : ja_in k)  : ja_Mt l D cA B yX8_append cX8_append 2 (some .int) rm_X8_append [.ref y, .int (ja_I k)] lay mem n (ja_rd lay (if 32 ≤ k ∧ k ≤ 126 ∧ mem (y + 42) 1 < 120 then ja_up (ja_up mem (y + 42 + 1) (mem (y + 42) 1).toNat k) (y + 42) 1 (mem (y + 42) 1 + 1) else mem) n (some (.int (ja_I (if 32 ≤ k ∧ k ≤ 126 then (if mem (y + 42) 1 < 120 then mem (y + 42) 1 + 1 else -1002) else -1001))))) := by
  refine ja_enter [some (.ref y), some (.int (ja_I k))] (by decide) (Nat.le_of_ble_eq_true rfl) (fun q hq => hq) (fun C F Rt G hnm => ?_)
  obtain ⟨b1, b2, b3, b4, b5⟩ := id hO
  obtain ⟨g1, g2, g3, g4, g5, g6, g7, g8, g9, g10, g11, g12⟩ := id b1
  obtain ⟨p1, p2, p3, p4, p5, p6⟩ := id g3
  obtain ⟨s0, s1, s2, s3, s4, s5, s6, s7, s8⟩ := id g1
  have tt := g2.1
  have a0 := g4.1
  obtain ⟨k1_, k2_⟩ := id hk
  obtain ⟨h1, hch, h5, h6, h7⟩ := id b3
  refine r_iload_n F rfl rfl dX8_append_0 rfl ?_
  refine r_bipush F (by decide) dX8_append_1 rfl ?_
  refine r_icmp_lt F (tgt := 12) ⟨by omega, by omega⟩ ⟨by omega, by omega⟩ dX8_append_3 rfl (by decide) (fun h_3 => ?_) (fun h_3 => ?_)
  ·
    refine r_sipush F (by decide) dX8_append_12 rfl ?_
    exact r_iret F Rt dX8_append_15 (by decide) ⟨by rw [if_neg (by omega)], rfl, by rw [if_neg (by omega)], rfl⟩
  ·
    refine r_iload_n F rfl rfl dX8_append_6 rfl ?_
    refine r_bipush F (by decide) dX8_append_7 rfl ?_
    refine r_icmp_le F (tgt := 16) ⟨by omega, by omega⟩ ⟨by omega, by omega⟩ dX8_append_9 rfl (by decide) (fun h_9 => ?_) (fun h_9 => ?_)
    ·
      refine r_aload_n F rfl rfl dX8_append_16 rfl ?_
      refine r_getR F f_X8_26 (hB.1) rfl dX8_append_17 rfl ?_
      refine r_getI F f_X8_211 ((ja_LB_42 hB).1) rfl dX8_append_20 rfl ?_
      refine r_bipush F (by decide) dX8_append_23 rfl ?_
      refine r_icmp_lt F (tgt := 32) ⟨by omega, by omega⟩ ⟨by omega, by omega⟩ dX8_append_25 rfl (by decide) (fun h_25 => ?_) (fun h_25 => ?_)
      ·
        refine r_aload_n F rfl rfl dX8_append_32 rfl ?_
        refine r_getR F f_X8_26 (hB.1) rfl dX8_append_33 rfl ?_
        refine r_iload_n F rfl rfl dX8_append_36 rfl ?_
        refine r_callV F G (c_X0_write _ _ _ _ (ja_LB_42 hB) ⟨by omega, by omega⟩) v_X8_214 rfl ((ja_LB_42 hB).1) rfl (by decide) (by decide) (Nat.le_of_ble_eq_true rfl) rfl dX8_append_37 rfl (fun v lay' mem' n' hp => ?_)
        obtain ⟨q1, q2, q3, q4⟩ := hp
        subst q1; subst q2; subst q3; subst q4
        refine r_aload_n F rfl rfl dX8_append_40 rfl ?_
        refine r_getR F f_X8_26 (hB.1) rfl dX8_append_41 rfl ?_
        refine r_getI F f_X8_211 ((ja_LB_42 hB).1) rfl dX8_append_44 rfl ?_
        refine r_eqz (z := mem (y + 42) 1 + 1) (by rw [if_pos (by omega), ja_up_s]) ?_
        exact r_iret F Rt dX8_append_47 (by decide) ⟨by rw [if_pos ⟨by omega, by omega⟩, if_pos (by omega)], rfl, by rw [if_pos ⟨by omega, by omega, by omega⟩, if_pos (by omega)], rfl⟩
      ·
        refine r_sipush F (by decide) dX8_append_28 rfl ?_
        exact r_iret F Rt dX8_append_31 (by decide) ⟨by rw [if_pos ⟨by omega, by omega⟩, if_neg (by omega)], rfl, by rw [if_neg (by omega)], rfl⟩
    ·
      refine r_sipush F (by decide) dX8_append_12 rfl ?_
      exact r_iret F Rt dX8_append_15 (by decide) ⟨by rw [if_neg (by omega)], rfl, by rw [if_neg (by omega)], rfl⟩
abbrev rm_X8_clearText : Room := { frames := 0, cells := 0, slots := 0, locals := 0 }
set_option maxRecDepth 100000 in
set_option maxHeartbeats 4000000 in
theorem c_X8_clearText (l : Launch) (D : va_G) (cA : Nat → ClassId) (B : Nat) {lay : ja_Y} {mem : ja_M} {n : Nat} {y : Nat} {sl : Nat → Option Nat} {t : Int} (hB : ja_LB lay y sl) (hO : ja_BO mem y sl t)  : ja_Mt l D cA B yX8_clearText cX8_clearText 2 (some .int) rm_X8_clearText [.ref y] lay mem n (ja_rd lay (ja_up mem (y + 42) 1 0) n (some (.int (ja_I (mem (y + 42) 1))))) := by
  refine ja_enter [some (.ref y), none] (by decide) (Nat.le_of_ble_eq_true rfl) (fun q hq => hq) (fun C F Rt G hnm => ?_)
  obtain ⟨b1, b2, b3, b4, b5⟩ := id hO
  obtain ⟨g1, g2, g3, g4, g5, g6, g7, g8, g9, g10, g11, g12⟩ := id b1
  obtain ⟨p1, p2, p3, p4, p5, p6⟩ := id g3
  obtain ⟨s0, s1, s2, s3, s4, s5, s6, s7, s8⟩ := id g1
  have tt := g2.1
  have a0 := g4.1
  obtain ⟨h1, hch, h5, h6, h7⟩ := id b3
  refine r_aload_n F rfl rfl dX8_clearText_0 rfl ?_
  refine r_getR F f_X8_26 (hB.1) rfl dX8_clearText_1 rfl ?_
  refine r_getI F f_X8_211 ((ja_LB_42 hB).1) rfl dX8_clearText_4 rfl ?_
  refine r_ist1 F (by decide) rfl dX8_clearText_7 rfl ?_
  refine r_aload_n F rfl rfl dX8_clearText_8 rfl ?_
  refine r_getR F f_X8_26 (hB.1) rfl dX8_clearText_9 rfl ?_
  refine r_iconst F dX8_clearText_12 rfl ?_
  refine r_putI F f_X8_211 ((ja_LB_42 hB).1) rfl dX8_clearText_13 rfl ?_
  refine r_iload_n F rfl rfl dX8_clearText_16 rfl ?_
  exact r_iret F Rt dX8_clearText_17 (by decide) ⟨rfl, rfl, rfl, rfl⟩
abbrev rm_X8_faultPosition : Room := { frames := 4, cells := 0, slots := 0, locals := 89 }
set_option maxRecDepth 100000 in
set_option maxHeartbeats 4000000 in
theorem c_X8_faultPosition (l : Launch) (D : va_G) (cA : Nat → ClassId) (B : Nat) {lay : ja_Y} {mem : ja_M} {n : Nat} {y : Nat} {sl : Nat → Option Nat} {t : Int} (hB : ja_LB lay y sl) (hO : ja_BO mem y sl t)  : ja_Mt l D cA B yX8_faultPosition cX8_faultPosition 1 (some .int) rm_X8_faultPosition [.ref y] lay mem n (ja_rd lay ((B_rd mem y).2) n (some (.int (ja_I (B_rd mem y).1)))) := by
  refine ja_enter [some (.ref y)] (by decide) (Nat.le_of_ble_eq_true rfl) (fun q hq => hq) (fun C F Rt G hnm => ?_)
  obtain ⟨b1, b2, b3, b4, b5⟩ := id hO
  obtain ⟨g1, g2, g3, g4, g5, g6, g7, g8, g9, g10, g11, g12⟩ := id b1
  obtain ⟨p1, p2, p3, p4, p5, p6⟩ := id g3
  obtain ⟨s0, s1, s2, s3, s4, s5, s6, s7, s8⟩ := id g1
  have tt := g2.1
  have a0 := g4.1
  obtain ⟨h1, hch, h5, h6, h7⟩ := id b3
  refine r_aload_n F rfl rfl dX8_faultPosition_0 rfl ?_
  refine r_getR F f_X8_26 (hB.1) rfl dX8_faultPosition_1 rfl ?_
  refine r_aload_n F rfl rfl dX8_faultPosition_4 rfl ?_
  refine r_getR F f_X8_33 (hB.1) rfl dX8_faultPosition_5 rfl ?_
  refine r_callV F G (c_X0_readInto _ _ _ _ (ja_LB_42 hB) (ja_LB_44 hB) h1 (fun k _ => ⟨(hch k).1, by have := (hch k).2; omega⟩) (HO_XO b3 (by omega)) (AO_0 b4 (by omega)) (by omega)) v_X8_218 rfl ((ja_LB_42 hB).1) rfl (by decide) (by decide) (Nat.le_of_ble_eq_true rfl) rfl dX8_faultPosition_8 rfl (fun v lay' mem' n' hp => ?_)
  obtain ⟨q1, q2, q3, q4⟩ := hp
  subst q1; subst q2; subst q3; subst q4
  exact r_iret F Rt dX8_faultPosition_11 (by decide) ⟨rfl, rfl, rfl, rfl⟩
abbrev rm_X8_canArrive : Room := { frames := 3, cells := 0, slots := 0, locals := 64 }
set_option maxRecDepth 100000 in
set_option maxHeartbeats 4000000 in
theorem c_X8_canArrive (l : Launch) (D : va_G) (cA : Nat → ClassId) (B : Nat) {lay : ja_Y} {mem : ja_M} {n : Nat} {y : Nat} {sl : Nat → Option Nat} {t i : Int} (hB : ja_LB lay y sl) (hA : ja_AO mem (y + 44)) (hR : ja_RO mem (y + 1) t) (ht : t ≤ 898000) (hi : 0 ≤ i ∧ i < 24) : ja_Mt l D cA B yX8_canArrive cX8_canArrive 3 (some .boolean) rm_X8_canArrive [.ref y, .int (ja_I i)] lay mem n (ja_rd lay mem n (some (.int (ja_I (ja_b (B_ca mem y i.toNat)))))) := by
  refine ja_enter [some (.ref y), some (.int (ja_I i)), none] (by decide) (Nat.le_of_ble_eq_true rfl) (fun q hq => hq) (fun C F Rt G hnm => ?_)
  obtain ⟨g1, g2, g3, g4, g5, g6, g7, g8, g9, g10, g11, g12⟩ := id hR
  have u1 := hA.2.1 i.toNat
  obtain ⟨v1, v2⟩ := hA.2.2.1 i.toNat
  obtain ⟨w1, w2⟩ := hA.2.2.2.1 i.toNat
  obtain ⟨z1, z2⟩ := hA.2.2.2.2 i.toNat
  have hbf : ∀ (p : Prop) [Decidable p], ja_b p = 0 ∨ ja_b p = 1 := fun p _ => by unfold ja_b; split <;> omega
  have hbc : ∀ (p q : Prop) [Decidable p] [Decidable q], (p ↔ q) → ja_b p = ja_b q := fun p q _ _ h => by unfold ja_b; by_cases hp : p; rw [if_pos hp, if_pos (h.mp hp)]; rw [if_neg hp, if_neg (fun hq => hp (h.mpr hq))]
  refine r_aload_n F rfl rfl dX8_canArrive_0 rfl ?_
  refine r_getR F f_X8_33 (hB.1) rfl dX8_canArrive_1 rfl ?_
  refine r_getRN F f_X8_283 ((ja_LB_44 hB).1) rfl dX8_canArrive_4 rfl ?_
  refine r_iload_n F rfl rfl dX8_canArrive_7 rfl ?_
  refine r_iald F (ja_LA_4 (ja_LB_44 hB)) (by omega) (by omega) (by decide) dX8_canArrive_8 rfl ?_
  refine r_aload_n F rfl rfl dX8_canArrive_9 rfl ?_
  refine r_getR F f_X8_10 (hB.1) rfl dX8_canArrive_10 rfl ?_
  refine r_getI F f_X8_104 ((ja_LB_1 hB).1) rfl dX8_canArrive_13 rfl ?_
  refine r_icmp_gt F (tgt := 21) ⟨by omega, by omega⟩ ⟨by omega, by omega⟩ dX8_canArrive_16 rfl (by decide) (fun h_16 => ?_) (fun h_16 => ?_)
  ·
    refine r_aload_n F rfl rfl dX8_canArrive_21 rfl ?_
    refine r_getR F f_X8_33 (hB.1) rfl dX8_canArrive_22 rfl ?_
    refine r_getRN F f_X8_287 ((ja_LB_44 hB).1) rfl dX8_canArrive_25 rfl ?_
    refine r_iload_n F rfl rfl dX8_canArrive_28 rfl ?_
    refine r_iald F (ja_LA_2 (ja_LB_44 hB)) (by omega) (by omega) (by decide) dX8_canArrive_29 rfl ?_
    refine r_ist2 F (by decide) rfl dX8_canArrive_30 rfl ?_
    refine r_aload_n F rfl rfl dX8_canArrive_31 rfl ?_
    refine r_getR F f_X8_33 (hB.1) rfl dX8_canArrive_32 rfl ?_
    refine r_getRN F f_X8_290 ((ja_LB_44 hB).1) rfl dX8_canArrive_35 rfl ?_
    refine r_iload_n F rfl rfl dX8_canArrive_38 rfl ?_
    refine r_iald F (ja_LA_1 (ja_LB_44 hB)) (by omega) (by omega) (by decide) dX8_canArrive_39 rfl ?_
    refine r_if_ne F (tgt := 48) ⟨by omega, by omega⟩ dX8_canArrive_40 rfl (by decide) (fun h_40 => ?_) (fun h_40 => ?_)
    ·
      refine r_aload_n F rfl rfl dX8_canArrive_48 rfl ?_
      refine r_getR F f_X8_10 (hB.1) rfl dX8_canArrive_49 rfl ?_
      refine r_getR F f_X8_43 ((ja_LB_1 hB).1) rfl dX8_canArrive_52 rfl ?_
      refine r_aload_n F rfl rfl dX8_canArrive_55 rfl ?_
      refine r_getR F f_X8_33 (hB.1) rfl dX8_canArrive_56 rfl ?_
      refine r_getRN F f_X8_290 ((ja_LB_44 hB).1) rfl dX8_canArrive_59 rfl ?_
      refine r_iload_n F rfl rfl dX8_canArrive_62 rfl ?_
      refine r_iald F (ja_LA_1 (ja_LB_44 hB)) (by omega) (by omega) (by decide) dX8_canArrive_63 rfl ?_
      refine r_iconst F dX8_canArrive_64 rfl ?_
      refine r_icmp_ne F (tgt := 72) ⟨by omega, by omega⟩ ⟨by omega, by omega⟩ dX8_canArrive_65 rfl (by decide) (fun h_65 => ?_) (fun h_65 => ?_)
      ·
        refine r_iconst F dX8_canArrive_72 rfl ?_
        refine r_eqz (z := ja_b (mem (y + 44 + 1) i.toNat = 1)) (by unfold ja_b; first | rw [if_pos (by omega)] | rw [if_neg (by omega)]) ?_
        have hbb : 0 ≤ ja_b (mem (y + 44 + 1) i.toNat = 1) ∧ ja_b (mem (y + 44 + 1) i.toNat = 1) ≤ 1 := by unfold ja_b; split <;> omega
        refine r_iload_n F rfl rfl dX8_canArrive_73 rfl ?_
        refine r_aload_n F rfl rfl dX8_canArrive_74 rfl ?_
        refine r_getR F f_X8_33 (hB.1) rfl dX8_canArrive_75 rfl ?_
        refine r_getRN F f_X8_293 ((ja_LB_44 hB).1) rfl dX8_canArrive_78 rfl ?_
        refine r_iload_n F rfl rfl dX8_canArrive_81 rfl ?_
        refine r_iald F (ja_LA_3 (ja_LB_44 hB)) (by omega) (by omega) (by decide) dX8_canArrive_82 rfl ?_
        refine r_callV F G (c_X6_hasPacket _ _ _ _ (ja_LR_1 (ja_LB_1 hB)) g1 hbb ⟨by omega, by omega⟩ ⟨by omega, by omega⟩) v_X8_84 rfl (ja_LR_1 (ja_LB_1 hB)) rfl (by decide) (by decide) (Nat.le_of_ble_eq_true rfl) rfl dX8_canArrive_83 rfl (fun v lay' mem' n' hp => ?_)
        obtain ⟨q1, q2, q3, q4⟩ := hp
        subst q1; subst q2; subst q3; subst q4
        exact r_zret F Rt (hbf _) dX8_canArrive_86 (by decide) ⟨by rw [hbc (B_ca mem y i.toNat) (ja_hasP mem (y + 1 + 1) (ja_b (mem (y + 44 + 1) i.toNat = 1)) (mem (y + 44 + 2) i.toNat) (mem (y + 44 + 3) i.toNat)) (by constructor; (intro q; have := q.2; rw [if_neg h_40] at this; exact this); (intro q; exact ⟨by omega, by rw [if_neg h_40]; exact q⟩))], rfl, rfl, rfl⟩
      ·
        refine r_iconst F dX8_canArrive_68 rfl ?_
        refine r_goto F (tgt := 73) dX8_canArrive_69 (by decide) ?_
        refine r_eqz (z := ja_b (mem (y + 44 + 1) i.toNat = 1)) (by unfold ja_b; first | rw [if_pos (by omega)] | rw [if_neg (by omega)]) ?_
        have hbb : 0 ≤ ja_b (mem (y + 44 + 1) i.toNat = 1) ∧ ja_b (mem (y + 44 + 1) i.toNat = 1) ≤ 1 := by unfold ja_b; split <;> omega
        refine r_iload_n F rfl rfl dX8_canArrive_73 rfl ?_
        refine r_aload_n F rfl rfl dX8_canArrive_74 rfl ?_
        refine r_getR F f_X8_33 (hB.1) rfl dX8_canArrive_75 rfl ?_
        refine r_getRN F f_X8_293 ((ja_LB_44 hB).1) rfl dX8_canArrive_78 rfl ?_
        refine r_iload_n F rfl rfl dX8_canArrive_81 rfl ?_
        refine r_iald F (ja_LA_3 (ja_LB_44 hB)) (by omega) (by omega) (by decide) dX8_canArrive_82 rfl ?_
        refine r_callV F G (c_X6_hasPacket _ _ _ _ (ja_LR_1 (ja_LB_1 hB)) g1 hbb ⟨by omega, by omega⟩ ⟨by omega, by omega⟩) v_X8_84 rfl (ja_LR_1 (ja_LB_1 hB)) rfl (by decide) (by decide) (Nat.le_of_ble_eq_true rfl) rfl dX8_canArrive_83 rfl (fun v lay' mem' n' hp => ?_)
        obtain ⟨q1, q2, q3, q4⟩ := hp
        subst q1; subst q2; subst q3; subst q4
        exact r_zret F Rt (hbf _) dX8_canArrive_86 (by decide) ⟨by rw [hbc (B_ca mem y i.toNat) (ja_hasP mem (y + 1 + 1) (ja_b (mem (y + 44 + 1) i.toNat = 1)) (mem (y + 44 + 2) i.toNat) (mem (y + 44 + 3) i.toNat)) (by constructor; (intro q; have := q.2; rw [if_neg h_40] at this; exact this); (intro q; exact ⟨by omega, by rw [if_neg h_40]; exact q⟩))], rfl, rfl, rfl⟩
    ·
      refine r_iload_n F rfl rfl dX8_canArrive_43 rfl ?_
      refine r_callS F G (c_X8_isFrame _ _ _ _ ⟨by omega, by omega⟩) s_X8_76 rfl (by decide) (by decide) (Nat.le_of_ble_eq_true rfl) rfl dX8_canArrive_44 rfl (fun v lay' mem' n' hp => ?_)
      obtain ⟨q1, q2, q3, q4⟩ := hp
      subst q1; subst q2; subst q3; subst q4
      exact r_zret F Rt (hbf _) dX8_canArrive_47 (by decide) ⟨by rw [hbc (B_ca mem y i.toNat) (B_isF (mem (y + 44 + 2) i.toNat)) (by constructor; (intro q; have := q.2; rw [if_pos h_40] at this; exact this); (intro q; exact ⟨by omega, by rw [if_pos h_40]; exact q⟩))], rfl, rfl, rfl⟩
  ·
    refine r_iconst F dX8_canArrive_19 rfl ?_
    exact r_zret F Rt (by omega) dX8_canArrive_20 (by decide) ⟨by rw [ja_b_0.mpr (fun q : B_ca mem y i.toNat => absurd q.1 (by omega))], rfl, rfl, rfl⟩
abbrev rm_X8_schedule : Room := { frames := 4, cells := 0, slots := 0, locals := 89 }
set_option maxRecDepth 100000 in
set_option maxHeartbeats 4000000 in
theorem c_X8_schedule (l : Launch) (D : va_G) (cA : Nat → ClassId) (B : Nat) {lay : ja_Y} {mem : ja_M} {n : Nat} {y : Nat} {sl : Nat → Option Nat} {t : Int} (hB : ja_LB lay y sl) (hO : ja_BO mem y sl t) (ht : t ≤ 898000) : ja_Mt l D cA B yX8_schedule cX8_schedule 2 (some .int) rm_X8_schedule [.ref y] lay mem n (ja_rd lay ((B_sc mem y).2) n (some (.int (ja_I (B_sc mem y).1)))) := by
  refine ja_enter [some (.ref y), none] (by decide) (Nat.le_of_ble_eq_true rfl) (fun q hq => hq) (fun C F Rt G hnm => ?_)
  obtain ⟨b1, b2, b3, b4, b5⟩ := id hO
  obtain ⟨g1, g2, g3, g4, g5, g6, g7, g8, g9, g10, g11, g12⟩ := id b1
  obtain ⟨p1, p2, p3, p4, p5, p6⟩ := id g3
  obtain ⟨s0, s1, s2, s3, s4, s5, s6, s7, s8⟩ := id g1
  have tt := g2.1
  have a0 := g4.1
  obtain ⟨h1, hch, h5, h6, h7⟩ := id b3
  obtain ⟨r1, r2, r3⟩ := B_rd_all b3 b4
  have hR0 : ja_RO (B_rd mem y).2 (y + 1) t := ja_RO_all (fun q q1 q2 => r3 q (by omega)) b1
  have hre : -1004 ≤ (B_rd mem y).1 ∧ (B_rd mem y).1 ≤ 120 := B_rd_in b3
  refine r_aload_n F rfl rfl dX8_schedule_0 rfl ?_
  refine r_getR F f_X8_26 (hB.1) rfl dX8_schedule_1 rfl ?_
  refine r_aload_n F rfl rfl dX8_schedule_4 rfl ?_
  refine r_getR F f_X8_33 (hB.1) rfl dX8_schedule_5 rfl ?_
  refine r_callV F G (c_X0_readInto _ _ _ _ (ja_LB_42 hB) (ja_LB_44 hB) h1 (fun k _ => ⟨(hch k).1, by have := (hch k).2; omega⟩) (HO_XO b3 (by omega)) (AO_0 b4 (by omega)) (by omega)) v_X8_218 rfl ((ja_LB_42 hB).1) rfl (by decide) (by decide) (Nat.le_of_ble_eq_true rfl) rfl dX8_schedule_8 rfl (fun v lay' mem' n' hp => ?_)
  obtain ⟨q1, q2, q3, q4⟩ := hp
  subst q1; subst q2; subst q3; subst q4
  refine r_eqz (z := (B_rd mem y).1) rfl ?_
  refine r_mem (mem' := (B_rd mem y).2) rfl ?_
  generalize hm1 : (B_rd mem y).2 = m0 at *
  have m4 := r1.1
  have m5 := hR0.2.2.2.1.1
  refine r_sipush F (by decide) dX8_schedule_11 rfl ?_
  refine r_icmp_eq F (tgt := 21) ⟨by omega, by omega⟩ ⟨by omega, by omega⟩ dX8_schedule_14 rfl (by decide) (fun h_14 => ?_) (fun h_14 => ?_)
  ·
    have e14 : (B_rd mem y).1 = -1004 := h_14
    refine r_iconst F dX8_schedule_21 rfl ?_
    refine r_ist1 F (by decide) rfl dX8_schedule_22 rfl ?_
    have loop : ∀ (d k : Nat), k + d = (m0 (y + 44) 4).toNat → B_cas m0 y d k = B_cas m0 y (m0 (y + 44) 4).toNat 0 → ja_W C 0 0 lay m0 n 23 [some (.ref y), some (.int (ja_I (k : Int)))] [] := by
      intro d
      induction d with
      | zero =>
        intro k hk hl
        refine r_iload_n F rfl rfl dX8_schedule_23 rfl ?_
        refine r_aload_n F rfl rfl dX8_schedule_24 rfl ?_
        refine r_getR F f_X8_33 (hB.1) rfl dX8_schedule_25 rfl ?_
        refine r_getI F f_X8_222 ((ja_LB_44 hB).1) rfl dX8_schedule_28 rfl ?_
        refine r_eqz (z := m0 (y + 44) 4) (by rfl) ?_
        refine r_icmp_ge F (tgt := 52) ⟨by omega, by omega⟩ ⟨by omega, by omega⟩ dX8_schedule_31 rfl (by decide) (fun h_31 => ?_) (fun h_31 => ?_)
        ·
          refine r_aload_n F rfl rfl dX8_schedule_52 rfl ?_
          refine r_getR F f_X8_10 (hB.1) rfl dX8_schedule_53 rfl ?_
          refine r_getR F f_X8_228 ((ja_LB_1 hB).1) rfl dX8_schedule_56 rfl ?_
          refine r_getI F f_X8_222 ((ja_LR_15 (ja_LB_1 hB)).1) rfl dX8_schedule_59 rfl ?_
          refine r_eqz (z := m0 (y + 1 + 15) 4) (by rfl) ?_
          refine r_aload_n F rfl rfl dX8_schedule_62 rfl ?_
          refine r_getR F f_X8_33 (hB.1) rfl dX8_schedule_63 rfl ?_
          refine r_getI F f_X8_222 ((ja_LB_44 hB).1) rfl dX8_schedule_66 rfl ?_
          refine r_eqz (z := m0 (y + 44) 4) (by rfl) ?_
          refine r_iadd F dX8_schedule_69 rfl ?_
          refine r_bipush F (by decide) dX8_schedule_70 rfl ?_
          refine r_icmp_le F (tgt := 79) ⟨by omega, by omega⟩ ⟨by omega, by omega⟩ dX8_schedule_72 rfl (by decide) (fun h_72 => ?_) (fun h_72 => ?_)
          ·
            refine r_aload_n F rfl rfl dX8_schedule_79 rfl ?_
            refine r_getR F f_X8_10 (hB.1) rfl dX8_schedule_80 rfl ?_
            refine r_getR F f_X8_228 ((ja_LB_1 hB).1) rfl dX8_schedule_83 rfl ?_
            refine r_aload_n F rfl rfl dX8_schedule_86 rfl ?_
            refine r_getR F f_X8_33 (hB.1) rfl dX8_schedule_87 rfl ?_
            refine r_callV F G (c_X1_addAll _ _ _ _ (ja_LR_15 (ja_LB_1 hB)) (ja_LB_44 hB) m5 m4 (by omega)) v_X8_231 rfl ((ja_LR_15 (ja_LB_1 hB)).1) rfl (by decide) (by decide) (Nat.le_of_ble_eq_true rfl) rfl dX8_schedule_90 rfl (fun v lay' mem' n' hp => ?_)
            obtain ⟨q1, q2, q3, q4⟩ := hp
            subst q1; subst q2; subst q3; subst q4
            refine r_aload_n F rfl rfl dX8_schedule_93 rfl ?_
            refine r_getR F f_X8_33 (hB.1) rfl dX8_schedule_94 rfl ?_
            refine r_getI F f_X8_222 ((ja_LB_44 hB).1) rfl dX8_schedule_97 rfl ?_
            refine r_eqz (z := m0 (y + 44) 4) (by rw [A_all_o (by omega)]) ?_
            exact r_iret F Rt dX8_schedule_100 (by decide) ⟨by rw [B_sc, hm1, if_pos e14, if_neg (by rw [← hl]; exact (by decide : ¬ (1 : Int) = 0)), if_neg (by omega)], rfl, by rw [B_sc, hm1, if_pos e14, if_neg (by rw [← hl]; exact (by decide : ¬ (1 : Int) = 0)), if_neg (by omega)], rfl⟩
          ·
            refine r_sipush F (by decide) dX8_schedule_75 rfl ?_
            exact r_iret F Rt dX8_schedule_78 (by decide) ⟨by rw [B_sc, hm1, if_pos e14, if_neg (by rw [← hl]; exact (by decide : ¬ (1 : Int) = 0)), if_pos (by omega)], rfl, by rw [B_sc, hm1, if_pos e14, if_neg (by rw [← hl]; exact (by decide : ¬ (1 : Int) = 0)), if_pos (by omega)], rfl⟩
        ·
          exfalso; omega
      | succ d ih =>
        intro k hk hl
        have hcb : ja_b (B_ca m0 y k) = 0 ↔ ¬ B_ca m0 y k := ja_b_0
        have hcr : 0 ≤ ja_b (B_ca m0 y k) ∧ ja_b (B_ca m0 y k) ≤ 1 := ja_b_r
        refine r_iload_n F rfl rfl dX8_schedule_23 rfl ?_
        refine r_aload_n F rfl rfl dX8_schedule_24 rfl ?_
        refine r_getR F f_X8_33 (hB.1) rfl dX8_schedule_25 rfl ?_
        refine r_getI F f_X8_222 ((ja_LB_44 hB).1) rfl dX8_schedule_28 rfl ?_
        refine r_eqz (z := m0 (y + 44) 4) (by rfl) ?_
        refine r_icmp_ge F (tgt := 52) ⟨by omega, by omega⟩ ⟨by omega, by omega⟩ dX8_schedule_31 rfl (by decide) (fun h_31 => ?_) (fun h_31 => ?_)
        ·
          exfalso; omega
        ·
          refine r_aload_n F rfl rfl dX8_schedule_34 rfl ?_
          refine r_iload_n F rfl rfl dX8_schedule_35 rfl ?_
          refine r_eqz (z := (k : Int)) rfl ?_
          refine r_callV F G (c_X8_canArrive _ _ _ _ hB r1 hR0 (by omega) ⟨by omega, by omega⟩) v_X8_225 rfl (hB.1) rfl (by decide) (by decide) (Nat.le_of_ble_eq_true rfl) rfl dX8_schedule_36 rfl (fun v lay' mem' n' hp => ?_)
          obtain ⟨q1, q2, q3, q4⟩ := hp
          subst q1; subst q2; subst q3; subst q4
          refine r_eqz (z := ja_b (B_ca m0 y k)) (by rw [ja_nat]) ?_
          refine r_if_ne F (tgt := 46) ⟨by omega, by omega⟩ dX8_schedule_39 rfl (by decide) (fun h_39 => ?_) (fun h_39 => ?_)
          ·
            refine r_inc1 F (by decide) rfl dX8_schedule_46 rfl ?_
            refine r_goto F (tgt := 23) dX8_schedule_49 (by decide) ?_
            exact ih (k + 1) (by omega) (by rw [← hl]; simp only [B_cas]; rw [if_pos (Decidable.byContradiction fun q => h_39 (hcb.mpr q))])
          ·
            refine r_sipush F (by decide) dX8_schedule_42 rfl ?_
            exact r_iret F Rt dX8_schedule_45 (by decide) ⟨by rw [B_sc, hm1, if_pos e14, if_pos (by rw [← hl]; simp only [B_cas]; rw [if_neg (hcb.mp h_39)])], rfl, by rw [B_sc, hm1, if_pos e14, if_pos (by rw [← hl]; simp only [B_cas]; rw [if_neg (hcb.mp h_39)])], rfl⟩
    exact loop (m0 (y + 44) 4).toNat 0 (by omega) rfl
  ·
    refine r_sipush F (by decide) dX8_schedule_17 rfl ?_
    exact r_iret F Rt dX8_schedule_20 (by decide) ⟨by rw [B_sc, if_neg h_14], rfl, by rw [B_sc, if_neg h_14, hm1], rfl⟩
end
section
theorem ja_cov_in {mem : ja_M} {s : Nat} {r k i j : Int} (hO : ja_SO mem s) (hp : ja_hasP mem s r k i) (hj : 0 ≤ j ∧ j ≤ 6) : 0 ≤ ja_cov mem s r k i j ∧ ja_cov mem s r k i j ≤ 2000 := by
  obtain ⟨hb, h1, h2⟩ := hp
  have h3 := ja_blk2 hO hb
  obtain ⟨-, -, -, s3, s4, -⟩ := hO
  have hi : i ≤ 6 := by
    by_cases hr : r = 0
    · rw [if_pos hr] at h2
      omega
    · rw [if_neg hr] at h2
      omega
  have m1 := ja_mulb hj.1 hj.2 (by omega : 0 ≤ mem s 3) s3.2
  have m2 := ja_mulb h1 hi (by omega : 0 ≤ mem s 3) s3.2
  unfold ja_cov
  split <;> omega
def B_los (mem : ja_M) (y : Nat) (d : Int) : Int := if mem (y + 1 + 9) 6 = 0 then (if d = 0 then 0 else 1) else (if d = 0 then mem (y + 1 + 14) 2 else mem (y + 1 + 9) 6) / (if 1 < B_cd 64 (mem (y + 1 + 9) 6) (mem (y + 1 + 14) 2) then B_cd 64 (mem (y + 1 + 9) 6) (mem (y + 1 + 14) 2) else 1)
theorem R_cp_6 {mem : ja_M} {b o : Nat} (h : b + 20 ≤ o ∨ o + 20 ≤ b) : R_cp mem b o b 6 = mem o 6 := by
  unfold R_cp
  rw [ja_up_j (by omega), ja_up_j (by omega), ja_up_s, R_c6_o (by omega)]
end
section
abbrev rm_X8_paritySample : Room := { frames := 3, cells := 0, slots := 0, locals := 64 }
set_option maxRecDepth 100000 in
set_option maxHeartbeats 4000000 in
theorem c_X8_paritySample (l : Launch) (D : va_G) (cA : Nat → ClassId) (B : Nat) {lay : ja_Y} {mem : ja_M} {n : Nat} {r k i p : Int} {y : Nat} {sl : Nat → Option Nat} {t : Int} (hB : ja_LB lay y sl) (hO : ja_BO mem y sl t) (hr : ja_in r) (hk : ja_in k) (hi : ja_in i) (hp : ja_in p) (h01 : 0 ≤ r ∧ r ≤ 1) : ja_Mt l D cA B yX8_paritySample cX8_paritySample 10 (some .int) rm_X8_paritySample [.ref y, .int (ja_I r), .int (ja_I k), .int (ja_I i), .int (ja_I p)] lay mem n (ja_rd lay mem n (some (.int (ja_I (if ja_hasP mem (y + 1 + 1) r k i ∧ 0 ≤ p ∧ p < mem (y + 1 + 1) 0 then B_par mem (y + 1 + 1) r k i p (if r = 0 then mem (y + 1 + 1) 4 else mem (y + 1 + 1) 3).toNat else -1001))))) := by
  refine ja_enter [some (.ref y), some (.int (ja_I r)), some (.int (ja_I k)), some (.int (ja_I i)), some (.int (ja_I p)), none, none, none, none, none] (by decide) (Nat.le_of_ble_eq_true rfl) (fun q hq => hq) (fun C F Rt G hnm => ?_)
  obtain ⟨b1, b2, b3, b4, b5⟩ := id hO
  obtain ⟨g1, g2, g3, g4, g5, g6, g7, g8, g9, g10, g11, g12⟩ := id b1
  obtain ⟨p1, p2, p3, p4, p5, p6⟩ := id g3
  obtain ⟨s0, s1, s2, s3, s4, s5, s6, s7, s8⟩ := id g1
  have tt := g2.1
  have a0 := g4.1
  obtain ⟨r1_, r2_⟩ := id hr
  obtain ⟨k1_, k2_⟩ := id hk
  obtain ⟨i1_, i2_⟩ := id hi
  obtain ⟨p1_, p2_⟩ := id hp
  have hbp : ja_b (ja_hasP mem (y + 1 + 1) r k i) = 0 ↔ ¬ ja_hasP mem (y + 1 + 1) r k i := ja_b_0
  have hbr : 0 ≤ ja_b (ja_hasP mem (y + 1 + 1) r k i) ∧ ja_b (ja_hasP mem (y + 1 + 1) r k i) ≤ 1 := ja_b_r
  refine r_aload_n F rfl rfl dX8_paritySample_0 rfl ?_
  refine r_getR F f_X8_10 (hB.1) rfl dX8_paritySample_1 rfl ?_
  refine r_getR F f_X8_43 ((ja_LB_1 hB).1) rfl dX8_paritySample_4 rfl ?_
  refine r_ast5 F (by decide) rfl dX8_paritySample_7 rfl ?_
  refine r_aload F rfl dX8_paritySample_9 rfl ?_
  refine r_iload_n F rfl rfl dX8_paritySample_11 rfl ?_
  refine r_iload_n F rfl rfl dX8_paritySample_12 rfl ?_
  refine r_iload_n F rfl rfl dX8_paritySample_13 rfl ?_
  refine r_callV F G (c_X6_hasPacket _ _ _ _ (ja_LR_1 (ja_LB_1 hB)) g1 h01 hk hi) v_X8_84 rfl (ja_LR_1 (ja_LB_1 hB)) rfl (by decide) (by decide) (Nat.le_of_ble_eq_true rfl) rfl dX8_paritySample_14 rfl (fun v lay' mem' n' hp => ?_)
  obtain ⟨q1, q2, q3, q4⟩ := hp
  subst q1; subst q2; subst q3; subst q4
  refine r_if_eq F (tgt := 35) ⟨by omega, by omega⟩ dX8_paritySample_17 rfl (by decide) (fun h_17 => ?_) (fun h_17 => ?_)
  ·
    refine r_sipush F (by decide) dX8_paritySample_35 rfl ?_
    exact r_iret F Rt dX8_paritySample_38 (by decide) ⟨by first | rw [if_neg (fun q => hbp.mp h_17 q.1)] | rw [if_neg (by omega)], rfl, rfl, rfl⟩
  ·
    have hp : ja_hasP mem (y + 1 + 1) r k i := Decidable.byContradiction fun q => h_17 (hbp.mpr q)
    refine r_iload F rfl dX8_paritySample_20 rfl ?_
    refine r_if_lt F (tgt := 35) ⟨by omega, by omega⟩ dX8_paritySample_22 rfl (by decide) (fun h_22 => ?_) (fun h_22 => ?_)
    ·
      refine r_sipush F (by decide) dX8_paritySample_35 rfl ?_
      exact r_iret F Rt dX8_paritySample_38 (by decide) ⟨by first | rw [if_neg (fun q => hbp.mp h_17 q.1)] | rw [if_neg (by omega)], rfl, rfl, rfl⟩
    ·
      refine r_iload F rfl dX8_paritySample_25 rfl ?_
      refine r_aload F rfl dX8_paritySample_27 rfl ?_
      refine r_getI F f_X8_47 (ja_LR_1 (ja_LB_1 hB)) rfl dX8_paritySample_29 rfl ?_
      refine r_icmp_lt F (tgt := 39) ⟨by omega, by omega⟩ ⟨by omega, by omega⟩ dX8_paritySample_32 rfl (by decide) (fun h_32 => ?_) (fun h_32 => ?_)
      ·
        have hp1 : 0 ≤ p := by omega
        have hp2 : p < mem (y + 1 + 1) 0 := h_32
        refine r_iload_n F rfl rfl dX8_paritySample_39 rfl ?_
        refine r_if_eq F (tgt := 51) ⟨by omega, by omega⟩ dX8_paritySample_40 rfl (by decide) (fun h_40 => ?_) (fun h_40 => ?_)
        ·
          refine r_aload F rfl dX8_paritySample_51 rfl ?_
          refine r_getI F f_X8_60 (ja_LR_1 (ja_LB_1 hB)) rfl dX8_paritySample_53 rfl ?_
          refine r_eqz (z := if r = 0 then mem (y + 1 + 1) 4 else mem (y + 1 + 1) 3) (by first | rw [if_pos (by omega)] | rw [if_neg (by omega)]) ?_
          generalize hln : (if r = 0 then mem (y + 1 + 1) 4 else mem (y + 1 + 1) 3) = ln
          have hl6 : 2 ≤ ln ∧ ln ≤ 6 := by rw [← hln]; split <;> omega
          refine r_ist6 F (by decide) rfl dX8_paritySample_56 rfl ?_
          refine r_iconst F dX8_paritySample_58 rfl ?_
          refine r_ist7 F (by decide) rfl dX8_paritySample_59 rfl ?_
          refine r_iconst F dX8_paritySample_61 rfl ?_
          refine r_ist8 F (by decide) rfl dX8_paritySample_62 rfl ?_
          have loop : ∀ (d j : Nat), j + d = ln.toNat → ja_W C 0 0 lay mem n 64 [some (.ref y), some (.int (ja_I r)), some (.int (ja_I k)), some (.int (ja_I i)), some (.int (ja_I p)), some (.ref (y + 1 + 1)), some (.int (ja_I ln)), some (.int (ja_I (B_par mem (y + 1 + 1) r k i p j))), some (.int (ja_I (j : Int))), none] [] := by
            intro d
            induction d with
            | zero =>
              intro j hj
              refine r_iload F rfl dX8_paritySample_64 rfl ?_
              refine r_iload F rfl dX8_paritySample_66 rfl ?_
              refine r_icmp_ge F (tgt := 115) ⟨by omega, by omega⟩ ⟨by omega, by omega⟩ dX8_paritySample_68 rfl (by decide) (fun h_68 => ?_) (fun h_68 => ?_)
              ·
                refine r_iload F rfl dX8_paritySample_115 rfl ?_
                exact r_iret F Rt dX8_paritySample_117 (by decide) ⟨by rw [if_pos ⟨hp, hp1, hp2⟩, hln, show ln.toNat = j by omega], rfl, rfl, rfl⟩
              ·
                exfalso; omega
            | succ d ih =>
              intro j hj
              have hc := ja_cov_in (j := (j : Int)) g1 hp ⟨by omega, by omega⟩
              refine r_iload F rfl dX8_paritySample_64 rfl ?_
              refine r_iload F rfl dX8_paritySample_66 rfl ?_
              refine r_icmp_ge F (tgt := 115) ⟨by omega, by omega⟩ ⟨by omega, by omega⟩ dX8_paritySample_68 rfl (by decide) (fun h_68 => ?_) (fun h_68 => ?_)
              ·
                exfalso; omega
              ·
                refine r_aload F rfl dX8_paritySample_71 rfl ?_
                refine r_iload_n F rfl rfl dX8_paritySample_73 rfl ?_
                refine r_iload_n F rfl rfl dX8_paritySample_74 rfl ?_
                refine r_iload_n F rfl rfl dX8_paritySample_75 rfl ?_
                refine r_iload F rfl dX8_paritySample_76 rfl ?_
                refine r_callV F G (c_X6_coveredFrame _ _ _ _ (ja_LR_1 (ja_LB_1 hB)) h01) v_X8_150 rfl (ja_LR_1 (ja_LB_1 hB)) rfl (by decide) (by decide) (Nat.le_of_ble_eq_true rfl) rfl dX8_paritySample_78 rfl (fun v lay' mem' n' hp => ?_)
                obtain ⟨q1, q2, q3, q4⟩ := hp
                subst q1; subst q2; subst q3; subst q4
                refine r_ist9 F (by decide) rfl dX8_paritySample_81 rfl ?_
                refine r_iload F rfl dX8_paritySample_83 rfl ?_
                refine r_sipush F (by decide) dX8_paritySample_85 rfl ?_
                refine r_icmp_gt F (tgt := 109) ⟨by omega, by omega⟩ ⟨by omega, by omega⟩ dX8_paritySample_88 rfl (by decide) (fun h_88 => ?_) (fun h_88 => ?_)
                ·
                  refine r_inc8 F (by decide) rfl dX8_paritySample_109 rfl ?_
                  refine r_goto F (tgt := 64) dX8_paritySample_112 (by decide) ?_
                  refine r_msk [true, true, true, true, true, true, true, true, true, false] rfl ?_
                  have h0 := ih (j + 1) (by omega)
                  simp only [B_par] at h0
                  first
                    | (rw [if_pos h_88] at h0; exact h0)
                    | (rw [if_neg h_88] at h0; exact h0)
                ·
                  refine r_iload F rfl dX8_paritySample_91 rfl ?_
                  refine r_aload F rfl dX8_paritySample_93 rfl ?_
                  refine r_iload F rfl dX8_paritySample_95 rfl ?_
                  refine r_iload F rfl dX8_paritySample_97 rfl ?_
                  refine r_callV F G (c_X6_waveAt _ _ _ _ (ja_LR_1 (ja_LB_1 hB)) g1 ⟨by omega, by omega⟩ ⟨by omega, by omega⟩) v_X8_136 rfl (ja_LR_1 (ja_LB_1 hB)) rfl (by decide) (by decide) (Nat.le_of_ble_eq_true rfl) rfl dX8_paritySample_99 rfl (fun v lay' mem' n' hp => ?_)
                  obtain ⟨q1, q2, q3, q4⟩ := hp
                  subst q1; subst q2; subst q3; subst q4
                  refine r_sipush F (by decide) dX8_paritySample_102 rfl ?_
                  refine r_iadd F dX8_paritySample_105 rfl ?_
                  refine r_ixor F (ja_of' _) dX8_paritySample_106 rfl ?_
                  refine r_ist7 F (by decide) rfl dX8_paritySample_107 rfl ?_
                  refine r_inc8 F (by decide) rfl dX8_paritySample_109 rfl ?_
                  refine r_goto F (tgt := 64) dX8_paritySample_112 (by decide) ?_
                  refine r_msk [true, true, true, true, true, true, true, true, true, false] rfl ?_
                  have h0 := ih (j + 1) (by omega)
                  simp only [B_par] at h0
                  first
                    | (rw [if_pos h_88] at h0; exact h0)
                    | (rw [if_neg h_88] at h0; exact h0)
          exact loop ln.toNat 0 (by omega)
        ·
          refine r_aload F rfl dX8_paritySample_43 rfl ?_
          refine r_getI F f_X8_57 (ja_LR_1 (ja_LB_1 hB)) rfl dX8_paritySample_45 rfl ?_
          refine r_goto F (tgt := 56) dX8_paritySample_48 (by decide) ?_
          refine r_eqz (z := if r = 0 then mem (y + 1 + 1) 4 else mem (y + 1 + 1) 3) (by first | rw [if_pos (by omega)] | rw [if_neg (by omega)]) ?_
          generalize hln : (if r = 0 then mem (y + 1 + 1) 4 else mem (y + 1 + 1) 3) = ln
          have hl6 : 2 ≤ ln ∧ ln ≤ 6 := by rw [← hln]; split <;> omega
          refine r_ist6 F (by decide) rfl dX8_paritySample_56 rfl ?_
          refine r_iconst F dX8_paritySample_58 rfl ?_
          refine r_ist7 F (by decide) rfl dX8_paritySample_59 rfl ?_
          refine r_iconst F dX8_paritySample_61 rfl ?_
          refine r_ist8 F (by decide) rfl dX8_paritySample_62 rfl ?_
          have loop : ∀ (d j : Nat), j + d = ln.toNat → ja_W C 0 0 lay mem n 64 [some (.ref y), some (.int (ja_I r)), some (.int (ja_I k)), some (.int (ja_I i)), some (.int (ja_I p)), some (.ref (y + 1 + 1)), some (.int (ja_I ln)), some (.int (ja_I (B_par mem (y + 1 + 1) r k i p j))), some (.int (ja_I (j : Int))), none] [] := by
            intro d
            induction d with
            | zero =>
              intro j hj
              refine r_iload F rfl dX8_paritySample_64 rfl ?_
              refine r_iload F rfl dX8_paritySample_66 rfl ?_
              refine r_icmp_ge F (tgt := 115) ⟨by omega, by omega⟩ ⟨by omega, by omega⟩ dX8_paritySample_68 rfl (by decide) (fun h_68 => ?_) (fun h_68 => ?_)
              ·
                refine r_iload F rfl dX8_paritySample_115 rfl ?_
                exact r_iret F Rt dX8_paritySample_117 (by decide) ⟨by rw [if_pos ⟨hp, hp1, hp2⟩, hln, show ln.toNat = j by omega], rfl, rfl, rfl⟩
              ·
                exfalso; omega
            | succ d ih =>
              intro j hj
              have hc := ja_cov_in (j := (j : Int)) g1 hp ⟨by omega, by omega⟩
              refine r_iload F rfl dX8_paritySample_64 rfl ?_
              refine r_iload F rfl dX8_paritySample_66 rfl ?_
              refine r_icmp_ge F (tgt := 115) ⟨by omega, by omega⟩ ⟨by omega, by omega⟩ dX8_paritySample_68 rfl (by decide) (fun h_68 => ?_) (fun h_68 => ?_)
              ·
                exfalso; omega
              ·
                refine r_aload F rfl dX8_paritySample_71 rfl ?_
                refine r_iload_n F rfl rfl dX8_paritySample_73 rfl ?_
                refine r_iload_n F rfl rfl dX8_paritySample_74 rfl ?_
                refine r_iload_n F rfl rfl dX8_paritySample_75 rfl ?_
                refine r_iload F rfl dX8_paritySample_76 rfl ?_
                refine r_callV F G (c_X6_coveredFrame _ _ _ _ (ja_LR_1 (ja_LB_1 hB)) h01) v_X8_150 rfl (ja_LR_1 (ja_LB_1 hB)) rfl (by decide) (by decide) (Nat.le_of_ble_eq_true rfl) rfl dX8_paritySample_78 rfl (fun v lay' mem' n' hp => ?_)
                obtain ⟨q1, q2, q3, q4⟩ := hp
                subst q1; subst q2; subst q3; subst q4
                refine r_ist9 F (by decide) rfl dX8_paritySample_81 rfl ?_
                refine r_iload F rfl dX8_paritySample_83 rfl ?_
                refine r_sipush F (by decide) dX8_paritySample_85 rfl ?_
                refine r_icmp_gt F (tgt := 109) ⟨by omega, by omega⟩ ⟨by omega, by omega⟩ dX8_paritySample_88 rfl (by decide) (fun h_88 => ?_) (fun h_88 => ?_)
                ·
                  refine r_inc8 F (by decide) rfl dX8_paritySample_109 rfl ?_
                  refine r_goto F (tgt := 64) dX8_paritySample_112 (by decide) ?_
                  refine r_msk [true, true, true, true, true, true, true, true, true, false] rfl ?_
                  have h0 := ih (j + 1) (by omega)
                  simp only [B_par] at h0
                  first
                    | (rw [if_pos h_88] at h0; exact h0)
                    | (rw [if_neg h_88] at h0; exact h0)
                ·
                  refine r_iload F rfl dX8_paritySample_91 rfl ?_
                  refine r_aload F rfl dX8_paritySample_93 rfl ?_
                  refine r_iload F rfl dX8_paritySample_95 rfl ?_
                  refine r_iload F rfl dX8_paritySample_97 rfl ?_
                  refine r_callV F G (c_X6_waveAt _ _ _ _ (ja_LR_1 (ja_LB_1 hB)) g1 ⟨by omega, by omega⟩ ⟨by omega, by omega⟩) v_X8_136 rfl (ja_LR_1 (ja_LB_1 hB)) rfl (by decide) (by decide) (Nat.le_of_ble_eq_true rfl) rfl dX8_paritySample_99 rfl (fun v lay' mem' n' hp => ?_)
                  obtain ⟨q1, q2, q3, q4⟩ := hp
                  subst q1; subst q2; subst q3; subst q4
                  refine r_sipush F (by decide) dX8_paritySample_102 rfl ?_
                  refine r_iadd F dX8_paritySample_105 rfl ?_
                  refine r_ixor F (ja_of' _) dX8_paritySample_106 rfl ?_
                  refine r_ist7 F (by decide) rfl dX8_paritySample_107 rfl ?_
                  refine r_inc8 F (by decide) rfl dX8_paritySample_109 rfl ?_
                  refine r_goto F (tgt := 64) dX8_paritySample_112 (by decide) ?_
                  refine r_msk [true, true, true, true, true, true, true, true, true, false] rfl ?_
                  have h0 := ih (j + 1) (by omega)
                  simp only [B_par] at h0
                  first
                    | (rw [if_pos h_88] at h0; exact h0)
                    | (rw [if_neg h_88] at h0; exact h0)
          exact loop ln.toNat 0 (by omega)
      ·
        refine r_sipush F (by decide) dX8_paritySample_35 rfl ?_
        exact r_iret F Rt dX8_paritySample_38 (by decide) ⟨by first | rw [if_neg (fun q => hbp.mp h_17 q.1)] | rw [if_neg (by omega)], rfl, rfl, rfl⟩
abbrev rm_X8_commonDivisor : Room := { frames := 0, cells := 0, slots := 0, locals := 0 }
set_option maxRecDepth 100000 in
set_option maxHeartbeats 4000000 in
theorem c_X8_commonDivisor (l : Launch) (D : va_G) (cA : Nat → ClassId) (B : Nat) {lay : ja_Y} {mem : ja_M} {n : Nat} {a0 b0 : Int} (ha : 0 ≤ a0 ∧ a0 ≤ 100000) (hb : 0 ≤ b0 ∧ b0 ≤ 100000) : ja_Mt l D cA B yX8_commonDivisor cX8_commonDivisor 6 (some .int) rm_X8_commonDivisor [.int (ja_I a0), .int (ja_I b0)] lay mem n (ja_rd lay mem n (some (.int (ja_I (B_cd 64 a0 b0))))) := by
  refine ja_enter [some (.int (ja_I a0)), some (.int (ja_I b0)), none, none, none, none] (by decide) (Nat.le_of_ble_eq_true rfl) (fun q hq => hq) (fun C F Rt G hnm => ?_)
  refine r_iload_n F rfl rfl dX8_commonDivisor_0 rfl ?_
  refine r_ist2 F (by decide) rfl dX8_commonDivisor_1 rfl ?_
  refine r_iload_n F rfl rfl dX8_commonDivisor_2 rfl ?_
  refine r_ist3 F (by decide) rfl dX8_commonDivisor_3 rfl ?_
  refine r_iconst F dX8_commonDivisor_4 rfl ?_
  refine r_ist4 F (by decide) rfl dX8_commonDivisor_5 rfl ?_
  have loop : ∀ (d k : Nat) (a b : Int), k + d = 64 → (0 ≤ a ∧ a ≤ 100000) → (0 ≤ b ∧ b ≤ 100000) → B_cd d a b = B_cd 64 a0 b0 → ja_W C 0 0 lay mem n 7 [some (.int (ja_I a0)), some (.int (ja_I b0)), some (.int (ja_I a)), some (.int (ja_I b)), some (.int (ja_I (k : Int))), none] [] := by
    intro d
    induction d with
    | zero =>
      intro k a b hk ha hb hl
      refine r_iload F rfl dX8_commonDivisor_7 rfl ?_
      refine r_bipush F (by decide) dX8_commonDivisor_9 rfl ?_
      refine r_icmp_ge F (tgt := 34) ⟨by omega, by omega⟩ ⟨by omega, by omega⟩ dX8_commonDivisor_11 rfl (by decide) (fun h_11 => ?_) (fun h_11 => ?_)
      ·
        refine r_iload_n F rfl rfl dX8_commonDivisor_34 rfl ?_
        exact r_iret F Rt dX8_commonDivisor_35 (by decide) ⟨by rw [← hl]; rfl, rfl, rfl, rfl⟩
      ·
        exfalso; omega
    | succ d ih =>
      intro k a b hk ha hb hl
      refine r_iload F rfl dX8_commonDivisor_7 rfl ?_
      refine r_bipush F (by decide) dX8_commonDivisor_9 rfl ?_
      refine r_icmp_ge F (tgt := 34) ⟨by omega, by omega⟩ ⟨by omega, by omega⟩ dX8_commonDivisor_11 rfl (by decide) (fun h_11 => ?_) (fun h_11 => ?_)
      ·
        exfalso; omega
      ·
        refine r_iload_n F rfl rfl dX8_commonDivisor_14 rfl ?_
        refine r_if_eq F (tgt := 34) ⟨by omega, by omega⟩ dX8_commonDivisor_15 rfl (by decide) (fun h_15 => ?_) (fun h_15 => ?_)
        ·
          refine r_iload_n F rfl rfl dX8_commonDivisor_34 rfl ?_
          exact r_iret F Rt dX8_commonDivisor_35 (by decide) ⟨by rw [← hl]; simp only [B_cd]; rw [if_pos h_15], rfl, rfl, rfl⟩
        ·
          refine r_iload_n F rfl rfl dX8_commonDivisor_18 rfl ?_
          refine r_iload_n F rfl rfl dX8_commonDivisor_19 rfl ?_
          refine r_iremP F ⟨by omega, by omega⟩ ⟨by omega, by omega⟩ (by omega) (by omega) dX8_commonDivisor_20 rfl ?_
          refine r_ist5 F (by decide) rfl dX8_commonDivisor_21 rfl ?_
          refine r_iload_n F rfl rfl dX8_commonDivisor_23 rfl ?_
          refine r_ist2 F (by decide) rfl dX8_commonDivisor_24 rfl ?_
          refine r_iload F rfl dX8_commonDivisor_25 rfl ?_
          refine r_ist3 F (by decide) rfl dX8_commonDivisor_27 rfl ?_
          refine r_inc4 F (by decide) rfl dX8_commonDivisor_28 rfl ?_
          refine r_goto F (tgt := 7) dX8_commonDivisor_31 (by decide) ?_
          refine r_msk [true, true, true, true, true, false] rfl ?_
          have e1 := Int.emod_nonneg a (show b ≠ 0 from h_15)
          have e2 := Int.emod_lt_of_pos a (show 0 < b by omega)
          exact ih (k + 1) b (a % b) (by omega) hb ⟨e1, by omega⟩ (by rw [← hl]; simp only [B_cd]; rw [if_neg h_15])
  exact loop 64 0 a0 b0 (by omega) ha hb rfl
abbrev rm_X8_loss : Room := { frames := 1, cells := 0, slots := 0, locals := 25 }
set_option maxRecDepth 100000 in
set_option maxHeartbeats 4000000 in
theorem c_X8_loss (l : Launch) (D : va_G) (cA : Nat → ClassId) (B : Nat) {lay : ja_Y} {mem : ja_M} {n : Nat} {d : Int} {y : Nat} {sl : Nat → Option Nat} {t : Int} (hB : ja_LB lay y sl) (hO : ja_BO mem y sl t) (hd : 0 ≤ d ∧ d ≤ 1) : ja_Mt l D cA B yX8_loss cX8_loss 5 (some .int) rm_X8_loss [.ref y, .int (ja_I d)] lay mem n (ja_rd lay mem n (some (.int (ja_I (B_los mem y d))))) := by
  refine ja_enter [some (.ref y), some (.int (ja_I d)), none, none, none] (by decide) (Nat.le_of_ble_eq_true rfl) (fun q hq => hq) (fun C F Rt G hnm => ?_)
  obtain ⟨b1, b2, b3, b4, b5⟩ := id hO
  obtain ⟨g1, g2, g3, g4, g5, g6, g7, g8, g9, g10, g11, g12⟩ := id b1
  obtain ⟨p1, p2, p3, p4, p5, p6⟩ := id g3
  obtain ⟨s0, s1, s2, s3, s4, s5, s6, s7, s8⟩ := id g1
  have tt := g2.1
  have a0 := g4.1
  have hcd := B_cd_in 64 (mem (y + 1 + 9) 6) (mem (y + 1 + 14) 2) (by omega) (by omega)
  refine r_aload_n F rfl rfl dX8_loss_0 rfl ?_
  refine r_getR F f_X8_10 (hB.1) rfl dX8_loss_1 rfl ?_
  refine r_getR F f_X8_177 ((ja_LB_1 hB).1) rfl dX8_loss_4 rfl ?_
  refine r_getI F f_X8_198 (ja_LR_14 (ja_LB_1 hB)) rfl dX8_loss_7 rfl ?_
  refine r_ist2 F (by decide) rfl dX8_loss_10 rfl ?_
  refine r_aload_n F rfl rfl dX8_loss_11 rfl ?_
  refine r_getR F f_X8_10 (hB.1) rfl dX8_loss_12 rfl ?_
  refine r_getR F f_X8_92 ((ja_LB_1 hB).1) rfl dX8_loss_15 rfl ?_
  refine r_getI F f_X8_120 ((ja_LR_9 (ja_LB_1 hB)).1) rfl dX8_loss_18 rfl ?_
  refine r_ist3 F (by decide) rfl dX8_loss_21 rfl ?_
  refine r_iload_n F rfl rfl dX8_loss_22 rfl ?_
  refine r_if_ne F (tgt := 36) ⟨by omega, by omega⟩ dX8_loss_23 rfl (by decide) (fun h_23 => ?_) (fun h_23 => ?_)
  ·
    refine r_iconst F dX8_loss_36 rfl ?_
    refine r_iload_n F rfl rfl dX8_loss_37 rfl ?_
    refine r_iload_n F rfl rfl dX8_loss_38 rfl ?_
    refine r_callS F G (c_X8_commonDivisor _ _ _ _ ⟨by omega, by omega⟩ ⟨by omega, by omega⟩) s_X8_201 rfl (by decide) (by decide) (Nat.le_of_ble_eq_true rfl) rfl dX8_loss_39 rfl (fun v lay' mem' n' hp => ?_)
    obtain ⟨q1, q2, q3, q4⟩ := hp
    subst q1; subst q2; subst q3; subst q4
    refine r_mmax F ⟨by omega, by omega⟩ ⟨by omega, by omega⟩ s_X8_166 (Nat.le_of_ble_eq_true rfl) (by decide) (by decide) (by decide) dX8_loss_42 rfl ?_
    generalize hdv : (if 1 < B_cd 64 (mem (y + 1 + 9) 6) (mem (y + 1 + 14) 2) then B_cd 64 (mem (y + 1 + 9) 6) (mem (y + 1 + 14) 2) else 1) = dv
    have hdr : 1 ≤ dv ∧ dv ≤ 1000 := by rw [← hdv]; split <;> omega
    refine r_ist4 F (by decide) rfl dX8_loss_45 rfl ?_
    refine r_iload_n F rfl rfl dX8_loss_47 rfl ?_
    refine r_if_eq F (tgt := 55) ⟨by omega, by omega⟩ dX8_loss_48 rfl (by decide) (fun h_48 => ?_) (fun h_48 => ?_)
    ·
      refine r_iload_n F rfl rfl dX8_loss_55 rfl ?_
      refine r_iload F rfl dX8_loss_56 rfl ?_
      refine r_idivP F ⟨by omega, by omega⟩ ⟨by omega, by omega⟩ (by omega) (by omega) dX8_loss_58 rfl ?_
      exact r_iret F Rt dX8_loss_59 (by decide) ⟨by rw [B_los, if_neg h_23, hdv]; first | rw [if_pos h_48] | rw [if_neg h_48], rfl, rfl, rfl⟩
    ·
      refine r_iload_n F rfl rfl dX8_loss_51 rfl ?_
      refine r_goto F (tgt := 56) dX8_loss_52 (by decide) ?_
      refine r_iload F rfl dX8_loss_56 rfl ?_
      refine r_idivP F ⟨by omega, by omega⟩ ⟨by omega, by omega⟩ (by omega) (by omega) dX8_loss_58 rfl ?_
      exact r_iret F Rt dX8_loss_59 (by decide) ⟨by rw [B_los, if_neg h_23, hdv]; first | rw [if_pos h_48] | rw [if_neg h_48], rfl, rfl, rfl⟩
  ·
    refine r_iload_n F rfl rfl dX8_loss_26 rfl ?_
    refine r_if_eq F (tgt := 34) ⟨by omega, by omega⟩ dX8_loss_27 rfl (by decide) (fun h_27 => ?_) (fun h_27 => ?_)
    ·
      refine r_iconst F dX8_loss_34 rfl ?_
      exact r_iret F Rt dX8_loss_35 (by decide) ⟨by rw [B_los, if_pos h_23]; first | rw [if_pos h_27] | rw [if_neg h_27], rfl, rfl, rfl⟩
    ·
      refine r_iconst F dX8_loss_30 rfl ?_
      refine r_goto F (tgt := 35) dX8_loss_31 (by decide) ?_
      exact r_iret F Rt dX8_loss_35 (by decide) ⟨by rw [B_los, if_pos h_23]; first | rw [if_pos h_27] | rw [if_neg h_27], rfl, rfl, rfl⟩
abbrev rm_X8_restore : Room := { frames := 4, cells := 0, slots := 0, locals := 88 }
set_option maxRecDepth 100000 in
set_option maxHeartbeats 4000000 in
theorem c_X8_restore (l : Launch) (D : va_G) (cA : Nat → ClassId) (B : Nat) {lay : ja_Y} {mem : ja_M} {n : Nat} {k : Int} {y : Nat} {sl : Nat → Option Nat} {t : Int} (hB : ja_LB lay y sl) (hO : ja_BO mem y sl t) (hk : ja_in k)  : ja_Mt l D cA B yX8_restore cX8_restore 2 (some .int) rm_X8_restore [.ref y, .int (ja_I k)] lay mem n (fun v lay' mem' n' => lay = lay' ∧ n = n' ∧ ((¬ (0 ≤ k ∧ k ≤ 1) ∧ some (.int (ja_I (-1001))) = v ∧ mem = mem') ∨ ((0 ≤ k ∧ k ≤ 1) ∧ sl k.toNat = none ∧ some (.int (ja_I (-1003))) = v ∧ mem = mem') ∨ ∃ o, (0 ≤ k ∧ k ≤ 1) ∧ sl k.toNat = some o ∧ some (.int (ja_I (mem o 6))) = v ∧ R_cp mem (y + 1) o = mem')) := by
  refine ja_enter [some (.ref y), some (.int (ja_I k))] (by decide) (Nat.le_of_ble_eq_true rfl) (fun q hq => hq) (fun C F Rt G hnm => ?_)
  obtain ⟨b1, b2, b3, b4, b5⟩ := id hO
  obtain ⟨g1, g2, g3, g4, g5, g6, g7, g8, g9, g10, g11, g12⟩ := id b1
  obtain ⟨p1, p2, p3, p4, p5, p6⟩ := id g3
  obtain ⟨s0, s1, s2, s3, s4, s5, s6, s7, s8⟩ := id g1
  have tt := g2.1
  have a0 := g4.1
  obtain ⟨k1_, k2_⟩ := id hk
  refine r_iload_n F rfl rfl dX8_restore_0 rfl ?_
  refine r_if_lt F (tgt := 9) ⟨by omega, by omega⟩ dX8_restore_1 rfl (by decide) (fun h_1 => ?_) (fun h_1 => ?_)
  ·
    refine r_sipush F (by decide) dX8_restore_9 rfl ?_
    exact r_iret F Rt dX8_restore_12 (by decide) ⟨rfl, rfl, Or.inl ⟨by omega, rfl, rfl⟩⟩
  ·
    refine r_iload_n F rfl rfl dX8_restore_4 rfl ?_
    refine r_iconst F dX8_restore_5 rfl ?_
    refine r_icmp_lt F (tgt := 13) ⟨by omega, by omega⟩ ⟨by omega, by omega⟩ dX8_restore_6 rfl (by decide) (fun h_6 => ?_) (fun h_6 => ?_)
    ·
      refine r_aload_n F rfl rfl dX8_restore_13 rfl ?_
      refine r_getR F f_X8_19 (hB.1) rfl dX8_restore_14 rfl ?_
      refine r_iload_n F rfl rfl dX8_restore_17 rfl ?_
      refine r_aald F (ja_LB_41 hB) (by omega) (by omega) (by decide) dX8_restore_18 rfl ?_
      cases hsl : sl k.toNat with
      | none =>
        refine r_nonnullN F dX8_restore_19 rfl ?_
        refine r_sipush F (by decide) dX8_restore_22 rfl ?_
        exact r_iret F Rt dX8_restore_25 (by decide) ⟨rfl, rfl, Or.inr (Or.inl ⟨⟨by omega, by omega⟩, hsl, rfl, rfl⟩)⟩
      | some o =>
        obtain ⟨hyo, hLo⟩ := hB.2.2.2.2.2.2 k.toNat o (by omega) hsl
        have hRo := b5 k.toNat o (by omega) hsl
        refine r_nonnull F (tgt := 26) dX8_restore_19 (by decide) ?_
        refine r_aload_n F rfl rfl dX8_restore_26 rfl ?_
        refine r_getR F f_X8_10 (hB.1) rfl dX8_restore_27 rfl ?_
        refine r_aload_n F rfl rfl dX8_restore_30 rfl ?_
        refine r_getR F f_X8_19 (hB.1) rfl dX8_restore_31 rfl ?_
        refine r_iload_n F rfl rfl dX8_restore_34 rfl ?_
        refine r_aald F (ja_LB_41 hB) (by omega) (by omega) (by decide) dX8_restore_35 rfl ?_
        rw [hsl]
        refine r_callV F G (c_X5_copyFrom _ _ _ _ (ja_LB_1 hB) hLo hRo (by omega)) v_X8_207 rfl ((ja_LB_1 hB).1) rfl (by decide) (by decide) (Nat.le_of_ble_eq_true rfl) rfl dX8_restore_36 rfl (fun v lay' mem' n' hp => ?_)
        obtain ⟨q1, q2, q3, q4⟩ := hp
        subst q1; subst q2; subst q3; subst q4
        refine r_aload_n F rfl rfl dX8_restore_39 rfl ?_
        refine r_getR F f_X8_10 (hB.1) rfl dX8_restore_40 rfl ?_
        refine r_getI F f_X8_104 ((ja_LB_1 hB).1) rfl dX8_restore_43 rfl ?_
        refine r_eqz (z := mem o 6) (by rw [R_cp_6 (by omega)]) ?_
        exact r_iret F Rt dX8_restore_46 (by decide) ⟨rfl, rfl, Or.inr (Or.inr ⟨o, ⟨by omega, by omega⟩, hsl, rfl, rfl⟩)⟩
    ·
      refine r_sipush F (by decide) dX8_restore_9 rfl ?_
      exact r_iret F Rt dX8_restore_12 (by decide) ⟨rfl, rfl, Or.inl ⟨by omega, rfl, rfl⟩⟩
end
section
theorem ja_LS_c {lay lay' : ja_Y} {a : Nat} (h : lay' a = lay a) (hL : ja_LS lay a) : ja_LS lay' a := by
  unfold ja_LS
  rw [h]
  exact hL
theorem ja_LC_c {lay lay' : ja_Y} {a : Nat} (h : lay' a = lay a) (hL : ja_LC lay a) : ja_LC lay' a := by
  unfold ja_LC
  rw [h]
  exact hL
theorem ja_LF_c {lay lay' : ja_Y} {a : Nat} (h : ∀ q, a ≤ q → q < a + 4 → lay' q = lay q) (hL : ja_LF lay a) : ja_LF lay' a := by
  unfold ja_LF
  rw [h a (by omega) (by omega), h (a + 1) (by omega) (by omega), h (a + 2) (by omega) (by omega), h (a + 3) (by omega) (by omega)]
  exact hL
theorem ja_LT_c {lay lay' : ja_Y} {a : Nat} (h : ∀ q, a ≤ q → q < a + 3 → lay' q = lay q) (hL : ja_LT lay a) : ja_LT lay' a := by
  unfold ja_LT
  rw [h a (by omega) (by omega), h (a + 1) (by omega) (by omega), h (a + 2) (by omega) (by omega)]
  exact hL
theorem ja_LP_c {lay lay' : ja_Y} {a : Nat} (h : ∀ q, a ≤ q → q < a + 5 → lay' q = lay q) (hL : ja_LP lay a) : ja_LP lay' a := by
  unfold ja_LP
  rw [h a (by omega) (by omega), h (a + 1) (by omega) (by omega), h (a + 2) (by omega) (by omega), h (a + 3) (by omega) (by omega), h (a + 4) (by omega) (by omega)]
  exact hL
theorem ja_LA_c {lay lay' : ja_Y} {a : Nat} (h : ∀ q, a ≤ q → q < a + 5 → lay' q = lay q) (hL : ja_LA lay a) : ja_LA lay' a := by
  unfold ja_LA
  rw [h a (by omega) (by omega), h (a + 1) (by omega) (by omega), h (a + 2) (by omega) (by omega), h (a + 3) (by omega) (by omega), h (a + 4) (by omega) (by omega)]
  exact hL
theorem ja_LX_c {lay lay' : ja_Y} {a : Nat} (h : ∀ q, a ≤ q → q < a + 2 → lay' q = lay q) (hL : ja_LX lay a) : ja_LX lay' a := by
  unfold ja_LX
  rw [h a (by omega) (by omega), h (a + 1) (by omega) (by omega)]
  exact hL
theorem ja_LR_c {lay lay' : ja_Y} {b : Nat} (h : ∀ q, b ≤ q → q < b + 20 → lay' q = lay q) (hL : ja_LR lay b) : ja_LR lay' b := by
  obtain ⟨h0, h1, h2, h3, h4, h5, h6⟩ := hL
  exact ⟨by rw [h b (by omega) (by omega)]; exact h0, ja_LS_c (h _ (by omega) (by omega)) h1, ja_LF_c (fun q a1 a2 => h q (by omega) (by omega)) h2, ja_LT_c (fun q a1 a2 => h q (by omega) (by omega)) h3, ja_LP_c (fun q a1 a2 => h q (by omega) (by omega)) h4, ja_LC_c (h _ (by omega) (by omega)) h5, ja_LA_c (fun q a1 a2 => h q (by omega) (by omega)) h6⟩
/-- settings as at first -/
def ja_S0 (mem : ja_M) (s : Nat) : Prop := mem s 0 = 8 ∧ mem s 1 = 16 ∧ mem s 2 = 25 ∧ mem s 3 = 4 ∧ mem s 4 = 4 ∧ mem s 5 = 16 ∧ mem s 6 = 90 ∧ mem s 7 = 8 ∧ mem s 8 = 1
theorem RO_0 {mem : ja_M} {b : Nat} (hS : ja_S0 mem (b + 1)) (hz : ∀ q j, b ≤ q → q < b + 20 → q ≠ b + 1 → mem q j = 0) : ja_RO mem b 0 := by
  obtain ⟨s0, s1, s2, s3, s4, s5, s6, s7, s8⟩ := hS
  have z : ∀ q j, (q = b ∨ (b + 2 ≤ q ∧ q < b + 20)) → mem q j = 0 := fun q j hq => hz q j (by omega) (by omega) (by omega)
  refine ⟨⟨by omega, by omega, by omega, by omega, by omega, by omega, by omega, by omega, by omega⟩, ⟨by rw [z _ _ (by omega)]; omega, by rw [z _ _ (by omega)]; omega, fun j => by rw [z _ _ (by omega)]; exact ⟨by omega, by omega⟩, fun j => by rw [z _ _ (by omega)]; exact ⟨by omega, by omega⟩⟩, ⟨by rw [z _ _ (by omega), z _ _ (by omega)]; omega, by rw [z _ _ (by omega)]; omega, by rw [z _ _ (by omega)]; omega, fun j => by rw [z _ _ (by omega)]; exact ⟨by omega, by omega⟩, fun j => by rw [z _ _ (by omega)]; exact ⟨by omega, by omega⟩, fun j => by rw [z _ _ (by omega)]; exact ⟨by omega, by omega⟩⟩, ⟨by rw [z _ _ (by omega)]; omega, fun j => by rw [z _ _ (by omega)]; omega, fun j => by rw [z _ _ (by omega)]; exact ⟨by omega, by omega⟩, fun j => by rw [z _ _ (by omega)]; exact ⟨by omega, by omega⟩, fun j => by rw [z _ _ (by omega)]; exact ⟨by omega, by omega⟩⟩, fun j hj => by rw [z _ _ (by omega)] at hj; omega, by rw [z _ _ (by omega)]; omega, by rw [z _ _ (by omega)]; omega, by rw [z _ _ (by omega)]; omega, by rw [z _ _ (by omega), z _ _ (by omega)]; omega, by rw [z _ _ (by omega), z _ _ (by omega)]; omega, by rw [z _ _ (by omega), z _ _ (by omega)]; omega, by rw [z _ _ (by omega), z _ _ (by omega)]; omega⟩
theorem BO_0 {mem : ja_M} {y : Nat} (h1 : ja_S0 mem (y + 1 + 1)) (h2 : ja_S0 mem (y + 21 + 1)) (hz : ∀ q j, y ≤ q → q < y + 49 → q ≠ y + 1 + 1 → q ≠ y + 21 + 1 → mem q j = 0) : ja_BO mem y (fun _ => none) 0 := by
  have z : ∀ q j, (y + 41 ≤ q ∧ q < y + 49) → mem q j = 0 := fun q j hq => hz q j (by omega) (by omega) (by omega) (by omega)
  refine ⟨RO_0 h1 (fun q j a b c => hz q j (by omega) (by omega) (by omega) (by omega)), ⟨0, RO_0 h2 (fun q j a b c => hz q j (by omega) (by omega) (by omega) (by omega))⟩, ⟨by rw [z _ _ (by omega)]; omega, fun j => by rw [z _ _ (by omega)]; omega, by rw [z _ _ (by omega)]; omega, by rw [z _ _ (by omega)]; omega, by rw [z _ _ (by omega)]; omega⟩, ⟨by rw [z _ _ (by omega)]; omega, fun j => by rw [z _ _ (by omega)]; omega, fun j => by rw [z _ _ (by omega)]; exact ⟨by omega, by omega⟩, fun j => by rw [z _ _ (by omega)]; exact ⟨by omega, by omega⟩, fun j => by rw [z _ _ (by omega)]; exact ⟨by omega, by omega⟩⟩, fun i o _ h => by cases h⟩
end
section
abbrev rm_X6_init : Room := { frames := 1, cells := 0, slots := 0, locals := 20 }
set_option maxRecDepth 100000 in
set_option maxHeartbeats 4000000 in
theorem c_X6_init (l : Launch) (D : va_G) (cA : Nat → ClassId) (B : Nat) {lay : ja_Y} {mem : ja_M} {a : Nat} (h0 : lay a = some (.inl (6, [none, none, none, none, none, none, none, none, none]))) (hz : ∀ j, mem a j = 0) : ja_Mt l D cA B yX6_init cX6_init 1 none rm_X6_init [.ref a] lay mem (a + 1) (fun v lay' mem' n' => none = v ∧ n' = a + 1 ∧ ja_LS lay' a ∧ (∀ q, q < a → lay' q = lay q) ∧ (∀ q, q < a → mem' q = mem q) ∧ ja_S0 mem' a) := by
  refine ja_enter [some (.ref a)] (by decide) (Nat.le_of_ble_eq_true rfl) (fun q hq => hq) (fun C F Rt G hnm => ?_)
  refine r_aload_n F rfl rfl dX6_init_0 rfl ?_
  refine r_objinit F i_X6_3 (Nat.le_of_ble_eq_true rfl) (by decide) (by decide) dX6_init_1 rfl ?_
  refine r_aload_n F rfl rfl dX6_init_4 rfl ?_
  refine r_bipush F (by decide) dX6_init_5 rfl ?_
  refine r_putI F f_X6_9 h0 rfl dX6_init_7 rfl ?_
  refine r_aload_n F rfl rfl dX6_init_10 rfl ?_
  refine r_bipush F (by decide) dX6_init_11 rfl ?_
  refine r_putI F f_X6_15 h0 rfl dX6_init_13 rfl ?_
  refine r_aload_n F rfl rfl dX6_init_16 rfl ?_
  refine r_bipush F (by decide) dX6_init_17 rfl ?_
  refine r_putI F f_X6_18 h0 rfl dX6_init_19 rfl ?_
  refine r_aload_n F rfl rfl dX6_init_22 rfl ?_
  refine r_iconst F dX6_init_23 rfl ?_
  refine r_putI F f_X6_21 h0 rfl dX6_init_24 rfl ?_
  refine r_aload_n F rfl rfl dX6_init_27 rfl ?_
  refine r_iconst F dX6_init_28 rfl ?_
  refine r_putI F f_X6_24 h0 rfl dX6_init_29 rfl ?_
  refine r_aload_n F rfl rfl dX6_init_32 rfl ?_
  refine r_bipush F (by decide) dX6_init_33 rfl ?_
  refine r_putI F f_X6_27 h0 rfl dX6_init_35 rfl ?_
  refine r_aload_n F rfl rfl dX6_init_38 rfl ?_
  refine r_bipush F (by decide) dX6_init_39 rfl ?_
  refine r_putI F f_X6_30 h0 rfl dX6_init_41 rfl ?_
  refine r_aload_n F rfl rfl dX6_init_44 rfl ?_
  refine r_bipush F (by decide) dX6_init_45 rfl ?_
  refine r_putI F f_X6_33 h0 rfl dX6_init_47 rfl ?_
  refine r_aload_n F rfl rfl dX6_init_50 rfl ?_
  refine r_iconst F dX6_init_51 rfl ?_
  refine r_putZ F (by omega) f_X6_36 h0 rfl dX6_init_52 rfl ?_
  exact r_vret F Rt dX6_init_55 (by decide) ⟨rfl, rfl, h0, fun q _ => rfl, fun q hq => by rw [ja_up_row (by omega), ja_up_row (by omega), ja_up_row (by omega), ja_up_row (by omega), ja_up_row (by omega), ja_up_row (by omega), ja_up_row (by omega), ja_up_row (by omega), ja_up_row (by omega)], ⟨by simp [ja_up], by simp [ja_up], by simp [ja_up], by simp [ja_up], by simp [ja_up], by simp [ja_up], by simp [ja_up], by simp [ja_up], by simp [ja_up]⟩⟩
abbrev rm_X2_init : Room := { frames := 1, cells := 0, slots := 0, locals := 20 }
set_option maxRecDepth 100000 in
set_option maxHeartbeats 4000000 in
theorem c_X2_init (l : Launch) (D : va_G) (cA : Nat → ClassId) (B : Nat) {lay : ja_Y} {mem : ja_M} {a : Nat} (h0 : lay a = some (.inl (2, [none, none, none, none, none, none, none, none, none]))) (hz : ∀ j, mem a j = 0) : ja_Mt l D cA B yX2_init cX2_init 1 none rm_X2_init [.ref a] lay mem (a + 1) (fun v lay' mem' n' => none = v ∧ n' = a + 1 ∧ ja_LC lay' a ∧ (∀ q, q < a → lay' q = lay q) ∧ (∀ q, q < a → mem' q = mem q) ∧ ∀ q j, a ≤ q → q < a + 1 → mem' q j = 0) := by
  refine ja_enter [some (.ref a)] (by decide) (Nat.le_of_ble_eq_true rfl) (fun q hq => hq) (fun C F Rt G hnm => ?_)
  refine r_aload_n F rfl rfl dX2_init_0 rfl ?_
  refine r_objinit F i_X2_3 (Nat.le_of_ble_eq_true rfl) (by decide) (by decide) dX2_init_1 rfl ?_
  exact r_vret F Rt dX2_init_4 (by decide) ⟨rfl, rfl, h0, fun q _ => rfl, fun q _ => rfl, fun q j h1 h2 => by rw [show q = a by omega]; exact hz j⟩
abbrev rm_X3_init : Room := { frames := 1, cells := 3, slots := 750, locals := 20 }
set_option maxRecDepth 100000 in
set_option maxHeartbeats 4000000 in
theorem c_X3_init (l : Launch) (D : va_G) (cA : Nat → ClassId) (B : Nat) {lay : ja_Y} {mem : ja_M} {a : Nat} (h0 : lay a = some (.inl (3, [some .null, some .null, some .null]))) (hz : ∀ j, mem a j = 0) : ja_Mt l D cA B yX3_init cX3_init 1 none rm_X3_init [.ref a] lay mem (a + 1) (fun v lay' mem' n' => none = v ∧ n' = a + 4 ∧ ja_LF lay' a ∧ (∀ q, q < a → lay' q = lay q) ∧ (∀ q, q < a → mem' q = mem q) ∧ ∀ q j, a ≤ q → q < a + 4 → mem' q j = 0) := by
  refine ja_enter [some (.ref a)] (by decide) (Nat.le_of_ble_eq_true rfl) (fun q hq => hq) (fun C F Rt G hnm => ?_)
  refine r_aload_n F rfl rfl dX3_init_0 rfl ?_
  refine r_objinit F i_X3_5 (Nat.le_of_ble_eq_true rfl) (by decide) (by decide) dX3_init_1 rfl ?_
  refine r_aload_n F rfl rfl dX3_init_4 rfl ?_
  refine r_sipush F (by decide) dX3_init_5 rfl ?_
  refine r_newa F (atype := .long) (kd := 1) a_long (by decide) rfl (by decide) (by decide) (by decide) (by decide) dX3_init_8 rfl ?_
  refine r_putF F hnm rfl rfl rfl f_X3_13 (ds := [some .null, some .null, some .null]) (by simp [ja_ly, h0] <;> omega) (Nat.le_of_ble_eq_true rfl) dX3_init_10 rfl ?_
  refine r_aload_n F rfl rfl dX3_init_13 rfl ?_
  refine r_sipush F (by decide) dX3_init_14 rfl ?_
  refine r_newa F (atype := .long) (kd := 1) a_long (by decide) rfl (by decide) (by decide) (by decide) (by decide) dX3_init_17 rfl ?_
  refine r_putF F hnm rfl rfl rfl f_X3_17 (ds := [some (.ref (a + 1)), some .null, some .null]) (by simp [ja_ly, h0] <;> omega) (Nat.le_of_ble_eq_true rfl) dX3_init_19 rfl ?_
  refine r_aload_n F rfl rfl dX3_init_22 rfl ?_
  refine r_sipush F (by decide) dX3_init_23 rfl ?_
  refine r_newa F (atype := .int) (kd := 0) a_int (by decide) rfl (by decide) (by decide) (by decide) (by decide) dX3_init_26 rfl ?_
  refine r_putF F hnm rfl rfl rfl f_X3_20 (ds := [some (.ref (a + 1)), some (.ref (a + 1 + 1)), some .null]) (by simp [ja_ly, h0] <;> omega) (Nat.le_of_ble_eq_true rfl) dX3_init_28 rfl ?_
  exact r_vret F Rt dX3_init_31 (by decide) ⟨rfl, rfl, ⟨by simp [ja_ly], by simp [ja_ly]; try rfl, by simp [ja_ly]; try rfl, by simp [ja_ly]; try rfl⟩, fun q hq => by simp [ja_ly, show q ≠ a by omega, show q ≠ a + 1 by omega, show q ≠ a + 2 by omega, show q ≠ a + 3 by omega], fun q hq => by funext j; simp [ja_zr, show q ≠ a by omega, show q ≠ a + 1 by omega, show q ≠ a + 2 by omega, show q ≠ a + 3 by omega], fun q j h1 h2 => by simp only [ja_zr]; split <;> first | rfl | (split <;> first | rfl | (split <;> first | rfl | (split <;> first | rfl | (split <;> first | rfl | (rw [show q = a by omega]; exact hz j)) | (rw [show q = a by omega]; exact hz j)) | (rw [show q = a by omega]; exact hz j)) | (rw [show q = a by omega]; exact hz j)) | (rw [show q = a by omega]; exact hz j)⟩
abbrev rm_X7_init : Room := { frames := 1, cells := 2, slots := 32, locals := 20 }
set_option maxRecDepth 100000 in
set_option maxHeartbeats 4000000 in
theorem c_X7_init (l : Launch) (D : va_G) (cA : Nat → ClassId) (B : Nat) {lay : ja_Y} {mem : ja_M} {a : Nat} (h0 : lay a = some (.inl (7, [some .null, some .null, none, none]))) (hz : ∀ j, mem a j = 0) : ja_Mt l D cA B yX7_init cX7_init 1 none rm_X7_init [.ref a] lay mem (a + 1) (fun v lay' mem' n' => none = v ∧ n' = a + 3 ∧ ja_LT lay' a ∧ (∀ q, q < a → lay' q = lay q) ∧ (∀ q, q < a → mem' q = mem q) ∧ ∀ q j, a ≤ q → q < a + 3 → mem' q j = 0) := by
  refine ja_enter [some (.ref a)] (by decide) (Nat.le_of_ble_eq_true rfl) (fun q hq => hq) (fun C F Rt G hnm => ?_)
  refine r_aload_n F rfl rfl dX7_init_0 rfl ?_
  refine r_objinit F i_X7_1 (Nat.le_of_ble_eq_true rfl) (by decide) (by decide) dX7_init_1 rfl ?_
  refine r_aload_n F rfl rfl dX7_init_4 rfl ?_
  refine r_bipush F (by decide) dX7_init_5 rfl ?_
  refine r_newa F (atype := .int) (kd := 0) a_int (by decide) rfl (by decide) (by decide) (by decide) (by decide) dX7_init_7 rfl ?_
  refine r_putF F hnm rfl rfl rfl f_X7_9 (ds := [some .null, some .null, none, none]) (by simp [ja_ly, h0] <;> omega) (Nat.le_of_ble_eq_true rfl) dX7_init_9 rfl ?_
  refine r_aload_n F rfl rfl dX7_init_12 rfl ?_
  refine r_bipush F (by decide) dX7_init_13 rfl ?_
  refine r_newa F (atype := .int) (kd := 0) a_int (by decide) rfl (by decide) (by decide) (by decide) (by decide) dX7_init_15 rfl ?_
  refine r_putF F hnm rfl rfl rfl f_X7_13 (ds := [some (.ref (a + 1)), some .null, none, none]) (by simp [ja_ly, h0] <;> omega) (Nat.le_of_ble_eq_true rfl) dX7_init_17 rfl ?_
  exact r_vret F Rt dX7_init_20 (by decide) ⟨rfl, rfl, ⟨by simp [ja_ly], by simp [ja_ly]; try rfl, by simp [ja_ly]; try rfl⟩, fun q hq => by simp [ja_ly, show q ≠ a by omega, show q ≠ a + 1 by omega, show q ≠ a + 2 by omega], fun q hq => by funext j; simp [ja_zr, show q ≠ a by omega, show q ≠ a + 1 by omega, show q ≠ a + 2 by omega], fun q j h1 h2 => by simp only [ja_zr]; split <;> first | rfl | (split <;> first | rfl | (split <;> first | rfl | (split <;> first | rfl | (split <;> first | rfl | (rw [show q = a by omega]; exact hz j)) | (rw [show q = a by omega]; exact hz j)) | (rw [show q = a by omega]; exact hz j)) | (rw [show q = a by omega]; exact hz j)) | (rw [show q = a by omega]; exact hz j)⟩
abbrev rm_X4_init : Room := { frames := 1, cells := 4, slots := 344, locals := 20 }
set_option maxRecDepth 100000 in
set_option maxHeartbeats 4000000 in
theorem c_X4_init (l : Launch) (D : va_G) (cA : Nat → ClassId) (B : Nat) {lay : ja_Y} {mem : ja_M} {a : Nat} (h0 : lay a = some (.inl (4, [some .null, none, none, some .null, none, some .null, none, some .null]))) (hz : ∀ j, mem a j = 0) : ja_Mt l D cA B yX4_init cX4_init 1 none rm_X4_init [.ref a] lay mem (a + 1) (fun v lay' mem' n' => none = v ∧ n' = a + 5 ∧ ja_LP lay' a ∧ (∀ q, q < a → lay' q = lay q) ∧ (∀ q, q < a → mem' q = mem q) ∧ ∀ q j, a ≤ q → q < a + 5 → mem' q j = 0) := by
  refine ja_enter [some (.ref a)] (by decide) (Nat.le_of_ble_eq_true rfl) (fun q hq => hq) (fun C F Rt G hnm => ?_)
  refine r_aload_n F rfl rfl dX4_init_0 rfl ?_
  refine r_objinit F i_X4_3 (Nat.le_of_ble_eq_true rfl) (by decide) (by decide) dX4_init_1 rfl ?_
  refine r_aload_n F rfl rfl dX4_init_4 rfl ?_
  refine r_bipush F (by decide) dX4_init_5 rfl ?_
  refine r_newa F (atype := .int) (kd := 0) a_int (by decide) rfl (by decide) (by decide) (by decide) (by decide) dX4_init_7 rfl ?_
  refine r_putF F hnm rfl rfl rfl f_X4_11 (ds := [some .null, none, none, some .null, none, some .null, none, some .null]) (by simp [ja_ly, h0] <;> omega) (Nat.le_of_ble_eq_true rfl) dX4_init_9 rfl ?_
  refine r_aload_n F rfl rfl dX4_init_12 rfl ?_
  refine r_sipush F (by decide) dX4_init_13 rfl ?_
  refine r_newa F (atype := .int) (kd := 0) a_int (by decide) rfl (by decide) (by decide) (by decide) (by decide) dX4_init_16 rfl ?_
  refine r_putF F hnm rfl rfl rfl f_X4_15 (ds := [some (.ref (a + 1)), none, none, some .null, none, some .null, none, some .null]) (by simp [ja_ly, h0] <;> omega) (Nat.le_of_ble_eq_true rfl) dX4_init_18 rfl ?_
  refine r_aload_n F rfl rfl dX4_init_21 rfl ?_
  refine r_bipush F (by decide) dX4_init_22 rfl ?_
  refine r_newa F (atype := .int) (kd := 0) a_int (by decide) rfl (by decide) (by decide) (by decide) (by decide) dX4_init_24 rfl ?_
  refine r_putF F hnm rfl rfl rfl f_X4_18 (ds := [some (.ref (a + 1)), none, none, some (.ref (a + 1 + 1)), none, some .null, none, some .null]) (by simp [ja_ly, h0] <;> omega) (Nat.le_of_ble_eq_true rfl) dX4_init_26 rfl ?_
  refine r_aload_n F rfl rfl dX4_init_29 rfl ?_
  refine r_bipush F (by decide) dX4_init_30 rfl ?_
  refine r_newa F (atype := .int) (kd := 0) a_int (by decide) rfl (by decide) (by decide) (by decide) (by decide) dX4_init_32 rfl ?_
  refine r_putF F hnm rfl rfl rfl f_X4_21 (ds := [some (.ref (a + 1)), none, none, some (.ref (a + 1 + 1)), none, some (.ref (a + 1 + 1 + 1)), none, some .null]) (by simp [ja_ly, h0] <;> omega) (Nat.le_of_ble_eq_true rfl) dX4_init_34 rfl ?_
  exact r_vret F Rt dX4_init_37 (by decide) ⟨rfl, rfl, ⟨by simp [ja_ly], by simp [ja_ly]; try rfl, by simp [ja_ly]; try rfl, by simp [ja_ly]; try rfl, by simp [ja_ly]; try rfl⟩, fun q hq => by simp [ja_ly, show q ≠ a by omega, show q ≠ a + 1 by omega, show q ≠ a + 2 by omega, show q ≠ a + 3 by omega, show q ≠ a + 4 by omega], fun q hq => by funext j; simp [ja_zr, show q ≠ a by omega, show q ≠ a + 1 by omega, show q ≠ a + 2 by omega, show q ≠ a + 3 by omega, show q ≠ a + 4 by omega], fun q j h1 h2 => by simp only [ja_zr]; split <;> first | rfl | (split <;> first | rfl | (split <;> first | rfl | (split <;> first | rfl | (split <;> first | rfl | (rw [show q = a by omega]; exact hz j)) | (rw [show q = a by omega]; exact hz j)) | (rw [show q = a by omega]; exact hz j)) | (rw [show q = a by omega]; exact hz j)) | (rw [show q = a by omega]; exact hz j)⟩
abbrev rm_X1_init : Room := { frames := 1, cells := 4, slots := 96, locals := 20 }
set_option maxRecDepth 100000 in
set_option maxHeartbeats 4000000 in
theorem c_X1_init (l : Launch) (D : va_G) (cA : Nat → ClassId) (B : Nat) {lay : ja_Y} {mem : ja_M} {a : Nat} (h0 : lay a = some (.inl (1, [some .null, some .null, some .null, some .null, none]))) (hz : ∀ j, mem a j = 0) : ja_Mt l D cA B yX1_init cX1_init 1 none rm_X1_init [.ref a] lay mem (a + 1) (fun v lay' mem' n' => none = v ∧ n' = a + 5 ∧ ja_LA lay' a ∧ (∀ q, q < a → lay' q = lay q) ∧ (∀ q, q < a → mem' q = mem q) ∧ ∀ q j, a ≤ q → q < a + 5 → mem' q j = 0) := by
  refine ja_enter [some (.ref a)] (by decide) (Nat.le_of_ble_eq_true rfl) (fun q hq => hq) (fun C F Rt G hnm => ?_)
  refine r_aload_n F rfl rfl dX1_init_0 rfl ?_
  refine r_objinit F i_X1_1 (Nat.le_of_ble_eq_true rfl) (by decide) (by decide) dX1_init_1 rfl ?_
  refine r_aload_n F rfl rfl dX1_init_4 rfl ?_
  refine r_bipush F (by decide) dX1_init_5 rfl ?_
  refine r_newa F (atype := .int) (kd := 0) a_int (by decide) rfl (by decide) (by decide) (by decide) (by decide) dX1_init_7 rfl ?_
  refine r_putF F hnm rfl rfl rfl f_X1_9 (ds := [some .null, some .null, some .null, some .null, none]) (by simp [ja_ly, h0] <;> omega) (Nat.le_of_ble_eq_true rfl) dX1_init_9 rfl ?_
  refine r_aload_n F rfl rfl dX1_init_12 rfl ?_
  refine r_bipush F (by decide) dX1_init_13 rfl ?_
  refine r_newa F (atype := .int) (kd := 0) a_int (by decide) rfl (by decide) (by decide) (by decide) (by decide) dX1_init_15 rfl ?_
  refine r_putF F hnm rfl rfl rfl f_X1_13 (ds := [some (.ref (a + 1)), some .null, some .null, some .null, none]) (by simp [ja_ly, h0] <;> omega) (Nat.le_of_ble_eq_true rfl) dX1_init_17 rfl ?_
  refine r_aload_n F rfl rfl dX1_init_20 rfl ?_
  refine r_bipush F (by decide) dX1_init_21 rfl ?_
  refine r_newa F (atype := .int) (kd := 0) a_int (by decide) rfl (by decide) (by decide) (by decide) (by decide) dX1_init_23 rfl ?_
  refine r_putF F hnm rfl rfl rfl f_X1_16 (ds := [some (.ref (a + 1)), some (.ref (a + 1 + 1)), some .null, some .null, none]) (by simp [ja_ly, h0] <;> omega) (Nat.le_of_ble_eq_true rfl) dX1_init_25 rfl ?_
  refine r_aload_n F rfl rfl dX1_init_28 rfl ?_
  refine r_bipush F (by decide) dX1_init_29 rfl ?_
  refine r_newa F (atype := .int) (kd := 0) a_int (by decide) rfl (by decide) (by decide) (by decide) (by decide) dX1_init_31 rfl ?_
  refine r_putF F hnm rfl rfl rfl f_X1_19 (ds := [some (.ref (a + 1)), some (.ref (a + 1 + 1)), some (.ref (a + 1 + 1 + 1)), some .null, none]) (by simp [ja_ly, h0] <;> omega) (Nat.le_of_ble_eq_true rfl) dX1_init_33 rfl ?_
  exact r_vret F Rt dX1_init_36 (by decide) ⟨rfl, rfl, ⟨by simp [ja_ly], by simp [ja_ly]; try rfl, by simp [ja_ly]; try rfl, by simp [ja_ly]; try rfl, by simp [ja_ly]; try rfl⟩, fun q hq => by simp [ja_ly, show q ≠ a by omega, show q ≠ a + 1 by omega, show q ≠ a + 2 by omega, show q ≠ a + 3 by omega, show q ≠ a + 4 by omega], fun q hq => by funext j; simp [ja_zr, show q ≠ a by omega, show q ≠ a + 1 by omega, show q ≠ a + 2 by omega, show q ≠ a + 3 by omega, show q ≠ a + 4 by omega], fun q j h1 h2 => by simp only [ja_zr]; split <;> first | rfl | (split <;> first | rfl | (split <;> first | rfl | (split <;> first | rfl | (split <;> first | rfl | (rw [show q = a by omega]; exact hz j)) | (rw [show q = a by omega]; exact hz j)) | (rw [show q = a by omega]; exact hz j)) | (rw [show q = a by omega]; exact hz j)) | (rw [show q = a by omega]; exact hz j)⟩
abbrev rm_X0_init : Room := { frames := 1, cells := 1, slots := 120, locals := 20 }
set_option maxRecDepth 100000 in
set_option maxHeartbeats 4000000 in
theorem c_X0_init (l : Launch) (D : va_G) (cA : Nat → ClassId) (B : Nat) {lay : ja_Y} {mem : ja_M} {a : Nat} (h0 : lay a = some (.inl (0, [some .null, none, none, none, none, none, none, none]))) (hz : ∀ j, mem a j = 0) : ja_Mt l D cA B yX0_init cX0_init 1 none rm_X0_init [.ref a] lay mem (a + 1) (fun v lay' mem' n' => none = v ∧ n' = a + 2 ∧ ja_LX lay' a ∧ (∀ q, q < a → lay' q = lay q) ∧ (∀ q, q < a → mem' q = mem q) ∧ ∀ q j, a ≤ q → q < a + 2 → mem' q j = 0) := by
  refine ja_enter [some (.ref a)] (by decide) (Nat.le_of_ble_eq_true rfl) (fun q hq => hq) (fun C F Rt G hnm => ?_)
  refine r_aload_n F rfl rfl dX0_init_0 rfl ?_
  refine r_objinit F i_X0_3 (Nat.le_of_ble_eq_true rfl) (by decide) (by decide) dX0_init_1 rfl ?_
  refine r_aload_n F rfl rfl dX0_init_4 rfl ?_
  refine r_bipush F (by decide) dX0_init_5 rfl ?_
  refine r_newa F (atype := .int) (kd := 0) a_int (by decide) rfl (by decide) (by decide) (by decide) (by decide) dX0_init_7 rfl ?_
  refine r_putF F hnm rfl rfl rfl f_X0_11 (ds := [some .null, none, none, none, none, none, none, none]) (by simp [ja_ly, h0] <;> omega) (Nat.le_of_ble_eq_true rfl) dX0_init_9 rfl ?_
  exact r_vret F Rt dX0_init_12 (by decide) ⟨rfl, rfl, ⟨by simp [ja_ly], by simp [ja_ly]; try rfl⟩, fun q hq => by simp [ja_ly, show q ≠ a by omega, show q ≠ a + 1 by omega], fun q hq => by funext j; simp [ja_zr, show q ≠ a by omega, show q ≠ a + 1 by omega], fun q j h1 h2 => by simp only [ja_zr]; split <;> first | rfl | (split <;> first | rfl | (split <;> first | rfl | (split <;> first | rfl | (split <;> first | rfl | (rw [show q = a by omega]; exact hz j)) | (rw [show q = a by omega]; exact hz j)) | (rw [show q = a by omega]; exact hz j)) | (rw [show q = a by omega]; exact hz j)) | (rw [show q = a by omega]; exact hz j)⟩
end
section
abbrev rm_X5_init : Room := { frames := 2, cells := 19, slots := 1260, locals := 40 }
set_option maxRecDepth 100000 in
set_option maxHeartbeats 4000000 in
theorem c_X5_init (l : Launch) (D : va_G) (cA : Nat → ClassId) (B : Nat) {lay : ja_Y} {mem : ja_M} {a : Nat} (h0 : lay a = some (.inl (5, [some .null, some .null, some .null, some .null, some .null, some .null, none, none, none]))) (hz : ∀ j, mem a j = 0) : ja_Mt l D cA B yX5_init cX5_init 1 none rm_X5_init [.ref a] lay mem (a + 1) (fun v lay' mem' n' => none = v ∧ n' = a + 20 ∧ ja_LR lay' a ∧ (∀ q, q < a → lay' q = lay q) ∧ (∀ q, q < a → mem' q = mem q) ∧ ja_S0 mem' (a + 1) ∧ ∀ q j, a ≤ q → q < a + 20 → q ≠ a + 1 → mem' q j = 0) := by
  refine ja_enter [some (.ref a)] (by decide) (Nat.le_of_ble_eq_true rfl) (fun q hq => hq) (fun C F Rt G hnm => ?_)
  refine r_aload_n F rfl rfl dX5_init_0 rfl ?_
  refine r_objinit F i_X5_3 (Nat.le_of_ble_eq_true rfl) (by decide) (by decide) dX5_init_1 rfl ?_
  have hb0 := h0
  refine r_aload_n F rfl rfl dX5_init_4 rfl ?_
  refine r_new F n_X5_9 (by decide) (by decide) dX5_init_5 rfl ?_
  refine r_dup F rfl dX5_init_8 rfl ?_
  refine r_callIN F G (c_X6_init _ _ _ _ (a := a + 1) (ja_ly_s _ _ _) (fun j => ja_zr_s _ _ j)) i_X5_11 rfl (by decide) (by decide) (Nat.le_of_ble_eq_true rfl) rfl dX5_init_9 rfl (fun v L1 M1 n1 hp => ?_)
  obtain ⟨q1, q2, hL1, hK1, hM1, hZ1⟩ := hp
  subst q1; subst q2
  replace hK1 : ∀ q, q < a + 1 → L1 q = lay q := fun q hq => (hK1 q hq).trans (ja_ly_n (by omega))
  replace hM1 : ∀ q, q < a + 1 → M1 q = mem q := fun q hq => (hM1 q hq).trans (ja_zr_n (by omega))
  have hbb1 : L1 a = some (.inl (5, [some .null, some .null, some .null, some .null, some .null, some .null, none, none, none])) := by rw [hK1 a (by omega)]; exact hb0
  refine r_putF F hnm rfl rfl rfl f_X5_12 (ds := [some .null, some .null, some .null, some .null, some .null, some .null, none, none, none]) hbb1 (Nat.le_of_ble_eq_true rfl) dX5_init_12 rfl ?_
  generalize hG1 : ja_ly L1 a _ = G1
  have hb1 : G1 a = some (.inl (5, [some (.ref (a + 1)), some .null, some .null, some .null, some .null, some .null, none, none, none])) := by rw [← hG1]; exact ja_ly_s _ _ _
  have hq1 : ∀ q, q ≠ a → G1 q = L1 q := fun q hq => by rw [← hG1]; exact ja_ly_n hq
  refine r_aload_n F rfl rfl dX5_init_15 rfl ?_
  refine r_new F n_X5_18 (by decide) (by decide) dX5_init_16 rfl ?_
  refine r_dup F rfl dX5_init_19 rfl ?_
  refine r_callIN F G (c_X3_init _ _ _ _ (a := a + 1 + 1) (ja_ly_s _ _ _) (fun j => ja_zr_s _ _ j)) i_X5_20 rfl (by decide) (by decide) (Nat.le_of_ble_eq_true rfl) rfl dX5_init_20 rfl (fun v L2 M2 n2 hp => ?_)
  obtain ⟨q1, q2, hL2, hK2, hM2, hZ2⟩ := hp
  subst q1; subst q2
  replace hK2 : ∀ q, q < a + 1 + 1 → L2 q = G1 q := fun q hq => (hK2 q hq).trans (ja_ly_n (by omega))
  replace hM2 : ∀ q, q < a + 1 + 1 → M2 q = M1 q := fun q hq => (hM2 q hq).trans (ja_zr_n (by omega))
  have hbb2 : L2 a = some (.inl (5, [some (.ref (a + 1)), some .null, some .null, some .null, some .null, some .null, none, none, none])) := by rw [hK2 a (by omega)]; exact hb1
  refine r_putF F hnm rfl rfl rfl f_X5_21 (ds := [some (.ref (a + 1)), some .null, some .null, some .null, some .null, some .null, none, none, none]) hbb2 (Nat.le_of_ble_eq_true rfl) dX5_init_23 rfl ?_
  generalize hG2 : ja_ly L2 a _ = G2
  have hb2 : G2 a = some (.inl (5, [some (.ref (a + 1)), some (.ref (a + 1 + 1)), some .null, some .null, some .null, some .null, none, none, none])) := by rw [← hG2]; exact ja_ly_s _ _ _
  have hq2 : ∀ q, q ≠ a → G2 q = L2 q := fun q hq => by rw [← hG2]; exact ja_ly_n hq
  refine r_aload_n F rfl rfl dX5_init_26 rfl ?_
  refine r_new F n_X5_25 (by decide) (by decide) dX5_init_27 rfl ?_
  refine r_dup F rfl dX5_init_30 rfl ?_
  refine r_callIN F G (c_X7_init _ _ _ _ (a := a + 1 + 1 + 4) (ja_ly_s _ _ _) (fun j => ja_zr_s _ _ j)) i_X5_27 rfl (by decide) (by decide) (Nat.le_of_ble_eq_true rfl) rfl dX5_init_31 rfl (fun v L3 M3 n3 hp => ?_)
  obtain ⟨q1, q2, hL3, hK3, hM3, hZ3⟩ := hp
  subst q1; subst q2
  replace hK3 : ∀ q, q < a + 1 + 1 + 4 → L3 q = G2 q := fun q hq => (hK3 q hq).trans (ja_ly_n (by omega))
  replace hM3 : ∀ q, q < a + 1 + 1 + 4 → M3 q = M2 q := fun q hq => (hM3 q hq).trans (ja_zr_n (by omega))
  have hbb3 : L3 a = some (.inl (5, [some (.ref (a + 1)), some (.ref (a + 1 + 1)), some .null, some .null, some .null, some .null, none, none, none])) := by rw [hK3 a (by omega)]; exact hb2
  refine r_putF F hnm rfl rfl rfl f_X5_28 (ds := [some (.ref (a + 1)), some (.ref (a + 1 + 1)), some .null, some .null, some .null, some .null, none, none, none]) hbb3 (Nat.le_of_ble_eq_true rfl) dX5_init_34 rfl ?_
  generalize hG3 : ja_ly L3 a _ = G3
  have hb3 : G3 a = some (.inl (5, [some (.ref (a + 1)), some (.ref (a + 1 + 1)), some (.ref (a + 1 + 1 + 4)), some .null, some .null, some .null, none, none, none])) := by rw [← hG3]; exact ja_ly_s _ _ _
  have hq3 : ∀ q, q ≠ a → G3 q = L3 q := fun q hq => by rw [← hG3]; exact ja_ly_n hq
  refine r_aload_n F rfl rfl dX5_init_37 rfl ?_
  refine r_new F n_X5_32 (by decide) (by decide) dX5_init_38 rfl ?_
  refine r_dup F rfl dX5_init_41 rfl ?_
  refine r_callIN F G (c_X4_init _ _ _ _ (a := a + 1 + 1 + 4 + 3) (ja_ly_s _ _ _) (fun j => ja_zr_s _ _ j)) i_X5_34 rfl (by decide) (by decide) (Nat.le_of_ble_eq_true rfl) rfl dX5_init_42 rfl (fun v L4 M4 n4 hp => ?_)
  obtain ⟨q1, q2, hL4, hK4, hM4, hZ4⟩ := hp
  subst q1; subst q2
  replace hK4 : ∀ q, q < a + 1 + 1 + 4 + 3 → L4 q = G3 q := fun q hq => (hK4 q hq).trans (ja_ly_n (by omega))
  replace hM4 : ∀ q, q < a + 1 + 1 + 4 + 3 → M4 q = M3 q := fun q hq => (hM4 q hq).trans (ja_zr_n (by omega))
  have hbb4 : L4 a = some (.inl (5, [some (.ref (a + 1)), some (.ref (a + 1 + 1)), some (.ref (a + 1 + 1 + 4)), some .null, some .null, some .null, none, none, none])) := by rw [hK4 a (by omega)]; exact hb3
  refine r_putF F hnm rfl rfl rfl f_X5_35 (ds := [some (.ref (a + 1)), some (.ref (a + 1 + 1)), some (.ref (a + 1 + 1 + 4)), some .null, some .null, some .null, none, none, none]) hbb4 (Nat.le_of_ble_eq_true rfl) dX5_init_45 rfl ?_
  generalize hG4 : ja_ly L4 a _ = G4
  have hb4 : G4 a = some (.inl (5, [some (.ref (a + 1)), some (.ref (a + 1 + 1)), some (.ref (a + 1 + 1 + 4)), some (.ref (a + 1 + 1 + 4 + 3)), some .null, some .null, none, none, none])) := by rw [← hG4]; exact ja_ly_s _ _ _
  have hq4 : ∀ q, q ≠ a → G4 q = L4 q := fun q hq => by rw [← hG4]; exact ja_ly_n hq
  refine r_aload_n F rfl rfl dX5_init_48 rfl ?_
  refine r_new F n_X5_39 (by decide) (by decide) dX5_init_49 rfl ?_
  refine r_dup F rfl dX5_init_52 rfl ?_
  refine r_callIN F G (c_X2_init _ _ _ _ (a := a + 1 + 1 + 4 + 3 + 5) (ja_ly_s _ _ _) (fun j => ja_zr_s _ _ j)) i_X5_41 rfl (by decide) (by decide) (Nat.le_of_ble_eq_true rfl) rfl dX5_init_53 rfl (fun v L5 M5 n5 hp => ?_)
  obtain ⟨q1, q2, hL5, hK5, hM5, hZ5⟩ := hp
  subst q1; subst q2
  replace hK5 : ∀ q, q < a + 1 + 1 + 4 + 3 + 5 → L5 q = G4 q := fun q hq => (hK5 q hq).trans (ja_ly_n (by omega))
  replace hM5 : ∀ q, q < a + 1 + 1 + 4 + 3 + 5 → M5 q = M4 q := fun q hq => (hM5 q hq).trans (ja_zr_n (by omega))
  have hbb5 : L5 a = some (.inl (5, [some (.ref (a + 1)), some (.ref (a + 1 + 1)), some (.ref (a + 1 + 1 + 4)), some (.ref (a + 1 + 1 + 4 + 3)), some .null, some .null, none, none, none])) := by rw [hK5 a (by omega)]; exact hb4
  refine r_putF F hnm rfl rfl rfl f_X5_42 (ds := [some (.ref (a + 1)), some (.ref (a + 1 + 1)), some (.ref (a + 1 + 1 + 4)), some (.ref (a + 1 + 1 + 4 + 3)), some .null, some .null, none, none, none]) hbb5 (Nat.le_of_ble_eq_true rfl) dX5_init_56 rfl ?_
  generalize hG5 : ja_ly L5 a _ = G5
  have hb5 : G5 a = some (.inl (5, [some (.ref (a + 1)), some (.ref (a + 1 + 1)), some (.ref (a + 1 + 1 + 4)), some (.ref (a + 1 + 1 + 4 + 3)), some (.ref (a + 1 + 1 + 4 + 3 + 5)), some .null, none, none, none])) := by rw [← hG5]; exact ja_ly_s _ _ _
  have hq5 : ∀ q, q ≠ a → G5 q = L5 q := fun q hq => by rw [← hG5]; exact ja_ly_n hq
  refine r_aload_n F rfl rfl dX5_init_59 rfl ?_
  refine r_new F n_X5_46 (by decide) (by decide) dX5_init_60 rfl ?_
  refine r_dup F rfl dX5_init_63 rfl ?_
  refine r_callIN F G (c_X1_init _ _ _ _ (a := a + 1 + 1 + 4 + 3 + 5 + 1) (ja_ly_s _ _ _) (fun j => ja_zr_s _ _ j)) i_X5_48 rfl (by decide) (by decide) (Nat.le_of_ble_eq_true rfl) rfl dX5_init_64 rfl (fun v L6 M6 n6 hp => ?_)
  obtain ⟨q1, q2, hL6, hK6, hM6, hZ6⟩ := hp
  subst q1; subst q2
  replace hK6 : ∀ q, q < a + 1 + 1 + 4 + 3 + 5 + 1 → L6 q = G5 q := fun q hq => (hK6 q hq).trans (ja_ly_n (by omega))
  replace hM6 : ∀ q, q < a + 1 + 1 + 4 + 3 + 5 + 1 → M6 q = M5 q := fun q hq => (hM6 q hq).trans (ja_zr_n (by omega))
  have hbb6 : L6 a = some (.inl (5, [some (.ref (a + 1)), some (.ref (a + 1 + 1)), some (.ref (a + 1 + 1 + 4)), some (.ref (a + 1 + 1 + 4 + 3)), some (.ref (a + 1 + 1 + 4 + 3 + 5)), some .null, none, none, none])) := by rw [hK6 a (by omega)]; exact hb5
  refine r_putF F hnm rfl rfl rfl f_X5_49 (ds := [some (.ref (a + 1)), some (.ref (a + 1 + 1)), some (.ref (a + 1 + 1 + 4)), some (.ref (a + 1 + 1 + 4 + 3)), some (.ref (a + 1 + 1 + 4 + 3 + 5)), some .null, none, none, none]) hbb6 (Nat.le_of_ble_eq_true rfl) dX5_init_67 rfl ?_
  generalize hG6 : ja_ly L6 a _ = G6
  have hb6 : G6 a = some (.inl (5, [some (.ref (a + 1)), some (.ref (a + 1 + 1)), some (.ref (a + 1 + 1 + 4)), some (.ref (a + 1 + 1 + 4 + 3)), some (.ref (a + 1 + 1 + 4 + 3 + 5)), some (.ref (a + 1 + 1 + 4 + 3 + 5 + 1)), none, none, none])) := by rw [← hG6]; exact ja_ly_s _ _ _
  have hq6 : ∀ q, q ≠ a → G6 q = L6 q := fun q hq => by rw [← hG6]; exact ja_ly_n hq
  have e1 : ∀ q, q ≠ a → q < a + 1 + 1 → G6 q = L1 q := fun q hq hlt => ((((((((((hq6 q hq).trans (hK6 q (by omega))).trans (hq5 q hq)).trans (hK5 q (by omega))).trans (hq4 q hq)).trans (hK4 q (by omega))).trans (hq3 q hq)).trans (hK3 q (by omega))).trans (hq2 q hq)).trans (hK2 q (by omega))).trans (hq1 q hq)
  have f1 : ∀ q, q < a + 1 + 1 → M6 q = M1 q := fun q hlt => ((((hM6 q (by omega)).trans (hM5 q (by omega))).trans (hM4 q (by omega))).trans (hM3 q (by omega))).trans (hM2 q (by omega))
  have e2 : ∀ q, q ≠ a → q < a + 1 + 1 + 4 → G6 q = L2 q := fun q hq hlt => ((((((((hq6 q hq).trans (hK6 q (by omega))).trans (hq5 q hq)).trans (hK5 q (by omega))).trans (hq4 q hq)).trans (hK4 q (by omega))).trans (hq3 q hq)).trans (hK3 q (by omega))).trans (hq2 q hq)
  have f2 : ∀ q, q < a + 1 + 1 + 4 → M6 q = M2 q := fun q hlt => (((hM6 q (by omega)).trans (hM5 q (by omega))).trans (hM4 q (by omega))).trans (hM3 q (by omega))
  have e3 : ∀ q, q ≠ a → q < a + 1 + 1 + 4 + 3 → G6 q = L3 q := fun q hq hlt => ((((((hq6 q hq).trans (hK6 q (by omega))).trans (hq5 q hq)).trans (hK5 q (by omega))).trans (hq4 q hq)).trans (hK4 q (by omega))).trans (hq3 q hq)
  have f3 : ∀ q, q < a + 1 + 1 + 4 + 3 → M6 q = M3 q := fun q hlt => ((hM6 q (by omega)).trans (hM5 q (by omega))).trans (hM4 q (by omega))
  have e4 : ∀ q, q ≠ a → q < a + 1 + 1 + 4 + 3 + 5 → G6 q = L4 q := fun q hq hlt => ((((hq6 q hq).trans (hK6 q (by omega))).trans (hq5 q hq)).trans (hK5 q (by omega))).trans (hq4 q hq)
  have f4 : ∀ q, q < a + 1 + 1 + 4 + 3 + 5 → M6 q = M4 q := fun q hlt => (hM6 q (by omega)).trans (hM5 q (by omega))
  have e5 : ∀ q, q ≠ a → q < a + 1 + 1 + 4 + 3 + 5 + 1 → G6 q = L5 q := fun q hq hlt => ((hq6 q hq).trans (hK6 q (by omega))).trans (hq5 q hq)
  have f5 : ∀ q, q < a + 1 + 1 + 4 + 3 + 5 + 1 → M6 q = M5 q := fun q hlt => hM6 q (by omega)
  have e6 : ∀ q, q ≠ a → q < a + 1 + 1 + 4 + 3 + 5 + 1 + 5 → G6 q = L6 q := fun q hq hlt => hq6 q hq
  have f6 : ∀ q, q < a + 1 + 1 + 4 + 3 + 5 + 1 + 5 → M6 q = M6 q := fun q hlt => rfl
  have e0 : ∀ q, q < a → G6 q = lay q := fun q hq => (e1 q (by omega) (by omega)).trans (hK1 q (by omega))
  have f0 : ∀ q, q < a + 1 → M6 q = mem q := fun q hq => (f1 q (by omega)).trans (hM1 q (by omega))
  refine r_vret F Rt dX5_init_70 (by decide) ⟨rfl, rfl, ⟨hb6, ja_LS_c (e1 _ (by omega) (by omega)) hL1, ja_LF_c (fun q q1 q2 => e2 q (by omega) (by omega)) hL2, ja_LT_c (fun q q1 q2 => e3 q (by omega) (by omega)) hL3, ja_LP_c (fun q q1 q2 => e4 q (by omega) (by omega)) hL4, ja_LC_c (e5 _ (by omega) (by omega)) hL5, ja_LA_c (fun q q1 q2 => e6 q (by omega) (by omega)) hL6⟩, e0, fun q hq => f0 q (by omega), ?_, ?_⟩
  · unfold ja_S0
    rw [f1 (a + 1) (by omega)]
    exact hZ1
  · intro q j q1 q2 q3
    rcases (show q = a ∨ (a + 2 ≤ q ∧ q < a + 6) ∨ (a + 6 ≤ q ∧ q < a + 9) ∨ (a + 9 ≤ q ∧ q < a + 14) ∨ q = a + 14 ∨ (a + 15 ≤ q ∧ q < a + 20) by omega) with h | h | h | h | h | h
    · rw [h, f0 a (by omega)]
      exact hz j
    · rw [f2 q (by omega)]
      exact hZ2 q j (by omega) (by omega)
    · rw [f3 q (by omega)]
      exact hZ3 q j (by omega) (by omega)
    · rw [f4 q (by omega)]
      exact hZ4 q j (by omega) (by omega)
    · rw [f5 q (by omega)]
      exact hZ5 q j (by omega) (by omega)
    · exact hZ6 q j (by omega) (by omega)
abbrev rm_X8_init : Room := { frames := 3, cells := 48, slots := 2769, locals := 60 }
set_option maxRecDepth 100000 in
set_option maxHeartbeats 4000000 in
theorem c_X8_init (l : Launch) (D : va_G) (cA : Nat → ClassId) (B : Nat) {lay : ja_Y} {mem : ja_M} {a : Nat} (h0 : lay a = some (.inl (8, [some .null, some .null, some .null, some .null, some .null]))) (hz : ∀ j, mem a j = 0) : ja_Mt l D cA B yX8_init cX8_init 1 none rm_X8_init [.ref a] lay mem (a + 1) (fun v lay' mem' n' => none = v ∧ n' = a + 49 ∧ ja_LB lay' a (fun _ => none) ∧ (∀ q, q < a → lay' q = lay q) ∧ (∀ q, q < a → mem' q = mem q) ∧ ja_S0 mem' (a + 1 + 1) ∧ ja_S0 mem' (a + 21 + 1) ∧ ∀ q j, a ≤ q → q < a + 49 → q ≠ a + 1 + 1 → q ≠ a + 21 + 1 → mem' q j = 0) := by
  refine ja_enter [some (.ref a)] (by decide) (Nat.le_of_ble_eq_true rfl) (fun q hq => hq) (fun C F Rt G hnm => ?_)
  refine r_aload_n F rfl rfl dX8_init_0 rfl ?_
  refine r_objinit F i_X8_1 (Nat.le_of_ble_eq_true rfl) (by decide) (by decide) dX8_init_1 rfl ?_
  have hb0 := h0
  refine r_aload_n F rfl rfl dX8_init_4 rfl ?_
  refine r_new F n_X8_7 (by decide) (by decide) dX8_init_5 rfl ?_
  refine r_dup F rfl dX8_init_8 rfl ?_
  refine r_callIN F G (c_X5_init _ _ _ _ (a := a + 1) (ja_ly_s _ _ _) (fun j => ja_zr_s _ _ j)) i_X8_9 rfl (by decide) (by decide) (Nat.le_of_ble_eq_true rfl) rfl dX8_init_9 rfl (fun v L1 M1 n1 hp => ?_)
  obtain ⟨q1, q2, hL1, hK1, hM1, hS1, hZ1⟩ := hp
  subst q1; subst q2
  replace hK1 : ∀ q, q < a + 1 → L1 q = lay q := fun q hq => (hK1 q hq).trans (ja_ly_n (by omega))
  replace hM1 : ∀ q, q < a + 1 → M1 q = mem q := fun q hq => (hM1 q hq).trans (ja_zr_n (by omega))
  have hbb1 : L1 a = some (.inl (8, [some .null, some .null, some .null, some .null, some .null])) := by rw [hK1 a (by omega)]; exact hb0
  refine r_putF F hnm rfl rfl rfl f_X8_10 (ds := [some .null, some .null, some .null, some .null, some .null]) hbb1 (Nat.le_of_ble_eq_true rfl) dX8_init_12 rfl ?_
  generalize hG1 : ja_ly L1 a _ = G1
  have hb1 : G1 a = some (.inl (8, [some (.ref (a + 1)), some .null, some .null, some .null, some .null])) := by rw [← hG1]; exact ja_ly_s _ _ _
  have hq1 : ∀ q, q ≠ a → G1 q = L1 q := fun q hq => by rw [← hG1]; exact ja_ly_n hq
  refine r_aload_n F rfl rfl dX8_init_15 rfl ?_
  refine r_new F n_X8_7 (by decide) (by decide) dX8_init_16 rfl ?_
  refine r_dup F rfl dX8_init_19 rfl ?_
  refine r_callIN F G (c_X5_init _ _ _ _ (a := a + 1 + 20) (ja_ly_s _ _ _) (fun j => ja_zr_s _ _ j)) i_X8_9 rfl (by decide) (by decide) (Nat.le_of_ble_eq_true rfl) rfl dX8_init_20 rfl (fun v L2 M2 n2 hp => ?_)
  obtain ⟨q1, q2, hL2, hK2, hM2, hS2, hZ2⟩ := hp
  subst q1; subst q2
  replace hK2 : ∀ q, q < a + 1 + 20 → L2 q = G1 q := fun q hq => (hK2 q hq).trans (ja_ly_n (by omega))
  replace hM2 : ∀ q, q < a + 1 + 20 → M2 q = M1 q := fun q hq => (hM2 q hq).trans (ja_zr_n (by omega))
  have hbb2 : L2 a = some (.inl (8, [some (.ref (a + 1)), some .null, some .null, some .null, some .null])) := by rw [hK2 a (by omega)]; exact hb1
  refine r_putF F hnm rfl rfl rfl f_X8_16 (ds := [some (.ref (a + 1)), some .null, some .null, some .null, some .null]) hbb2 (Nat.le_of_ble_eq_true rfl) dX8_init_23 rfl ?_
  generalize hG2 : ja_ly L2 a _ = G2
  have hb2 : G2 a = some (.inl (8, [some (.ref (a + 1)), some (.ref (a + 1 + 20)), some .null, some .null, some .null])) := by rw [← hG2]; exact ja_ly_s _ _ _
  have hq2 : ∀ q, q ≠ a → G2 q = L2 q := fun q hq => by rw [← hG2]; exact ja_ly_n hq
  refine r_aload_n F rfl rfl dX8_init_26 rfl ?_
  refine r_iconst F dX8_init_27 rfl ?_
  refine r_newq F q_X8_7 (by decide) (by decide) (by decide) (by decide) dX8_init_28 rfl ?_
  generalize hLa3 : ja_ly G2 (a + 1 + 20 + 20) (.inr (3, Int.toNat 2, fun _ => none)) = L3
  generalize hMa3 : ja_zr M2 (a + 1 + 20 + 20) = M3
  have hL3 : L3 (a + 1 + 20 + 20) = some (.inr (3, 2, fun _ => none)) := by rw [← hLa3]; exact ja_ly_s _ _ _
  have hK3 : ∀ q, q < a + 1 + 20 + 20 → L3 q = G2 q := fun q hq => by rw [← hLa3]; exact ja_ly_n (by omega)
  have hM3 : ∀ q, q < a + 1 + 20 + 20 → M3 q = M2 q := fun q hq => by rw [← hMa3]; exact ja_zr_n (by omega)
  have hZ3 : ∀ q j, a + 1 + 20 + 20 ≤ q → q < a + 1 + 20 + 20 + 1 → M3 q j = 0 := fun q j q1 q2 => by rw [← hMa3, show q = a + 1 + 20 + 20 by omega]; exact ja_zr_s _ _ _
  have hbb3 : L3 a = some (.inl (8, [some (.ref (a + 1)), some (.ref (a + 1 + 20)), some .null, some .null, some .null])) := by rw [hK3 a (by omega)]; exact hb2
  refine r_putF F hnm rfl rfl rfl f_X8_19 (ds := [some (.ref (a + 1)), some (.ref (a + 1 + 20)), some .null, some .null, some .null]) hbb3 (Nat.le_of_ble_eq_true rfl) dX8_init_31 rfl ?_
  generalize hG3 : ja_ly L3 a _ = G3
  have hb3 : G3 a = some (.inl (8, [some (.ref (a + 1)), some (.ref (a + 1 + 20)), some (.ref (a + 1 + 20 + 20)), some .null, some .null])) := by rw [← hG3]; exact ja_ly_s _ _ _
  have hq3 : ∀ q, q ≠ a → G3 q = L3 q := fun q hq => by rw [← hG3]; exact ja_ly_n hq
  refine r_aload_n F rfl rfl dX8_init_34 rfl ?_
  refine r_new F n_X8_23 (by decide) (by decide) dX8_init_35 rfl ?_
  refine r_dup F rfl dX8_init_38 rfl ?_
  refine r_callIN F G (c_X0_init _ _ _ _ (a := a + 1 + 20 + 20 + 1) (ja_ly_s _ _ _) (fun j => ja_zr_s _ _ j)) i_X8_25 rfl (by decide) (by decide) (Nat.le_of_ble_eq_true rfl) rfl dX8_init_39 rfl (fun v L4 M4 n4 hp => ?_)
  obtain ⟨q1, q2, hL4, hK4, hM4, hZ4⟩ := hp
  subst q1; subst q2
  replace hK4 : ∀ q, q < a + 1 + 20 + 20 + 1 → L4 q = G3 q := fun q hq => (hK4 q hq).trans (ja_ly_n (by omega))
  replace hM4 : ∀ q, q < a + 1 + 20 + 20 + 1 → M4 q = M3 q := fun q hq => (hM4 q hq).trans (ja_zr_n (by omega))
  have hbb4 : L4 a = some (.inl (8, [some (.ref (a + 1)), some (.ref (a + 1 + 20)), some (.ref (a + 1 + 20 + 20)), some .null, some .null])) := by rw [hK4 a (by omega)]; exact hb3
  refine r_putF F hnm rfl rfl rfl f_X8_26 (ds := [some (.ref (a + 1)), some (.ref (a + 1 + 20)), some (.ref (a + 1 + 20 + 20)), some .null, some .null]) hbb4 (Nat.le_of_ble_eq_true rfl) dX8_init_42 rfl ?_
  generalize hG4 : ja_ly L4 a _ = G4
  have hb4 : G4 a = some (.inl (8, [some (.ref (a + 1)), some (.ref (a + 1 + 20)), some (.ref (a + 1 + 20 + 20)), some (.ref (a + 1 + 20 + 20 + 1)), some .null])) := by rw [← hG4]; exact ja_ly_s _ _ _
  have hq4 : ∀ q, q ≠ a → G4 q = L4 q := fun q hq => by rw [← hG4]; exact ja_ly_n hq
  refine r_aload_n F rfl rfl dX8_init_45 rfl ?_
  refine r_new F n_X8_30 (by decide) (by decide) dX8_init_46 rfl ?_
  refine r_dup F rfl dX8_init_49 rfl ?_
  refine r_callIN F G (c_X1_init _ _ _ _ (a := a + 1 + 20 + 20 + 1 + 2) (ja_ly_s _ _ _) (fun j => ja_zr_s _ _ j)) i_X8_32 rfl (by decide) (by decide) (Nat.le_of_ble_eq_true rfl) rfl dX8_init_50 rfl (fun v L5 M5 n5 hp => ?_)
  obtain ⟨q1, q2, hL5, hK5, hM5, hZ5⟩ := hp
  subst q1; subst q2
  replace hK5 : ∀ q, q < a + 1 + 20 + 20 + 1 + 2 → L5 q = G4 q := fun q hq => (hK5 q hq).trans (ja_ly_n (by omega))
  replace hM5 : ∀ q, q < a + 1 + 20 + 20 + 1 + 2 → M5 q = M4 q := fun q hq => (hM5 q hq).trans (ja_zr_n (by omega))
  have hbb5 : L5 a = some (.inl (8, [some (.ref (a + 1)), some (.ref (a + 1 + 20)), some (.ref (a + 1 + 20 + 20)), some (.ref (a + 1 + 20 + 20 + 1)), some .null])) := by rw [hK5 a (by omega)]; exact hb4
  refine r_putF F hnm rfl rfl rfl f_X8_33 (ds := [some (.ref (a + 1)), some (.ref (a + 1 + 20)), some (.ref (a + 1 + 20 + 20)), some (.ref (a + 1 + 20 + 20 + 1)), some .null]) hbb5 (Nat.le_of_ble_eq_true rfl) dX8_init_53 rfl ?_
  generalize hG5 : ja_ly L5 a _ = G5
  have hb5 : G5 a = some (.inl (8, [some (.ref (a + 1)), some (.ref (a + 1 + 20)), some (.ref (a + 1 + 20 + 20)), some (.ref (a + 1 + 20 + 20 + 1)), some (.ref (a + 1 + 20 + 20 + 1 + 2))])) := by rw [← hG5]; exact ja_ly_s _ _ _
  have hq5 : ∀ q, q ≠ a → G5 q = L5 q := fun q hq => by rw [← hG5]; exact ja_ly_n hq
  have e1 : ∀ q, q ≠ a → q < a + 1 + 20 → G5 q = L1 q := fun q hq hlt => ((((((((hq5 q hq).trans (hK5 q (by omega))).trans (hq4 q hq)).trans (hK4 q (by omega))).trans (hq3 q hq)).trans (hK3 q (by omega))).trans (hq2 q hq)).trans (hK2 q (by omega))).trans (hq1 q hq)
  have f1 : ∀ q, q < a + 1 + 20 → M5 q = M1 q := fun q hlt => (((hM5 q (by omega)).trans (hM4 q (by omega))).trans (hM3 q (by omega))).trans (hM2 q (by omega))
  have e2 : ∀ q, q ≠ a → q < a + 1 + 20 + 20 → G5 q = L2 q := fun q hq hlt => ((((((hq5 q hq).trans (hK5 q (by omega))).trans (hq4 q hq)).trans (hK4 q (by omega))).trans (hq3 q hq)).trans (hK3 q (by omega))).trans (hq2 q hq)
  have f2 : ∀ q, q < a + 1 + 20 + 20 → M5 q = M2 q := fun q hlt => ((hM5 q (by omega)).trans (hM4 q (by omega))).trans (hM3 q (by omega))
  have e3 : ∀ q, q ≠ a → q < a + 1 + 20 + 20 + 1 → G5 q = L3 q := fun q hq hlt => ((((hq5 q hq).trans (hK5 q (by omega))).trans (hq4 q hq)).trans (hK4 q (by omega))).trans (hq3 q hq)
  have f3 : ∀ q, q < a + 1 + 20 + 20 + 1 → M5 q = M3 q := fun q hlt => (hM5 q (by omega)).trans (hM4 q (by omega))
  have e4 : ∀ q, q ≠ a → q < a + 1 + 20 + 20 + 1 + 2 → G5 q = L4 q := fun q hq hlt => ((hq5 q hq).trans (hK5 q (by omega))).trans (hq4 q hq)
  have f4 : ∀ q, q < a + 1 + 20 + 20 + 1 + 2 → M5 q = M4 q := fun q hlt => hM5 q (by omega)
  have e5 : ∀ q, q ≠ a → q < a + 1 + 20 + 20 + 1 + 2 + 5 → G5 q = L5 q := fun q hq hlt => hq5 q hq
  have f5 : ∀ q, q < a + 1 + 20 + 20 + 1 + 2 + 5 → M5 q = M5 q := fun q hlt => rfl
  have e0 : ∀ q, q < a → G5 q = lay q := fun q hq => (e1 q (by omega) (by omega)).trans (hK1 q (by omega))
  have f0 : ∀ q, q < a + 1 → M5 q = mem q := fun q hq => (f1 q (by omega)).trans (hM1 q (by omega))
  refine r_vret F Rt dX8_init_56 (by decide) ⟨rfl, rfl, ⟨hb5, ja_LR_c (fun q q1 q2 => e1 q (by omega) (by omega)) hL1, ja_LR_c (fun q q1 q2 => e2 q (by omega) (by omega)) hL2, (e3 _ (by omega) (by omega)).trans hL3, ja_LX_c (fun q q1 q2 => e4 q (by omega) (by omega)) hL4, ja_LA_c (fun q q1 q2 => e5 q (by omega) (by omega)) hL5, fun i o _ h => by cases h⟩, e0, fun q hq => f0 q (by omega), ?_, ?_, ?_⟩
  · unfold ja_S0
    rw [f1 (a + 1 + 1) (by omega)]
    exact hS1
  · unfold ja_S0
    rw [f2 (a + 21 + 1) (by omega)]
    exact hS2
  · intro q j q1 q2 q3 q4
    rcases (show q = a ∨ (a + 1 ≤ q ∧ q < a + 21) ∨ (a + 21 ≤ q ∧ q < a + 41) ∨ q = a + 41 ∨ (a + 42 ≤ q ∧ q < a + 44) ∨ (a + 44 ≤ q ∧ q < a + 49) by omega) with h | h | h | h | h | h
    · rw [h, f0 a (by omega)]
      exact hz j
    · rw [f1 q (by omega)]
      exact hZ1 q j (by omega) (by omega) (by omega)
    · rw [f2 q (by omega)]
      exact hZ2 q j (by omega) (by omega) (by omega)
    · rw [f3 q (by omega)]
      exact hZ3 q j (by omega) (by omega)
    · rw [f4 q (by omega)]
      exact hZ4 q j (by omega) (by omega)
    · exact hZ5 q j (by omega) (by omega)
end
section
-- the checksum
def B_cf (h : Int64) (g : Nat → Int) : Nat → Int64
  | 0 => h
  | k + 1 => 31 * B_cf h g k + (ja_I (g k)).toInt64
theorem B_cf_0 {h : Int64} {g : Nat → Int} : B_cf h g 0 = h := rfl
theorem B_cf_s {h : Int64} {g : Nat → Int} {k : Nat} : B_cf h g (k + 1) = 31 * B_cf h g k + (ja_I (g k)).toInt64 := rfl
def B_tk (mem : ja_M) (y : Nat) (k : Int) : Int := if 1 ≤ k ∧ k ≤ 3 then (if k = 3 then mem (y + 1 + 14) 2 else if k = 1 then mem (y + 1 + 14) 0 else mem (y + 1 + 14) 1) else -1001
def B_ou (mem : ja_M) (y : Nat) (k : Int) : Int := if 1 ≤ k ∧ k ≤ 256 then (if mem (y + 1 + 9) 4 < k then -1004 else mem (y + 1 + 9 + 2) ((mem (y + 1 + 9) 4 - k) % 256).toNat) else -1001
def B_ki (mem : ja_M) (y : Nat) (k : Int) : Int := if 1 ≤ k ∧ k ≤ 32 then (if mem (y + 1 + 9) 6 < k then -1004 else mem (y + 1 + 9 + 3) ((mem (y + 1 + 9) 6 - k) % 32).toNat) else -1001
def B_ss (mem : ja_M) (y : Nat) (x : Int) : Int := if B_isF x then F_st mem (y + 1 + 1) (y + 1 + 2) x else -1001
abbrev B_m (h : Int64) (z : Int) : Int64 := 31 * h + (ja_I z).toInt64
def B_k1 (mem : ja_M) (y : Nat) : Int64 := B_m (B_m (B_m (B_m (B_m (B_m (B_m (B_m 41 (mem (y + 1) 6)) (if mem (y + 1) 7 = 0 then -1004 else mem (y + 1) 8)) (mem (y + 1 + 9) 4)) (mem (y + 1 + 9) 1 - mem (y + 1 + 9) 2)) (if 999 < mem (y + 1 + 9) 6 then -1004 else mem (y + 1 + 9) 6)) (R_tg mem (y + 1))) (R_lv mem (y + 1) (mem (y + 1 + 9) 6))) (mem (y + 1 + 6) 2)
def B_k2 (mem : ja_M) (y : Nat) : Int64 := B_m (B_m (B_m (B_m (B_m (B_m (B_cf (B_k1 mem y) (fun k => B_tk mem y ((k : Int) + 1)) 3) (mem (y + 1 + 14) 3)) (mem (y + 1 + 14) 4)) (mem (y + 1 + 14) 5)) (mem (y + 1 + 14) 6)) (mem (y + 1 + 14) 8)) (mem (y + 1 + 15) 4)
def B_k3 (mem : ja_M) (y : Nat) : Int64 := B_cf (B_k2 mem y) (fun k => B_ou mem y ((k : Int) + 1)) 64
def B_k4 (mem : ja_M) (y : Nat) : Int64 := B_cf (B_k3 mem y) (fun k => B_ki mem y ((k : Int) + 1)) 16
def B_ck (mem : ja_M) (y : Nat) : Int64 := B_cf (B_k4 mem y) (fun k => B_ss mem y (k : Int)) 100
/-- a slot's new receiver -/
def B_kp (lay : ja_Y) (mem : ja_M) (n y : Nat) (sl : Nat → Option Nat) (k : Int) : ja_P := fun v lay' mem' n' => (¬ (0 ≤ k ∧ k ≤ 1) ∧ some (.int (ja_I (-1001))) = v ∧ lay = lay' ∧ mem = mem' ∧ n = n') ∨ ∃ o m0, (0 ≤ k ∧ k ≤ 1) ∧ some (.int (ja_I (mem (y + 1) 6))) = v ∧ mem' = R_cp m0 o (y + 1) ∧ (∀ q, q < n → m0 q = mem q) ∧ ((sl k.toNat = some o ∧ lay = lay' ∧ n = n' ∧ m0 = mem) ∨ (sl k.toNat = none ∧ o = n ∧ n' = n + 20 ∧ ja_LR lay' n ∧ (∀ q, q < n → q ≠ y + 41 → lay' q = lay q) ∧ lay' (y + 41) = some (.inr (3, 2, va_up sl k.toNat (some n))) ∧ ja_S0 m0 (n + 1) ∧ ∀ q j, n ≤ q → q < n + 20 → q ≠ n + 1 → m0 q j = 0))
theorem ja_LB_c {lay lay' : ja_Y} {y : Nat} {sl sl' : Nat → Option Nat} (h : ∀ q, y ≤ q → q < y + 49 → q ≠ y + 41 → lay' q = lay q) (hs : lay' (y + 41) = some (.inr (3, 2, sl'))) (ho : ∀ i o, i < 2 → sl' i = some o → y + 49 ≤ o ∧ ja_LR lay' o) (hB : ja_LB lay y sl) : ja_LB lay' y sl' := by
  obtain ⟨h0, h1, h2, h3, h4, h5, h6⟩ := hB
  exact ⟨by rw [h y (by omega) (by omega) (by omega)]; exact h0, ja_LR_c (fun q a1 a2 => h q (by omega) (by omega) (by omega)) h1, ja_LR_c (fun q a1 a2 => h q (by omega) (by omega) (by omega)) h2, hs, ja_LX_c (fun q a1 a2 => h q (by omega) (by omega) (by omega)) h4, ja_LA_c (fun q a1 a2 => h q (by omega) (by omega) (by omega)) h5, ho⟩
end
section
abbrev rm_X8_checksum : Room := { frames := 5, cells := 0, slots := 0, locals := 108 }
set_option maxRecDepth 100000 in
set_option maxHeartbeats 4000000 in
theorem c_X8_checksum (l : Launch) (D : va_G) (cA : Nat → ClassId) (B : Nat) {lay : ja_Y} {mem : ja_M} {n : Nat} {y : Nat} {sl : Nat → Option Nat} {t : Int} (hB : ja_LB lay y sl) (hO : ja_BO mem y sl t)  : ja_Mt l D cA B yX8_checksum cX8_checksum 4 (some .long) rm_X8_checksum [.ref y] lay mem n (ja_rd lay mem n (some (.long (B_ck mem y)))) := by
  refine ja_enter [some (.ref y), none, none, none] (by decide) (Nat.le_of_ble_eq_true rfl) (fun q hq => hq) (fun C F Rt G hnm => ?_)
  obtain ⟨b1, b2, b3, b4, b5⟩ := id hO
  obtain ⟨g1, g2, g3, g4, g5, g6, g7, g8, g9, g10, g11, g12⟩ := id b1
  obtain ⟨p1, p2, p3, p4, p5, p6⟩ := id g3
  obtain ⟨s0, s1, s2, s3, s4, s5, s6, s7, s8⟩ := id g1
  have tt := g2.1
  have a0 := g4.1
  refine r_ldc2 F l_X8_235 dX8_checksum_0 rfl ?_
  refine r_lst1 F (by decide) rfl dX8_checksum_3 rfl ?_
  refine r_ldc2 F l_X8_237 dX8_checksum_4 rfl ?_
  refine r_lload_n F rfl rfl dX8_checksum_7 rfl ?_
  refine r_lmul F dX8_checksum_8 rfl ?_
  refine r_aload_n F rfl rfl dX8_checksum_9 rfl ?_
  refine r_callV F G (c_X8_time _ _ _ _ hB hO) v_X8_239 rfl (hB.1) rfl (by decide) (by decide) (Nat.le_of_ble_eq_true rfl) rfl dX8_checksum_10 rfl (fun v lay' mem' n' hp => ?_)
  obtain ⟨q1, q2, q3, q4⟩ := hp
  subst q1; subst q2; subst q3; subst q4
  refine r_i2l F dX8_checksum_13 rfl ?_
  refine r_ladd F dX8_checksum_14 rfl ?_
  refine r_lst1 F (by decide) rfl dX8_checksum_15 rfl ?_
  refine r_ldc2 F l_X8_237 dX8_checksum_16 rfl ?_
  refine r_lload_n F rfl rfl dX8_checksum_19 rfl ?_
  refine r_lmul F dX8_checksum_20 rfl ?_
  refine r_aload_n F rfl rfl dX8_checksum_21 rfl ?_
  refine r_callV F G (c_X8_start _ _ _ _ hB hO) v_X8_241 rfl (hB.1) rfl (by decide) (by decide) (Nat.le_of_ble_eq_true rfl) rfl dX8_checksum_22 rfl (fun v lay' mem' n' hp => ?_)
  obtain ⟨q1, q2, q3, q4⟩ := hp
  subst q1; subst q2; subst q3; subst q4
  refine r_i2l F dX8_checksum_25 rfl ?_
  refine r_ladd F dX8_checksum_26 rfl ?_
  refine r_lst1 F (by decide) rfl dX8_checksum_27 rfl ?_
  refine r_ldc2 F l_X8_237 dX8_checksum_28 rfl ?_
  refine r_lload_n F rfl rfl dX8_checksum_31 rfl ?_
  refine r_lmul F dX8_checksum_32 rfl ?_
  refine r_aload_n F rfl rfl dX8_checksum_33 rfl ?_
  refine r_callV F G (c_X8_outputs _ _ _ _ hB hO) v_X8_243 rfl (hB.1) rfl (by decide) (by decide) (Nat.le_of_ble_eq_true rfl) rfl dX8_checksum_34 rfl (fun v lay' mem' n' hp => ?_)
  obtain ⟨q1, q2, q3, q4⟩ := hp
  subst q1; subst q2; subst q3; subst q4
  refine r_i2l F dX8_checksum_37 rfl ?_
  refine r_ladd F dX8_checksum_38 rfl ?_
  refine r_lst1 F (by decide) rfl dX8_checksum_39 rfl ?_
  refine r_ldc2 F l_X8_237 dX8_checksum_40 rfl ?_
  refine r_lload_n F rfl rfl dX8_checksum_43 rfl ?_
  refine r_lmul F dX8_checksum_44 rfl ?_
  refine r_aload_n F rfl rfl dX8_checksum_45 rfl ?_
  refine r_callV F G (c_X8_left _ _ _ _ hB hO) v_X8_245 rfl (hB.1) rfl (by decide) (by decide) (Nat.le_of_ble_eq_true rfl) rfl dX8_checksum_46 rfl (fun v lay' mem' n' hp => ?_)
  obtain ⟨q1, q2, q3, q4⟩ := hp
  subst q1; subst q2; subst q3; subst q4
  refine r_i2l F dX8_checksum_49 rfl ?_
  refine r_ladd F dX8_checksum_50 rfl ?_
  refine r_lst1 F (by decide) rfl dX8_checksum_51 rfl ?_
  refine r_ldc2 F l_X8_237 dX8_checksum_52 rfl ?_
  refine r_lload_n F rfl rfl dX8_checksum_55 rfl ?_
  refine r_lmul F dX8_checksum_56 rfl ?_
  refine r_aload_n F rfl rfl dX8_checksum_57 rfl ?_
  refine r_callV F G (c_X8_next _ _ _ _ hB hO) v_X8_248 rfl (hB.1) rfl (by decide) (by decide) (Nat.le_of_ble_eq_true rfl) rfl dX8_checksum_58 rfl (fun v lay' mem' n' hp => ?_)
  obtain ⟨q1, q2, q3, q4⟩ := hp
  subst q1; subst q2; subst q3; subst q4
  refine r_i2l F dX8_checksum_61 rfl ?_
  refine r_ladd F dX8_checksum_62 rfl ?_
  refine r_lst1 F (by decide) rfl dX8_checksum_63 rfl ?_
  refine r_ldc2 F l_X8_237 dX8_checksum_64 rfl ?_
  refine r_lload_n F rfl rfl dX8_checksum_67 rfl ?_
  refine r_lmul F dX8_checksum_68 rfl ?_
  refine r_aload_n F rfl rfl dX8_checksum_69 rfl ?_
  refine r_callV F G (c_X8_target _ _ _ _ hB hO) v_X8_250 rfl (hB.1) rfl (by decide) (by decide) (Nat.le_of_ble_eq_true rfl) rfl dX8_checksum_70 rfl (fun v lay' mem' n' hp => ?_)
  obtain ⟨q1, q2, q3, q4⟩ := hp
  subst q1; subst q2; subst q3; subst q4
  refine r_i2l F dX8_checksum_73 rfl ?_
  refine r_ladd F dX8_checksum_74 rfl ?_
  refine r_lst1 F (by decide) rfl dX8_checksum_75 rfl ?_
  refine r_ldc2 F l_X8_237 dX8_checksum_76 rfl ?_
  refine r_lload_n F rfl rfl dX8_checksum_79 rfl ?_
  refine r_lmul F dX8_checksum_80 rfl ?_
  refine r_aload_n F rfl rfl dX8_checksum_81 rfl ?_
  refine r_callV F G (c_X8_level _ _ _ _ hB hO) v_X8_253 rfl (hB.1) rfl (by decide) (by decide) (Nat.le_of_ble_eq_true rfl) rfl dX8_checksum_82 rfl (fun v lay' mem' n' hp => ?_)
  obtain ⟨q1, q2, q3, q4⟩ := hp
  subst q1; subst q2; subst q3; subst q4
  refine r_i2l F dX8_checksum_85 rfl ?_
  refine r_ladd F dX8_checksum_86 rfl ?_
  refine r_lst1 F (by decide) rfl dX8_checksum_87 rfl ?_
  refine r_ldc2 F l_X8_237 dX8_checksum_88 rfl ?_
  refine r_lload_n F rfl rfl dX8_checksum_91 rfl ?_
  refine r_lmul F dX8_checksum_92 rfl ?_
  refine r_aload_n F rfl rfl dX8_checksum_93 rfl ?_
  refine r_callV F G (c_X8_transits _ _ _ _ hB hO) v_X8_256 rfl (hB.1) rfl (by decide) (by decide) (Nat.le_of_ble_eq_true rfl) rfl dX8_checksum_94 rfl (fun v lay' mem' n' hp => ?_)
  obtain ⟨q1, q2, q3, q4⟩ := hp
  subst q1; subst q2; subst q3; subst q4
  refine r_i2l F dX8_checksum_97 rfl ?_
  refine r_ladd F dX8_checksum_98 rfl ?_
  refine r_lst1 F (by decide) rfl dX8_checksum_99 rfl ?_
  refine r_iconst F dX8_checksum_100 rfl ?_
  refine r_ist3 F (by decide) rfl dX8_checksum_101 rfl ?_
  have lp1 : ∀ (d k : Nat), k + d = 3 → ja_W C 0 0 lay (mem) n 102 [some (.ref y), some (.long (B_cf (B_k1 mem y) (fun k => B_tk mem y ((k : Int) + 1)) k)), none, some (.int (ja_I (((k : Int) + 1))))] [] := by
    intro d
    induction d with
    | zero =>
      intro k hk
      refine r_iload_n F rfl rfl dX8_checksum_102 rfl ?_
      refine r_iconst F dX8_checksum_103 rfl ?_
      refine r_icmp_gt F (tgt := 126) ⟨by omega, by omega⟩ ⟨by omega, by omega⟩ dX8_checksum_104 rfl (by decide) (fun h_104 => ?_) (fun h_104 => ?_)
      ·
        obtain rfl : k = 3 := by omega
        refine r_ldc2 F l_X8_237 dX8_checksum_126 rfl ?_
        refine r_lload_n F rfl rfl dX8_checksum_129 rfl ?_
        refine r_lmul F dX8_checksum_130 rfl ?_
        refine r_aload_n F rfl rfl dX8_checksum_131 rfl ?_
        refine r_callV F G (c_X8_stretched _ _ _ _ hB hO) v_X8_261 rfl (hB.1) rfl (by decide) (by decide) (Nat.le_of_ble_eq_true rfl) rfl dX8_checksum_132 rfl (fun v lay' mem' n' hp => ?_)
        obtain ⟨q1, q2, q3, q4⟩ := hp
        subst q1; subst q2; subst q3; subst q4
        refine r_i2l F dX8_checksum_135 rfl ?_
        refine r_ladd F dX8_checksum_136 rfl ?_
        refine r_lst1 F (by decide) rfl dX8_checksum_137 rfl ?_
        refine r_ldc2 F l_X8_237 dX8_checksum_138 rfl ?_
        refine r_lload_n F rfl rfl dX8_checksum_141 rfl ?_
        refine r_lmul F dX8_checksum_142 rfl ?_
        refine r_aload_n F rfl rfl dX8_checksum_143 rfl ?_
        refine r_callV F G (c_X8_compressed _ _ _ _ hB hO) v_X8_263 rfl (hB.1) rfl (by decide) (by decide) (Nat.le_of_ble_eq_true rfl) rfl dX8_checksum_144 rfl (fun v lay' mem' n' hp => ?_)
        obtain ⟨q1, q2, q3, q4⟩ := hp
        subst q1; subst q2; subst q3; subst q4
        refine r_i2l F dX8_checksum_147 rfl ?_
        refine r_ladd F dX8_checksum_148 rfl ?_
        refine r_lst1 F (by decide) rfl dX8_checksum_149 rfl ?_
        refine r_ldc2 F l_X8_237 dX8_checksum_150 rfl ?_
        refine r_lload_n F rfl rfl dX8_checksum_153 rfl ?_
        refine r_lmul F dX8_checksum_154 rfl ?_
        refine r_aload_n F rfl rfl dX8_checksum_155 rfl ?_
        refine r_callV F G (c_X8_late _ _ _ _ hB hO) v_X8_265 rfl (hB.1) rfl (by decide) (by decide) (Nat.le_of_ble_eq_true rfl) rfl dX8_checksum_156 rfl (fun v lay' mem' n' hp => ?_)
        obtain ⟨q1, q2, q3, q4⟩ := hp
        subst q1; subst q2; subst q3; subst q4
        refine r_i2l F dX8_checksum_159 rfl ?_
        refine r_ladd F dX8_checksum_160 rfl ?_
        refine r_lst1 F (by decide) rfl dX8_checksum_161 rfl ?_
        refine r_ldc2 F l_X8_237 dX8_checksum_162 rfl ?_
        refine r_lload_n F rfl rfl dX8_checksum_165 rfl ?_
        refine r_lmul F dX8_checksum_166 rfl ?_
        refine r_aload_n F rfl rfl dX8_checksum_167 rfl ?_
        refine r_callV F G (c_X8_duplicates _ _ _ _ hB hO) v_X8_267 rfl (hB.1) rfl (by decide) (by decide) (Nat.le_of_ble_eq_true rfl) rfl dX8_checksum_168 rfl (fun v lay' mem' n' hp => ?_)
        obtain ⟨q1, q2, q3, q4⟩ := hp
        subst q1; subst q2; subst q3; subst q4
        refine r_i2l F dX8_checksum_171 rfl ?_
        refine r_ladd F dX8_checksum_172 rfl ?_
        refine r_lst1 F (by decide) rfl dX8_checksum_173 rfl ?_
        refine r_ldc2 F l_X8_237 dX8_checksum_174 rfl ?_
        refine r_lload_n F rfl rfl dX8_checksum_177 rfl ?_
        refine r_lmul F dX8_checksum_178 rfl ?_
        refine r_aload_n F rfl rfl dX8_checksum_179 rfl ?_
        refine r_callV F G (c_X8_longestGap _ _ _ _ hB hO) v_X8_269 rfl (hB.1) rfl (by decide) (by decide) (Nat.le_of_ble_eq_true rfl) rfl dX8_checksum_180 rfl (fun v lay' mem' n' hp => ?_)
        obtain ⟨q1, q2, q3, q4⟩ := hp
        subst q1; subst q2; subst q3; subst q4
        refine r_i2l F dX8_checksum_183 rfl ?_
        refine r_ladd F dX8_checksum_184 rfl ?_
        refine r_lst1 F (by decide) rfl dX8_checksum_185 rfl ?_
        refine r_ldc2 F l_X8_237 dX8_checksum_186 rfl ?_
        refine r_lload_n F rfl rfl dX8_checksum_189 rfl ?_
        refine r_lmul F dX8_checksum_190 rfl ?_
        refine r_aload_n F rfl rfl dX8_checksum_191 rfl ?_
        refine r_callV F G (c_X8_scheduled _ _ _ _ hB hO) v_X8_271 rfl (hB.1) rfl (by decide) (by decide) (Nat.le_of_ble_eq_true rfl) rfl dX8_checksum_192 rfl (fun v lay' mem' n' hp => ?_)
        obtain ⟨q1, q2, q3, q4⟩ := hp
        subst q1; subst q2; subst q3; subst q4
        refine r_i2l F dX8_checksum_195 rfl ?_
        refine r_ladd F dX8_checksum_196 rfl ?_
        refine r_lst1 F (by decide) rfl dX8_checksum_197 rfl ?_
        refine r_iconst F dX8_checksum_198 rfl ?_
        refine r_ist3 F (by decide) rfl dX8_checksum_199 rfl ?_
        have lp2 : ∀ (d k : Nat), k + d = 64 → ja_W C 0 0 lay (mem) n 200 [some (.ref y), some (.long (B_cf (B_k2 mem y) (fun k => B_ou mem y ((k : Int) + 1)) k)), none, some (.int (ja_I (((k : Int) + 1))))] [] := by
          intro d
          induction d with
          | zero =>
            intro k hk
            refine r_iload_n F rfl rfl dX8_checksum_200 rfl ?_
            refine r_bipush F (by decide) dX8_checksum_201 rfl ?_
            refine r_icmp_gt F (tgt := 225) ⟨by omega, by omega⟩ ⟨by omega, by omega⟩ dX8_checksum_203 rfl (by decide) (fun h_203 => ?_) (fun h_203 => ?_)
            ·
              obtain rfl : k = 64 := by omega
              refine r_iconst F dX8_checksum_225 rfl ?_
              refine r_ist3 F (by decide) rfl dX8_checksum_226 rfl ?_
              have lp3 : ∀ (d k : Nat), k + d = 16 → ja_W C 0 0 lay (mem) n 227 [some (.ref y), some (.long (B_cf (B_k3 mem y) (fun k => B_ki mem y ((k : Int) + 1)) k)), none, some (.int (ja_I (((k : Int) + 1))))] [] := by
                intro d
                induction d with
                | zero =>
                  intro k hk
                  refine r_iload_n F rfl rfl dX8_checksum_227 rfl ?_
                  refine r_bipush F (by decide) dX8_checksum_228 rfl ?_
                  refine r_icmp_gt F (tgt := 252) ⟨by omega, by omega⟩ ⟨by omega, by omega⟩ dX8_checksum_230 rfl (by decide) (fun h_230 => ?_) (fun h_230 => ?_)
                  ·
                    obtain rfl : k = 16 := by omega
                    refine r_iconst F dX8_checksum_252 rfl ?_
                    refine r_ist3 F (by decide) rfl dX8_checksum_253 rfl ?_
                    have lp4 : ∀ (d k : Nat), k + d = 100 → ja_W C 0 0 lay (mem) n 254 [some (.ref y), some (.long (B_cf (B_k4 mem y) (fun k => B_ss mem y (k : Int)) k)), none, some (.int (ja_I ((k : Int))))] [] := by
                      intro d
                      induction d with
                      | zero =>
                        intro k hk
                        refine r_iload_n F rfl rfl dX8_checksum_254 rfl ?_
                        refine r_bipush F (by decide) dX8_checksum_255 rfl ?_
                        refine r_icmp_gt F (tgt := 279) ⟨by omega, by omega⟩ ⟨by omega, by omega⟩ dX8_checksum_257 rfl (by decide) (fun h_257 => ?_) (fun h_257 => ?_)
                        ·
                          obtain rfl : k = 100 := by omega
                          refine r_lload_n F rfl rfl dX8_checksum_279 rfl ?_
                          exact r_lret F Rt dX8_checksum_280 (by decide) ⟨by simp only [B_ck], rfl, rfl, rfl⟩
                        ·
                          exfalso; omega
                      | succ d ih =>
                        intro k hk
                        refine r_iload_n F rfl rfl dX8_checksum_254 rfl ?_
                        refine r_bipush F (by decide) dX8_checksum_255 rfl ?_
                        refine r_icmp_gt F (tgt := 279) ⟨by omega, by omega⟩ ⟨by omega, by omega⟩ dX8_checksum_257 rfl (by decide) (fun h_257 => ?_) (fun h_257 => ?_)
                        ·
                          exfalso; omega
                        ·
                          refine r_ldc2 F l_X8_237 dX8_checksum_260 rfl ?_
                          refine r_lload_n F rfl rfl dX8_checksum_263 rfl ?_
                          refine r_lmul F dX8_checksum_264 rfl ?_
                          refine r_aload_n F rfl rfl dX8_checksum_265 rfl ?_
                          refine r_iload_n F rfl rfl dX8_checksum_266 rfl ?_
                          refine r_callV F G (c_X8_state _ _ _ _ hB hO ⟨by omega, by omega⟩) v_X8_280 rfl (hB.1) rfl (by decide) (by decide) (Nat.le_of_ble_eq_true rfl) rfl dX8_checksum_267 rfl (fun v lay' mem' n' hp => ?_)
                          obtain ⟨q1, q2, q3, q4⟩ := hp
                          subst q1; subst q2; subst q3; subst q4
                          refine r_eqz (z := B_ss mem y (k : Int)) rfl ?_
                          refine r_i2l F dX8_checksum_270 rfl ?_
                          refine r_ladd F dX8_checksum_271 rfl ?_
                          refine r_lst1 F (by decide) rfl dX8_checksum_272 rfl ?_
                          refine r_inc3 F (by decide) rfl dX8_checksum_273 rfl ?_
                          refine r_goto F (tgt := 254) dX8_checksum_276 (by decide) ?_
                          rw [show (k : Int) + 1 = ((k + 1 : Nat) : Int) by omega]
                          have h0 := ih (k + 1) (by omega)
                          rw [B_cf_s] at h0
                          exact h0
                    have h0 := lp4 100 0 (by omega)
                    rw [B_cf_0] at h0
                    simp only [B_k4, B_m] at h0
                    exact h0
                  ·
                    exfalso; omega
                | succ d ih =>
                  intro k hk
                  refine r_iload_n F rfl rfl dX8_checksum_227 rfl ?_
                  refine r_bipush F (by decide) dX8_checksum_228 rfl ?_
                  refine r_icmp_gt F (tgt := 252) ⟨by omega, by omega⟩ ⟨by omega, by omega⟩ dX8_checksum_230 rfl (by decide) (fun h_230 => ?_) (fun h_230 => ?_)
                  ·
                    exfalso; omega
                  ·
                    refine r_ldc2 F l_X8_237 dX8_checksum_233 rfl ?_
                    refine r_lload_n F rfl rfl dX8_checksum_236 rfl ?_
                    refine r_lmul F dX8_checksum_237 rfl ?_
                    refine r_aload_n F rfl rfl dX8_checksum_238 rfl ?_
                    refine r_iload_n F rfl rfl dX8_checksum_239 rfl ?_
                    refine r_callV F G (c_X8_kind _ _ _ _ hB hO ⟨by omega, by omega⟩) v_X8_277 rfl (hB.1) rfl (by decide) (by decide) (Nat.le_of_ble_eq_true rfl) rfl dX8_checksum_240 rfl (fun v lay' mem' n' hp => ?_)
                    obtain ⟨q1, q2, q3, q4⟩ := hp
                    subst q1; subst q2; subst q3; subst q4
                    refine r_eqz (z := B_ki mem y ((k : Int) + 1)) rfl ?_
                    refine r_i2l F dX8_checksum_243 rfl ?_
                    refine r_ladd F dX8_checksum_244 rfl ?_
                    refine r_lst1 F (by decide) rfl dX8_checksum_245 rfl ?_
                    refine r_inc3 F (by decide) rfl dX8_checksum_246 rfl ?_
                    refine r_goto F (tgt := 227) dX8_checksum_249 (by decide) ?_
                    rw [show (k : Int) + 1 + 1 = ((k + 1 : Nat) : Int) + 1 by omega]
                    have h0 := ih (k + 1) (by omega)
                    rw [B_cf_s] at h0
                    exact h0
              have h0 := lp3 16 0 (by omega)
              rw [B_cf_0] at h0
              simp only [B_k3, B_m] at h0
              exact h0
            ·
              exfalso; omega
          | succ d ih =>
            intro k hk
            refine r_iload_n F rfl rfl dX8_checksum_200 rfl ?_
            refine r_bipush F (by decide) dX8_checksum_201 rfl ?_
            refine r_icmp_gt F (tgt := 225) ⟨by omega, by omega⟩ ⟨by omega, by omega⟩ dX8_checksum_203 rfl (by decide) (fun h_203 => ?_) (fun h_203 => ?_)
            ·
              exfalso; omega
            ·
              refine r_ldc2 F l_X8_237 dX8_checksum_206 rfl ?_
              refine r_lload_n F rfl rfl dX8_checksum_209 rfl ?_
              refine r_lmul F dX8_checksum_210 rfl ?_
              refine r_aload_n F rfl rfl dX8_checksum_211 rfl ?_
              refine r_iload_n F rfl rfl dX8_checksum_212 rfl ?_
              refine r_callV F G (c_X8_output _ _ _ _ hB hO ⟨by omega, by omega⟩) v_X8_274 rfl (hB.1) rfl (by decide) (by decide) (Nat.le_of_ble_eq_true rfl) rfl dX8_checksum_213 rfl (fun v lay' mem' n' hp => ?_)
              obtain ⟨q1, q2, q3, q4⟩ := hp
              subst q1; subst q2; subst q3; subst q4
              refine r_eqz (z := B_ou mem y ((k : Int) + 1)) rfl ?_
              refine r_i2l F dX8_checksum_216 rfl ?_
              refine r_ladd F dX8_checksum_217 rfl ?_
              refine r_lst1 F (by decide) rfl dX8_checksum_218 rfl ?_
              refine r_inc3 F (by decide) rfl dX8_checksum_219 rfl ?_
              refine r_goto F (tgt := 200) dX8_checksum_222 (by decide) ?_
              rw [show (k : Int) + 1 + 1 = ((k + 1 : Nat) : Int) + 1 by omega]
              have h0 := ih (k + 1) (by omega)
              rw [B_cf_s] at h0
              exact h0
        have h0 := lp2 64 0 (by omega)
        rw [B_cf_0] at h0
        simp only [B_k2, B_m] at h0
        exact h0
      ·
        exfalso; omega
    | succ d ih =>
      intro k hk
      refine r_iload_n F rfl rfl dX8_checksum_102 rfl ?_
      refine r_iconst F dX8_checksum_103 rfl ?_
      refine r_icmp_gt F (tgt := 126) ⟨by omega, by omega⟩ ⟨by omega, by omega⟩ dX8_checksum_104 rfl (by decide) (fun h_104 => ?_) (fun h_104 => ?_)
      ·
        exfalso; omega
      ·
        refine r_ldc2 F l_X8_237 dX8_checksum_107 rfl ?_
        refine r_lload_n F rfl rfl dX8_checksum_110 rfl ?_
        refine r_lmul F dX8_checksum_111 rfl ?_
        refine r_aload_n F rfl rfl dX8_checksum_112 rfl ?_
        refine r_iload_n F rfl rfl dX8_checksum_113 rfl ?_
        refine r_callV F G (c_X8_taken _ _ _ _ hB hO ⟨by omega, by omega⟩) v_X8_258 rfl (hB.1) rfl (by decide) (by decide) (Nat.le_of_ble_eq_true rfl) rfl dX8_checksum_114 rfl (fun v lay' mem' n' hp => ?_)
        obtain ⟨q1, q2, q3, q4⟩ := hp
        subst q1; subst q2; subst q3; subst q4
        refine r_eqz (z := B_tk mem y ((k : Int) + 1)) rfl ?_
        refine r_i2l F dX8_checksum_117 rfl ?_
        refine r_ladd F dX8_checksum_118 rfl ?_
        refine r_lst1 F (by decide) rfl dX8_checksum_119 rfl ?_
        refine r_inc3 F (by decide) rfl dX8_checksum_120 rfl ?_
        refine r_goto F (tgt := 102) dX8_checksum_123 (by decide) ?_
        rw [show (k : Int) + 1 + 1 = ((k + 1 : Nat) : Int) + 1 by omega]
        have h0 := ih (k + 1) (by omega)
        rw [B_cf_s] at h0
        exact h0
  have h0 := lp1 3 0 (by omega)
  rw [B_cf_0] at h0
  simp only [B_k1, B_m] at h0
  exact h0
abbrev rm_X8_keep : Room := { frames := 4, cells := 20, slots := 1269, locals := 88 }
set_option maxRecDepth 100000 in
set_option maxHeartbeats 4000000 in
theorem c_X8_keep (l : Launch) (D : va_G) (cA : Nat → ClassId) (B : Nat) {lay : ja_Y} {mem : ja_M} {n : Nat} {k : Int} {y : Nat} {sl : Nat → Option Nat} {t : Int} (hB : ja_LB lay y sl) (hO : ja_BO mem y sl t) (hk : ja_in k) (hn : y + 49 ≤ n) (hs : ∀ i o, i < 2 → sl i = some o → o + 20 ≤ n) : ja_Mt l D cA B yX8_keep cX8_keep 2 (some .int) rm_X8_keep [.ref y, .int (ja_I k)] lay mem n (B_kp lay mem n y sl k) := by
  refine ja_enter [some (.ref y), some (.int (ja_I k))] (by decide) (Nat.le_of_ble_eq_true rfl) (fun q hq => hq) (fun C F Rt G hnm => ?_)
  obtain ⟨b1, b2, b3, b4, b5⟩ := id hO
  obtain ⟨g1, g2, g3, g4, g5, g6, g7, g8, g9, g10, g11, g12⟩ := id b1
  obtain ⟨p1, p2, p3, p4, p5, p6⟩ := id g3
  obtain ⟨s0, s1, s2, s3, s4, s5, s6, s7, s8⟩ := id g1
  have tt := g2.1
  have a0 := g4.1
  obtain ⟨k1_, k2_⟩ := id hk
  refine r_iload_n F rfl rfl dX8_keep_0 rfl ?_
  refine r_if_lt F (tgt := 9) ⟨by omega, by omega⟩ dX8_keep_1 rfl (by decide) (fun h_1 => ?_) (fun h_1 => ?_)
  ·
    refine r_sipush F (by decide) dX8_keep_9 rfl ?_
    exact r_iret F Rt dX8_keep_12 (by decide) (Or.inl ⟨by omega, rfl, rfl, rfl, rfl⟩)
  ·
    refine r_iload_n F rfl rfl dX8_keep_4 rfl ?_
    refine r_iconst F dX8_keep_5 rfl ?_
    refine r_icmp_lt F (tgt := 13) ⟨by omega, by omega⟩ ⟨by omega, by omega⟩ dX8_keep_6 rfl (by decide) (fun h_6 => ?_) (fun h_6 => ?_)
    ·
      refine r_aload_n F rfl rfl dX8_keep_13 rfl ?_
      refine r_getR F f_X8_19 (hB.1) rfl dX8_keep_14 rfl ?_
      refine r_iload_n F rfl rfl dX8_keep_17 rfl ?_
      refine r_aald F (ja_LB_41 hB) (by omega) (by omega) (by decide) dX8_keep_18 rfl ?_
      cases hsl : sl k.toNat with
      | none =>
        refine r_nonnullN F dX8_keep_19 rfl ?_
        refine r_aload_n F rfl rfl dX8_keep_22 rfl ?_
        refine r_getR F f_X8_19 (hB.1) rfl dX8_keep_23 rfl ?_
        refine r_iload_n F rfl rfl dX8_keep_26 rfl ?_
        refine r_new F n_X8_7 (by decide) (by decide) dX8_keep_27 rfl ?_
        refine r_dup F rfl dX8_keep_30 rfl ?_
        refine r_callIN F G (c_X5_init _ _ _ _ (a := n) (ja_ly_s _ _ _) (fun j => ja_zr_s _ _ j)) i_X8_9 rfl (by decide) (by decide) (Nat.le_of_ble_eq_true rfl) rfl dX8_keep_31 rfl (fun v L1 M1 n1 hp => ?_)
        obtain ⟨q1, q2, hL1, hK1, hM1, hS1, hZ1⟩ := hp
        subst q1; subst q2
        replace hK1 : ∀ q, q < n → L1 q = lay q := fun q hq => (hK1 q hq).trans (ja_ly_n (by omega))
        replace hM1 : ∀ q, q < n → M1 q = mem q := fun q hq => (hM1 q hq).trans (ja_zr_n (by omega))
        refine r_aast F (r := sl) ((hK1 (y + 41) (by omega)).trans hB.2.2.2.1) hL1.1 (by omega) (by omega) (by decide) dX8_keep_34 rfl ?_
        generalize hLg : ja_ly L1 (y + 41) (.inr (3, 2, va_up sl k.toNat (some n))) = L2
        have hL2 : L2 (y + 41) = some (.inr (3, 2, va_up sl k.toNat (some n))) := by rw [← hLg]; exact ja_ly_s _ _ _
        have hn2 : ∀ q, q ≠ y + 41 → L2 q = L1 q := fun q hq => by rw [← hLg]; exact ja_ly_n hq
        have hLRn : ja_LR L2 n := ja_LR_c (fun q a1 a2 => hn2 q (by omega)) hL1
        have hkq : ∀ q, q < n → q ≠ y + 41 → L2 q = lay q := fun q a1 a2 => (hn2 q a2).trans (hK1 q a1)
        have hB2 : ja_LB L2 y (va_up sl k.toNat (some n)) := ja_LB_c (fun q a1 a2 a3 => hkq q (by omega) a3) hL2 (fun i o hi ho => by
          unfold va_up at ho
          split at ho
          · cases ho
            exact ⟨by omega, hLRn⟩
          · obtain ⟨e1, e2⟩ := hB.2.2.2.2.2.2 i o hi ho
            have e3 := hs i o hi ho
            exact ⟨e1, ja_LR_c (fun q a1 a2 => hkq q (by omega) (by omega)) e2⟩) hB
        have hROy : ja_RO M1 (y + 1) t := ja_RO_all (fun q a1 a2 => hM1 q (by omega)) b1
        have hROn : ja_RO M1 n 0 := RO_0 hS1 (fun q j a1 a2 a3 => hZ1 q j a1 a2 a3)
        refine r_aload_n F rfl rfl dX8_keep_35 rfl ?_
        refine r_getR F f_X8_19 (hB2.1) rfl dX8_keep_36 rfl ?_
        refine r_iload_n F rfl rfl dX8_keep_39 rfl ?_
        refine r_aald F (ja_LB_41 hB2) (by omega) (by omega) (by decide) dX8_keep_40 rfl ?_
        rw [show va_up sl k.toNat (some n) k.toNat = some n by simp [va_up]]
        refine r_aload_n F rfl rfl dX8_keep_41 rfl ?_
        refine r_getR F f_X8_10 (hB2.1) rfl dX8_keep_42 rfl ?_
        refine r_callV F G (c_X5_copyFrom _ _ _ _ hLRn (ja_LB_1 hB2) hROy (by omega)) v_X8_207 rfl (hLRn.1) rfl (by decide) (by decide) (Nat.le_of_ble_eq_true rfl) rfl dX8_keep_45 rfl (fun v lay' mem' n' hp => ?_)
        obtain ⟨q1, q2, q3, q4⟩ := hp
        subst q1; subst q2; subst q3; subst q4
        refine r_aload_n F rfl rfl dX8_keep_48 rfl ?_
        refine r_getR F f_X8_10 (hB2.1) rfl dX8_keep_49 rfl ?_
        refine r_getI F f_X8_104 ((ja_LB_1 hB2).1) rfl dX8_keep_52 rfl ?_
        refine r_eqz (z := mem (y + 1) 6) (by rw [R_cp_o (by omega), hM1 (y + 1) (by omega)]) ?_
        exact r_iret F Rt dX8_keep_55 (by decide) (Or.inr ⟨n, M1, ⟨by omega, by omega⟩, rfl, rfl, hM1, Or.inr ⟨hsl, rfl, rfl, hLRn, hkq, hL2, hS1, hZ1⟩⟩)
      | some o =>
        obtain ⟨hyo, hLo⟩ := hB.2.2.2.2.2.2 k.toNat o (by omega) hsl
        have hRo := b5 k.toNat o (by omega) hsl
        refine r_nonnull F (tgt := 35) dX8_keep_19 (by decide) ?_
        refine r_aload_n F rfl rfl dX8_keep_35 rfl ?_
        refine r_getR F f_X8_19 (hB.1) rfl dX8_keep_36 rfl ?_
        refine r_iload_n F rfl rfl dX8_keep_39 rfl ?_
        refine r_aald F (ja_LB_41 hB) (by omega) (by omega) (by decide) dX8_keep_40 rfl ?_
        rw [hsl]
        refine r_aload_n F rfl rfl dX8_keep_41 rfl ?_
        refine r_getR F f_X8_10 (hB.1) rfl dX8_keep_42 rfl ?_
        refine r_callV F G (c_X5_copyFrom _ _ _ _ hLo (ja_LB_1 hB) b1 (by omega)) v_X8_207 rfl (hLo.1) rfl (by decide) (by decide) (Nat.le_of_ble_eq_true rfl) rfl dX8_keep_45 rfl (fun v lay' mem' n' hp => ?_)
        obtain ⟨q1, q2, q3, q4⟩ := hp
        subst q1; subst q2; subst q3; subst q4
        refine r_aload_n F rfl rfl dX8_keep_48 rfl ?_
        refine r_getR F f_X8_10 (hB.1) rfl dX8_keep_49 rfl ?_
        refine r_getI F f_X8_104 ((ja_LB_1 hB).1) rfl dX8_keep_52 rfl ?_
        refine r_eqz (z := mem (y + 1) 6) (by rw [R_cp_o (by omega)]) ?_
        exact r_iret F Rt dX8_keep_55 (by decide) (Or.inr ⟨o, mem, ⟨by omega, by omega⟩, rfl, rfl, fun q _ => rfl, Or.inl ⟨hsl, rfl, rfl, rfl⟩⟩)
    ·
      refine r_sipush F (by decide) dX8_keep_9 rfl ?_
      exact r_iret F Rt dX8_keep_12 (by decide) (Or.inl ⟨by omega, rfl, rfl, rfl, rfl⟩)
end
