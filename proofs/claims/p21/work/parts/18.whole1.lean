abbrev rm_X8_time : Room := { frames := 0, cells := 0, slots := 0, locals := 0 }
set_option maxRecDepth 100000 in
set_option maxHeartbeats 4000000 in
theorem c_X8_time (l : Launch) (D : va_G) (cA : Nat → ClassId) (B : Nat) {lay : ja_Y} {mem : ja_M} {n : Nat} {y : Nat} {sl : Nat → Option Nat} {t : Int} (hB : ja_LB lay y sl) (hO : ja_BO mem y sl t)  : ja_Mt l D cA B yX8_time cX8_time 1 (some .int) rm_X8_time [.ref y] lay mem n (ja_rd lay mem n (some (.int (ja_I (mem (y + 1) 6))))) := by
  refine ja_enter [some (.ref y)] (by decide) (Nat.le_of_ble_eq_true rfl) (fun q hq => hq) (fun C F Rt G hnm => ?_)
  obtain ⟨b1, b2, b3, b4, b5⟩ := id hO
  obtain ⟨g1, g2, g3, g4, g5, g6, g7, g8, g9, g10, g11, g12⟩ := id b1
  obtain ⟨p1, p2, p3, p4, p5, p6⟩ := id g3
  obtain ⟨s0, s1, s2, s3, s4, s5, s6, s7, s8⟩ := id g1
  have tt := g2.1
  have a0 := g4.1
  refine r_aload_n F rfl rfl dX8_time_0 rfl ?_
  refine r_getR F f_X8_10 (hB.1) rfl dX8_time_1 rfl ?_
  refine r_getI F f_X8_104 ((ja_LB_1 hB).1) rfl dX8_time_4 rfl ?_
  exact r_iret F Rt dX8_time_7 (by decide) ⟨by first | rfl | rw [if_pos (by omega)] | rw [if_neg (by omega)], rfl, rfl, rfl⟩
abbrev rm_X8_start : Room := { frames := 0, cells := 0, slots := 0, locals := 0 }
set_option maxRecDepth 100000 in
set_option maxHeartbeats 4000000 in
theorem c_X8_start (l : Launch) (D : va_G) (cA : Nat → ClassId) (B : Nat) {lay : ja_Y} {mem : ja_M} {n : Nat} {y : Nat} {sl : Nat → Option Nat} {t : Int} (hB : ja_LB lay y sl) (hO : ja_BO mem y sl t)  : ja_Mt l D cA B yX8_start cX8_start 1 (some .int) rm_X8_start [.ref y] lay mem n (ja_rd lay mem n (some (.int (ja_I (if mem (y + 1) 7 = 0 then -1004 else mem (y + 1) 8))))) := by
  refine ja_enter [some (.ref y)] (by decide) (Nat.le_of_ble_eq_true rfl) (fun q hq => hq) (fun C F Rt G hnm => ?_)
  obtain ⟨b1, b2, b3, b4, b5⟩ := id hO
  obtain ⟨g1, g2, g3, g4, g5, g6, g7, g8, g9, g10, g11, g12⟩ := id b1
  obtain ⟨p1, p2, p3, p4, p5, p6⟩ := id g3
  obtain ⟨s0, s1, s2, s3, s4, s5, s6, s7, s8⟩ := id g1
  have tt := g2.1
  have a0 := g4.1
  refine r_aload_n F rfl rfl dX8_start_0 rfl ?_
  refine r_getR F f_X8_10 (hB.1) rfl dX8_start_1 rfl ?_
  refine r_getI F f_X8_107 ((ja_LB_1 hB).1) rfl dX8_start_4 rfl ?_
  refine r_if_eq F (tgt := 20) ⟨by omega, by omega⟩ dX8_start_7 rfl (by decide) (fun h_7 => ?_) (fun h_7 => ?_)
  ·
    refine r_sipush F (by decide) dX8_start_20 rfl ?_
    exact r_iret F Rt dX8_start_23 (by decide) ⟨by first | rfl | rw [if_pos (by omega)] | rw [if_neg (by omega)], rfl, rfl, rfl⟩
  ·
    refine r_aload_n F rfl rfl dX8_start_10 rfl ?_
    refine r_getR F f_X8_10 (hB.1) rfl dX8_start_11 rfl ?_
    refine r_getI F f_X8_110 ((ja_LB_1 hB).1) rfl dX8_start_14 rfl ?_
    refine r_goto F (tgt := 23) dX8_start_17 (by decide) ?_
    exact r_iret F Rt dX8_start_23 (by decide) ⟨by first | rfl | rw [if_pos (by omega)] | rw [if_neg (by omega)], rfl, rfl, rfl⟩
abbrev rm_X8_outputs : Room := { frames := 0, cells := 0, slots := 0, locals := 0 }
set_option maxRecDepth 100000 in
set_option maxHeartbeats 4000000 in
theorem c_X8_outputs (l : Launch) (D : va_G) (cA : Nat → ClassId) (B : Nat) {lay : ja_Y} {mem : ja_M} {n : Nat} {y : Nat} {sl : Nat → Option Nat} {t : Int} (hB : ja_LB lay y sl) (hO : ja_BO mem y sl t)  : ja_Mt l D cA B yX8_outputs cX8_outputs 1 (some .int) rm_X8_outputs [.ref y] lay mem n (ja_rd lay mem n (some (.int (ja_I (mem (y + 1 + 9) 4))))) := by
  refine ja_enter [some (.ref y)] (by decide) (Nat.le_of_ble_eq_true rfl) (fun q hq => hq) (fun C F Rt G hnm => ?_)
  obtain ⟨b1, b2, b3, b4, b5⟩ := id hO
  obtain ⟨g1, g2, g3, g4, g5, g6, g7, g8, g9, g10, g11, g12⟩ := id b1
  obtain ⟨p1, p2, p3, p4, p5, p6⟩ := id g3
  obtain ⟨s0, s1, s2, s3, s4, s5, s6, s7, s8⟩ := id g1
  have tt := g2.1
  have a0 := g4.1
  refine r_aload_n F rfl rfl dX8_outputs_0 rfl ?_
  refine r_getR F f_X8_10 (hB.1) rfl dX8_outputs_1 rfl ?_
  refine r_getR F f_X8_92 ((ja_LB_1 hB).1) rfl dX8_outputs_4 rfl ?_
  refine r_getI F f_X8_96 ((ja_LR_9 (ja_LB_1 hB)).1) rfl dX8_outputs_7 rfl ?_
  exact r_iret F Rt dX8_outputs_10 (by decide) ⟨by first | rfl | rw [if_pos (by omega)] | rw [if_neg (by omega)], rfl, rfl, rfl⟩
abbrev rm_X8_left : Room := { frames := 1, cells := 0, slots := 0, locals := 20 }
set_option maxRecDepth 100000 in
set_option maxHeartbeats 4000000 in
theorem c_X8_left (l : Launch) (D : va_G) (cA : Nat → ClassId) (B : Nat) {lay : ja_Y} {mem : ja_M} {n : Nat} {y : Nat} {sl : Nat → Option Nat} {t : Int} (hB : ja_LB lay y sl) (hO : ja_BO mem y sl t)  : ja_Mt l D cA B yX8_left cX8_left 1 (some .int) rm_X8_left [.ref y] lay mem n (ja_rd lay mem n (some (.int (ja_I (mem (y + 1 + 9) 1 - mem (y + 1 + 9) 2))))) := by
  refine ja_enter [some (.ref y)] (by decide) (Nat.le_of_ble_eq_true rfl) (fun q hq => hq) (fun C F Rt G hnm => ?_)
  obtain ⟨b1, b2, b3, b4, b5⟩ := id hO
  obtain ⟨g1, g2, g3, g4, g5, g6, g7, g8, g9, g10, g11, g12⟩ := id b1
  obtain ⟨p1, p2, p3, p4, p5, p6⟩ := id g3
  obtain ⟨s0, s1, s2, s3, s4, s5, s6, s7, s8⟩ := id g1
  have tt := g2.1
  have a0 := g4.1
  refine r_aload_n F rfl rfl dX8_left_0 rfl ?_
  refine r_getR F f_X8_10 (hB.1) rfl dX8_left_1 rfl ?_
  refine r_getR F f_X8_92 ((ja_LB_1 hB).1) rfl dX8_left_4 rfl ?_
  refine r_callV F G (c_X4_remaining _ _ _ _ (ja_LR_9 (ja_LB_1 hB))) v_X8_116 rfl ((ja_LR_9 (ja_LB_1 hB)).1) rfl (by decide) (by decide) (Nat.le_of_ble_eq_true rfl) rfl dX8_left_7 rfl (fun v lay' mem' n' hp => ?_)
  obtain ⟨q1, q2, q3, q4⟩ := hp
  subst q1; subst q2; subst q3; subst q4
  exact r_iret F Rt dX8_left_10 (by decide) ⟨by first | rfl | rw [if_pos (by omega)] | rw [if_neg (by omega)], rfl, rfl, rfl⟩
abbrev rm_X8_next : Room := { frames := 0, cells := 0, slots := 0, locals := 0 }
set_option maxRecDepth 100000 in
set_option maxHeartbeats 4000000 in
theorem c_X8_next (l : Launch) (D : va_G) (cA : Nat → ClassId) (B : Nat) {lay : ja_Y} {mem : ja_M} {n : Nat} {y : Nat} {sl : Nat → Option Nat} {t : Int} (hB : ja_LB lay y sl) (hO : ja_BO mem y sl t)  : ja_Mt l D cA B yX8_next cX8_next 1 (some .int) rm_X8_next [.ref y] lay mem n (ja_rd lay mem n (some (.int (ja_I (if 999 < mem (y + 1 + 9) 6 then -1004 else mem (y + 1 + 9) 6))))) := by
  refine ja_enter [some (.ref y)] (by decide) (Nat.le_of_ble_eq_true rfl) (fun q hq => hq) (fun C F Rt G hnm => ?_)
  obtain ⟨b1, b2, b3, b4, b5⟩ := id hO
  obtain ⟨g1, g2, g3, g4, g5, g6, g7, g8, g9, g10, g11, g12⟩ := id b1
  obtain ⟨p1, p2, p3, p4, p5, p6⟩ := id g3
  obtain ⟨s0, s1, s2, s3, s4, s5, s6, s7, s8⟩ := id g1
  have tt := g2.1
  have a0 := g4.1
  refine r_aload_n F rfl rfl dX8_next_0 rfl ?_
  refine r_getR F f_X8_10 (hB.1) rfl dX8_next_1 rfl ?_
  refine r_getR F f_X8_92 ((ja_LB_1 hB).1) rfl dX8_next_4 rfl ?_
  refine r_getI F f_X8_120 ((ja_LR_9 (ja_LB_1 hB)).1) rfl dX8_next_7 rfl ?_
  refine r_sipush F (by decide) dX8_next_10 rfl ?_
  refine r_icmp_le F (tgt := 22) ⟨by omega, by omega⟩ ⟨by omega, by omega⟩ dX8_next_13 rfl (by decide) (fun h_13 => ?_) (fun h_13 => ?_)
  ·
    refine r_aload_n F rfl rfl dX8_next_22 rfl ?_
    refine r_getR F f_X8_10 (hB.1) rfl dX8_next_23 rfl ?_
    refine r_getR F f_X8_92 ((ja_LB_1 hB).1) rfl dX8_next_26 rfl ?_
    refine r_getI F f_X8_120 ((ja_LR_9 (ja_LB_1 hB)).1) rfl dX8_next_29 rfl ?_
    exact r_iret F Rt dX8_next_32 (by decide) ⟨by first | rfl | rw [if_pos (by omega)] | rw [if_neg (by omega)], rfl, rfl, rfl⟩
  ·
    refine r_sipush F (by decide) dX8_next_16 rfl ?_
    refine r_goto F (tgt := 32) dX8_next_19 (by decide) ?_
    exact r_iret F Rt dX8_next_32 (by decide) ⟨by first | rfl | rw [if_pos (by omega)] | rw [if_neg (by omega)], rfl, rfl, rfl⟩
abbrev rm_X8_transits : Room := { frames := 0, cells := 0, slots := 0, locals := 0 }
set_option maxRecDepth 100000 in
set_option maxHeartbeats 4000000 in
theorem c_X8_transits (l : Launch) (D : va_G) (cA : Nat → ClassId) (B : Nat) {lay : ja_Y} {mem : ja_M} {n : Nat} {y : Nat} {sl : Nat → Option Nat} {t : Int} (hB : ja_LB lay y sl) (hO : ja_BO mem y sl t)  : ja_Mt l D cA B yX8_transits cX8_transits 1 (some .int) rm_X8_transits [.ref y] lay mem n (ja_rd lay mem n (some (.int (ja_I (mem (y + 1 + 6) 2))))) := by
  refine ja_enter [some (.ref y)] (by decide) (Nat.le_of_ble_eq_true rfl) (fun q hq => hq) (fun C F Rt G hnm => ?_)
  obtain ⟨b1, b2, b3, b4, b5⟩ := id hO
  obtain ⟨g1, g2, g3, g4, g5, g6, g7, g8, g9, g10, g11, g12⟩ := id b1
  obtain ⟨p1, p2, p3, p4, p5, p6⟩ := id g3
  obtain ⟨s0, s1, s2, s3, s4, s5, s6, s7, s8⟩ := id g1
  have tt := g2.1
  have a0 := g4.1
  refine r_aload_n F rfl rfl dX8_transits_0 rfl ?_
  refine r_getR F f_X8_10 (hB.1) rfl dX8_transits_1 rfl ?_
  refine r_getR F f_X8_154 ((ja_LB_1 hB).1) rfl dX8_transits_4 rfl ?_
  refine r_getI F f_X8_158 ((ja_LR_6 (ja_LB_1 hB)).1) rfl dX8_transits_7 rfl ?_
  exact r_iret F Rt dX8_transits_10 (by decide) ⟨by first | rfl | rw [if_pos (by omega)] | rw [if_neg (by omega)], rfl, rfl, rfl⟩
abbrev rm_X8_target : Room := { frames := 2, cells := 0, slots := 0, locals := 41 }
set_option maxRecDepth 100000 in
set_option maxHeartbeats 4000000 in
theorem c_X8_target (l : Launch) (D : va_G) (cA : Nat → ClassId) (B : Nat) {lay : ja_Y} {mem : ja_M} {n : Nat} {y : Nat} {sl : Nat → Option Nat} {t : Int} (hB : ja_LB lay y sl) (hO : ja_BO mem y sl t)  : ja_Mt l D cA B yX8_target cX8_target 1 (some .int) rm_X8_target [.ref y] lay mem n (ja_rd lay mem n (some (.int (ja_I (R_tg mem (y + 1)))))) := by
  refine ja_enter [some (.ref y)] (by decide) (Nat.le_of_ble_eq_true rfl) (fun q hq => hq) (fun C F Rt G hnm => ?_)
  obtain ⟨b1, b2, b3, b4, b5⟩ := id hO
  obtain ⟨g1, g2, g3, g4, g5, g6, g7, g8, g9, g10, g11, g12⟩ := id b1
  obtain ⟨p1, p2, p3, p4, p5, p6⟩ := id g3
  obtain ⟨s0, s1, s2, s3, s4, s5, s6, s7, s8⟩ := id g1
  have tt := g2.1
  have a0 := g4.1
  refine r_aload_n F rfl rfl dX8_target_0 rfl ?_
  refine r_getR F f_X8_10 (hB.1) rfl dX8_target_1 rfl ?_
  refine r_callV F G (c_X5_targetNow _ _ _ _ (ja_LB_1 hB) g1 g2) v_X8_171 rfl ((ja_LB_1 hB).1) rfl (by decide) (by decide) (Nat.le_of_ble_eq_true rfl) rfl dX8_target_4 rfl (fun v lay' mem' n' hp => ?_)
  obtain ⟨q1, q2, q3, q4⟩ := hp
  subst q1; subst q2; subst q3; subst q4
  exact r_iret F Rt dX8_target_7 (by decide) ⟨by first | rfl | rw [if_pos (by omega)] | rw [if_neg (by omega)], rfl, rfl, rfl⟩
abbrev rm_X8_level : Room := { frames := 4, cells := 0, slots := 0, locals := 88 }
set_option maxRecDepth 100000 in
set_option maxHeartbeats 4000000 in
theorem c_X8_level (l : Launch) (D : va_G) (cA : Nat → ClassId) (B : Nat) {lay : ja_Y} {mem : ja_M} {n : Nat} {y : Nat} {sl : Nat → Option Nat} {t : Int} (hB : ja_LB lay y sl) (hO : ja_BO mem y sl t)  : ja_Mt l D cA B yX8_level cX8_level 1 (some .int) rm_X8_level [.ref y] lay mem n (ja_rd lay mem n (some (.int (ja_I (R_lv mem (y + 1) (mem (y + 1 + 9) 6)))))) := by
  refine ja_enter [some (.ref y)] (by decide) (Nat.le_of_ble_eq_true rfl) (fun q hq => hq) (fun C F Rt G hnm => ?_)
  obtain ⟨b1, b2, b3, b4, b5⟩ := id hO
  obtain ⟨g1, g2, g3, g4, g5, g6, g7, g8, g9, g10, g11, g12⟩ := id b1
  obtain ⟨p1, p2, p3, p4, p5, p6⟩ := id g3
  obtain ⟨s0, s1, s2, s3, s4, s5, s6, s7, s8⟩ := id g1
  have tt := g2.1
  have a0 := g4.1
  refine r_aload_n F rfl rfl dX8_level_0 rfl ?_
  refine r_getR F f_X8_10 (hB.1) rfl dX8_level_1 rfl ?_
  refine r_aload_n F rfl rfl dX8_level_4 rfl ?_
  refine r_getR F f_X8_10 (hB.1) rfl dX8_level_5 rfl ?_
  refine r_getR F f_X8_92 ((ja_LB_1 hB).1) rfl dX8_level_8 rfl ?_
  refine r_getI F f_X8_120 ((ja_LR_9 (ja_LB_1 hB)).1) rfl dX8_level_11 rfl ?_
  refine r_callV F G (c_X5_levelFrom _ _ _ _ (ja_LB_1 hB) g1 ⟨by omega, by omega⟩) v_X8_174 rfl ((ja_LB_1 hB).1) rfl (by decide) (by decide) (Nat.le_of_ble_eq_true rfl) rfl dX8_level_14 rfl (fun v lay' mem' n' hp => ?_)
  obtain ⟨q1, q2, q3, q4⟩ := hp
  subst q1; subst q2; subst q3; subst q4
  exact r_iret F Rt dX8_level_17 (by decide) ⟨by first | rfl | rw [if_pos (by omega)] | rw [if_neg (by omega)], rfl, rfl, rfl⟩
abbrev rm_X8_stretched : Room := { frames := 0, cells := 0, slots := 0, locals := 0 }
set_option maxRecDepth 100000 in
set_option maxHeartbeats 4000000 in
theorem c_X8_stretched (l : Launch) (D : va_G) (cA : Nat → ClassId) (B : Nat) {lay : ja_Y} {mem : ja_M} {n : Nat} {y : Nat} {sl : Nat → Option Nat} {t : Int} (hB : ja_LB lay y sl) (hO : ja_BO mem y sl t)  : ja_Mt l D cA B yX8_stretched cX8_stretched 1 (some .int) rm_X8_stretched [.ref y] lay mem n (ja_rd lay mem n (some (.int (ja_I (mem (y + 1 + 14) 3))))) := by
  refine ja_enter [some (.ref y)] (by decide) (Nat.le_of_ble_eq_true rfl) (fun q hq => hq) (fun C F Rt G hnm => ?_)
  obtain ⟨b1, b2, b3, b4, b5⟩ := id hO
  obtain ⟨g1, g2, g3, g4, g5, g6, g7, g8, g9, g10, g11, g12⟩ := id b1
  obtain ⟨p1, p2, p3, p4, p5, p6⟩ := id g3
  obtain ⟨s0, s1, s2, s3, s4, s5, s6, s7, s8⟩ := id g1
  have tt := g2.1
  have a0 := g4.1
  refine r_aload_n F rfl rfl dX8_stretched_0 rfl ?_
  refine r_getR F f_X8_10 (hB.1) rfl dX8_stretched_1 rfl ?_
  refine r_getR F f_X8_177 ((ja_LB_1 hB).1) rfl dX8_stretched_4 rfl ?_
  refine r_getI F f_X8_186 (ja_LR_14 (ja_LB_1 hB)) rfl dX8_stretched_7 rfl ?_
  exact r_iret F Rt dX8_stretched_10 (by decide) ⟨by first | rfl | rw [if_pos (by omega)] | rw [if_neg (by omega)], rfl, rfl, rfl⟩
abbrev rm_X8_compressed : Room := { frames := 0, cells := 0, slots := 0, locals := 0 }
set_option maxRecDepth 100000 in
set_option maxHeartbeats 4000000 in
theorem c_X8_compressed (l : Launch) (D : va_G) (cA : Nat → ClassId) (B : Nat) {lay : ja_Y} {mem : ja_M} {n : Nat} {y : Nat} {sl : Nat → Option Nat} {t : Int} (hB : ja_LB lay y sl) (hO : ja_BO mem y sl t)  : ja_Mt l D cA B yX8_compressed cX8_compressed 1 (some .int) rm_X8_compressed [.ref y] lay mem n (ja_rd lay mem n (some (.int (ja_I (mem (y + 1 + 14) 4))))) := by
  refine ja_enter [some (.ref y)] (by decide) (Nat.le_of_ble_eq_true rfl) (fun q hq => hq) (fun C F Rt G hnm => ?_)
  obtain ⟨b1, b2, b3, b4, b5⟩ := id hO
  obtain ⟨g1, g2, g3, g4, g5, g6, g7, g8, g9, g10, g11, g12⟩ := id b1
  obtain ⟨p1, p2, p3, p4, p5, p6⟩ := id g3
  obtain ⟨s0, s1, s2, s3, s4, s5, s6, s7, s8⟩ := id g1
  have tt := g2.1
  have a0 := g4.1
  refine r_aload_n F rfl rfl dX8_compressed_0 rfl ?_
  refine r_getR F f_X8_10 (hB.1) rfl dX8_compressed_1 rfl ?_
  refine r_getR F f_X8_177 ((ja_LB_1 hB).1) rfl dX8_compressed_4 rfl ?_
  refine r_getI F f_X8_189 (ja_LR_14 (ja_LB_1 hB)) rfl dX8_compressed_7 rfl ?_
  exact r_iret F Rt dX8_compressed_10 (by decide) ⟨by first | rfl | rw [if_pos (by omega)] | rw [if_neg (by omega)], rfl, rfl, rfl⟩
abbrev rm_X8_late : Room := { frames := 0, cells := 0, slots := 0, locals := 0 }
set_option maxRecDepth 100000 in
set_option maxHeartbeats 4000000 in
theorem c_X8_late (l : Launch) (D : va_G) (cA : Nat → ClassId) (B : Nat) {lay : ja_Y} {mem : ja_M} {n : Nat} {y : Nat} {sl : Nat → Option Nat} {t : Int} (hB : ja_LB lay y sl) (hO : ja_BO mem y sl t)  : ja_Mt l D cA B yX8_late cX8_late 1 (some .int) rm_X8_late [.ref y] lay mem n (ja_rd lay mem n (some (.int (ja_I (mem (y + 1 + 14) 5))))) := by
  refine ja_enter [some (.ref y)] (by decide) (Nat.le_of_ble_eq_true rfl) (fun q hq => hq) (fun C F Rt G hnm => ?_)
  obtain ⟨b1, b2, b3, b4, b5⟩ := id hO
  obtain ⟨g1, g2, g3, g4, g5, g6, g7, g8, g9, g10, g11, g12⟩ := id b1
  obtain ⟨p1, p2, p3, p4, p5, p6⟩ := id g3
  obtain ⟨s0, s1, s2, s3, s4, s5, s6, s7, s8⟩ := id g1
  have tt := g2.1
  have a0 := g4.1
  refine r_aload_n F rfl rfl dX8_late_0 rfl ?_
  refine r_getR F f_X8_10 (hB.1) rfl dX8_late_1 rfl ?_
  refine r_getR F f_X8_177 ((ja_LB_1 hB).1) rfl dX8_late_4 rfl ?_
  refine r_getI F f_X8_192 (ja_LR_14 (ja_LB_1 hB)) rfl dX8_late_7 rfl ?_
  exact r_iret F Rt dX8_late_10 (by decide) ⟨by first | rfl | rw [if_pos (by omega)] | rw [if_neg (by omega)], rfl, rfl, rfl⟩
abbrev rm_X8_duplicates : Room := { frames := 0, cells := 0, slots := 0, locals := 0 }
set_option maxRecDepth 100000 in
set_option maxHeartbeats 4000000 in
theorem c_X8_duplicates (l : Launch) (D : va_G) (cA : Nat → ClassId) (B : Nat) {lay : ja_Y} {mem : ja_M} {n : Nat} {y : Nat} {sl : Nat → Option Nat} {t : Int} (hB : ja_LB lay y sl) (hO : ja_BO mem y sl t)  : ja_Mt l D cA B yX8_duplicates cX8_duplicates 1 (some .int) rm_X8_duplicates [.ref y] lay mem n (ja_rd lay mem n (some (.int (ja_I (mem (y + 1 + 14) 6))))) := by
  refine ja_enter [some (.ref y)] (by decide) (Nat.le_of_ble_eq_true rfl) (fun q hq => hq) (fun C F Rt G hnm => ?_)
  obtain ⟨b1, b2, b3, b4, b5⟩ := id hO
  obtain ⟨g1, g2, g3, g4, g5, g6, g7, g8, g9, g10, g11, g12⟩ := id b1
  obtain ⟨p1, p2, p3, p4, p5, p6⟩ := id g3
  obtain ⟨s0, s1, s2, s3, s4, s5, s6, s7, s8⟩ := id g1
  have tt := g2.1
  have a0 := g4.1
  refine r_aload_n F rfl rfl dX8_duplicates_0 rfl ?_
  refine r_getR F f_X8_10 (hB.1) rfl dX8_duplicates_1 rfl ?_
  refine r_getR F f_X8_177 ((ja_LB_1 hB).1) rfl dX8_duplicates_4 rfl ?_
  refine r_getI F f_X8_195 (ja_LR_14 (ja_LB_1 hB)) rfl dX8_duplicates_7 rfl ?_
  exact r_iret F Rt dX8_duplicates_10 (by decide) ⟨by first | rfl | rw [if_pos (by omega)] | rw [if_neg (by omega)], rfl, rfl, rfl⟩
abbrev rm_X8_longestGap : Room := { frames := 0, cells := 0, slots := 0, locals := 0 }
set_option maxRecDepth 100000 in
set_option maxHeartbeats 4000000 in
theorem c_X8_longestGap (l : Launch) (D : va_G) (cA : Nat → ClassId) (B : Nat) {lay : ja_Y} {mem : ja_M} {n : Nat} {y : Nat} {sl : Nat → Option Nat} {t : Int} (hB : ja_LB lay y sl) (hO : ja_BO mem y sl t)  : ja_Mt l D cA B yX8_longestGap cX8_longestGap 1 (some .int) rm_X8_longestGap [.ref y] lay mem n (ja_rd lay mem n (some (.int (ja_I (mem (y + 1 + 14) 8))))) := by
  refine ja_enter [some (.ref y)] (by decide) (Nat.le_of_ble_eq_true rfl) (fun q hq => hq) (fun C F Rt G hnm => ?_)
  obtain ⟨b1, b2, b3, b4, b5⟩ := id hO
  obtain ⟨g1, g2, g3, g4, g5, g6, g7, g8, g9, g10, g11, g12⟩ := id b1
  obtain ⟨p1, p2, p3, p4, p5, p6⟩ := id g3
  obtain ⟨s0, s1, s2, s3, s4, s5, s6, s7, s8⟩ := id g1
  have tt := g2.1
  have a0 := g4.1
  refine r_aload_n F rfl rfl dX8_longestGap_0 rfl ?_
  refine r_getR F f_X8_10 (hB.1) rfl dX8_longestGap_1 rfl ?_
  refine r_getR F f_X8_177 ((ja_LB_1 hB).1) rfl dX8_longestGap_4 rfl ?_
  refine r_getI F f_X8_204 (ja_LR_14 (ja_LB_1 hB)) rfl dX8_longestGap_7 rfl ?_
  exact r_iret F Rt dX8_longestGap_10 (by decide) ⟨by first | rfl | rw [if_pos (by omega)] | rw [if_neg (by omega)], rfl, rfl, rfl⟩
abbrev rm_X8_scheduled : Room := { frames := 0, cells := 0, slots := 0, locals := 0 }
set_option maxRecDepth 100000 in
set_option maxHeartbeats 4000000 in
theorem c_X8_scheduled (l : Launch) (D : va_G) (cA : Nat → ClassId) (B : Nat) {lay : ja_Y} {mem : ja_M} {n : Nat} {y : Nat} {sl : Nat → Option Nat} {t : Int} (hB : ja_LB lay y sl) (hO : ja_BO mem y sl t)  : ja_Mt l D cA B yX8_scheduled cX8_scheduled 1 (some .int) rm_X8_scheduled [.ref y] lay mem n (ja_rd lay mem n (some (.int (ja_I (mem (y + 1 + 15) 4))))) := by
  refine ja_enter [some (.ref y)] (by decide) (Nat.le_of_ble_eq_true rfl) (fun q hq => hq) (fun C F Rt G hnm => ?_)
  obtain ⟨b1, b2, b3, b4, b5⟩ := id hO
  obtain ⟨g1, g2, g3, g4, g5, g6, g7, g8, g9, g10, g11, g12⟩ := id b1
  obtain ⟨p1, p2, p3, p4, p5, p6⟩ := id g3
  obtain ⟨s0, s1, s2, s3, s4, s5, s6, s7, s8⟩ := id g1
  have tt := g2.1
  have a0 := g4.1
  refine r_aload_n F rfl rfl dX8_scheduled_0 rfl ?_
  refine r_getR F f_X8_10 (hB.1) rfl dX8_scheduled_1 rfl ?_
  refine r_getR F f_X8_228 ((ja_LB_1 hB).1) rfl dX8_scheduled_4 rfl ?_
  refine r_getI F f_X8_222 ((ja_LR_15 (ja_LB_1 hB)).1) rfl dX8_scheduled_7 rfl ?_
  exact r_iret F Rt dX8_scheduled_10 (by decide) ⟨by first | rfl | rw [if_pos (by omega)] | rw [if_neg (by omega)], rfl, rfl, rfl⟩
abbrev rm_X8_isFrame : Room := { frames := 0, cells := 0, slots := 0, locals := 0 }
set_option maxRecDepth 100000 in
set_option maxHeartbeats 4000000 in
theorem c_X8_isFrame (l : Launch) (D : va_G) (cA : Nat → ClassId) (B : Nat) {lay : ja_Y} {mem : ja_M} {n : Nat} {x : Int} (hx : ja_in x) : ja_Mt l D cA B yX8_isFrame cX8_isFrame 1 (some .boolean) rm_X8_isFrame [.int (ja_I x)] lay mem n (ja_rd lay mem n (some (.int (ja_I (ja_b (B_isF x)))))) := by
  refine ja_enter [some (.int (ja_I x))] (by decide) (Nat.le_of_ble_eq_true rfl) (fun q hq => hq) (fun C F Rt G hnm => ?_)
  obtain ⟨hx1, hx2⟩ := hx
  refine r_iload_n F rfl rfl dX8_isFrame_0 rfl ?_
  refine r_if_lt F (tgt := 15) ⟨by omega, by omega⟩ dX8_isFrame_1 rfl (by decide) (fun h_1 => ?_) (fun h_1 => ?_)
  ·
    refine r_iconst F dX8_isFrame_15 rfl ?_
    exact r_zret F Rt (by omega) dX8_isFrame_16 (by decide) ⟨by simp only [ja_b]; split <;> first | rfl | (exfalso; omega), rfl, rfl, rfl⟩
  ·
    refine r_iload_n F rfl rfl dX8_isFrame_4 rfl ?_
    refine r_sipush F (by decide) dX8_isFrame_5 rfl ?_
    refine r_icmp_gt F (tgt := 15) ⟨by omega, by omega⟩ ⟨by omega, by omega⟩ dX8_isFrame_8 rfl (by decide) (fun h_8 => ?_) (fun h_8 => ?_)
    ·
      refine r_iconst F dX8_isFrame_15 rfl ?_
      exact r_zret F Rt (by omega) dX8_isFrame_16 (by decide) ⟨by simp only [ja_b]; split <;> first | rfl | (exfalso; omega), rfl, rfl, rfl⟩
    ·
      refine r_iconst F dX8_isFrame_11 rfl ?_
      refine r_goto F (tgt := 16) dX8_isFrame_12 (by decide) ?_
      exact r_zret F Rt (by omega) dX8_isFrame_16 (by decide) ⟨by simp only [ja_b]; split <;> first | rfl | (exfalso; omega), rfl, rfl, rfl⟩
abbrev rm_X8_taken : Room := { frames := 1, cells := 0, slots := 0, locals := 21 }
set_option maxRecDepth 100000 in
set_option maxHeartbeats 4000000 in
theorem c_X8_taken (l : Launch) (D : va_G) (cA : Nat → ClassId) (B : Nat) {lay : ja_Y} {mem : ja_M} {n : Nat} {k : Int} {y : Nat} {sl : Nat → Option Nat} {t : Int} (hB : ja_LB lay y sl) (hO : ja_BO mem y sl t) (hk : ja_in k)  : ja_Mt l D cA B yX8_taken cX8_taken 2 (some .int) rm_X8_taken [.ref y, .int (ja_I k)] lay mem n (ja_rd lay mem n (some (.int (ja_I (if 1 ≤ k ∧ k ≤ 3 then (if k = 3 then mem (y + 1 + 14) 2 else if k = 1 then mem (y + 1 + 14) 0 else mem (y + 1 + 14) 1) else -1001))))) := by
  refine ja_enter [some (.ref y), some (.int (ja_I k))] (by decide) (Nat.le_of_ble_eq_true rfl) (fun q hq => hq) (fun C F Rt G hnm => ?_)
  obtain ⟨b1, b2, b3, b4, b5⟩ := id hO
  obtain ⟨g1, g2, g3, g4, g5, g6, g7, g8, g9, g10, g11, g12⟩ := id b1
  obtain ⟨p1, p2, p3, p4, p5, p6⟩ := id g3
  obtain ⟨s0, s1, s2, s3, s4, s5, s6, s7, s8⟩ := id g1
  have tt := g2.1
  have a0 := g4.1
  obtain ⟨k1_, k2_⟩ := id hk
  refine r_iload_n F rfl rfl dX8_taken_0 rfl ?_
  refine r_iconst F dX8_taken_1 rfl ?_
  refine r_icmp_lt F (tgt := 10) ⟨by omega, by omega⟩ ⟨by omega, by omega⟩ dX8_taken_2 rfl (by decide) (fun h_2 => ?_) (fun h_2 => ?_)
  ·
    refine r_sipush F (by decide) dX8_taken_10 rfl ?_
    exact r_iret F Rt dX8_taken_13 (by decide) ⟨by first | rfl | rw [if_pos (by omega)] | rw [if_neg (by omega)], rfl, rfl, rfl⟩
  ·
    refine r_iload_n F rfl rfl dX8_taken_5 rfl ?_
    refine r_iconst F dX8_taken_6 rfl ?_
    refine r_icmp_le F (tgt := 14) ⟨by omega, by omega⟩ ⟨by omega, by omega⟩ dX8_taken_7 rfl (by decide) (fun h_7 => ?_) (fun h_7 => ?_)
    ·
      refine r_aload_n F rfl rfl dX8_taken_14 rfl ?_
      refine r_getR F f_X8_10 (hB.1) rfl dX8_taken_15 rfl ?_
      refine r_getR F f_X8_177 ((ja_LB_1 hB).1) rfl dX8_taken_18 rfl ?_
      refine r_iload_n F rfl rfl dX8_taken_21 rfl ?_
      refine r_callV F G (c_X2_takenAs _ _ _ _ (ja_LR_14 (ja_LB_1 hB)) ⟨by omega, by omega⟩) v_X8_181 rfl (ja_LR_14 (ja_LB_1 hB)) rfl (by decide) (by decide) (Nat.le_of_ble_eq_true rfl) rfl dX8_taken_22 rfl (fun v lay' mem' n' hp => ?_)
      obtain ⟨q1, q2, q3, q4⟩ := hp
      subst q1; subst q2; subst q3; subst q4
      exact r_iret F Rt dX8_taken_25 (by decide) ⟨by first | rfl | rw [if_pos (by omega)] | rw [if_neg (by omega)], rfl, rfl, rfl⟩
    ·
      refine r_sipush F (by decide) dX8_taken_10 rfl ?_
      exact r_iret F Rt dX8_taken_13 (by decide) ⟨by first | rfl | rw [if_pos (by omega)] | rw [if_neg (by omega)], rfl, rfl, rfl⟩
abbrev rm_X8_output : Room := { frames := 1, cells := 0, slots := 0, locals := 21 }
set_option maxRecDepth 100000 in
set_option maxHeartbeats 4000000 in
theorem c_X8_output (l : Launch) (D : va_G) (cA : Nat → ClassId) (B : Nat) {lay : ja_Y} {mem : ja_M} {n : Nat} {k : Int} {y : Nat} {sl : Nat → Option Nat} {t : Int} (hB : ja_LB lay y sl) (hO : ja_BO mem y sl t) (hk : ja_in k)  : ja_Mt l D cA B yX8_output cX8_output 2 (some .int) rm_X8_output [.ref y, .int (ja_I k)] lay mem n (ja_rd lay mem n (some (.int (ja_I (if 1 ≤ k ∧ k ≤ 256 then (if mem (y + 1 + 9) 4 < k then -1004 else mem (y + 1 + 9 + 2) ((mem (y + 1 + 9) 4 - k) % 256).toNat) else -1001))))) := by
  refine ja_enter [some (.ref y), some (.int (ja_I k))] (by decide) (Nat.le_of_ble_eq_true rfl) (fun q hq => hq) (fun C F Rt G hnm => ?_)
  obtain ⟨b1, b2, b3, b4, b5⟩ := id hO
  obtain ⟨g1, g2, g3, g4, g5, g6, g7, g8, g9, g10, g11, g12⟩ := id b1
  obtain ⟨p1, p2, p3, p4, p5, p6⟩ := id g3
  obtain ⟨s0, s1, s2, s3, s4, s5, s6, s7, s8⟩ := id g1
  have tt := g2.1
  have a0 := g4.1
  obtain ⟨k1_, k2_⟩ := id hk
  refine r_iload_n F rfl rfl dX8_output_0 rfl ?_
  refine r_iconst F dX8_output_1 rfl ?_
  refine r_icmp_lt F (tgt := 12) ⟨by omega, by omega⟩ ⟨by omega, by omega⟩ dX8_output_2 rfl (by decide) (fun h_2 => ?_) (fun h_2 => ?_)
  ·
    refine r_sipush F (by decide) dX8_output_12 rfl ?_
    exact r_iret F Rt dX8_output_15 (by decide) ⟨by rw [if_neg (by omega)], rfl, rfl, rfl⟩
  ·
    refine r_iload_n F rfl rfl dX8_output_5 rfl ?_
    refine r_sipush F (by decide) dX8_output_6 rfl ?_
    refine r_icmp_le F (tgt := 16) ⟨by omega, by omega⟩ ⟨by omega, by omega⟩ dX8_output_9 rfl (by decide) (fun h_9 => ?_) (fun h_9 => ?_)
    ·
      refine r_iload_n F rfl rfl dX8_output_16 rfl ?_
      refine r_aload_n F rfl rfl dX8_output_17 rfl ?_
      refine r_getR F f_X8_10 (hB.1) rfl dX8_output_18 rfl ?_
      refine r_getR F f_X8_92 ((ja_LB_1 hB).1) rfl dX8_output_21 rfl ?_
      refine r_getI F f_X8_96 ((ja_LR_9 (ja_LB_1 hB)).1) rfl dX8_output_24 rfl ?_
      refine r_icmp_le F (tgt := 36) ⟨by omega, by omega⟩ ⟨by omega, by omega⟩ dX8_output_27 rfl (by decide) (fun h_27 => ?_) (fun h_27 => ?_)
      ·
        refine r_aload_n F rfl rfl dX8_output_36 rfl ?_
        refine r_getR F f_X8_10 (hB.1) rfl dX8_output_37 rfl ?_
        refine r_getR F f_X8_92 ((ja_LB_1 hB).1) rfl dX8_output_40 rfl ?_
        refine r_iload_n F rfl rfl dX8_output_43 rfl ?_
        refine r_callV F G (c_X4_outputAt _ _ _ _ (ja_LR_9 (ja_LB_1 hB)) ⟨by omega, by omega⟩ ⟨by omega, by omega⟩) v_X8_113 rfl ((ja_LR_9 (ja_LB_1 hB)).1) rfl (by decide) (by decide) (Nat.le_of_ble_eq_true rfl) rfl dX8_output_44 rfl (fun v lay' mem' n' hp => ?_)
        obtain ⟨q1, q2, q3, q4⟩ := hp
        subst q1; subst q2; subst q3; subst q4
        exact r_iret F Rt dX8_output_47 (by decide) ⟨by rw [if_pos ⟨by omega, by omega⟩]; first | rw [if_pos (by omega)] | rw [if_neg (by omega)], rfl, rfl, rfl⟩
      ·
        refine r_sipush F (by decide) dX8_output_30 rfl ?_
        refine r_goto F (tgt := 47) dX8_output_33 (by decide) ?_
        exact r_iret F Rt dX8_output_47 (by decide) ⟨by rw [if_pos ⟨by omega, by omega⟩]; first | rw [if_pos (by omega)] | rw [if_neg (by omega)], rfl, rfl, rfl⟩
    ·
      refine r_sipush F (by decide) dX8_output_12 rfl ?_
      exact r_iret F Rt dX8_output_15 (by decide) ⟨by rw [if_neg (by omega)], rfl, rfl, rfl⟩
abbrev rm_X8_kind : Room := { frames := 1, cells := 0, slots := 0, locals := 21 }
set_option maxRecDepth 100000 in
set_option maxHeartbeats 4000000 in
theorem c_X8_kind (l : Launch) (D : va_G) (cA : Nat → ClassId) (B : Nat) {lay : ja_Y} {mem : ja_M} {n : Nat} {k : Int} {y : Nat} {sl : Nat → Option Nat} {t : Int} (hB : ja_LB lay y sl) (hO : ja_BO mem y sl t) (hk : ja_in k)  : ja_Mt l D cA B yX8_kind cX8_kind 2 (some .int) rm_X8_kind [.ref y, .int (ja_I k)] lay mem n (ja_rd lay mem n (some (.int (ja_I (if 1 ≤ k ∧ k ≤ 32 then (if mem (y + 1 + 9) 6 < k then -1004 else mem (y + 1 + 9 + 3) ((mem (y + 1 + 9) 6 - k) % 32).toNat) else -1001))))) := by
  refine ja_enter [some (.ref y), some (.int (ja_I k))] (by decide) (Nat.le_of_ble_eq_true rfl) (fun q hq => hq) (fun C F Rt G hnm => ?_)
  obtain ⟨b1, b2, b3, b4, b5⟩ := id hO
  obtain ⟨g1, g2, g3, g4, g5, g6, g7, g8, g9, g10, g11, g12⟩ := id b1
  obtain ⟨p1, p2, p3, p4, p5, p6⟩ := id g3
  obtain ⟨s0, s1, s2, s3, s4, s5, s6, s7, s8⟩ := id g1
  have tt := g2.1
  have a0 := g4.1
  obtain ⟨k1_, k2_⟩ := id hk
  refine r_iload_n F rfl rfl dX8_kind_0 rfl ?_
  refine r_iconst F dX8_kind_1 rfl ?_
  refine r_icmp_lt F (tgt := 11) ⟨by omega, by omega⟩ ⟨by omega, by omega⟩ dX8_kind_2 rfl (by decide) (fun h_2 => ?_) (fun h_2 => ?_)
  ·
    refine r_sipush F (by decide) dX8_kind_11 rfl ?_
    exact r_iret F Rt dX8_kind_14 (by decide) ⟨by rw [if_neg (by omega)], rfl, rfl, rfl⟩
  ·
    refine r_iload_n F rfl rfl dX8_kind_5 rfl ?_
    refine r_bipush F (by decide) dX8_kind_6 rfl ?_
    refine r_icmp_le F (tgt := 15) ⟨by omega, by omega⟩ ⟨by omega, by omega⟩ dX8_kind_8 rfl (by decide) (fun h_8 => ?_) (fun h_8 => ?_)
    ·
      refine r_iload_n F rfl rfl dX8_kind_15 rfl ?_
      refine r_aload_n F rfl rfl dX8_kind_16 rfl ?_
      refine r_getR F f_X8_10 (hB.1) rfl dX8_kind_17 rfl ?_
      refine r_getR F f_X8_92 ((ja_LB_1 hB).1) rfl dX8_kind_20 rfl ?_
      refine r_getI F f_X8_120 ((ja_LR_9 (ja_LB_1 hB)).1) rfl dX8_kind_23 rfl ?_
      refine r_icmp_le F (tgt := 35) ⟨by omega, by omega⟩ ⟨by omega, by omega⟩ dX8_kind_26 rfl (by decide) (fun h_26 => ?_) (fun h_26 => ?_)
      ·
        refine r_aload_n F rfl rfl dX8_kind_35 rfl ?_
        refine r_getR F f_X8_10 (hB.1) rfl dX8_kind_36 rfl ?_
        refine r_getR F f_X8_92 ((ja_LB_1 hB).1) rfl dX8_kind_39 rfl ?_
        refine r_iload_n F rfl rfl dX8_kind_42 rfl ?_
        refine r_callV F G (c_X4_kindAt _ _ _ _ (ja_LR_9 (ja_LB_1 hB)) ⟨by omega, by omega⟩ ⟨by omega, by omega⟩) v_X8_123 rfl ((ja_LR_9 (ja_LB_1 hB)).1) rfl (by decide) (by decide) (Nat.le_of_ble_eq_true rfl) rfl dX8_kind_43 rfl (fun v lay' mem' n' hp => ?_)
        obtain ⟨q1, q2, q3, q4⟩ := hp
        subst q1; subst q2; subst q3; subst q4
        exact r_iret F Rt dX8_kind_46 (by decide) ⟨by rw [if_pos ⟨by omega, by omega⟩]; first | rw [if_pos (by omega)] | rw [if_neg (by omega)], rfl, rfl, rfl⟩
      ·
        refine r_sipush F (by decide) dX8_kind_29 rfl ?_
        refine r_goto F (tgt := 46) dX8_kind_32 (by decide) ?_
        exact r_iret F Rt dX8_kind_46 (by decide) ⟨by rw [if_pos ⟨by omega, by omega⟩]; first | rw [if_pos (by omega)] | rw [if_neg (by omega)], rfl, rfl, rfl⟩
    ·
      refine r_sipush F (by decide) dX8_kind_11 rfl ?_
      exact r_iret F Rt dX8_kind_14 (by decide) ⟨by rw [if_neg (by omega)], rfl, rfl, rfl⟩
abbrev rm_X8_state : Room := { frames := 2, cells := 0, slots := 0, locals := 44 }
set_option maxRecDepth 100000 in
set_option maxHeartbeats 4000000 in
theorem c_X8_state (l : Launch) (D : va_G) (cA : Nat → ClassId) (B : Nat) {lay : ja_Y} {mem : ja_M} {n : Nat} {x : Int} {y : Nat} {sl : Nat → Option Nat} {t : Int} (hB : ja_LB lay y sl) (hO : ja_BO mem y sl t) (hx : ja_in x)  : ja_Mt l D cA B yX8_state cX8_state 2 (some .int) rm_X8_state [.ref y, .int (ja_I x)] lay mem n (ja_rd lay mem n (some (.int (ja_I (if B_isF x then F_st mem (y + 1 + 1) (y + 1 + 2) x else -1001))))) := by
  refine ja_enter [some (.ref y), some (.int (ja_I x))] (by decide) (Nat.le_of_ble_eq_true rfl) (fun q hq => hq) (fun C F Rt G hnm => ?_)
  obtain ⟨b1, b2, b3, b4, b5⟩ := id hO
  obtain ⟨g1, g2, g3, g4, g5, g6, g7, g8, g9, g10, g11, g12⟩ := id b1
  obtain ⟨p1, p2, p3, p4, p5, p6⟩ := id g3
  obtain ⟨s0, s1, s2, s3, s4, s5, s6, s7, s8⟩ := id g1
  have tt := g2.1
  have a0 := g4.1
  obtain ⟨x1_, x2_⟩ := id hx
  have hbf : ja_b (B_isF x) = 0 ↔ ¬ B_isF x := by unfold ja_b; split <;> simp_all
  have hbr : 0 ≤ ja_b (B_isF x) ∧ ja_b (B_isF x) ≤ 1 := by unfold ja_b; split <;> omega
  refine r_iload_n F rfl rfl dX8_state_0 rfl ?_
  refine r_callS F G (c_X8_isFrame _ _ _ _ hx) s_X8_76 rfl (by decide) (by decide) (Nat.le_of_ble_eq_true rfl) rfl dX8_state_1 rfl (fun v lay' mem' n' hp => ?_)
  obtain ⟨q1, q2, q3, q4⟩ := hp
  subst q1; subst q2; subst q3; subst q4
  refine r_if_ne F (tgt := 11) ⟨by omega, by omega⟩ dX8_state_4 rfl (by decide) (fun h_4 => ?_) (fun h_4 => ?_)
  ·
    refine r_aload_n F rfl rfl dX8_state_11 rfl ?_
    refine r_getR F f_X8_10 (hB.1) rfl dX8_state_12 rfl ?_
    refine r_getR F f_X8_126 ((ja_LB_1 hB).1) rfl dX8_state_15 rfl ?_
    refine r_aload_n F rfl rfl dX8_state_18 rfl ?_
    refine r_getR F f_X8_10 (hB.1) rfl dX8_state_19 rfl ?_
    refine r_getR F f_X8_43 ((ja_LB_1 hB).1) rfl dX8_state_22 rfl ?_
    refine r_iload_n F rfl rfl dX8_state_25 rfl ?_
    refine r_callV F G (c_X3_stateOf _ _ _ _ (ja_LR_2 (ja_LB_1 hB)) (ja_LR_1 (ja_LB_1 hB)) g1 (Decidable.byContradiction fun q => h_4 (hbf.mpr q))) v_X8_130 rfl ((ja_LR_2 (ja_LB_1 hB)).1) rfl (by decide) (by decide) (Nat.le_of_ble_eq_true rfl) rfl dX8_state_26 rfl (fun v lay' mem' n' hp => ?_)
    obtain ⟨q1, q2, q3, q4⟩ := hp
    subst q1; subst q2; subst q3; subst q4
    exact r_iret F Rt dX8_state_29 (by decide) ⟨by rw [if_pos (Decidable.byContradiction fun q => h_4 (hbf.mpr q))], rfl, rfl, rfl⟩
  ·
    refine r_sipush F (by decide) dX8_state_7 rfl ?_
    exact r_iret F Rt dX8_state_10 (by decide) ⟨by rw [if_neg (hbf.mp h_4)], rfl, rfl, rfl⟩
abbrev rm_X8_sample : Room := { frames := 1, cells := 0, slots := 0, locals := 23 }
set_option maxRecDepth 100000 in
set_option maxHeartbeats 4000000 in
theorem c_X8_sample (l : Launch) (D : va_G) (cA : Nat → ClassId) (B : Nat) {lay : ja_Y} {mem : ja_M} {n : Nat} {x j : Int} {y : Nat} {sl : Nat → Option Nat} {t : Int} (hB : ja_LB lay y sl) (hO : ja_BO mem y sl t) (hx : ja_in x) (hj : ja_in j)  : ja_Mt l D cA B yX8_sample cX8_sample 3 (some .int) rm_X8_sample [.ref y, .int (ja_I x), .int (ja_I j)] lay mem n (ja_rd lay mem n (some (.int (ja_I (if B_isF x ∧ 0 ≤ j ∧ j < mem (y + 1 + 1) 0 then ja_wave mem (y + 1 + 1) x j else -1001))))) := by
  refine ja_enter [some (.ref y), some (.int (ja_I x)), some (.int (ja_I j))] (by decide) (Nat.le_of_ble_eq_true rfl) (fun q hq => hq) (fun C F Rt G hnm => ?_)
  obtain ⟨b1, b2, b3, b4, b5⟩ := id hO
  obtain ⟨g1, g2, g3, g4, g5, g6, g7, g8, g9, g10, g11, g12⟩ := id b1
  obtain ⟨p1, p2, p3, p4, p5, p6⟩ := id g3
  obtain ⟨s0, s1, s2, s3, s4, s5, s6, s7, s8⟩ := id g1
  have tt := g2.1
  have a0 := g4.1
  obtain ⟨x1_, x2_⟩ := id hx
  obtain ⟨j1_, j2_⟩ := id hj
  have hbf : ja_b (B_isF x) = 0 ↔ ¬ B_isF x := by unfold ja_b; split <;> simp_all
  have hbr : 0 ≤ ja_b (B_isF x) ∧ ja_b (B_isF x) ≤ 1 := by unfold ja_b; split <;> omega
  refine r_iload_n F rfl rfl dX8_sample_0 rfl ?_
  refine r_callS F G (c_X8_isFrame _ _ _ _ hx) s_X8_76 rfl (by decide) (by decide) (Nat.le_of_ble_eq_true rfl) rfl dX8_sample_1 rfl (fun v lay' mem' n' hp => ?_)
  obtain ⟨q1, q2, q3, q4⟩ := hp
  subst q1; subst q2; subst q3; subst q4
  refine r_if_eq F (tgt := 25) ⟨by omega, by omega⟩ dX8_sample_4 rfl (by decide) (fun h_4 => ?_) (fun h_4 => ?_)
  ·
    refine r_sipush F (by decide) dX8_sample_25 rfl ?_
    exact r_iret F Rt dX8_sample_28 (by decide) ⟨by first | rw [if_neg (fun q => hbf.mp h_4 q.1)] | rw [if_neg (by omega)], rfl, rfl, rfl⟩
  ·
    have h4 := Decidable.byContradiction fun q => h_4 (hbf.mpr q)
    refine r_iload_n F rfl rfl dX8_sample_7 rfl ?_
    refine r_if_lt F (tgt := 25) ⟨by omega, by omega⟩ dX8_sample_8 rfl (by decide) (fun h_8 => ?_) (fun h_8 => ?_)
    ·
      refine r_sipush F (by decide) dX8_sample_25 rfl ?_
      exact r_iret F Rt dX8_sample_28 (by decide) ⟨by first | rw [if_neg (fun q => hbf.mp h_4 q.1)] | rw [if_neg (by omega)], rfl, rfl, rfl⟩
    ·
      refine r_iload_n F rfl rfl dX8_sample_11 rfl ?_
      refine r_aload_n F rfl rfl dX8_sample_12 rfl ?_
      refine r_getR F f_X8_10 (hB.1) rfl dX8_sample_13 rfl ?_
      refine r_getR F f_X8_43 ((ja_LB_1 hB).1) rfl dX8_sample_16 rfl ?_
      refine r_getI F f_X8_47 (ja_LR_1 (ja_LB_1 hB)) rfl dX8_sample_19 rfl ?_
      refine r_icmp_lt F (tgt := 29) ⟨by omega, by omega⟩ ⟨by omega, by omega⟩ dX8_sample_22 rfl (by decide) (fun h_22 => ?_) (fun h_22 => ?_)
      ·
        refine r_aload_n F rfl rfl dX8_sample_29 rfl ?_
        refine r_getR F f_X8_10 (hB.1) rfl dX8_sample_30 rfl ?_
        refine r_getR F f_X8_43 ((ja_LB_1 hB).1) rfl dX8_sample_33 rfl ?_
        refine r_iload_n F rfl rfl dX8_sample_36 rfl ?_
        refine r_iload_n F rfl rfl dX8_sample_37 rfl ?_
        refine r_callV F G (c_X6_waveAt _ _ _ _ (ja_LR_1 (ja_LB_1 hB)) g1 ⟨h4.1, by have := h4.2; omega⟩ ⟨by omega, by omega⟩) v_X8_136 rfl (ja_LR_1 (ja_LB_1 hB)) rfl (by decide) (by decide) (Nat.le_of_ble_eq_true rfl) rfl dX8_sample_38 rfl (fun v lay' mem' n' hp => ?_)
        obtain ⟨q1, q2, q3, q4⟩ := hp
        subst q1; subst q2; subst q3; subst q4
        exact r_iret F Rt dX8_sample_41 (by decide) ⟨by rw [if_pos ⟨h4, by omega, by omega⟩], rfl, rfl, rfl⟩
      ·
        refine r_sipush F (by decide) dX8_sample_25 rfl ?_
        exact r_iret F Rt dX8_sample_28 (by decide) ⟨by first | rw [if_neg (fun q => hbf.mp h_4 q.1)] | rw [if_neg (by omega)], rfl, rfl, rfl⟩
abbrev rm_X8_transit : Room := { frames := 1, cells := 0, slots := 0, locals := 21 }
set_option maxRecDepth 100000 in
set_option maxHeartbeats 4000000 in
theorem c_X8_transit (l : Launch) (D : va_G) (cA : Nat → ClassId) (B : Nat) {lay : ja_Y} {mem : ja_M} {n : Nat} {k : Int} {y : Nat} {sl : Nat → Option Nat} {t : Int} (hB : ja_LB lay y sl) (hO : ja_BO mem y sl t) (hk : ja_in k)  : ja_Mt l D cA B yX8_transit cX8_transit 2 (some .int) rm_X8_transit [.ref y, .int (ja_I k)] lay mem n (ja_rd lay mem n (some (.int (ja_I (if 0 ≤ k ∧ k < mem (y + 1 + 6) 2 then (if -999 < mem (y + 1 + 6 + 2) k.toNat then mem (y + 1 + 6 + 2) k.toNat else -999) else -1001))))) := by
  refine ja_enter [some (.ref y), some (.int (ja_I k))] (by decide) (Nat.le_of_ble_eq_true rfl) (fun q hq => hq) (fun C F Rt G hnm => ?_)
  obtain ⟨b1, b2, b3, b4, b5⟩ := id hO
  obtain ⟨g1, g2, g3, g4, g5, g6, g7, g8, g9, g10, g11, g12⟩ := id b1
  obtain ⟨p1, p2, p3, p4, p5, p6⟩ := id g3
  obtain ⟨s0, s1, s2, s3, s4, s5, s6, s7, s8⟩ := id g1
  have tt := g2.1
  have a0 := g4.1
  obtain ⟨k1_, k2_⟩ := id hk
  refine r_iload_n F rfl rfl dX8_transit_0 rfl ?_
  refine r_if_lt F (tgt := 18) ⟨by omega, by omega⟩ dX8_transit_1 rfl (by decide) (fun h_1 => ?_) (fun h_1 => ?_)
  ·
    refine r_sipush F (by decide) dX8_transit_18 rfl ?_
    exact r_iret F Rt dX8_transit_21 (by decide) ⟨by rw [if_neg (by omega)], rfl, rfl, rfl⟩
  ·
    refine r_iload_n F rfl rfl dX8_transit_4 rfl ?_
    refine r_aload_n F rfl rfl dX8_transit_5 rfl ?_
    refine r_getR F f_X8_10 (hB.1) rfl dX8_transit_6 rfl ?_
    refine r_getR F f_X8_154 ((ja_LB_1 hB).1) rfl dX8_transit_9 rfl ?_
    refine r_getI F f_X8_158 ((ja_LR_6 (ja_LB_1 hB)).1) rfl dX8_transit_12 rfl ?_
    refine r_icmp_lt F (tgt := 22) ⟨by omega, by omega⟩ ⟨by omega, by omega⟩ dX8_transit_15 rfl (by decide) (fun h_15 => ?_) (fun h_15 => ?_)
    ·
      refine r_sipush F (by decide) dX8_transit_22 rfl ?_
      refine r_aload_n F rfl rfl dX8_transit_25 rfl ?_
      refine r_getR F f_X8_10 (hB.1) rfl dX8_transit_26 rfl ?_
      refine r_getR F f_X8_154 ((ja_LB_1 hB).1) rfl dX8_transit_29 rfl ?_
      refine r_iload_n F rfl rfl dX8_transit_32 rfl ?_
      refine r_callV F G (c_X7_ascendingAt _ _ _ _ (ja_LR_6 (ja_LB_1 hB)) ⟨by omega, by omega⟩) v_X8_163 rfl ((ja_LR_6 (ja_LB_1 hB)).1) rfl (by decide) (by decide) (Nat.le_of_ble_eq_true rfl) rfl dX8_transit_33 rfl (fun v lay' mem' n' hp => ?_)
      obtain ⟨q1, q2, q3, q4⟩ := hp
      subst q1; subst q2; subst q3; subst q4
      have q2 := g2.2.2.2 k.toNat
      obtain ⟨q3, q4⟩ := q2
      refine r_mmax F ⟨by omega, by omega⟩ ⟨by omega, by omega⟩ s_X8_166 (Nat.le_of_ble_eq_true rfl) (by decide) (by decide) (by decide) dX8_transit_36 rfl ?_
      exact r_iret F Rt dX8_transit_39 (by decide) ⟨by rw [if_pos ⟨by omega, by omega⟩], rfl, rfl, rfl⟩
    ·
      refine r_sipush F (by decide) dX8_transit_18 rfl ?_
      exact r_iret F Rt dX8_transit_21 (by decide) ⟨by rw [if_neg (by omega)], rfl, rfl, rfl⟩
abbrev rm_X8_missing : Room := { frames := 3, cells := 0, slots := 0, locals := 69 }
set_option maxRecDepth 100000 in
set_option maxHeartbeats 4000000 in
theorem c_X8_missing (l : Launch) (D : va_G) (cA : Nat → ClassId) (B : Nat) {lay : ja_Y} {mem : ja_M} {n : Nat} {r k i : Int} {y : Nat} {sl : Nat → Option Nat} {t : Int} (hB : ja_LB lay y sl) (hO : ja_BO mem y sl t) (hr : ja_in r) (hk : ja_in k) (hi : ja_in i) (h01 : 0 ≤ r ∧ r ≤ 1) : ja_Mt l D cA B yX8_missing cX8_missing 4 (some .int) rm_X8_missing [.ref y, .int (ja_I r), .int (ja_I k), .int (ja_I i)] lay mem n (ja_rd lay mem n (some (.int (ja_I (if ja_hasP mem (y + 1 + 1) r k i then J_bc (F_lb mem (y + 1 + 1) r i &&& (F_kn mem (y + 1 + 1) (y + 1 + 2) k ^^^ (-1))) else -1001))))) := by
  refine ja_enter [some (.ref y), some (.int (ja_I r)), some (.int (ja_I k)), some (.int (ja_I i))] (by decide) (Nat.le_of_ble_eq_true rfl) (fun q hq => hq) (fun C F Rt G hnm => ?_)
  obtain ⟨b1, b2, b3, b4, b5⟩ := id hO
  obtain ⟨g1, g2, g3, g4, g5, g6, g7, g8, g9, g10, g11, g12⟩ := id b1
  obtain ⟨p1, p2, p3, p4, p5, p6⟩ := id g3
  obtain ⟨s0, s1, s2, s3, s4, s5, s6, s7, s8⟩ := id g1
  have tt := g2.1
  have a0 := g4.1
  obtain ⟨r1_, r2_⟩ := id hr
  obtain ⟨k1_, k2_⟩ := id hk
  obtain ⟨i1_, i2_⟩ := id hi
  have hbp : ja_b (ja_hasP mem (y + 1 + 1) r k i) = 0 ↔ ¬ ja_hasP mem (y + 1 + 1) r k i := by unfold ja_b; split <;> simp_all
  have hbr : 0 ≤ ja_b (ja_hasP mem (y + 1 + 1) r k i) ∧ ja_b (ja_hasP mem (y + 1 + 1) r k i) ≤ 1 := by unfold ja_b; split <;> omega
  refine r_aload_n F rfl rfl dX8_missing_0 rfl ?_
  refine r_getR F f_X8_10 (hB.1) rfl dX8_missing_1 rfl ?_
  refine r_getR F f_X8_43 ((ja_LB_1 hB).1) rfl dX8_missing_4 rfl ?_
  refine r_iload_n F rfl rfl dX8_missing_7 rfl ?_
  refine r_iload_n F rfl rfl dX8_missing_8 rfl ?_
  refine r_iload_n F rfl rfl dX8_missing_9 rfl ?_
  refine r_callV F G (c_X6_hasPacket _ _ _ _ (ja_LR_1 (ja_LB_1 hB)) g1 h01 hk hi) v_X8_84 rfl (ja_LR_1 (ja_LB_1 hB)) rfl (by decide) (by decide) (Nat.le_of_ble_eq_true rfl) rfl dX8_missing_10 rfl (fun v lay' mem' n' hp => ?_)
  obtain ⟨q1, q2, q3, q4⟩ := hp
  subst q1; subst q2; subst q3; subst q4
  refine r_if_ne F (tgt := 20) ⟨by omega, by omega⟩ dX8_missing_13 rfl (by decide) (fun h_13 => ?_) (fun h_13 => ?_)
  ·
    refine r_aload_n F rfl rfl dX8_missing_20 rfl ?_
    refine r_getR F f_X8_10 (hB.1) rfl dX8_missing_21 rfl ?_
    refine r_getR F f_X8_126 ((ja_LB_1 hB).1) rfl dX8_missing_24 rfl ?_
    refine r_aload_n F rfl rfl dX8_missing_27 rfl ?_
    refine r_getR F f_X8_10 (hB.1) rfl dX8_missing_28 rfl ?_
    refine r_getR F f_X8_43 ((ja_LB_1 hB).1) rfl dX8_missing_31 rfl ?_
    refine r_iload_n F rfl rfl dX8_missing_34 rfl ?_
    refine r_iload_n F rfl rfl dX8_missing_35 rfl ?_
    refine r_iload_n F rfl rfl dX8_missing_36 rfl ?_
    refine r_callV F G (c_X3_missingIn _ _ _ _ (ja_LR_2 (ja_LB_1 hB)) (ja_LR_1 (ja_LB_1 hB)) g1 h01 (Decidable.byContradiction fun q => h_13 (hbp.mpr q)).1) v_X8_140 rfl ((ja_LR_2 (ja_LB_1 hB)).1) rfl (by decide) (by decide) (Nat.le_of_ble_eq_true rfl) rfl dX8_missing_37 rfl (fun v lay' mem' n' hp => ?_)
    obtain ⟨q1, q2, q3, q4⟩ := hp
    subst q1; subst q2; subst q3; subst q4
    exact r_iret F Rt dX8_missing_40 (by decide) ⟨by rw [if_pos (Decidable.byContradiction fun q => h_13 (hbp.mpr q))], rfl, rfl, rfl⟩
  ·
    refine r_sipush F (by decide) dX8_missing_16 rfl ?_
    exact r_iret F Rt dX8_missing_19 (by decide) ⟨by rw [if_neg (hbp.mp h_13)], rfl, rfl, rfl⟩
abbrev rm_X8_unrestorable : Room := { frames := 4, cells := 0, slots := 0, locals := 105 }
set_option maxRecDepth 100000 in
set_option maxHeartbeats 4000000 in
theorem c_X8_unrestorable (l : Launch) (D : va_G) (cA : Nat → ClassId) (B : Nat) {lay : ja_Y} {mem : ja_M} {n : Nat} {k : Int} {y : Nat} {sl : Nat → Option Nat} {t : Int} (hB : ja_LB lay y sl) (hO : ja_BO mem y sl t) (hk : ja_in k)  : ja_Mt l D cA B yX8_unrestorable cX8_unrestorable 2 (some .int) rm_X8_unrestorable [.ref y, .int (ja_I k)] lay mem n (ja_rd lay mem n (some (.int (ja_I (if ja_hasB mem (y + 1 + 1) k then J_bc ((ja_shl 1 (ja_cells mem (y + 1 + 1)) - 1) &&& (F_cp mem (y + 1 + 1) (-1) 37 (F_kn mem (y + 1 + 1) (y + 1 + 2) k) ^^^ (-1))) else -1001))))) := by
  refine ja_enter [some (.ref y), some (.int (ja_I k))] (by decide) (Nat.le_of_ble_eq_true rfl) (fun q hq => hq) (fun C F Rt G hnm => ?_)
  obtain ⟨b1, b2, b3, b4, b5⟩ := id hO
  obtain ⟨g1, g2, g3, g4, g5, g6, g7, g8, g9, g10, g11, g12⟩ := id b1
  obtain ⟨p1, p2, p3, p4, p5, p6⟩ := id g3
  obtain ⟨s0, s1, s2, s3, s4, s5, s6, s7, s8⟩ := id g1
  have tt := g2.1
  have a0 := g4.1
  obtain ⟨k1_, k2_⟩ := id hk
  have hbp : ja_b (ja_hasB mem (y + 1 + 1) k) = 0 ↔ ¬ ja_hasB mem (y + 1 + 1) k := by unfold ja_b; split <;> simp_all
  have hbr : 0 ≤ ja_b (ja_hasB mem (y + 1 + 1) k) ∧ ja_b (ja_hasB mem (y + 1 + 1) k) ≤ 1 := by unfold ja_b; split <;> omega
  refine r_aload_n F rfl rfl dX8_unrestorable_0 rfl ?_
  refine r_getR F f_X8_10 (hB.1) rfl dX8_unrestorable_1 rfl ?_
  refine r_getR F f_X8_43 ((ja_LB_1 hB).1) rfl dX8_unrestorable_4 rfl ?_
  refine r_iload_n F rfl rfl dX8_unrestorable_7 rfl ?_
  refine r_callV F G (c_X6_hasBlock _ _ _ _ (ja_LR_1 (ja_LB_1 hB)) g1 hk) v_X8_144 rfl (ja_LR_1 (ja_LB_1 hB)) rfl (by decide) (by decide) (Nat.le_of_ble_eq_true rfl) rfl dX8_unrestorable_8 rfl (fun v lay' mem' n' hp => ?_)
  obtain ⟨q1, q2, q3, q4⟩ := hp
  subst q1; subst q2; subst q3; subst q4
  refine r_if_ne F (tgt := 18) ⟨by omega, by omega⟩ dX8_unrestorable_11 rfl (by decide) (fun h_11 => ?_) (fun h_11 => ?_)
  ·
    refine r_aload_n F rfl rfl dX8_unrestorable_18 rfl ?_
    refine r_getR F f_X8_10 (hB.1) rfl dX8_unrestorable_19 rfl ?_
    refine r_getR F f_X8_126 ((ja_LB_1 hB).1) rfl dX8_unrestorable_22 rfl ?_
    refine r_aload_n F rfl rfl dX8_unrestorable_25 rfl ?_
    refine r_getR F f_X8_10 (hB.1) rfl dX8_unrestorable_26 rfl ?_
    refine r_getR F f_X8_43 ((ja_LB_1 hB).1) rfl dX8_unrestorable_29 rfl ?_
    refine r_iload_n F rfl rfl dX8_unrestorable_32 rfl ?_
    refine r_callV F G (c_X3_unrestorableIn _ _ _ _ (ja_LR_2 (ja_LB_1 hB)) (ja_LR_1 (ja_LB_1 hB)) g1 (Decidable.byContradiction fun q => h_11 (hbp.mpr q))) v_X8_147 rfl ((ja_LR_2 (ja_LB_1 hB)).1) rfl (by decide) (by decide) (Nat.le_of_ble_eq_true rfl) rfl dX8_unrestorable_33 rfl (fun v lay' mem' n' hp => ?_)
    obtain ⟨q1, q2, q3, q4⟩ := hp
    subst q1; subst q2; subst q3; subst q4
    exact r_iret F Rt dX8_unrestorable_36 (by decide) ⟨by rw [if_pos (Decidable.byContradiction fun q => h_11 (hbp.mpr q))], rfl, rfl, rfl⟩
  ·
    refine r_sipush F (by decide) dX8_unrestorable_14 rfl ?_
    exact r_iret F Rt dX8_unrestorable_17 (by decide) ⟨by rw [if_neg (hbp.mp h_11)], rfl, rfl, rfl⟩
