abbrev rm_X9_time : Room := { frames := 0, cells := 0, slots := 0, locals := 0 }
set_option maxRecDepth 100000 in
set_option maxHeartbeats 800000 in
theorem c_X9_time (l : Launch) (D : va_G) (cA : Nat → ClassId) (B : Nat) {lay : ja_Y} {n : Nat} {m : Nat} {G : ja_M} {v : Nat → Int} (hM : ja_LM lay m) (hR : N_R v) : ja_Mt l D cA B yX9_time cX9_time 1 (some .int) rm_X9_time [.ref m] lay (ja_rw G (m + 1) v) n (ja_rd lay (ja_rw G (m + 1) v) n (some (.int (ja_I (v 9))))) := by
  refine ja_enter [some (.ref m)] (by decide) (Nat.le_of_ble_eq_true rfl) (fun q hq => hq) (fun C F Rt GC hnm => ?_)
  have hC := hR.C
  have hS := hR.S
  refine r_aload_n F rfl rfl dX9_time_0 rfl ?_
  refine r_getR F f_X9_7 (hM.1) rfl dX9_time_1 rfl ?_
  refine r_bipush F (by decide) dX9_time_4 rfl ?_
  refine r_iald F (ja_LM_1 hM) (by omega) (by omega) (by decide) dX9_time_6 rfl ?_
  refine r_eqz (z := (v 9)) (by rw [ja_rw_s, show Int.toNat 9 = 9 from rfl]) ?_
  exact r_iret F Rt dX9_time_7 (by decide) ⟨by first | rfl | rw [if_pos (by omega)] | rw [if_neg (by omega)], rfl, rfl, rfl⟩
abbrev rm_X9_outputs : Room := { frames := 0, cells := 0, slots := 0, locals := 0 }
set_option maxRecDepth 100000 in
set_option maxHeartbeats 800000 in
theorem c_X9_outputs (l : Launch) (D : va_G) (cA : Nat → ClassId) (B : Nat) {lay : ja_Y} {n : Nat} {m : Nat} {G : ja_M} {v : Nat → Int} (hM : ja_LM lay m) (hR : N_R v) : ja_Mt l D cA B yX9_outputs cX9_outputs 1 (some .int) rm_X9_outputs [.ref m] lay (ja_rw G (m + 1) v) n (ja_rd lay (ja_rw G (m + 1) v) n (some (.int (ja_I (v 12))))) := by
  refine ja_enter [some (.ref m)] (by decide) (Nat.le_of_ble_eq_true rfl) (fun q hq => hq) (fun C F Rt GC hnm => ?_)
  have hC := hR.C
  have hS := hR.S
  refine r_aload_n F rfl rfl dX9_outputs_0 rfl ?_
  refine r_getR F f_X9_7 (hM.1) rfl dX9_outputs_1 rfl ?_
  refine r_bipush F (by decide) dX9_outputs_4 rfl ?_
  refine r_iald F (ja_LM_1 hM) (by omega) (by omega) (by decide) dX9_outputs_6 rfl ?_
  refine r_eqz (z := (v 12)) (by rw [ja_rw_s, show Int.toNat 12 = 12 from rfl]) ?_
  exact r_iret F Rt dX9_outputs_7 (by decide) ⟨by first | rfl | rw [if_pos (by omega)] | rw [if_neg (by omega)], rfl, rfl, rfl⟩
abbrev rm_X9_transits : Room := { frames := 0, cells := 0, slots := 0, locals := 0 }
set_option maxRecDepth 100000 in
set_option maxHeartbeats 800000 in
theorem c_X9_transits (l : Launch) (D : va_G) (cA : Nat → ClassId) (B : Nat) {lay : ja_Y} {n : Nat} {m : Nat} {G : ja_M} {v : Nat → Int} (hM : ja_LM lay m) (hR : N_R v) : ja_Mt l D cA B yX9_transits cX9_transits 1 (some .int) rm_X9_transits [.ref m] lay (ja_rw G (m + 1) v) n (ja_rd lay (ja_rw G (m + 1) v) n (some (.int (ja_I (v 24))))) := by
  refine ja_enter [some (.ref m)] (by decide) (Nat.le_of_ble_eq_true rfl) (fun q hq => hq) (fun C F Rt GC hnm => ?_)
  have hC := hR.C
  have hS := hR.S
  refine r_aload_n F rfl rfl dX9_transits_0 rfl ?_
  refine r_getR F f_X9_7 (hM.1) rfl dX9_transits_1 rfl ?_
  refine r_bipush F (by decide) dX9_transits_4 rfl ?_
  refine r_iald F (ja_LM_1 hM) (by omega) (by omega) (by decide) dX9_transits_6 rfl ?_
  refine r_eqz (z := (v 24)) (by rw [ja_rw_s, show Int.toNat 24 = 24 from rfl]) ?_
  exact r_iret F Rt dX9_transits_7 (by decide) ⟨by first | rfl | rw [if_pos (by omega)] | rw [if_neg (by omega)], rfl, rfl, rfl⟩
abbrev rm_X9_stretched : Room := { frames := 0, cells := 0, slots := 0, locals := 0 }
set_option maxRecDepth 100000 in
set_option maxHeartbeats 800000 in
theorem c_X9_stretched (l : Launch) (D : va_G) (cA : Nat → ClassId) (B : Nat) {lay : ja_Y} {n : Nat} {m : Nat} {G : ja_M} {v : Nat → Int} (hM : ja_LM lay m) (hR : N_R v) : ja_Mt l D cA B yX9_stretched cX9_stretched 1 (some .int) rm_X9_stretched [.ref m] lay (ja_rw G (m + 1) v) n (ja_rd lay (ja_rw G (m + 1) v) n (some (.int (ja_I (v 15))))) := by
  refine ja_enter [some (.ref m)] (by decide) (Nat.le_of_ble_eq_true rfl) (fun q hq => hq) (fun C F Rt GC hnm => ?_)
  have hC := hR.C
  have hS := hR.S
  refine r_aload_n F rfl rfl dX9_stretched_0 rfl ?_
  refine r_getR F f_X9_7 (hM.1) rfl dX9_stretched_1 rfl ?_
  refine r_bipush F (by decide) dX9_stretched_4 rfl ?_
  refine r_iald F (ja_LM_1 hM) (by omega) (by omega) (by decide) dX9_stretched_6 rfl ?_
  refine r_eqz (z := (v 15)) (by rw [ja_rw_s, show Int.toNat 15 = 15 from rfl]) ?_
  exact r_iret F Rt dX9_stretched_7 (by decide) ⟨by first | rfl | rw [if_pos (by omega)] | rw [if_neg (by omega)], rfl, rfl, rfl⟩
abbrev rm_X9_compressed : Room := { frames := 0, cells := 0, slots := 0, locals := 0 }
set_option maxRecDepth 100000 in
set_option maxHeartbeats 800000 in
theorem c_X9_compressed (l : Launch) (D : va_G) (cA : Nat → ClassId) (B : Nat) {lay : ja_Y} {n : Nat} {m : Nat} {G : ja_M} {v : Nat → Int} (hM : ja_LM lay m) (hR : N_R v) : ja_Mt l D cA B yX9_compressed cX9_compressed 1 (some .int) rm_X9_compressed [.ref m] lay (ja_rw G (m + 1) v) n (ja_rd lay (ja_rw G (m + 1) v) n (some (.int (ja_I (v 16))))) := by
  refine ja_enter [some (.ref m)] (by decide) (Nat.le_of_ble_eq_true rfl) (fun q hq => hq) (fun C F Rt GC hnm => ?_)
  have hC := hR.C
  have hS := hR.S
  refine r_aload_n F rfl rfl dX9_compressed_0 rfl ?_
  refine r_getR F f_X9_7 (hM.1) rfl dX9_compressed_1 rfl ?_
  refine r_bipush F (by decide) dX9_compressed_4 rfl ?_
  refine r_iald F (ja_LM_1 hM) (by omega) (by omega) (by decide) dX9_compressed_6 rfl ?_
  refine r_eqz (z := (v 16)) (by rw [ja_rw_s, show Int.toNat 16 = 16 from rfl]) ?_
  exact r_iret F Rt dX9_compressed_7 (by decide) ⟨by first | rfl | rw [if_pos (by omega)] | rw [if_neg (by omega)], rfl, rfl, rfl⟩
abbrev rm_X9_late : Room := { frames := 0, cells := 0, slots := 0, locals := 0 }
set_option maxRecDepth 100000 in
set_option maxHeartbeats 800000 in
theorem c_X9_late (l : Launch) (D : va_G) (cA : Nat → ClassId) (B : Nat) {lay : ja_Y} {n : Nat} {m : Nat} {G : ja_M} {v : Nat → Int} (hM : ja_LM lay m) (hR : N_R v) : ja_Mt l D cA B yX9_late cX9_late 1 (some .int) rm_X9_late [.ref m] lay (ja_rw G (m + 1) v) n (ja_rd lay (ja_rw G (m + 1) v) n (some (.int (ja_I (v 17))))) := by
  refine ja_enter [some (.ref m)] (by decide) (Nat.le_of_ble_eq_true rfl) (fun q hq => hq) (fun C F Rt GC hnm => ?_)
  have hC := hR.C
  have hS := hR.S
  refine r_aload_n F rfl rfl dX9_late_0 rfl ?_
  refine r_getR F f_X9_7 (hM.1) rfl dX9_late_1 rfl ?_
  refine r_bipush F (by decide) dX9_late_4 rfl ?_
  refine r_iald F (ja_LM_1 hM) (by omega) (by omega) (by decide) dX9_late_6 rfl ?_
  refine r_eqz (z := (v 17)) (by rw [ja_rw_s, show Int.toNat 17 = 17 from rfl]) ?_
  exact r_iret F Rt dX9_late_7 (by decide) ⟨by first | rfl | rw [if_pos (by omega)] | rw [if_neg (by omega)], rfl, rfl, rfl⟩
abbrev rm_X9_duplicates : Room := { frames := 0, cells := 0, slots := 0, locals := 0 }
set_option maxRecDepth 100000 in
set_option maxHeartbeats 800000 in
theorem c_X9_duplicates (l : Launch) (D : va_G) (cA : Nat → ClassId) (B : Nat) {lay : ja_Y} {n : Nat} {m : Nat} {G : ja_M} {v : Nat → Int} (hM : ja_LM lay m) (hR : N_R v) : ja_Mt l D cA B yX9_duplicates cX9_duplicates 1 (some .int) rm_X9_duplicates [.ref m] lay (ja_rw G (m + 1) v) n (ja_rd lay (ja_rw G (m + 1) v) n (some (.int (ja_I (v 18))))) := by
  refine ja_enter [some (.ref m)] (by decide) (Nat.le_of_ble_eq_true rfl) (fun q hq => hq) (fun C F Rt GC hnm => ?_)
  have hC := hR.C
  have hS := hR.S
  refine r_aload_n F rfl rfl dX9_duplicates_0 rfl ?_
  refine r_getR F f_X9_7 (hM.1) rfl dX9_duplicates_1 rfl ?_
  refine r_bipush F (by decide) dX9_duplicates_4 rfl ?_
  refine r_iald F (ja_LM_1 hM) (by omega) (by omega) (by decide) dX9_duplicates_6 rfl ?_
  refine r_eqz (z := (v 18)) (by rw [ja_rw_s, show Int.toNat 18 = 18 from rfl]) ?_
  exact r_iret F Rt dX9_duplicates_7 (by decide) ⟨by first | rfl | rw [if_pos (by omega)] | rw [if_neg (by omega)], rfl, rfl, rfl⟩
abbrev rm_X9_longestGap : Room := { frames := 0, cells := 0, slots := 0, locals := 0 }
set_option maxRecDepth 100000 in
set_option maxHeartbeats 800000 in
theorem c_X9_longestGap (l : Launch) (D : va_G) (cA : Nat → ClassId) (B : Nat) {lay : ja_Y} {n : Nat} {m : Nat} {G : ja_M} {v : Nat → Int} (hM : ja_LM lay m) (hR : N_R v) : ja_Mt l D cA B yX9_longestGap cX9_longestGap 1 (some .int) rm_X9_longestGap [.ref m] lay (ja_rw G (m + 1) v) n (ja_rd lay (ja_rw G (m + 1) v) n (some (.int (ja_I (v 14))))) := by
  refine ja_enter [some (.ref m)] (by decide) (Nat.le_of_ble_eq_true rfl) (fun q hq => hq) (fun C F Rt GC hnm => ?_)
  have hC := hR.C
  have hS := hR.S
  refine r_aload_n F rfl rfl dX9_longestGap_0 rfl ?_
  refine r_getR F f_X9_7 (hM.1) rfl dX9_longestGap_1 rfl ?_
  refine r_bipush F (by decide) dX9_longestGap_4 rfl ?_
  refine r_iald F (ja_LM_1 hM) (by omega) (by omega) (by decide) dX9_longestGap_6 rfl ?_
  refine r_eqz (z := (v 14)) (by rw [ja_rw_s, show Int.toNat 14 = 14 from rfl]) ?_
  exact r_iret F Rt dX9_longestGap_7 (by decide) ⟨by first | rfl | rw [if_pos (by omega)] | rw [if_neg (by omega)], rfl, rfl, rfl⟩
abbrev rm_X9_scheduled : Room := { frames := 0, cells := 0, slots := 0, locals := 0 }
set_option maxRecDepth 100000 in
set_option maxHeartbeats 800000 in
theorem c_X9_scheduled (l : Launch) (D : va_G) (cA : Nat → ClassId) (B : Nat) {lay : ja_Y} {n : Nat} {m : Nat} {G : ja_M} {v : Nat → Int} (hM : ja_LM lay m) (hR : N_R v) : ja_Mt l D cA B yX9_scheduled cX9_scheduled 1 (some .int) rm_X9_scheduled [.ref m] lay (ja_rw G (m + 1) v) n (ja_rd lay (ja_rw G (m + 1) v) n (some (.int (ja_I (v 25))))) := by
  refine ja_enter [some (.ref m)] (by decide) (Nat.le_of_ble_eq_true rfl) (fun q hq => hq) (fun C F Rt GC hnm => ?_)
  have hC := hR.C
  have hS := hR.S
  refine r_aload_n F rfl rfl dX9_scheduled_0 rfl ?_
  refine r_getR F f_X9_7 (hM.1) rfl dX9_scheduled_1 rfl ?_
  refine r_bipush F (by decide) dX9_scheduled_4 rfl ?_
  refine r_iald F (ja_LM_1 hM) (by omega) (by omega) (by decide) dX9_scheduled_6 rfl ?_
  refine r_eqz (z := (v 25)) (by rw [ja_rw_s, show Int.toNat 25 = 25 from rfl]) ?_
  exact r_iret F Rt dX9_scheduled_7 (by decide) ⟨by first | rfl | rw [if_pos (by omega)] | rw [if_neg (by omega)], rfl, rfl, rfl⟩
abbrev rm_X9_start : Room := { frames := 0, cells := 0, slots := 0, locals := 0 }
set_option maxRecDepth 100000 in
set_option maxHeartbeats 800000 in
theorem c_X9_start (l : Launch) (D : va_G) (cA : Nat → ClassId) (B : Nat) {lay : ja_Y} {n : Nat} {m : Nat} {G : ja_M} {v : Nat → Int} (hM : ja_LM lay m) (hR : N_R v) : ja_Mt l D cA B yX9_start cX9_start 1 (some .int) rm_X9_start [.ref m] lay (ja_rw G (m + 1) v) n (ja_rd lay (ja_rw G (m + 1) v) n (some (.int (ja_I (if v 10 < 0 then -1004 else v 10))))) := by
  refine ja_enter [some (.ref m)] (by decide) (Nat.le_of_ble_eq_true rfl) (fun q hq => hq) (fun C F Rt GC hnm => ?_)
  have hC := hR.C
  have hS := hR.S
  refine r_aload_n F rfl rfl dX9_start_0 rfl ?_
  refine r_getR F f_X9_7 (hM.1) rfl dX9_start_1 rfl ?_
  refine r_bipush F (by decide) dX9_start_4 rfl ?_
  refine r_iald F (ja_LM_1 hM) (by omega) (by omega) (by decide) dX9_start_6 rfl ?_
  refine r_eqz (z := (v 10)) (by rw [ja_rw_s, show Int.toNat 10 = 10 from rfl]) ?_
  refine r_if_ge F (tgt := 16) ⟨by omega, by omega⟩ dX9_start_7 rfl (by decide) (fun h_7 => ?_) (fun h_7 => ?_)
  ·
    refine r_aload_n F rfl rfl dX9_start_16 rfl ?_
    refine r_getR F f_X9_7 (hM.1) rfl dX9_start_17 rfl ?_
    refine r_bipush F (by decide) dX9_start_20 rfl ?_
    refine r_iald F (ja_LM_1 hM) (by omega) (by omega) (by decide) dX9_start_22 rfl ?_
    refine r_eqz (z := (v 10)) (by rw [ja_rw_s, show Int.toNat 10 = 10 from rfl]) ?_
    exact r_iret F Rt dX9_start_23 (by decide) ⟨by first | rfl | rw [if_pos (by omega)] | rw [if_neg (by omega)], rfl, rfl, rfl⟩
  ·
    refine r_sipush F (by decide) dX9_start_10 rfl ?_
    refine r_goto F (tgt := 23) dX9_start_13 (by decide) ?_
    exact r_iret F Rt dX9_start_23 (by decide) ⟨by first | rfl | rw [if_pos (by omega)] | rw [if_neg (by omega)], rfl, rfl, rfl⟩
abbrev rm_X9_left : Room := { frames := 0, cells := 0, slots := 0, locals := 0 }
set_option maxRecDepth 100000 in
set_option maxHeartbeats 800000 in
theorem c_X9_left (l : Launch) (D : va_G) (cA : Nat → ClassId) (B : Nat) {lay : ja_Y} {n : Nat} {m : Nat} {G : ja_M} {v : Nat → Int} (hM : ja_LM lay m) (hR : N_R v) : ja_Mt l D cA B yX9_left cX9_left 1 (some .int) rm_X9_left [.ref m] lay (ja_rw G (m + 1) v) n (ja_rd lay (ja_rw G (m + 1) v) n (some (.int (ja_I (v 22 - v 23))))) := by
  refine ja_enter [some (.ref m)] (by decide) (Nat.le_of_ble_eq_true rfl) (fun q hq => hq) (fun C F Rt GC hnm => ?_)
  have hC := hR.C
  have hS := hR.S
  refine r_aload_n F rfl rfl dX9_left_0 rfl ?_
  refine r_getR F f_X9_7 (hM.1) rfl dX9_left_1 rfl ?_
  refine r_bipush F (by decide) dX9_left_4 rfl ?_
  refine r_iald F (ja_LM_1 hM) (by omega) (by omega) (by decide) dX9_left_6 rfl ?_
  refine r_eqz (z := (v 22)) (by rw [ja_rw_s, show Int.toNat 22 = 22 from rfl]) ?_
  refine r_aload_n F rfl rfl dX9_left_7 rfl ?_
  refine r_getR F f_X9_7 (hM.1) rfl dX9_left_8 rfl ?_
  refine r_bipush F (by decide) dX9_left_11 rfl ?_
  refine r_iald F (ja_LM_1 hM) (by omega) (by omega) (by decide) dX9_left_13 rfl ?_
  refine r_eqz (z := (v 23)) (by rw [ja_rw_s, show Int.toNat 23 = 23 from rfl]) ?_
  refine r_isub F dX9_left_14 rfl ?_
  exact r_iret F Rt dX9_left_15 (by decide) ⟨by first | rfl | rw [if_pos (by omega)] | rw [if_neg (by omega)], rfl, rfl, rfl⟩
abbrev rm_X9_next : Room := { frames := 0, cells := 0, slots := 0, locals := 0 }
set_option maxRecDepth 100000 in
set_option maxHeartbeats 800000 in
theorem c_X9_next (l : Launch) (D : va_G) (cA : Nat → ClassId) (B : Nat) {lay : ja_Y} {n : Nat} {m : Nat} {G : ja_M} {v : Nat → Int} (hM : ja_LM lay m) (hR : N_R v) : ja_Mt l D cA B yX9_next cX9_next 1 (some .int) rm_X9_next [.ref m] lay (ja_rw G (m + 1) v) n (ja_rd lay (ja_rw G (m + 1) v) n (some (.int (ja_I (if 999 < v 11 then -1004 else v 11))))) := by
  refine ja_enter [some (.ref m)] (by decide) (Nat.le_of_ble_eq_true rfl) (fun q hq => hq) (fun C F Rt GC hnm => ?_)
  have hC := hR.C
  have hS := hR.S
  refine r_aload_n F rfl rfl dX9_next_0 rfl ?_
  refine r_getR F f_X9_7 (hM.1) rfl dX9_next_1 rfl ?_
  refine r_bipush F (by decide) dX9_next_4 rfl ?_
  refine r_iald F (ja_LM_1 hM) (by omega) (by omega) (by decide) dX9_next_6 rfl ?_
  refine r_eqz (z := (v 11)) (by rw [ja_rw_s, show Int.toNat 11 = 11 from rfl]) ?_
  refine r_sipush F (by decide) dX9_next_7 rfl ?_
  refine r_icmp_le F (tgt := 19) ⟨by omega, by omega⟩ ⟨by omega, by omega⟩ dX9_next_10 rfl (by decide) (fun h_10 => ?_) (fun h_10 => ?_)
  ·
    refine r_aload_n F rfl rfl dX9_next_19 rfl ?_
    refine r_getR F f_X9_7 (hM.1) rfl dX9_next_20 rfl ?_
    refine r_bipush F (by decide) dX9_next_23 rfl ?_
    refine r_iald F (ja_LM_1 hM) (by omega) (by omega) (by decide) dX9_next_25 rfl ?_
    refine r_eqz (z := (v 11)) (by rw [ja_rw_s, show Int.toNat 11 = 11 from rfl]) ?_
    exact r_iret F Rt dX9_next_26 (by decide) ⟨by first | rfl | rw [if_pos (by omega)] | rw [if_neg (by omega)], rfl, rfl, rfl⟩
  ·
    refine r_sipush F (by decide) dX9_next_13 rfl ?_
    refine r_goto F (tgt := 26) dX9_next_16 (by decide) ?_
    exact r_iret F Rt dX9_next_26 (by decide) ⟨by first | rfl | rw [if_pos (by omega)] | rw [if_neg (by omega)], rfl, rfl, rfl⟩
abbrev rm_X9_output : Room := { frames := 1, cells := 0, slots := 0, locals := 22 }
set_option maxRecDepth 100000 in
set_option maxHeartbeats 800000 in
theorem c_X9_output (l : Launch) (D : va_G) (cA : Nat → ClassId) (B : Nat) {lay : ja_Y} {n : Nat} {m : Nat} {G : ja_M} {v : Nat → Int} (hM : ja_LM lay m) {k : Int} (hR : N_R v) (hk : ja_in k) : ja_Mt l D cA B yX9_output cX9_output 2 (some .int) rm_X9_output [.ref m, .int (ja_I k)] lay (ja_rw G (m + 1) v) n (ja_rd lay (ja_rw G (m + 1) v) n (some (.int (ja_I (N_ou v k))))) := by
  refine ja_enter [some (.ref m), some (.int (ja_I k))] (by decide) (Nat.le_of_ble_eq_true rfl) (fun q hq => hq) (fun C F Rt GC hnm => ?_)
  have hC := hR.C
  have hS := hR.S
  obtain ⟨k1_, k2_⟩ := id hk
  refine r_iload_n F rfl rfl dX9_output_0 rfl ?_
  refine r_iconst F dX9_output_1 rfl ?_
  refine r_sipush F (by decide) dX9_output_2 rfl ?_
  refine r_callS F GC (c_X9_in _ _ _ _ ⟨by omega, by omega⟩ ⟨by omega, by omega⟩ ⟨by omega, by omega⟩) s_X9_35 rfl (by decide) (by decide) (Nat.le_of_ble_eq_true rfl) rfl dX9_output_5 rfl (fun v lay' mem' n' hp => ?_)
  obtain ⟨q1, q2, q3, q4⟩ := hp
  subst q1; subst q2; subst q3; subst q4
  refine r_if_ne F (tgt := 15) ja_b_in dX9_output_8 rfl (by decide) (fun h_8 => ?_) (fun h_8 => ?_)
  ·
    have b_8 : (1 ≤ k ∧ k ≤ 256) := ja_b_1 h_8
    refine r_iload_n F rfl rfl dX9_output_15 rfl ?_
    refine r_aload_n F rfl rfl dX9_output_16 rfl ?_
    refine r_getR F f_X9_7 (hM.1) rfl dX9_output_17 rfl ?_
    refine r_bipush F (by decide) dX9_output_20 rfl ?_
    refine r_iald F (ja_LM_1 hM) (by omega) (by omega) (by decide) dX9_output_22 rfl ?_
    refine r_eqz (z := (v 12)) (by rw [ja_rw_s, show Int.toNat 12 = 12 from rfl]) ?_
    refine r_icmp_le F (tgt := 32) ⟨by omega, by omega⟩ ⟨by omega, by omega⟩ dX9_output_23 rfl (by decide) (fun h_23 => ?_) (fun h_23 => ?_)
    ·
      refine r_aload_n F rfl rfl dX9_output_32 rfl ?_
      refine r_iload_n F rfl rfl dX9_output_33 rfl ?_
      refine r_callV F GC (c_X9_old _ _ _ _ hM hR ⟨by omega, by omega⟩) v_X9_123 rfl (hM.1) rfl (by decide) (by decide) (Nat.le_of_ble_eq_true rfl) rfl dX9_output_34 rfl (fun v lay' mem' n' hp => ?_)
      obtain ⟨q1, q2, q3, q4⟩ := hp
      subst q1; subst q2; subst q3; subst q4
      exact r_iret F Rt dX9_output_37 (by decide) ⟨by rw [N_ou, if_pos b_8]; first | rw [if_pos (by omega)] | rw [if_neg (by omega)], rfl, rfl, rfl⟩
    ·
      refine r_sipush F (by decide) dX9_output_26 rfl ?_
      refine r_goto F (tgt := 37) dX9_output_29 (by decide) ?_
      exact r_iret F Rt dX9_output_37 (by decide) ⟨by rw [N_ou, if_pos b_8]; first | rw [if_pos (by omega)] | rw [if_neg (by omega)], rfl, rfl, rfl⟩
  ·
    have b_8 : ¬ (1 ≤ k ∧ k ≤ 256) := ja_b_0.mp h_8
    refine r_sipush F (by decide) dX9_output_11 rfl ?_
    exact r_iret F Rt dX9_output_14 (by decide) ⟨by rw [N_ou, if_neg b_8], rfl, rfl, rfl⟩
abbrev rm_X9_kind : Room := { frames := 1, cells := 0, slots := 0, locals := 22 }
set_option maxRecDepth 100000 in
set_option maxHeartbeats 800000 in
theorem c_X9_kind (l : Launch) (D : va_G) (cA : Nat → ClassId) (B : Nat) {lay : ja_Y} {n : Nat} {m : Nat} {G : ja_M} {v : Nat → Int} (hM : ja_LM lay m) {k : Int} (hR : N_R v) (hk : ja_in k) : ja_Mt l D cA B yX9_kind cX9_kind 2 (some .int) rm_X9_kind [.ref m, .int (ja_I k)] lay (ja_rw G (m + 1) v) n (ja_rd lay (ja_rw G (m + 1) v) n (some (.int (ja_I (N_ki v k))))) := by
  refine ja_enter [some (.ref m), some (.int (ja_I k))] (by decide) (Nat.le_of_ble_eq_true rfl) (fun q hq => hq) (fun C F Rt GC hnm => ?_)
  have hC := hR.C
  have hS := hR.S
  obtain ⟨k1_, k2_⟩ := id hk
  refine r_iload_n F rfl rfl dX9_kind_0 rfl ?_
  refine r_iconst F dX9_kind_1 rfl ?_
  refine r_bipush F (by decide) dX9_kind_2 rfl ?_
  refine r_callS F GC (c_X9_in _ _ _ _ ⟨by omega, by omega⟩ ⟨by omega, by omega⟩ ⟨by omega, by omega⟩) s_X9_35 rfl (by decide) (by decide) (Nat.le_of_ble_eq_true rfl) rfl dX9_kind_4 rfl (fun v lay' mem' n' hp => ?_)
  obtain ⟨q1, q2, q3, q4⟩ := hp
  subst q1; subst q2; subst q3; subst q4
  refine r_if_ne F (tgt := 14) ja_b_in dX9_kind_7 rfl (by decide) (fun h_7 => ?_) (fun h_7 => ?_)
  ·
    have b_7 : (1 ≤ k ∧ k ≤ 32) := ja_b_1 h_7
    refine r_iload_n F rfl rfl dX9_kind_14 rfl ?_
    refine r_aload_n F rfl rfl dX9_kind_15 rfl ?_
    refine r_getR F f_X9_7 (hM.1) rfl dX9_kind_16 rfl ?_
    refine r_bipush F (by decide) dX9_kind_19 rfl ?_
    refine r_iald F (ja_LM_1 hM) (by omega) (by omega) (by decide) dX9_kind_21 rfl ?_
    refine r_eqz (z := (v 11)) (by rw [ja_rw_s, show Int.toNat 11 = 11 from rfl]) ?_
    refine r_icmp_le F (tgt := 31) ⟨by omega, by omega⟩ ⟨by omega, by omega⟩ dX9_kind_22 rfl (by decide) (fun h_22 => ?_) (fun h_22 => ?_)
    ·
      refine r_aload_n F rfl rfl dX9_kind_31 rfl ?_
      refine r_getR F f_X9_7 (hM.1) rfl dX9_kind_32 rfl ?_
      refine r_sipush F (by decide) dX9_kind_35 rfl ?_
      refine r_iload_n F rfl rfl dX9_kind_38 rfl ?_
      refine r_iadd F dX9_kind_39 rfl ?_
      refine r_iconst F dX9_kind_40 rfl ?_
      refine r_isub F dX9_kind_41 rfl ?_
      refine r_iald F (ja_LM_1 hM) (by omega) (by omega) (by decide) dX9_kind_42 rfl ?_
      refine r_eqz (z := (v (Int.toNat ((2310 + k) - 1)))) (by rw [ja_rw_s]) ?_
      exact r_iret F Rt dX9_kind_43 (by decide) ⟨by rw [N_ki, if_pos b_7]; first | rw [if_pos (by omega)] | rw [if_neg (by omega)], rfl, rfl, rfl⟩
    ·
      refine r_sipush F (by decide) dX9_kind_25 rfl ?_
      refine r_goto F (tgt := 43) dX9_kind_28 (by decide) ?_
      exact r_iret F Rt dX9_kind_43 (by decide) ⟨by rw [N_ki, if_pos b_7]; first | rw [if_pos (by omega)] | rw [if_neg (by omega)], rfl, rfl, rfl⟩
  ·
    have b_7 : ¬ (1 ≤ k ∧ k ≤ 32) := ja_b_0.mp h_7
    refine r_sipush F (by decide) dX9_kind_10 rfl ?_
    exact r_iret F Rt dX9_kind_13 (by decide) ⟨by rw [N_ki, if_neg b_7], rfl, rfl, rfl⟩
abbrev rm_X9_state : Room := { frames := 2, cells := 0, slots := 0, locals := 42 }
set_option maxRecDepth 100000 in
set_option maxHeartbeats 800000 in
theorem c_X9_state (l : Launch) (D : va_G) (cA : Nat → ClassId) (B : Nat) {lay : ja_Y} {n : Nat} {m : Nat} {G : ja_M} {v : Nat → Int} (hM : ja_LM lay m) {x : Int} (hR : N_R v) (hx : ja_in x) : ja_Mt l D cA B yX9_state cX9_state 2 (some .int) rm_X9_state [.ref m, .int (ja_I x)] lay (ja_rw G (m + 1) v) n (ja_rd lay (ja_rw G (m + 1) v) n (some (.int (ja_I (if N_isF x then v (30 + x).toNat else -1001))))) := by
  refine ja_enter [some (.ref m), some (.int (ja_I x))] (by decide) (Nat.le_of_ble_eq_true rfl) (fun q hq => hq) (fun C F Rt GC hnm => ?_)
  have hC := hR.C
  have hS := hR.S
  obtain ⟨x1_, x2_⟩ := id hx
  refine r_iload_n F rfl rfl dX9_state_0 rfl ?_
  refine r_callS F GC (c_X9_isFrame _ _ _ _ ⟨by omega, by omega⟩) s_X9_84 rfl (by decide) (by decide) (Nat.le_of_ble_eq_true rfl) rfl dX9_state_1 rfl (fun v lay' mem' n' hp => ?_)
  obtain ⟨q1, q2, q3, q4⟩ := hp
  subst q1; subst q2; subst q3; subst q4
  refine r_if_eq F (tgt := 19) ja_b_in dX9_state_4 rfl (by decide) (fun h_4 => ?_) (fun h_4 => ?_)
  ·
    have b_4 : ¬ (0 ≤ x ∧ x ≤ 999) := ja_b_0.mp h_4
    refine r_sipush F (by decide) dX9_state_19 rfl ?_
    exact r_iret F Rt dX9_state_22 (by decide) ⟨by first | rw [if_pos b_4] | rw [if_neg b_4], rfl, rfl, rfl⟩
  ·
    have b_4 : (0 ≤ x ∧ x ≤ 999) := ja_b_1 h_4
    refine r_aload_n F rfl rfl dX9_state_7 rfl ?_
    refine r_getR F f_X9_7 (hM.1) rfl dX9_state_8 rfl ?_
    refine r_bipush F (by decide) dX9_state_11 rfl ?_
    refine r_iload_n F rfl rfl dX9_state_13 rfl ?_
    refine r_iadd F dX9_state_14 rfl ?_
    refine r_iald F (ja_LM_1 hM) (by omega) (by omega) (by decide) dX9_state_15 rfl ?_
    refine r_eqz (z := (v (Int.toNat (30 + x)))) (by rw [ja_rw_s]) ?_
    refine r_goto F (tgt := 22) dX9_state_16 (by decide) ?_
    exact r_iret F Rt dX9_state_22 (by decide) ⟨by first | rw [if_pos b_4] | rw [if_neg b_4], rfl, rfl, rfl⟩
abbrev rm_X9_sample : Room := { frames := 2, cells := 0, slots := 0, locals := 42 }
set_option maxRecDepth 100000 in
set_option maxHeartbeats 800000 in
theorem c_X9_sample (l : Launch) (D : va_G) (cA : Nat → ClassId) (B : Nat) {lay : ja_Y} {n : Nat} {m : Nat} {G : ja_M} {v : Nat → Int} (hM : ja_LM lay m) {x j : Int} (hR : N_R v) (hx : ja_in x) (hj : ja_in j) : ja_Mt l D cA B yX9_sample cX9_sample 3 (some .int) rm_X9_sample [.ref m, .int (ja_I x), .int (ja_I j)] lay (ja_rw G (m + 1) v) n (ja_rd lay (ja_rw G (m + 1) v) n (some (.int (ja_I (if N_isF x ∧ 0 ≤ j ∧ j ≤ v 0 - 1 then N_wv v x j else -1001))))) := by
  refine ja_enter [some (.ref m), some (.int (ja_I x)), some (.int (ja_I j))] (by decide) (Nat.le_of_ble_eq_true rfl) (fun q hq => hq) (fun C F Rt GC hnm => ?_)
  have hC := hR.C
  have hS := hR.S
  obtain ⟨x1_, x2_⟩ := id hx
  obtain ⟨j1_, j2_⟩ := id hj
  refine r_iload_n F rfl rfl dX9_sample_0 rfl ?_
  refine r_callS F GC (c_X9_isFrame _ _ _ _ ⟨by omega, by omega⟩) s_X9_84 rfl (by decide) (by decide) (Nat.le_of_ble_eq_true rfl) rfl dX9_sample_1 rfl (fun v lay' mem' n' hp => ?_)
  obtain ⟨q1, q2, q3, q4⟩ := hp
  subst q1; subst q2; subst q3; subst q4
  refine r_if_eq F (tgt := 32) ja_b_in dX9_sample_4 rfl (by decide) (fun h_4 => ?_) (fun h_4 => ?_)
  ·
    have b_4 : ¬ (0 ≤ x ∧ x ≤ 999) := ja_b_0.mp h_4
    refine r_sipush F (by decide) dX9_sample_32 rfl ?_
    exact r_iret F Rt dX9_sample_35 (by decide) ⟨by first | rw [if_neg (fun q => b_4 q.1)] | rw [if_neg (fun q => b_20 q.2)] | rw [if_pos ⟨b_4, b_20⟩], rfl, rfl, rfl⟩
  ·
    have b_4 : (0 ≤ x ∧ x ≤ 999) := ja_b_1 h_4
    refine r_iload_n F rfl rfl dX9_sample_7 rfl ?_
    refine r_iconst F dX9_sample_8 rfl ?_
    refine r_aload_n F rfl rfl dX9_sample_9 rfl ?_
    refine r_getR F f_X9_7 (hM.1) rfl dX9_sample_10 rfl ?_
    refine r_iconst F dX9_sample_13 rfl ?_
    refine r_iald F (ja_LM_1 hM) (by omega) (by omega) (by decide) dX9_sample_14 rfl ?_
    refine r_eqz (z := (v 0)) (by rw [ja_rw_s, show Int.toNat 0 = 0 from rfl]) ?_
    refine r_iconst F dX9_sample_15 rfl ?_
    refine r_isub F dX9_sample_16 rfl ?_
    refine r_callS F GC (c_X9_in _ _ _ _ ⟨by omega, by omega⟩ ⟨by omega, by omega⟩ ⟨by omega, by omega⟩) s_X9_35 rfl (by decide) (by decide) (Nat.le_of_ble_eq_true rfl) rfl dX9_sample_17 rfl (fun v lay' mem' n' hp => ?_)
    obtain ⟨q1, q2, q3, q4⟩ := hp
    subst q1; subst q2; subst q3; subst q4
    refine r_if_eq F (tgt := 32) ja_b_in dX9_sample_20 rfl (by decide) (fun h_20 => ?_) (fun h_20 => ?_)
    ·
      have b_20 : ¬ (0 ≤ j ∧ j ≤ ((v 0) - 1)) := ja_b_0.mp h_20
      refine r_sipush F (by decide) dX9_sample_32 rfl ?_
      exact r_iret F Rt dX9_sample_35 (by decide) ⟨by first | rw [if_neg (fun q => b_4 q.1)] | rw [if_neg (fun q => b_20 q.2)] | rw [if_pos ⟨b_4, b_20⟩], rfl, rfl, rfl⟩
    ·
      have b_20 : (0 ≤ j ∧ j ≤ ((v 0) - 1)) := ja_b_1 h_20
      refine r_aload_n F rfl rfl dX9_sample_23 rfl ?_
      refine r_iload_n F rfl rfl dX9_sample_24 rfl ?_
      refine r_iload_n F rfl rfl dX9_sample_25 rfl ?_
      refine r_callV F GC (c_X9_sampleOf _ _ _ _ hM hS ⟨by omega, by omega⟩ ⟨by omega, by omega⟩) v_X9_104 rfl (hM.1) rfl (by decide) (by decide) (Nat.le_of_ble_eq_true rfl) rfl dX9_sample_26 rfl (fun v lay' mem' n' hp => ?_)
      obtain ⟨q1, q2, q3, q4⟩ := hp
      subst q1; subst q2; subst q3; subst q4
      refine r_goto F (tgt := 35) dX9_sample_29 (by decide) ?_
      exact r_iret F Rt dX9_sample_35 (by decide) ⟨by first | rw [if_neg (fun q => b_4 q.1)] | rw [if_neg (fun q => b_20 q.2)] | rw [if_pos ⟨b_4, b_20⟩], rfl, rfl, rfl⟩
abbrev rm_X9_missing : Room := { frames := 3, cells := 0, slots := 0, locals := 69 }
set_option maxRecDepth 100000 in
set_option maxHeartbeats 800000 in
theorem c_X9_missing (l : Launch) (D : va_G) (cA : Nat → ClassId) (B : Nat) {lay : ja_Y} {n : Nat} {m : Nat} {G : ja_M} {v : Nat → Int} (hM : ja_LM lay m) {r k i : Int} (hR : N_R v) (h01 : 0 ≤ r ∧ r ≤ 1) (hk : ja_in k) (hi : ja_in i) : ja_Mt l D cA B yX9_missing cX9_missing 4 (some .int) rm_X9_missing [.ref m, .int (ja_I r), .int (ja_I k), .int (ja_I i)] lay (ja_rw G (m + 1) v) n (ja_rd lay (ja_rw G (m + 1) v) n (some (.int (ja_I (if N_hP v r k i then N_mi v r k i (N_cs v r).toNat else -1001))))) := by
  refine ja_enter [some (.ref m), some (.int (ja_I r)), some (.int (ja_I k)), some (.int (ja_I i))] (by decide) (Nat.le_of_ble_eq_true rfl) (fun q hq => hq) (fun C F Rt GC hnm => ?_)
  have hC := hR.C
  have hS := hR.S
  obtain ⟨k1_, k2_⟩ := id hk
  obtain ⟨i1_, i2_⟩ := id hi
  refine r_aload_n F rfl rfl dX9_missing_0 rfl ?_
  refine r_iload_n F rfl rfl dX9_missing_1 rfl ?_
  refine r_iload_n F rfl rfl dX9_missing_2 rfl ?_
  refine r_iload_n F rfl rfl dX9_missing_3 rfl ?_
  refine r_callV F GC (c_X9_isPacket _ _ _ _ hM hS h01 hk hi) v_X9_91 rfl (hM.1) rfl (by decide) (by decide) (Nat.le_of_ble_eq_true rfl) rfl dX9_missing_4 rfl (fun v lay' mem' n' hp => ?_)
  obtain ⟨q1, q2, q3, q4⟩ := hp
  subst q1; subst q2; subst q3; subst q4
  refine r_if_eq F (tgt := 20) ja_b_in dX9_missing_7 rfl (by decide) (fun h_7 => ?_) (fun h_7 => ?_)
  ·
    have b_7 : ¬ (N_hP v r k i) := ja_b_0.mp h_7
    refine r_sipush F (by decide) dX9_missing_20 rfl ?_
    exact r_iret F Rt dX9_missing_23 (by decide) ⟨by first | rw [if_pos b_7] | rw [if_neg b_7], rfl, rfl, rfl⟩
  ·
    have b_7 : (N_hP v r k i) := ja_b_1 h_7
    refine r_aload_n F rfl rfl dX9_missing_10 rfl ?_
    refine r_iload_n F rfl rfl dX9_missing_11 rfl ?_
    refine r_iload_n F rfl rfl dX9_missing_12 rfl ?_
    refine r_iload_n F rfl rfl dX9_missing_13 rfl ?_
    refine r_callV F GC (c_X9_missingOf _ _ _ _ hM hR h01 b_7.1 (N_hP_6 hS b_7)) v_X9_63 rfl (hM.1) rfl (by decide) (by decide) (Nat.le_of_ble_eq_true rfl) rfl dX9_missing_14 rfl (fun v lay' mem' n' hp => ?_)
    obtain ⟨q1, q2, q3, q4⟩ := hp
    subst q1; subst q2; subst q3; subst q4
    refine r_goto F (tgt := 23) dX9_missing_17 (by decide) ?_
    exact r_iret F Rt dX9_missing_23 (by decide) ⟨by first | rw [if_pos b_7] | rw [if_neg b_7], rfl, rfl, rfl⟩
abbrev rm_X9_target : Room := { frames := 2, cells := 0, slots := 0, locals := 44 }
set_option maxRecDepth 100000 in
set_option maxHeartbeats 800000 in
theorem c_X9_target (l : Launch) (D : va_G) (cA : Nat → ClassId) (B : Nat) {lay : ja_Y} {n : Nat} {m : Nat} {G : ja_M} {v : Nat → Int} (hM : ja_LM lay m) (hR : N_R v) : ja_Mt l D cA B yX9_target cX9_target 1 (some .int) rm_X9_target [.ref m] lay (ja_rw G (m + 1) v) n (N_pg lay m n G (v) (some (.int (ja_I (N_tg v))))) := by
  refine ja_enter [some (.ref m)] (by decide) (Nat.le_of_ble_eq_true rfl) (fun q hq => hq) (fun C F Rt GC hnm => ?_)
  refine r_aload_n F rfl rfl dX9_target_0 rfl ?_
  refine r_callV F GC (c_X9_targetNow _ _ _ _ hM hR) v_X9_110 rfl (hM.1) rfl (by decide) (by decide) (Nat.le_of_ble_eq_true rfl) rfl dX9_target_1 rfl (fun v lay' mem' n' hp => ?_)
  obtain ⟨q1, q2, q3, G1, hG1, q4⟩ := hp
  subst q1; subst q2; subst q3; subst q4
  exact r_iret F Rt dX9_target_4 (by decide) ⟨rfl, rfl, rfl, G1, hG1.ge, rfl⟩
abbrev rm_X9_level : Room := { frames := 2, cells := 0, slots := 0, locals := 43 }
set_option maxRecDepth 100000 in
set_option maxHeartbeats 800000 in
theorem c_X9_level (l : Launch) (D : va_G) (cA : Nat → ClassId) (B : Nat) {lay : ja_Y} {n : Nat} {m : Nat} {G : ja_M} {v : Nat → Int} (hM : ja_LM lay m) (hR : N_R v) : ja_Mt l D cA B yX9_level cX9_level 1 (some .int) rm_X9_level [.ref m] lay (ja_rw G (m + 1) v) n (ja_rd lay (ja_rw G (m + 1) v) n (some (.int (ja_I (if 999 < v 11 then 0 else N_lv v (v 11)))))) := by
  refine ja_enter [some (.ref m)] (by decide) (Nat.le_of_ble_eq_true rfl) (fun q hq => hq) (fun C F Rt GC hnm => ?_)
  have hC := hR.C
  have hS := hR.S
  refine r_aload_n F rfl rfl dX9_level_0 rfl ?_
  refine r_getR F f_X9_7 (hM.1) rfl dX9_level_1 rfl ?_
  refine r_bipush F (by decide) dX9_level_4 rfl ?_
  refine r_iald F (ja_LM_1 hM) (by omega) (by omega) (by decide) dX9_level_6 rfl ?_
  refine r_eqz (z := (v 11)) (by rw [ja_rw_s, show Int.toNat 11 = 11 from rfl]) ?_
  refine r_sipush F (by decide) dX9_level_7 rfl ?_
  refine r_icmp_le F (tgt := 17) ⟨by omega, by omega⟩ ⟨by omega, by omega⟩ dX9_level_10 rfl (by decide) (fun h_10 => ?_) (fun h_10 => ?_)
  ·
    refine r_aload_n F rfl rfl dX9_level_17 rfl ?_
    refine r_aload_n F rfl rfl dX9_level_18 rfl ?_
    refine r_getR F f_X9_7 (hM.1) rfl dX9_level_19 rfl ?_
    refine r_bipush F (by decide) dX9_level_22 rfl ?_
    refine r_iald F (ja_LM_1 hM) (by omega) (by omega) (by decide) dX9_level_24 rfl ?_
    refine r_eqz (z := (v 11)) (by rw [ja_rw_s, show Int.toNat 11 = 11 from rfl]) ?_
    refine r_callV F GC (c_X9_levelFrom _ _ _ _ hM hR ⟨by omega, by omega⟩) v_X9_107 rfl (hM.1) rfl (by decide) (by decide) (Nat.le_of_ble_eq_true rfl) rfl dX9_level_25 rfl (fun v lay' mem' n' hp => ?_)
    obtain ⟨q1, q2, q3, q4⟩ := hp
    subst q1; subst q2; subst q3; subst q4
    exact r_iret F Rt dX9_level_28 (by decide) ⟨by first | rfl | rw [if_pos (by omega)] | rw [if_neg (by omega)], rfl, rfl, rfl⟩
  ·
    refine r_iconst F dX9_level_13 rfl ?_
    refine r_goto F (tgt := 28) dX9_level_14 (by decide) ?_
    exact r_iret F Rt dX9_level_28 (by decide) ⟨by first | rfl | rw [if_pos (by omega)] | rw [if_neg (by omega)], rfl, rfl, rfl⟩
abbrev rm_X9_taken : Room := { frames := 1, cells := 0, slots := 0, locals := 22 }
set_option maxRecDepth 100000 in
set_option maxHeartbeats 800000 in
theorem c_X9_taken (l : Launch) (D : va_G) (cA : Nat → ClassId) (B : Nat) {lay : ja_Y} {n : Nat} {m : Nat} {G : ja_M} {v : Nat → Int} (hM : ja_LM lay m) {k : Int} (hR : N_R v) (hk : ja_in k) : ja_Mt l D cA B yX9_taken cX9_taken 2 (some .int) rm_X9_taken [.ref m, .int (ja_I k)] lay (ja_rw G (m + 1) v) n (ja_rd lay (ja_rw G (m + 1) v) n (some (.int (ja_I (if 1 ≤ k ∧ k ≤ 3 then v (18 + k).toNat else -1001))))) := by
  refine ja_enter [some (.ref m), some (.int (ja_I k))] (by decide) (Nat.le_of_ble_eq_true rfl) (fun q hq => hq) (fun C F Rt GC hnm => ?_)
  have hC := hR.C
  have hS := hR.S
  obtain ⟨k1_, k2_⟩ := id hk
  refine r_iload_n F rfl rfl dX9_taken_0 rfl ?_
  refine r_iconst F dX9_taken_1 rfl ?_
  refine r_iconst F dX9_taken_2 rfl ?_
  refine r_callS F GC (c_X9_in _ _ _ _ ⟨by omega, by omega⟩ ⟨by omega, by omega⟩ ⟨by omega, by omega⟩) s_X9_35 rfl (by decide) (by decide) (Nat.le_of_ble_eq_true rfl) rfl dX9_taken_3 rfl (fun v lay' mem' n' hp => ?_)
  obtain ⟨q1, q2, q3, q4⟩ := hp
  subst q1; subst q2; subst q3; subst q4
  refine r_if_eq F (tgt := 21) ja_b_in dX9_taken_6 rfl (by decide) (fun h_6 => ?_) (fun h_6 => ?_)
  ·
    have b_6 : ¬ (1 ≤ k ∧ k ≤ 3) := ja_b_0.mp h_6
    refine r_sipush F (by decide) dX9_taken_21 rfl ?_
    exact r_iret F Rt dX9_taken_24 (by decide) ⟨by first | rw [if_pos b_6] | rw [if_neg b_6], rfl, rfl, rfl⟩
  ·
    have b_6 : (1 ≤ k ∧ k ≤ 3) := ja_b_1 h_6
    refine r_aload_n F rfl rfl dX9_taken_9 rfl ?_
    refine r_getR F f_X9_7 (hM.1) rfl dX9_taken_10 rfl ?_
    refine r_bipush F (by decide) dX9_taken_13 rfl ?_
    refine r_iload_n F rfl rfl dX9_taken_15 rfl ?_
    refine r_iadd F dX9_taken_16 rfl ?_
    refine r_iald F (ja_LM_1 hM) (by omega) (by omega) (by decide) dX9_taken_17 rfl ?_
    refine r_eqz (z := (v (Int.toNat (18 + k)))) (by rw [ja_rw_s]) ?_
    refine r_goto F (tgt := 24) dX9_taken_18 (by decide) ?_
    exact r_iret F Rt dX9_taken_24 (by decide) ⟨by first | rw [if_pos b_6] | rw [if_neg b_6], rfl, rfl, rfl⟩
abbrev rm_X9_transit : Room := { frames := 1, cells := 0, slots := 0, locals := 22 }
set_option maxRecDepth 100000 in
set_option maxHeartbeats 800000 in
theorem c_X9_transit (l : Launch) (D : va_G) (cA : Nat → ClassId) (B : Nat) {lay : ja_Y} {n : Nat} {m : Nat} {G : ja_M} {v : Nat → Int} (hM : ja_LM lay m) {k : Int} (hR : N_R v) (hk : ja_in k) : ja_Mt l D cA B yX9_transit cX9_transit 2 (some .int) rm_X9_transit [.ref m, .int (ja_I k)] lay (ja_rw G (m + 1) v) n (N_pg lay m n G (v) (some (.int (ja_I (if 0 ≤ k ∧ k ≤ v 24 - 1 then (if N_so v (v 24).toNat k.toNat < -999 then -999 else N_so v (v 24).toNat k.toNat) else -1001))))) := by
  refine ja_enter [some (.ref m), some (.int (ja_I k))] (by decide) (Nat.le_of_ble_eq_true rfl) (fun q hq => hq) (fun C F Rt GC hnm => ?_)
  have hC := hR.C
  have hS := hR.S
  obtain ⟨k1_, k2_⟩ := id hk
  refine r_iload_n F rfl rfl dX9_transit_0 rfl ?_
  refine r_iconst F dX9_transit_1 rfl ?_
  refine r_aload_n F rfl rfl dX9_transit_2 rfl ?_
  refine r_getR F f_X9_7 (hM.1) rfl dX9_transit_3 rfl ?_
  refine r_bipush F (by decide) dX9_transit_6 rfl ?_
  refine r_iald F (ja_LM_1 hM) (by omega) (by omega) (by decide) dX9_transit_8 rfl ?_
  refine r_eqz (z := (v 24)) (by rw [ja_rw_s, show Int.toNat 24 = 24 from rfl]) ?_
  refine r_iconst F dX9_transit_9 rfl ?_
  refine r_isub F dX9_transit_10 rfl ?_
  refine r_callS F GC (c_X9_in _ _ _ _ ⟨by omega, by omega⟩ ⟨by omega, by omega⟩ ⟨by omega, by omega⟩) s_X9_35 rfl (by decide) (by decide) (Nat.le_of_ble_eq_true rfl) rfl dX9_transit_11 rfl (fun v lay' mem' n' hp => ?_)
  obtain ⟨q1, q2, q3, q4⟩ := hp
  subst q1; subst q2; subst q3; subst q4
  refine r_if_ne F (tgt := 21) ja_b_in dX9_transit_14 rfl (by decide) (fun h_14 => ?_) (fun h_14 => ?_)
  ·
    have b_14 : (0 ≤ k ∧ k ≤ ((v 24) - 1)) := ja_b_1 h_14
    refine r_aload_n F rfl rfl dX9_transit_21 rfl ?_
    refine r_callV F GC (c_X9_sorts _ _ _ _ hM hR) v_X9_98 rfl (hM.1) rfl (by decide) (by decide) (Nat.le_of_ble_eq_true rfl) rfl dX9_transit_22 rfl (fun v lay' mem' n' hp => ?_)
    obtain ⟨q1, q2, q3, G1, hG1, q4, hso⟩ := hp
    subst q1; subst q2; subst q3; subst q4
    have hsr := N_so_in hR (v 24).toNat k.toNat (by omega)
    obtain ⟨hsr1, hsr2⟩ := hsr
    refine r_aload_n F rfl rfl dX9_transit_25 rfl ?_
    refine r_getR F f_X9_26 (hM.1) rfl dX9_transit_26 rfl ?_
    refine r_iload_n F rfl rfl dX9_transit_29 rfl ?_
    refine r_iald F (ja_LM_6 hM) (by omega) (by omega) (by decide) dX9_transit_30 rfl ?_
    refine r_eqz (z := (N_so v (v 24).toNat k.toNat)) (by rw [ja_rw_n (by omega)]; exact hso _ (by omega)) ?_
    refine r_sipush F (by decide) dX9_transit_31 rfl ?_
    refine r_icmp_ge F (tgt := 43) ⟨by omega, by omega⟩ ⟨by omega, by omega⟩ dX9_transit_34 rfl (by decide) (fun h_34 => ?_) (fun h_34 => ?_)
    ·
      refine r_aload_n F rfl rfl dX9_transit_43 rfl ?_
      refine r_getR F f_X9_26 (hM.1) rfl dX9_transit_44 rfl ?_
      refine r_iload_n F rfl rfl dX9_transit_47 rfl ?_
      refine r_iald F (ja_LM_6 hM) (by omega) (by omega) (by decide) dX9_transit_48 rfl ?_
      refine r_eqz (z := (N_so v (v 24).toNat k.toNat)) (by rw [ja_rw_n (by omega)]; exact hso _ (by omega)) ?_
      exact r_iret F Rt dX9_transit_49 (by decide) ⟨by rw [if_pos b_14]; first | rw [if_pos (by omega)] | rw [if_neg (by omega)], rfl, rfl, G1, hG1.ge, rfl⟩
    ·
      refine r_sipush F (by decide) dX9_transit_37 rfl ?_
      refine r_goto F (tgt := 49) dX9_transit_40 (by decide) ?_
      exact r_iret F Rt dX9_transit_49 (by decide) ⟨by rw [if_pos b_14]; first | rw [if_pos (by omega)] | rw [if_neg (by omega)], rfl, rfl, G1, hG1.ge, rfl⟩
  ·
    have b_14 : ¬ (0 ≤ k ∧ k ≤ ((v 24) - 1)) := ja_b_0.mp h_14
    refine r_sipush F (by decide) dX9_transit_17 rfl ?_
    exact r_iret F Rt dX9_transit_20 (by decide) ⟨by rw [if_neg b_14], rfl, rfl, G, N_ge.rf, rfl⟩
abbrev rm_X9_setFrame : Room := { frames := 1, cells := 0, slots := 0, locals := 23 }
set_option maxRecDepth 100000 in
set_option maxHeartbeats 800000 in
theorem c_X9_setFrame (l : Launch) (D : va_G) (cA : Nat → ClassId) (B : Nat) {lay : ja_Y} {n : Nat} {m : Nat} {G : ja_M} {v : Nat → Int} (hM : ja_LM lay m) {k : Int} (hR : N_R v) (hk : ja_in k) : ja_Mt l D cA B yX9_setFrame cX9_setFrame 2 (some .int) rm_X9_setFrame [.ref m, .int (ja_I k)] lay (ja_rw G (m + 1) v) n (ja_rd lay (ja_rw G (m + 1) (if (4 ≤ k ∧ k ≤ 16) ∧ ¬ N_bg v then ja_rs v 0 k else v)) n (some (.int (ja_I (if 4 ≤ k ∧ k ≤ 16 then (if N_bg v then -1003 else v 0) else -1001))))) := by
  refine ja_enter [some (.ref m), some (.int (ja_I k))] (by decide) (Nat.le_of_ble_eq_true rfl) (fun q hq => hq) (fun C F Rt GC hnm => ?_)
  have hC := hR.C
  have hS := hR.S
  obtain ⟨k1_, k2_⟩ := id hk
  refine r_iload_n F rfl rfl dX9_setFrame_0 rfl ?_
  refine r_iconst F dX9_setFrame_1 rfl ?_
  refine r_bipush F (by decide) dX9_setFrame_2 rfl ?_
  refine r_callS F GC (c_X9_in _ _ _ _ ⟨by omega, by omega⟩ ⟨by omega, by omega⟩ ⟨by omega, by omega⟩) s_X9_35 rfl (by decide) (by decide) (Nat.le_of_ble_eq_true rfl) rfl dX9_setFrame_4 rfl (fun v lay' mem' n' hp => ?_)
  obtain ⟨q1, q2, q3, q4⟩ := hp
  subst q1; subst q2; subst q3; subst q4
  refine r_if_ne F (tgt := 14) ja_b_in dX9_setFrame_7 rfl (by decide) (fun h_7 => ?_) (fun h_7 => ?_)
  ·
    have b_7 : (4 ≤ k ∧ k ≤ 16) := ja_b_1 h_7
    refine r_aload_n F rfl rfl dX9_setFrame_14 rfl ?_
    refine r_callV F GC (c_X9_isBegun _ _ _ _ hM hR) v_X9_39 rfl (hM.1) rfl (by decide) (by decide) (Nat.le_of_ble_eq_true rfl) rfl dX9_setFrame_15 rfl (fun v lay' mem' n' hp => ?_)
    obtain ⟨q1, q2, q3, q4⟩ := hp
    subst q1; subst q2; subst q3; subst q4
    refine r_if_eq F (tgt := 27) ja_b_in dX9_setFrame_18 rfl (by decide) (fun h_18 => ?_) (fun h_18 => ?_)
    ·
      have b_18 : ¬ (N_bg v) := ja_b_0.mp h_18
      have c2 : (4 ≤ k ∧ k ≤ 16) ∧ ¬ N_bg v := ⟨by omega, b_18⟩
      refine r_aload_n F rfl rfl dX9_setFrame_27 rfl ?_
      refine r_iconst F dX9_setFrame_28 rfl ?_
      refine r_iload_n F rfl rfl dX9_setFrame_29 rfl ?_
      refine r_callV F GC (c_X9_put _ _ _ _ hM (a := 0) (by omega)) v_X9_43 rfl (hM.1) rfl (by decide) (by decide) (Nat.le_of_ble_eq_true rfl) rfl dX9_setFrame_30 rfl (fun v lay' mem' n' hp => ?_)
      obtain ⟨q1, q2, q3, q4⟩ := hp
      subst q1; subst q2; subst q3; subst q4
      exact r_iret F Rt dX9_setFrame_33 (by decide) ⟨by first | rw [if_pos (by omega), if_pos b_18] | (rw [if_pos (by omega), if_neg b_18]; try rw [ja_rs_n (by omega)]), rfl, by first | rw [if_pos c2] | rw [if_neg c2], rfl⟩
    ·
      have b_18 : (N_bg v) := ja_b_1 h_18
      have c2 : ¬ ((4 ≤ k ∧ k ≤ 16) ∧ ¬ N_bg v) := fun q => q.2 b_18
      refine r_sipush F (by decide) dX9_setFrame_21 rfl ?_
      refine r_goto F (tgt := 33) dX9_setFrame_24 (by decide) ?_
      exact r_iret F Rt dX9_setFrame_33 (by decide) ⟨by first | rw [if_pos (by omega), if_pos b_18] | (rw [if_pos (by omega), if_neg b_18]; try rw [ja_rs_n (by omega)]), rfl, by first | rw [if_pos c2] | rw [if_neg c2], rfl⟩
  ·
    have b_7 : ¬ (4 ≤ k ∧ k ≤ 16) := ja_b_0.mp h_7
    refine r_sipush F (by decide) dX9_setFrame_10 rfl ?_
    exact r_iret F Rt dX9_setFrame_13 (by decide) ⟨by rw [if_neg (by omega)], rfl, by rw [if_neg (fun q => absurd q.1 (by omega))], rfl⟩
abbrev rm_X9_setWave : Room := { frames := 1, cells := 0, slots := 0, locals := 23 }
set_option maxRecDepth 100000 in
set_option maxHeartbeats 800000 in
theorem c_X9_setWave (l : Launch) (D : va_G) (cA : Nat → ClassId) (B : Nat) {lay : ja_Y} {n : Nat} {m : Nat} {G : ja_M} {v : Nat → Int} (hM : ja_LM lay m) {k i : Int} (hR : N_R v) (hk : ja_in k) (hi : ja_in i) : ja_Mt l D cA B yX9_setWave cX9_setWave 4 (some .int) rm_X9_setWave [.ref m, .int (ja_I k), .int (ja_I i)] lay (ja_rw G (m + 1) v) n (ja_rd lay (ja_rw G (m + 1) (if (2 ≤ k ∧ k ≤ 32 ∧ 1 ≤ i ∧ i ≤ 200) ∧ ¬ N_bg v then ja_rs (ja_rs v 1 k) 2 i else v)) n (some (.int (ja_I (if 2 ≤ k ∧ k ≤ 32 ∧ 1 ≤ i ∧ i ≤ 200 then (if N_bg v then -1003 else 1000 * v 1 + v 2) else -1001))))) := by
  refine ja_enter [some (.ref m), some (.int (ja_I k)), some (.int (ja_I i)), none] (by decide) (Nat.le_of_ble_eq_true rfl) (fun q hq => hq) (fun C F Rt GC hnm => ?_)
  have hC := hR.C
  have hS := hR.S
  obtain ⟨k1_, k2_⟩ := id hk
  obtain ⟨i1_, i2_⟩ := id hi
  refine r_iload_n F rfl rfl dX9_setWave_0 rfl ?_
  refine r_iconst F dX9_setWave_1 rfl ?_
  refine r_bipush F (by decide) dX9_setWave_2 rfl ?_
  refine r_callS F GC (c_X9_in _ _ _ _ ⟨by omega, by omega⟩ ⟨by omega, by omega⟩ ⟨by omega, by omega⟩) s_X9_35 rfl (by decide) (by decide) (Nat.le_of_ble_eq_true rfl) rfl dX9_setWave_4 rfl (fun v lay' mem' n' hp => ?_)
  obtain ⟨q1, q2, q3, q4⟩ := hp
  subst q1; subst q2; subst q3; subst q4
  refine r_if_eq F (tgt := 21) ja_b_in dX9_setWave_7 rfl (by decide) (fun h_7 => ?_) (fun h_7 => ?_)
  ·
    have b_7 : ¬ (2 ≤ k ∧ k ≤ 32) := ja_b_0.mp h_7
    refine r_sipush F (by decide) dX9_setWave_21 rfl ?_
    exact r_iret F Rt dX9_setWave_24 (by decide) ⟨by rw [if_neg (by omega)], rfl, by rw [if_neg (fun q => absurd q.1 (by omega))], rfl⟩
  ·
    have b_7 : (2 ≤ k ∧ k ≤ 32) := ja_b_1 h_7
    refine r_iload_n F rfl rfl dX9_setWave_10 rfl ?_
    refine r_iconst F dX9_setWave_11 rfl ?_
    refine r_sipush F (by decide) dX9_setWave_12 rfl ?_
    refine r_callS F GC (c_X9_in _ _ _ _ ⟨by omega, by omega⟩ ⟨by omega, by omega⟩ ⟨by omega, by omega⟩) s_X9_35 rfl (by decide) (by decide) (Nat.le_of_ble_eq_true rfl) rfl dX9_setWave_15 rfl (fun v lay' mem' n' hp => ?_)
    obtain ⟨q1, q2, q3, q4⟩ := hp
    subst q1; subst q2; subst q3; subst q4
    refine r_if_ne F (tgt := 25) ja_b_in dX9_setWave_18 rfl (by decide) (fun h_18 => ?_) (fun h_18 => ?_)
    ·
      have b_18 : (1 ≤ i ∧ i ≤ 200) := ja_b_1 h_18
      refine r_aload_n F rfl rfl dX9_setWave_25 rfl ?_
      refine r_callV F GC (c_X9_isBegun _ _ _ _ hM hR) v_X9_39 rfl (hM.1) rfl (by decide) (by decide) (Nat.le_of_ble_eq_true rfl) rfl dX9_setWave_26 rfl (fun v lay' mem' n' hp => ?_)
      obtain ⟨q1, q2, q3, q4⟩ := hp
      subst q1; subst q2; subst q3; subst q4
      refine r_if_eq F (tgt := 36) ja_b_in dX9_setWave_29 rfl (by decide) (fun h_29 => ?_) (fun h_29 => ?_)
      ·
        have b_29 : ¬ (N_bg v) := ja_b_0.mp h_29
        have c2 : (2 ≤ k ∧ k ≤ 32 ∧ 1 ≤ i ∧ i ≤ 200) ∧ ¬ N_bg v := ⟨by omega, b_29⟩
        refine r_sipush F (by decide) dX9_setWave_36 rfl ?_
        refine r_aload_n F rfl rfl dX9_setWave_39 rfl ?_
        refine r_iconst F dX9_setWave_40 rfl ?_
        refine r_iload_n F rfl rfl dX9_setWave_41 rfl ?_
        refine r_callV F GC (c_X9_put _ _ _ _ hM (a := 1) (by omega)) v_X9_43 rfl (hM.1) rfl (by decide) (by decide) (Nat.le_of_ble_eq_true rfl) rfl dX9_setWave_42 rfl (fun v lay' mem' n' hp => ?_)
        obtain ⟨q1, q2, q3, q4⟩ := hp
        subst q1; subst q2; subst q3; subst q4
        refine r_imul F dX9_setWave_45 rfl ?_
        refine r_ist3 F (by decide) rfl dX9_setWave_46 rfl ?_
        refine r_iload_n F rfl rfl dX9_setWave_47 rfl ?_
        refine r_aload_n F rfl rfl dX9_setWave_48 rfl ?_
        refine r_iconst F dX9_setWave_49 rfl ?_
        refine r_iload_n F rfl rfl dX9_setWave_50 rfl ?_
        refine r_callV F GC (c_X9_put _ _ _ _ hM (a := 2) (by omega)) v_X9_43 rfl (hM.1) rfl (by decide) (by decide) (Nat.le_of_ble_eq_true rfl) rfl dX9_setWave_51 rfl (fun v lay' mem' n' hp => ?_)
        obtain ⟨q1, q2, q3, q4⟩ := hp
        subst q1; subst q2; subst q3; subst q4
        refine r_iadd F dX9_setWave_54 rfl ?_
        exact r_iret F Rt dX9_setWave_55 (by decide) ⟨by first | rw [if_pos (by omega), if_pos b_29] | (rw [if_pos (by omega), if_neg b_29]; try rw [ja_rs_n (by omega)]), rfl, by first | rw [if_pos c2] | rw [if_neg c2], rfl⟩
      ·
        have b_29 : (N_bg v) := ja_b_1 h_29
        have c2 : ¬ ((2 ≤ k ∧ k ≤ 32 ∧ 1 ≤ i ∧ i ≤ 200) ∧ ¬ N_bg v) := fun q => q.2 b_29
        refine r_sipush F (by decide) dX9_setWave_32 rfl ?_
        exact r_iret F Rt dX9_setWave_35 (by decide) ⟨by first | rw [if_pos (by omega), if_pos b_29] | (rw [if_pos (by omega), if_neg b_29]; try rw [ja_rs_n (by omega)]), rfl, by first | rw [if_pos c2] | rw [if_neg c2], rfl⟩
    ·
      have b_18 : ¬ (1 ≤ i ∧ i ≤ 200) := ja_b_0.mp h_18
      refine r_sipush F (by decide) dX9_setWave_21 rfl ?_
      exact r_iret F Rt dX9_setWave_24 (by decide) ⟨by rw [if_neg (by omega)], rfl, by rw [if_neg (fun q => absurd q.1 (by omega))], rfl⟩
abbrev rm_X9_setBlock : Room := { frames := 1, cells := 0, slots := 0, locals := 23 }
set_option maxRecDepth 100000 in
set_option maxHeartbeats 800000 in
theorem c_X9_setBlock (l : Launch) (D : va_G) (cA : Nat → ClassId) (B : Nat) {lay : ja_Y} {n : Nat} {m : Nat} {G : ja_M} {v : Nat → Int} (hM : ja_LM lay m) {k i : Int} (hR : N_R v) (hk : ja_in k) (hi : ja_in i) : ja_Mt l D cA B yX9_setBlock cX9_setBlock 4 (some .int) rm_X9_setBlock [.ref m, .int (ja_I k), .int (ja_I i)] lay (ja_rw G (m + 1) v) n (ja_rd lay (ja_rw G (m + 1) (if (2 ≤ k ∧ k ≤ 6 ∧ 2 ≤ i ∧ i ≤ 6) ∧ ¬ N_bg v then ja_rs (ja_rs v 3 k) 4 i else v)) n (some (.int (ja_I (if 2 ≤ k ∧ k ≤ 6 ∧ 2 ≤ i ∧ i ≤ 6 then (if N_bg v then -1003 else 10 * v 3 + v 4) else -1001))))) := by
  refine ja_enter [some (.ref m), some (.int (ja_I k)), some (.int (ja_I i)), none] (by decide) (Nat.le_of_ble_eq_true rfl) (fun q hq => hq) (fun C F Rt GC hnm => ?_)
  have hC := hR.C
  have hS := hR.S
  obtain ⟨k1_, k2_⟩ := id hk
  obtain ⟨i1_, i2_⟩ := id hi
  refine r_iload_n F rfl rfl dX9_setBlock_0 rfl ?_
  refine r_iconst F dX9_setBlock_1 rfl ?_
  refine r_bipush F (by decide) dX9_setBlock_2 rfl ?_
  refine r_callS F GC (c_X9_in _ _ _ _ ⟨by omega, by omega⟩ ⟨by omega, by omega⟩ ⟨by omega, by omega⟩) s_X9_35 rfl (by decide) (by decide) (Nat.le_of_ble_eq_true rfl) rfl dX9_setBlock_4 rfl (fun v lay' mem' n' hp => ?_)
  obtain ⟨q1, q2, q3, q4⟩ := hp
  subst q1; subst q2; subst q3; subst q4
  refine r_if_eq F (tgt := 20) ja_b_in dX9_setBlock_7 rfl (by decide) (fun h_7 => ?_) (fun h_7 => ?_)
  ·
    have b_7 : ¬ (2 ≤ k ∧ k ≤ 6) := ja_b_0.mp h_7
    refine r_sipush F (by decide) dX9_setBlock_20 rfl ?_
    exact r_iret F Rt dX9_setBlock_23 (by decide) ⟨by rw [if_neg (by omega)], rfl, by rw [if_neg (fun q => absurd q.1 (by omega))], rfl⟩
  ·
    have b_7 : (2 ≤ k ∧ k ≤ 6) := ja_b_1 h_7
    refine r_iload_n F rfl rfl dX9_setBlock_10 rfl ?_
    refine r_iconst F dX9_setBlock_11 rfl ?_
    refine r_bipush F (by decide) dX9_setBlock_12 rfl ?_
    refine r_callS F GC (c_X9_in _ _ _ _ ⟨by omega, by omega⟩ ⟨by omega, by omega⟩ ⟨by omega, by omega⟩) s_X9_35 rfl (by decide) (by decide) (Nat.le_of_ble_eq_true rfl) rfl dX9_setBlock_14 rfl (fun v lay' mem' n' hp => ?_)
    obtain ⟨q1, q2, q3, q4⟩ := hp
    subst q1; subst q2; subst q3; subst q4
    refine r_if_ne F (tgt := 24) ja_b_in dX9_setBlock_17 rfl (by decide) (fun h_17 => ?_) (fun h_17 => ?_)
    ·
      have b_17 : (2 ≤ i ∧ i ≤ 6) := ja_b_1 h_17
      refine r_aload_n F rfl rfl dX9_setBlock_24 rfl ?_
      refine r_callV F GC (c_X9_isBegun _ _ _ _ hM hR) v_X9_39 rfl (hM.1) rfl (by decide) (by decide) (Nat.le_of_ble_eq_true rfl) rfl dX9_setBlock_25 rfl (fun v lay' mem' n' hp => ?_)
      obtain ⟨q1, q2, q3, q4⟩ := hp
      subst q1; subst q2; subst q3; subst q4
      refine r_if_eq F (tgt := 35) ja_b_in dX9_setBlock_28 rfl (by decide) (fun h_28 => ?_) (fun h_28 => ?_)
      ·
        have b_28 : ¬ (N_bg v) := ja_b_0.mp h_28
        have c2 : (2 ≤ k ∧ k ≤ 6 ∧ 2 ≤ i ∧ i ≤ 6) ∧ ¬ N_bg v := ⟨by omega, b_28⟩
        refine r_bipush F (by decide) dX9_setBlock_35 rfl ?_
        refine r_aload_n F rfl rfl dX9_setBlock_37 rfl ?_
        refine r_iconst F dX9_setBlock_38 rfl ?_
        refine r_iload_n F rfl rfl dX9_setBlock_39 rfl ?_
        refine r_callV F GC (c_X9_put _ _ _ _ hM (a := 3) (by omega)) v_X9_43 rfl (hM.1) rfl (by decide) (by decide) (Nat.le_of_ble_eq_true rfl) rfl dX9_setBlock_40 rfl (fun v lay' mem' n' hp => ?_)
        obtain ⟨q1, q2, q3, q4⟩ := hp
        subst q1; subst q2; subst q3; subst q4
        refine r_imul F dX9_setBlock_43 rfl ?_
        refine r_ist3 F (by decide) rfl dX9_setBlock_44 rfl ?_
        refine r_iload_n F rfl rfl dX9_setBlock_45 rfl ?_
        refine r_aload_n F rfl rfl dX9_setBlock_46 rfl ?_
        refine r_iconst F dX9_setBlock_47 rfl ?_
        refine r_iload_n F rfl rfl dX9_setBlock_48 rfl ?_
        refine r_callV F GC (c_X9_put _ _ _ _ hM (a := 4) (by omega)) v_X9_43 rfl (hM.1) rfl (by decide) (by decide) (Nat.le_of_ble_eq_true rfl) rfl dX9_setBlock_49 rfl (fun v lay' mem' n' hp => ?_)
        obtain ⟨q1, q2, q3, q4⟩ := hp
        subst q1; subst q2; subst q3; subst q4
        refine r_iadd F dX9_setBlock_52 rfl ?_
        exact r_iret F Rt dX9_setBlock_53 (by decide) ⟨by first | rw [if_pos (by omega), if_pos b_28] | (rw [if_pos (by omega), if_neg b_28]; try rw [ja_rs_n (by omega)]), rfl, by first | rw [if_pos c2] | rw [if_neg c2], rfl⟩
      ·
        have b_28 : (N_bg v) := ja_b_1 h_28
        have c2 : ¬ ((2 ≤ k ∧ k ≤ 6 ∧ 2 ≤ i ∧ i ≤ 6) ∧ ¬ N_bg v) := fun q => q.2 b_28
        refine r_sipush F (by decide) dX9_setBlock_31 rfl ?_
        exact r_iret F Rt dX9_setBlock_34 (by decide) ⟨by first | rw [if_pos (by omega), if_pos b_28] | (rw [if_pos (by omega), if_neg b_28]; try rw [ja_rs_n (by omega)]), rfl, by first | rw [if_pos c2] | rw [if_neg c2], rfl⟩
    ·
      have b_17 : ¬ (2 ≤ i ∧ i ≤ 6) := ja_b_0.mp h_17
      refine r_sipush F (by decide) dX9_setBlock_20 rfl ?_
      exact r_iret F Rt dX9_setBlock_23 (by decide) ⟨by rw [if_neg (by omega)], rfl, by rw [if_neg (fun q => absurd q.1 (by omega))], rfl⟩
abbrev rm_X9_setInitialDelay : Room := { frames := 1, cells := 0, slots := 0, locals := 23 }
set_option maxRecDepth 100000 in
set_option maxHeartbeats 800000 in
theorem c_X9_setInitialDelay (l : Launch) (D : va_G) (cA : Nat → ClassId) (B : Nat) {lay : ja_Y} {n : Nat} {m : Nat} {G : ja_M} {v : Nat → Int} (hM : ja_LM lay m) {k : Int} (hR : N_R v) (hk : ja_in k) : ja_Mt l D cA B yX9_setInitialDelay cX9_setInitialDelay 2 (some .int) rm_X9_setInitialDelay [.ref m, .int (ja_I k)] lay (ja_rw G (m + 1) v) n (ja_rd lay (ja_rw G (m + 1) (if (0 ≤ k ∧ k ≤ 200) ∧ ¬ N_bg v then ja_rs v 5 k else v)) n (some (.int (ja_I (if 0 ≤ k ∧ k ≤ 200 then (if N_bg v then -1003 else v 5) else -1001))))) := by
  refine ja_enter [some (.ref m), some (.int (ja_I k))] (by decide) (Nat.le_of_ble_eq_true rfl) (fun q hq => hq) (fun C F Rt GC hnm => ?_)
  have hC := hR.C
  have hS := hR.S
  obtain ⟨k1_, k2_⟩ := id hk
  refine r_iload_n F rfl rfl dX9_setInitialDelay_0 rfl ?_
  refine r_iconst F dX9_setInitialDelay_1 rfl ?_
  refine r_sipush F (by decide) dX9_setInitialDelay_2 rfl ?_
  refine r_callS F GC (c_X9_in _ _ _ _ ⟨by omega, by omega⟩ ⟨by omega, by omega⟩ ⟨by omega, by omega⟩) s_X9_35 rfl (by decide) (by decide) (Nat.le_of_ble_eq_true rfl) rfl dX9_setInitialDelay_5 rfl (fun v lay' mem' n' hp => ?_)
  obtain ⟨q1, q2, q3, q4⟩ := hp
  subst q1; subst q2; subst q3; subst q4
  refine r_if_ne F (tgt := 15) ja_b_in dX9_setInitialDelay_8 rfl (by decide) (fun h_8 => ?_) (fun h_8 => ?_)
  ·
    have b_8 : (0 ≤ k ∧ k ≤ 200) := ja_b_1 h_8
    refine r_aload_n F rfl rfl dX9_setInitialDelay_15 rfl ?_
    refine r_callV F GC (c_X9_isBegun _ _ _ _ hM hR) v_X9_39 rfl (hM.1) rfl (by decide) (by decide) (Nat.le_of_ble_eq_true rfl) rfl dX9_setInitialDelay_16 rfl (fun v lay' mem' n' hp => ?_)
    obtain ⟨q1, q2, q3, q4⟩ := hp
    subst q1; subst q2; subst q3; subst q4
    refine r_if_eq F (tgt := 28) ja_b_in dX9_setInitialDelay_19 rfl (by decide) (fun h_19 => ?_) (fun h_19 => ?_)
    ·
      have b_19 : ¬ (N_bg v) := ja_b_0.mp h_19
      have c2 : (0 ≤ k ∧ k ≤ 200) ∧ ¬ N_bg v := ⟨by omega, b_19⟩
      refine r_aload_n F rfl rfl dX9_setInitialDelay_28 rfl ?_
      refine r_iconst F dX9_setInitialDelay_29 rfl ?_
      refine r_iload_n F rfl rfl dX9_setInitialDelay_30 rfl ?_
      refine r_callV F GC (c_X9_put _ _ _ _ hM (a := 5) (by omega)) v_X9_43 rfl (hM.1) rfl (by decide) (by decide) (Nat.le_of_ble_eq_true rfl) rfl dX9_setInitialDelay_31 rfl (fun v lay' mem' n' hp => ?_)
      obtain ⟨q1, q2, q3, q4⟩ := hp
      subst q1; subst q2; subst q3; subst q4
      exact r_iret F Rt dX9_setInitialDelay_34 (by decide) ⟨by first | rw [if_pos (by omega), if_pos b_19] | (rw [if_pos (by omega), if_neg b_19]; try rw [ja_rs_n (by omega)]), rfl, by first | rw [if_pos c2] | rw [if_neg c2], rfl⟩
    ·
      have b_19 : (N_bg v) := ja_b_1 h_19
      have c2 : ¬ ((0 ≤ k ∧ k ≤ 200) ∧ ¬ N_bg v) := fun q => q.2 b_19
      refine r_sipush F (by decide) dX9_setInitialDelay_22 rfl ?_
      refine r_goto F (tgt := 34) dX9_setInitialDelay_25 (by decide) ?_
      exact r_iret F Rt dX9_setInitialDelay_34 (by decide) ⟨by first | rw [if_pos (by omega), if_pos b_19] | (rw [if_pos (by omega), if_neg b_19]; try rw [ja_rs_n (by omega)]), rfl, by first | rw [if_pos c2] | rw [if_neg c2], rfl⟩
  ·
    have b_8 : ¬ (0 ≤ k ∧ k ≤ 200) := ja_b_0.mp h_8
    refine r_sipush F (by decide) dX9_setInitialDelay_11 rfl ?_
    exact r_iret F Rt dX9_setInitialDelay_14 (by decide) ⟨by rw [if_neg (by omega)], rfl, by rw [if_neg (fun q => absurd q.1 (by omega))], rfl⟩
abbrev rm_X9_setQuantile : Room := { frames := 1, cells := 0, slots := 0, locals := 23 }
set_option maxRecDepth 100000 in
set_option maxHeartbeats 800000 in
theorem c_X9_setQuantile (l : Launch) (D : va_G) (cA : Nat → ClassId) (B : Nat) {lay : ja_Y} {n : Nat} {m : Nat} {G : ja_M} {v : Nat → Int} (hM : ja_LM lay m) {k : Int} (hR : N_R v) (hk : ja_in k) : ja_Mt l D cA B yX9_setQuantile cX9_setQuantile 2 (some .int) rm_X9_setQuantile [.ref m, .int (ja_I k)] lay (ja_rw G (m + 1) v) n (ja_rd lay (ja_rw G (m + 1) (if 1 ≤ k ∧ k ≤ 100 then ja_rs v 6 k else v)) n (some (.int (ja_I (if 1 ≤ k ∧ k ≤ 100 then v 6 else -1001))))) := by
  refine ja_enter [some (.ref m), some (.int (ja_I k))] (by decide) (Nat.le_of_ble_eq_true rfl) (fun q hq => hq) (fun C F Rt GC hnm => ?_)
  have hC := hR.C
  have hS := hR.S
  obtain ⟨k1_, k2_⟩ := id hk
  refine r_iload_n F rfl rfl dX9_setQuantile_0 rfl ?_
  refine r_iconst F dX9_setQuantile_1 rfl ?_
  refine r_bipush F (by decide) dX9_setQuantile_2 rfl ?_
  refine r_callS F GC (c_X9_in _ _ _ _ ⟨by omega, by omega⟩ ⟨by omega, by omega⟩ ⟨by omega, by omega⟩) s_X9_35 rfl (by decide) (by decide) (Nat.le_of_ble_eq_true rfl) rfl dX9_setQuantile_4 rfl (fun v lay' mem' n' hp => ?_)
  obtain ⟨q1, q2, q3, q4⟩ := hp
  subst q1; subst q2; subst q3; subst q4
  refine r_if_eq F (tgt := 20) ja_b_in dX9_setQuantile_7 rfl (by decide) (fun h_7 => ?_) (fun h_7 => ?_)
  ·
    have b_7 : ¬ (1 ≤ k ∧ k ≤ 100) := ja_b_0.mp h_7
    refine r_sipush F (by decide) dX9_setQuantile_20 rfl ?_
    exact r_iret F Rt dX9_setQuantile_23 (by decide) ⟨by first | rw [if_pos b_7] | rw [if_neg b_7], rfl, by first | rw [if_pos b_7] | rw [if_neg b_7], rfl⟩
  ·
    have b_7 : (1 ≤ k ∧ k ≤ 100) := ja_b_1 h_7
    refine r_aload_n F rfl rfl dX9_setQuantile_10 rfl ?_
    refine r_bipush F (by decide) dX9_setQuantile_11 rfl ?_
    refine r_iload_n F rfl rfl dX9_setQuantile_13 rfl ?_
    refine r_callV F GC (c_X9_put _ _ _ _ hM (a := 6) (by omega)) v_X9_43 rfl (hM.1) rfl (by decide) (by decide) (Nat.le_of_ble_eq_true rfl) rfl dX9_setQuantile_14 rfl (fun v lay' mem' n' hp => ?_)
    obtain ⟨q1, q2, q3, q4⟩ := hp
    subst q1; subst q2; subst q3; subst q4
    refine r_goto F (tgt := 23) dX9_setQuantile_17 (by decide) ?_
    exact r_iret F Rt dX9_setQuantile_23 (by decide) ⟨by first | rw [if_pos b_7] | rw [if_neg b_7], rfl, by first | rw [if_pos b_7] | rw [if_neg b_7], rfl⟩
abbrev rm_X9_setMargin : Room := { frames := 1, cells := 0, slots := 0, locals := 23 }
set_option maxRecDepth 100000 in
set_option maxHeartbeats 800000 in
theorem c_X9_setMargin (l : Launch) (D : va_G) (cA : Nat → ClassId) (B : Nat) {lay : ja_Y} {n : Nat} {m : Nat} {G : ja_M} {v : Nat → Int} (hM : ja_LM lay m) {k : Int} (hR : N_R v) (hk : ja_in k) : ja_Mt l D cA B yX9_setMargin cX9_setMargin 2 (some .int) rm_X9_setMargin [.ref m, .int (ja_I k)] lay (ja_rw G (m + 1) v) n (ja_rd lay (ja_rw G (m + 1) (if 0 ≤ k ∧ k ≤ 100 then ja_rs v 7 k else v)) n (some (.int (ja_I (if 0 ≤ k ∧ k ≤ 100 then v 7 else -1001))))) := by
  refine ja_enter [some (.ref m), some (.int (ja_I k))] (by decide) (Nat.le_of_ble_eq_true rfl) (fun q hq => hq) (fun C F Rt GC hnm => ?_)
  have hC := hR.C
  have hS := hR.S
  obtain ⟨k1_, k2_⟩ := id hk
  refine r_iload_n F rfl rfl dX9_setMargin_0 rfl ?_
  refine r_iconst F dX9_setMargin_1 rfl ?_
  refine r_bipush F (by decide) dX9_setMargin_2 rfl ?_
  refine r_callS F GC (c_X9_in _ _ _ _ ⟨by omega, by omega⟩ ⟨by omega, by omega⟩ ⟨by omega, by omega⟩) s_X9_35 rfl (by decide) (by decide) (Nat.le_of_ble_eq_true rfl) rfl dX9_setMargin_4 rfl (fun v lay' mem' n' hp => ?_)
  obtain ⟨q1, q2, q3, q4⟩ := hp
  subst q1; subst q2; subst q3; subst q4
  refine r_if_eq F (tgt := 20) ja_b_in dX9_setMargin_7 rfl (by decide) (fun h_7 => ?_) (fun h_7 => ?_)
  ·
    have b_7 : ¬ (0 ≤ k ∧ k ≤ 100) := ja_b_0.mp h_7
    refine r_sipush F (by decide) dX9_setMargin_20 rfl ?_
    exact r_iret F Rt dX9_setMargin_23 (by decide) ⟨by first | rw [if_pos b_7] | rw [if_neg b_7], rfl, by first | rw [if_pos b_7] | rw [if_neg b_7], rfl⟩
  ·
    have b_7 : (0 ≤ k ∧ k ≤ 100) := ja_b_1 h_7
    refine r_aload_n F rfl rfl dX9_setMargin_10 rfl ?_
    refine r_bipush F (by decide) dX9_setMargin_11 rfl ?_
    refine r_iload_n F rfl rfl dX9_setMargin_13 rfl ?_
    refine r_callV F GC (c_X9_put _ _ _ _ hM (a := 7) (by omega)) v_X9_43 rfl (hM.1) rfl (by decide) (by decide) (Nat.le_of_ble_eq_true rfl) rfl dX9_setMargin_14 rfl (fun v lay' mem' n' hp => ?_)
    obtain ⟨q1, q2, q3, q4⟩ := hp
    subst q1; subst q2; subst q3; subst q4
    refine r_goto F (tgt := 23) dX9_setMargin_17 (by decide) ?_
    exact r_iret F Rt dX9_setMargin_23 (by decide) ⟨by first | rw [if_pos b_7] | rw [if_neg b_7], rfl, by first | rw [if_pos b_7] | rw [if_neg b_7], rfl⟩
abbrev rm_X9_setAdapting : Room := { frames := 1, cells := 0, slots := 0, locals := 23 }
set_option maxRecDepth 100000 in
set_option maxHeartbeats 800000 in
theorem c_X9_setAdapting (l : Launch) (D : va_G) (cA : Nat → ClassId) (B : Nat) {lay : ja_Y} {n : Nat} {m : Nat} {G : ja_M} {v : Nat → Int} (hM : ja_LM lay m) {k : Int} (hR : N_R v) (hk : 0 ≤ k ∧ k ≤ 1) : ja_Mt l D cA B yX9_setAdapting cX9_setAdapting 2 (some .int) rm_X9_setAdapting [.ref m, .int (ja_I k)] lay (ja_rw G (m + 1) v) n (ja_rd lay (ja_rw G (m + 1) (ja_rs v 8 k)) n (some (.int (ja_I (v 8))))) := by
  refine ja_enter [some (.ref m), some (.int (ja_I k))] (by decide) (Nat.le_of_ble_eq_true rfl) (fun q hq => hq) (fun C F Rt GC hnm => ?_)
  have hC := hR.C
  have hS := hR.S
  refine r_aload_n F rfl rfl dX9_setAdapting_0 rfl ?_
  refine r_bipush F (by decide) dX9_setAdapting_1 rfl ?_
  refine r_iload_n F rfl rfl dX9_setAdapting_3 rfl ?_
  refine r_if_eq F (tgt := 11) ⟨by omega, by omega⟩ dX9_setAdapting_4 rfl (by decide) (fun h_4 => ?_) (fun h_4 => ?_)
  ·
    obtain rfl : k = 0 := by omega
    refine r_iconst F dX9_setAdapting_11 rfl ?_
    refine r_callV F GC (c_X9_put _ _ _ _ hM (a := 8) (by omega)) v_X9_43 rfl (hM.1) rfl (by decide) (by decide) (Nat.le_of_ble_eq_true rfl) rfl dX9_setAdapting_12 rfl (fun v lay' mem' n' hp => ?_)
    obtain ⟨q1, q2, q3, q4⟩ := hp
    subst q1; subst q2; subst q3; subst q4
    exact r_iret F Rt dX9_setAdapting_15 (by decide) ⟨rfl, rfl, rfl, rfl⟩
  ·
    obtain rfl : k = 1 := by omega
    refine r_iconst F dX9_setAdapting_7 rfl ?_
    refine r_goto F (tgt := 12) dX9_setAdapting_8 (by decide) ?_
    refine r_callV F GC (c_X9_put _ _ _ _ hM (a := 8) (by omega)) v_X9_43 rfl (hM.1) rfl (by decide) (by decide) (Nat.le_of_ble_eq_true rfl) rfl dX9_setAdapting_12 rfl (fun v lay' mem' n' hp => ?_)
    obtain ⟨q1, q2, q3, q4⟩ := hp
    subst q1; subst q2; subst q3; subst q4
    exact r_iret F Rt dX9_setAdapting_15 (by decide) ⟨rfl, rfl, rfl, rfl⟩
abbrev rm_X9_arrive : Room := { frames := 6, cells := 0, slots := 0, locals := 140 }
set_option maxRecDepth 100000 in
set_option maxHeartbeats 800000 in
theorem c_X9_arrive (l : Launch) (D : va_G) (cA : Nat → ClassId) (B : Nat) {lay : ja_Y} {n : Nat} {m : Nat} {G : ja_M} {v : Nat → Int} (hM : ja_LM lay m) {x : Int} {t : Int} (hO : N_O v t) (ht : t ≤ 900000) (hx : ja_in x) : ja_Mt l D cA B yX9_arrive cX9_arrive 2 (some .int) rm_X9_arrive [.ref m, .int (ja_I x)] lay (ja_rw G (m + 1) v) n (ja_rd lay (ja_rw G (m + 1) (if N_isF x then N_av v x else v)) n (some (.int (ja_I (if N_isF x then N_an v x else -1001))))) := by
  refine ja_enter [some (.ref m), some (.int (ja_I x))] (by decide) (Nat.le_of_ble_eq_true rfl) (fun q hq => hq) (fun C F Rt GC hnm => ?_)
  obtain ⟨x1_, x2_⟩ := id hx
  refine r_iload_n F rfl rfl dX9_arrive_0 rfl ?_
  refine r_callS F GC (c_X9_isFrame _ _ _ _ ⟨by omega, by omega⟩) s_X9_84 rfl (by decide) (by decide) (Nat.le_of_ble_eq_true rfl) rfl dX9_arrive_1 rfl (fun v lay' mem' n' hp => ?_)
  obtain ⟨q1, q2, q3, q4⟩ := hp
  subst q1; subst q2; subst q3; subst q4
  refine r_if_eq F (tgt := 15) ja_b_in dX9_arrive_4 rfl (by decide) (fun h_4 => ?_) (fun h_4 => ?_)
  ·
    have b_4 : ¬ (0 ≤ x ∧ x ≤ 999) := ja_b_0.mp h_4
    refine r_sipush F (by decide) dX9_arrive_15 rfl ?_
    exact r_iret F Rt dX9_arrive_18 (by decide) ⟨by first | rw [if_pos b_4] | rw [if_neg b_4], rfl, by first | rw [if_pos b_4] | rw [if_neg b_4], rfl⟩
  ·
    have b_4 : (0 ≤ x ∧ x ≤ 999) := ja_b_1 h_4
    refine r_aload_n F rfl rfl dX9_arrive_7 rfl ?_
    refine r_iload_n F rfl rfl dX9_arrive_8 rfl ?_
    refine r_callV F GC (c_X9_arrives _ _ _ _ hM hO ht b_4) v_X9_87 rfl (hM.1) rfl (by decide) (by decide) (Nat.le_of_ble_eq_true rfl) rfl dX9_arrive_9 rfl (fun v lay' mem' n' hp => ?_)
    obtain ⟨q1, q2, q3, q4⟩ := hp
    subst q1; subst q2; subst q3; subst q4
    refine r_goto F (tgt := 18) dX9_arrive_12 (by decide) ?_
    exact r_iret F Rt dX9_arrive_18 (by decide) ⟨by first | rw [if_pos b_4] | rw [if_neg b_4], rfl, by first | rw [if_pos b_4] | rw [if_neg b_4], rfl⟩
abbrev rm_X9_arriveParity : Room := { frames := 6, cells := 0, slots := 0, locals := 143 }
set_option maxRecDepth 100000 in
set_option maxHeartbeats 800000 in
theorem c_X9_arriveParity (l : Launch) (D : va_G) (cA : Nat → ClassId) (B : Nat) {lay : ja_Y} {n : Nat} {m : Nat} {G : ja_M} {v : Nat → Int} (hM : ja_LM lay m) {r k i : Int} {t : Int} (hO : N_O v t) (ht : t ≤ 900000) (h01 : 0 ≤ r ∧ r ≤ 1) (hk : ja_in k) (hi : ja_in i) : ja_Mt l D cA B yX9_arriveParity cX9_arriveParity 4 (some .int) rm_X9_arriveParity [.ref m, .int (ja_I r), .int (ja_I k), .int (ja_I i)] lay (ja_rw G (m + 1) v) n (ja_rd lay (ja_rw G (m + 1) (if N_hP v r k i then N_qv v r k i else v)) n (some (.int (ja_I (if N_hP v r k i then N_qn v r k i else -1001))))) := by
  refine ja_enter [some (.ref m), some (.int (ja_I r)), some (.int (ja_I k)), some (.int (ja_I i))] (by decide) (Nat.le_of_ble_eq_true rfl) (fun q hq => hq) (fun C F Rt GC hnm => ?_)
  have hR := hO.1
  have hS := hR.S
  obtain ⟨k1_, k2_⟩ := id hk
  obtain ⟨i1_, i2_⟩ := id hi
  refine r_aload_n F rfl rfl dX9_arriveParity_0 rfl ?_
  refine r_iload_n F rfl rfl dX9_arriveParity_1 rfl ?_
  refine r_iload_n F rfl rfl dX9_arriveParity_2 rfl ?_
  refine r_iload_n F rfl rfl dX9_arriveParity_3 rfl ?_
  refine r_callV F GC (c_X9_isPacket _ _ _ _ hM hS h01 hk hi) v_X9_91 rfl (hM.1) rfl (by decide) (by decide) (Nat.le_of_ble_eq_true rfl) rfl dX9_arriveParity_4 rfl (fun v lay' mem' n' hp => ?_)
  obtain ⟨q1, q2, q3, q4⟩ := hp
  subst q1; subst q2; subst q3; subst q4
  refine r_if_eq F (tgt := 20) ja_b_in dX9_arriveParity_7 rfl (by decide) (fun h_7 => ?_) (fun h_7 => ?_)
  ·
    have b_7 : ¬ (N_hP v r k i) := ja_b_0.mp h_7
    refine r_sipush F (by decide) dX9_arriveParity_20 rfl ?_
    exact r_iret F Rt dX9_arriveParity_23 (by decide) ⟨by first | rw [if_pos b_7] | rw [if_neg b_7], rfl, by first | rw [if_pos b_7] | rw [if_neg b_7], rfl⟩
  ·
    have b_7 : (N_hP v r k i) := ja_b_1 h_7
    refine r_aload_n F rfl rfl dX9_arriveParity_10 rfl ?_
    refine r_iload_n F rfl rfl dX9_arriveParity_11 rfl ?_
    refine r_iload_n F rfl rfl dX9_arriveParity_12 rfl ?_
    refine r_iload_n F rfl rfl dX9_arriveParity_13 rfl ?_
    refine r_callV F GC (c_X9_arrivesParity _ _ _ _ hM hO ht h01 b_7.1 (N_hP_6 hS b_7)) v_X9_95 rfl (hM.1) rfl (by decide) (by decide) (Nat.le_of_ble_eq_true rfl) rfl dX9_arriveParity_14 rfl (fun v lay' mem' n' hp => ?_)
    obtain ⟨q1, q2, q3, q4⟩ := hp
    subst q1; subst q2; subst q3; subst q4
    refine r_goto F (tgt := 23) dX9_arriveParity_17 (by decide) ?_
    exact r_iret F Rt dX9_arriveParity_23 (by decide) ⟨by first | rw [if_pos b_7] | rw [if_neg b_7], rfl, by first | rw [if_pos b_7] | rw [if_neg b_7], rfl⟩
abbrev rm_X9_advance : Room := { frames := 8, cells := 0, slots := 0, locals := 189 }
set_option maxRecDepth 100000 in
set_option maxHeartbeats 800000 in
theorem c_X9_advance (l : Launch) (D : va_G) (cA : Nat → ClassId) (B : Nat) {lay : ja_Y} {n : Nat} {m : Nat} {G : ja_M} {v : Nat → Int} (hM : ja_LM lay m) {x : Int} {t : Int} (hO : N_O v t) (ht : t ≤ 898000) (hx : ja_in x) : ja_Mt l D cA B yX9_advance cX9_advance 4 (some .int) rm_X9_advance [.ref m, .int (ja_I x)] lay (ja_rw G (m + 1) v) n (N_pg lay m n G (if 1 ≤ x ∧ x ≤ 500 then N_ad v x.toNat else v) (some (.int (ja_I (if 1 ≤ x ∧ x ≤ 500 then N_at v x.toNat else -1001))))) := by
  refine ja_enter [some (.ref m), some (.int (ja_I x)), none, none] (by decide) (Nat.le_of_ble_eq_true rfl) (fun q hq => hq) (fun C F Rt GC hnm => ?_)
  obtain ⟨x1_, x2_⟩ := id hx
  refine r_iload_n F rfl rfl dX9_advance_0 rfl ?_
  refine r_iconst F dX9_advance_1 rfl ?_
  refine r_sipush F (by decide) dX9_advance_2 rfl ?_
  refine r_callS F GC (c_X9_in _ _ _ _ ⟨by omega, by omega⟩ ⟨by omega, by omega⟩ ⟨by omega, by omega⟩) s_X9_35 rfl (by decide) (by decide) (Nat.le_of_ble_eq_true rfl) rfl dX9_advance_5 rfl (fun v lay' mem' n' hp => ?_)
  obtain ⟨q1, q2, q3, q4⟩ := hp
  subst q1; subst q2; subst q3; subst q4
  refine r_if_ne F (tgt := 15) ja_b_in dX9_advance_8 rfl (by decide) (fun h_8 => ?_) (fun h_8 => ?_)
  ·
    have b_8 : (1 ≤ x ∧ x ≤ 500) := ja_b_1 h_8
    refine r_iconst F dX9_advance_15 rfl ?_
    refine r_ist2 F (by decide) rfl dX9_advance_16 rfl ?_
    refine r_iconst F dX9_advance_17 rfl ?_
    refine r_ist3 F (by decide) rfl dX9_advance_18 rfl ?_
    have loop : ∀ (d c : Nat) (G1 : ja_M), c + d = x.toNat → N_ge m G G1 → ja_W C 0 0 lay (ja_rw G1 (m + 1) (N_ad v c)) n 19 [some (.ref m), some (.int (ja_I x)), some (.int (ja_I (N_at v c))), some (.int (ja_I (c : Int)))] [] := by
      intro d
      induction d with
      | zero =>
        intro c G1 hc hG1
        have hwO := N_ad_O hO c (by omega)
        have ha := @N_at_in v c
        refine r_iload_n F rfl rfl dX9_advance_19 rfl ?_
        refine r_iload_n F rfl rfl dX9_advance_20 rfl ?_
        refine r_icmp_ge F (tgt := 37) ⟨by omega, by omega⟩ ⟨by omega, by omega⟩ dX9_advance_21 rfl (by decide) (fun h_21 => ?_) (fun h_21 => ?_)
        ·
          refine r_iload_n F rfl rfl dX9_advance_37 rfl ?_
          exact r_iret F Rt dX9_advance_38 (by decide) ⟨by rw [if_pos b_8, show x.toNat = c by omega], rfl, rfl, G1, hG1, by rw [if_pos b_8, show x.toNat = c by omega]⟩
        ·
          exfalso; omega
      | succ d ih =>
        intro c G1 hc hG1
        have hwO := N_ad_O hO c (by omega)
        have ha := @N_at_in v c
        refine r_iload_n F rfl rfl dX9_advance_19 rfl ?_
        refine r_iload_n F rfl rfl dX9_advance_20 rfl ?_
        refine r_icmp_ge F (tgt := 37) ⟨by omega, by omega⟩ ⟨by omega, by omega⟩ dX9_advance_21 rfl (by decide) (fun h_21 => ?_) (fun h_21 => ?_)
        ·
          exfalso; omega
        ·
          refine r_iload_n F rfl rfl dX9_advance_24 rfl ?_
          refine r_aload_n F rfl rfl dX9_advance_25 rfl ?_
          refine r_callV F GC (c_X9_tick _ _ _ _ hM hwO (by omega)) v_X9_141 rfl (hM.1) rfl (by decide) (by decide) (Nat.le_of_ble_eq_true rfl) rfl dX9_advance_26 rfl (fun v lay' mem' n' hp => ?_)
          obtain ⟨q1, q2, q3, G2, hG2, q4⟩ := hp
          subst q1; subst q2; subst q3; subst q4
          refine r_iadd F dX9_advance_29 rfl ?_
          refine r_ist2 F (by decide) rfl dX9_advance_30 rfl ?_
          refine r_inc3 F (by decide) rfl dX9_advance_31 rfl ?_
          refine r_goto F (tgt := 19) dX9_advance_34 (by decide) ?_
          exact ih (c + 1) _ (by omega) (hG1.tr hG2)
    exact loop x.toNat 0 G (by omega) N_ge.rf
  ·
    have b_8 : ¬ (1 ≤ x ∧ x ≤ 500) := ja_b_0.mp h_8
    refine r_sipush F (by decide) dX9_advance_11 rfl ?_
    exact r_iret F Rt dX9_advance_14 (by decide) ⟨by rw [if_neg b_8], rfl, rfl, G, N_ge.rf, by rw [if_neg b_8]⟩
abbrev rm_X9_keeps : Room := { frames := 0, cells := 0, slots := 0, locals := 0 }
set_option maxRecDepth 100000 in
set_option maxHeartbeats 800000 in
theorem c_X9_keeps (l : Launch) (D : va_G) (cA : Nat → ClassId) (B : Nat) {lay : ja_Y} {n : Nat} {m : Nat} {G : ja_M} {v : Nat → Int} (hM : ja_LM lay m)  : ja_Mt l D cA B yX9_keeps cX9_keeps 2 none rm_X9_keeps [.ref m] lay (ja_rw G (m + 1) v) n (ja_rd lay (ja_rw (ja_rw G (m + 2) v) (m + 1) v) n none) := by
  refine ja_enter [some (.ref m), none] (by decide) (Nat.le_of_ble_eq_true rfl) (fun q hq => hq) (fun C F Rt GC hnm => ?_)
  refine r_iconst F dX9_keeps_0 rfl ?_
  refine r_ist1 F (by decide) rfl dX9_keeps_1 rfl ?_
  have loop : ∀ (d c : Nat), c + d = 2484 → ja_W C 0 0 lay (ja_rw (ja_rw G (m + 2) (N_mix v (G (m + 2)) c)) (m + 1) v) n 2 [some (.ref m), some (.int (ja_I (c : Int)))] [] := by
    intro d
    induction d with
    | zero =>
      intro c hc
      refine r_iload_n F rfl rfl dX9_keeps_2 rfl ?_
      refine r_sipush F (by decide) dX9_keeps_3 rfl ?_
      refine r_icmp_ge F (tgt := 27) ⟨by omega, by omega⟩ ⟨by omega, by omega⟩ dX9_keeps_6 rfl (by decide) (fun h_6 => ?_) (fun h_6 => ?_)
      ·
        obtain rfl : c = 2484 := by omega
        rw [ja_rw_cm (by omega)]
        refine r_ext (ja_LM_2 hM) (g := v) (fun j hj => N_mix_in hj) ?_
        rw [ja_rw_cm (by omega)]
        exact r_vret F Rt dX9_keeps_27 (by decide) ⟨rfl, rfl, rfl, rfl⟩
      ·
        exfalso; omega
    | succ d ih =>
      intro c hc
      refine r_iload_n F rfl rfl dX9_keeps_2 rfl ?_
      refine r_sipush F (by decide) dX9_keeps_3 rfl ?_
      refine r_icmp_ge F (tgt := 27) ⟨by omega, by omega⟩ ⟨by omega, by omega⟩ dX9_keeps_6 rfl (by decide) (fun h_6 => ?_) (fun h_6 => ?_)
      ·
        exfalso; omega
      ·
        refine r_aload_n F rfl rfl dX9_keeps_9 rfl ?_
        refine r_getR F f_X9_13 (hM.1) rfl dX9_keeps_10 rfl ?_
        refine r_iload_n F rfl rfl dX9_keeps_13 rfl ?_
        refine r_aload_n F rfl rfl dX9_keeps_14 rfl ?_
        refine r_getR F f_X9_7 (hM.1) rfl dX9_keeps_15 rfl ?_
        refine r_iload_n F rfl rfl dX9_keeps_18 rfl ?_
        refine r_iald F (ja_LM_1 hM) (by omega) (by omega) (by decide) dX9_keeps_19 rfl ?_
        refine r_eqz (z := (v (Int.toNat (c : Int)))) (by rw [ja_rw_s]) ?_
        refine r_iast F (ja_LM_2 hM) (by omega) (by omega) (by decide) dX9_keeps_20 rfl ?_
        refine r_mem (mem' := ja_rw (ja_up (ja_rw G (m + 2) (N_mix v (G (m + 2)) c)) (m + 2) (Int.toNat (c : Int)) (v (Int.toNat (c : Int)))) (m + 1) v) (ja_up_rw (by omega)) ?_
        refine r_inc1 F (by decide) rfl dX9_keeps_21 rfl ?_
        refine r_goto F (tgt := 2) dX9_keeps_24 (by decide) ?_
        rw [ja_rw_up, ja_nat, N_mix_s]
        exact ih (c + 1) (by omega)
  have h0 := loop 2484 0 (by omega)
  rw [N_mix_0, ja_rw_self] at h0
  exact h0
abbrev rm_X9_brings : Room := { frames := 0, cells := 0, slots := 0, locals := 0 }
set_option maxRecDepth 100000 in
set_option maxHeartbeats 800000 in
theorem c_X9_brings (l : Launch) (D : va_G) (cA : Nat → ClassId) (B : Nat) {lay : ja_Y} {n : Nat} {m : Nat} {G : ja_M} {v : Nat → Int} (hM : ja_LM lay m) {u : Nat → Int} (hu : ∀ j : Nat, j < 2484 → G (m + 2) j = u j) : ja_Mt l D cA B yX9_brings cX9_brings 2 none rm_X9_brings [.ref m] lay (ja_rw G (m + 1) v) n (ja_rd lay (ja_rw G (m + 1) (u)) n (none)) := by
  refine ja_enter [some (.ref m), none] (by decide) (Nat.le_of_ble_eq_true rfl) (fun q hq => hq) (fun C F Rt GC hnm => ?_)
  refine r_iconst F dX9_brings_0 rfl ?_
  refine r_ist1 F (by decide) rfl dX9_brings_1 rfl ?_
  have loop : ∀ (d c : Nat), c + d = 2484 → ja_W C 0 0 lay (ja_rw G (m + 1) (N_mix (G (m + 2)) v c)) n 2 [some (.ref m), some (.int (ja_I (c : Int)))] [] := by
    intro d
    induction d with
    | zero =>
      intro c hc
      refine r_iload_n F rfl rfl dX9_brings_2 rfl ?_
      refine r_sipush F (by decide) dX9_brings_3 rfl ?_
      refine r_icmp_ge F (tgt := 27) ⟨by omega, by omega⟩ ⟨by omega, by omega⟩ dX9_brings_6 rfl (by decide) (fun h_6 => ?_) (fun h_6 => ?_)
      ·
        obtain rfl : c = 2484 := by omega
        refine r_ext (ja_LM_1 hM) (g := u) (fun j hj => (N_mix_in hj).trans (hu j hj)) ?_
        exact r_vret F Rt dX9_brings_27 (by decide) ⟨rfl, rfl, rfl, rfl⟩
      ·
        exfalso; omega
    | succ d ih =>
      intro c hc
      refine r_iload_n F rfl rfl dX9_brings_2 rfl ?_
      refine r_sipush F (by decide) dX9_brings_3 rfl ?_
      refine r_icmp_ge F (tgt := 27) ⟨by omega, by omega⟩ ⟨by omega, by omega⟩ dX9_brings_6 rfl (by decide) (fun h_6 => ?_) (fun h_6 => ?_)
      ·
        exfalso; omega
      ·
        refine r_aload_n F rfl rfl dX9_brings_9 rfl ?_
        refine r_getR F f_X9_7 (hM.1) rfl dX9_brings_10 rfl ?_
        refine r_iload_n F rfl rfl dX9_brings_13 rfl ?_
        refine r_aload_n F rfl rfl dX9_brings_14 rfl ?_
        refine r_getR F f_X9_13 (hM.1) rfl dX9_brings_15 rfl ?_
        refine r_iload_n F rfl rfl dX9_brings_18 rfl ?_
        refine r_iald F (ja_LM_2 hM) (by omega) (by omega) (by decide) dX9_brings_19 rfl ?_
        refine r_eqz (z := (G (m + 2) c)) (by rw [ja_rw_n (by omega), ja_nat]) ?_
        refine r_iast F (ja_LM_1 hM) (by omega) (by omega) (by decide) dX9_brings_20 rfl ?_
        refine r_mem (mem' := ja_rw G (m + 1) (ja_rs (N_mix (G (m + 2)) v c) (Int.toNat (c : Int)) (G (m + 2) c))) (ja_rw_up _ _ _ _ _) ?_
        refine r_inc1 F (by decide) rfl dX9_brings_21 rfl ?_
        refine r_goto F (tgt := 2) dX9_brings_24 (by decide) ?_
        rw [ja_nat, N_mix_s]
        exact ih (c + 1) (by omega)
  have h0 := loop 2484 0 (by omega)
  rw [N_mix_0] at h0
  exact h0
