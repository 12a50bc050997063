abbrev rm_X9_in : Room := { frames := 0, cells := 0, slots := 0, locals := 0 }
set_option maxRecDepth 100000 in
set_option maxHeartbeats 800000 in
theorem c_X9_in (l : Launch) (D : va_G) (cA : Nat → ClassId) (B : Nat) {lay : ja_Y} {n : Nat} {mem : ja_M} {x lo hi : Int} (hx : ja_in x) (hl : ja_in lo) (hh : ja_in hi) : ja_Mt l D cA B yX9_in cX9_in 3 (some .boolean) rm_X9_in [.int (ja_I x), .int (ja_I lo), .int (ja_I hi)] lay (mem) n (ja_rd lay mem n (some (.int (ja_I (ja_b (lo ≤ x ∧ x ≤ hi)))))) := by
  refine ja_enter [some (.int (ja_I x)), some (.int (ja_I lo)), some (.int (ja_I hi))] (by decide) (Nat.le_of_ble_eq_true rfl) (fun q hq => hq) (fun C F Rt GC hnm => ?_)
  obtain ⟨x1, x2⟩ := hx
  obtain ⟨l1, l2⟩ := hl
  obtain ⟨u1, u2⟩ := hh
  refine r_iload_n F rfl rfl dX9_in_0 rfl ?_
  refine r_iload_n F rfl rfl dX9_in_1 rfl ?_
  refine r_icmp_lt F (tgt := 14) ⟨by omega, by omega⟩ ⟨by omega, by omega⟩ dX9_in_2 rfl (by decide) (fun h_2 => ?_) (fun h_2 => ?_)
  ·
    refine r_iconst F dX9_in_14 rfl ?_
    exact r_zret F Rt (by omega) dX9_in_15 (by decide) ⟨by simp only [ja_b]; first | rw [if_pos (by omega)] | rw [if_neg (by omega)], rfl, rfl, rfl⟩
  ·
    refine r_iload_n F rfl rfl dX9_in_5 rfl ?_
    refine r_iload_n F rfl rfl dX9_in_6 rfl ?_
    refine r_icmp_gt F (tgt := 14) ⟨by omega, by omega⟩ ⟨by omega, by omega⟩ dX9_in_7 rfl (by decide) (fun h_7 => ?_) (fun h_7 => ?_)
    ·
      refine r_iconst F dX9_in_14 rfl ?_
      exact r_zret F Rt (by omega) dX9_in_15 (by decide) ⟨by simp only [ja_b]; first | rw [if_pos (by omega)] | rw [if_neg (by omega)], rfl, rfl, rfl⟩
    ·
      refine r_iconst F dX9_in_10 rfl ?_
      refine r_goto F (tgt := 15) dX9_in_11 (by decide) ?_
      exact r_zret F Rt (by omega) dX9_in_15 (by decide) ⟨by simp only [ja_b]; first | rw [if_pos (by omega)] | rw [if_neg (by omega)], rfl, rfl, rfl⟩
abbrev rm_X9_size : Room := { frames := 0, cells := 0, slots := 0, locals := 0 }
set_option maxRecDepth 100000 in
set_option maxHeartbeats 800000 in
theorem c_X9_size (l : Launch) (D : va_G) (cA : Nat → ClassId) (B : Nat) {lay : ja_Y} {n : Nat} {mem : ja_M} {x : Int} (hx : -1000000 ≤ x ∧ x ≤ 1000000) : ja_Mt l D cA B yX9_size cX9_size 1 (some .int) rm_X9_size [.int (ja_I x)] lay (mem) n (ja_rd lay mem n (some (.int (ja_I (P_ab x))))) := by
  refine ja_enter [some (.int (ja_I x))] (by decide) (Nat.le_of_ble_eq_true rfl) (fun q hq => hq) (fun C F Rt GC hnm => ?_)
  refine r_iload_n F rfl rfl dX9_size_0 rfl ?_
  refine r_if_ge F (tgt := 9) ⟨by omega, by omega⟩ dX9_size_1 rfl (by decide) (fun h_1 => ?_) (fun h_1 => ?_)
  ·
    refine r_iload_n F rfl rfl dX9_size_9 rfl ?_
    exact r_iret F Rt dX9_size_10 (by decide) ⟨by unfold P_ab; first | (rw [if_pos (by omega)]; done) | (rw [if_neg (by omega)]; congr 3; omega), rfl, rfl, rfl⟩
  ·
    refine r_iload_n F rfl rfl dX9_size_4 rfl ?_
    refine r_ineg F dX9_size_5 rfl ?_
    refine r_goto F (tgt := 10) dX9_size_6 (by decide) ?_
    exact r_iret F Rt dX9_size_10 (by decide) ⟨by unfold P_ab; first | (rw [if_pos (by omega)]; done) | (rw [if_neg (by omega)]; congr 3; omega), rfl, rfl, rfl⟩
abbrev rm_X9_isFrame : Room := { frames := 1, cells := 0, slots := 0, locals := 22 }
set_option maxRecDepth 100000 in
set_option maxHeartbeats 800000 in
theorem c_X9_isFrame (l : Launch) (D : va_G) (cA : Nat → ClassId) (B : Nat) {lay : ja_Y} {n : Nat} {mem : ja_M} {x : Int} (hx : ja_in x) : ja_Mt l D cA B yX9_isFrame cX9_isFrame 1 (some .boolean) rm_X9_isFrame [.int (ja_I x)] lay (mem) n (ja_rd lay mem n (some (.int (ja_I (ja_b (0 ≤ x ∧ x ≤ 999)))))) := by
  refine ja_enter [some (.int (ja_I x))] (by decide) (Nat.le_of_ble_eq_true rfl) (fun q hq => hq) (fun C F Rt GC hnm => ?_)
  obtain ⟨x1, x2⟩ := hx
  refine r_iload_n F rfl rfl dX9_isFrame_0 rfl ?_
  refine r_iconst F dX9_isFrame_1 rfl ?_
  refine r_sipush F (by decide) dX9_isFrame_2 rfl ?_
  refine r_callS F GC (c_X9_in _ _ _ _ ⟨by omega, by omega⟩ ⟨by omega, by omega⟩ ⟨by omega, by omega⟩) s_X9_35 rfl (by decide) (by decide) (Nat.le_of_ble_eq_true rfl) rfl dX9_isFrame_5 rfl (fun v lay' mem' n' hp => ?_)
  obtain ⟨q1, q2, q3, q4⟩ := hp
  subst q1; subst q2; subst q3; subst q4
  exact r_zret F Rt ja_b_o dX9_isFrame_8 (by decide) ⟨rfl, rfl, rfl, rfl⟩
abbrev rm_X9_put : Room := { frames := 0, cells := 0, slots := 0, locals := 0 }
set_option maxRecDepth 100000 in
set_option maxHeartbeats 800000 in
theorem c_X9_put (l : Launch) (D : va_G) (cA : Nat → ClassId) (B : Nat) {lay : ja_Y} {n : Nat} {m : Nat} {G : ja_M} {v : Nat → Int} (hM : ja_LM lay m) {a : Nat} {z : Int} (ha : a < 2484) : ja_Mt l D cA B yX9_put cX9_put 4 (some .int) rm_X9_put [.ref m, .int (ja_I (a : Int)), .int (ja_I z)] lay (ja_rw G (m + 1) v) n (ja_rd lay (ja_rw G (m + 1) (ja_rs v a z)) n (some (.int (ja_I (v a))))) := by
  refine ja_enter [some (.ref m), some (.int (ja_I (a : Int))), some (.int (ja_I z)), none] (by decide) (Nat.le_of_ble_eq_true rfl) (fun q hq => hq) (fun C F Rt GC hnm => ?_)
  refine r_aload_n F rfl rfl dX9_put_0 rfl ?_
  refine r_getR F f_X9_7 (hM.1) rfl dX9_put_1 rfl ?_
  refine r_iload_n F rfl rfl dX9_put_4 rfl ?_
  refine r_iald F (ja_LM_1 hM) (by omega) (by omega) (by decide) dX9_put_5 rfl ?_
  refine r_eqz (z := (v (Int.toNat (a : Int)))) (by rw [ja_rw_s]) ?_
  refine r_ist3 F (by decide) rfl dX9_put_6 rfl ?_
  refine r_aload_n F rfl rfl dX9_put_7 rfl ?_
  refine r_getR F f_X9_7 (hM.1) rfl dX9_put_8 rfl ?_
  refine r_iload_n F rfl rfl dX9_put_11 rfl ?_
  refine r_iload_n F rfl rfl dX9_put_12 rfl ?_
  refine r_iast F (ja_LM_1 hM) (by omega) (by omega) (by decide) dX9_put_13 rfl ?_
  refine r_mem (mem' := ja_rw G (m + 1) (ja_rs v (Int.toNat (a : Int)) z)) (ja_rw_up _ _ _ _ _) ?_
  refine r_iload_n F rfl rfl dX9_put_14 rfl ?_
  exact r_iret F Rt dX9_put_15 (by decide) ⟨rfl, rfl, by rw [ja_nat], rfl⟩
abbrev rm_X9_isBegun : Room := { frames := 0, cells := 0, slots := 0, locals := 0 }
set_option maxRecDepth 100000 in
set_option maxHeartbeats 800000 in
theorem c_X9_isBegun (l : Launch) (D : va_G) (cA : Nat → ClassId) (B : Nat) {lay : ja_Y} {n : Nat} {m : Nat} {G : ja_M} {v : Nat → Int} (hM : ja_LM lay m) (hR : N_R v) : ja_Mt l D cA B yX9_isBegun cX9_isBegun 1 (some .boolean) rm_X9_isBegun [.ref m] lay (ja_rw G (m + 1) v) n (ja_rd lay (ja_rw G (m + 1) v) n (some (.int (ja_I (ja_b (N_bg v)))))) := by
  refine ja_enter [some (.ref m)] (by decide) (Nat.le_of_ble_eq_true rfl) (fun q hq => hq) (fun C F Rt GC hnm => ?_)
  have hC := hR.C
  refine r_aload_n F rfl rfl dX9_isBegun_0 rfl ?_
  refine r_getR F f_X9_7 (hM.1) rfl dX9_isBegun_1 rfl ?_
  refine r_bipush F (by decide) dX9_isBegun_4 rfl ?_
  refine r_iald F (ja_LM_1 hM) (by omega) (by omega) (by decide) dX9_isBegun_6 rfl ?_
  refine r_eqz (z := (v 10)) (by rw [ja_rw_s, show Int.toNat 10 = 10 from rfl]) ?_
  refine r_if_ge F (tgt := 20) ⟨by omega, by omega⟩ dX9_isBegun_7 rfl (by decide) (fun h_7 => ?_) (fun h_7 => ?_)
  ·
    refine r_iconst F dX9_isBegun_20 rfl ?_
    refine r_goto F (tgt := 25) dX9_isBegun_21 (by decide) ?_
    exact r_zret F Rt (by omega) dX9_isBegun_25 (by decide) ⟨by simp only [ja_b, N_bg]; first | rw [if_pos (by omega)] | rw [if_neg (by omega)], rfl, rfl, rfl⟩
  ·
    refine r_aload_n F rfl rfl dX9_isBegun_10 rfl ?_
    refine r_getR F f_X9_7 (hM.1) rfl dX9_isBegun_11 rfl ?_
    refine r_bipush F (by decide) dX9_isBegun_14 rfl ?_
    refine r_iald F (ja_LM_1 hM) (by omega) (by omega) (by decide) dX9_isBegun_16 rfl ?_
    refine r_eqz (z := (v 25)) (by rw [ja_rw_s, show Int.toNat 25 = 25 from rfl]) ?_
    refine r_if_le F (tgt := 24) ⟨by omega, by omega⟩ dX9_isBegun_17 rfl (by decide) (fun h_17 => ?_) (fun h_17 => ?_)
    ·
      refine r_iconst F dX9_isBegun_24 rfl ?_
      exact r_zret F Rt (by omega) dX9_isBegun_25 (by decide) ⟨by simp only [ja_b, N_bg]; first | rw [if_pos (by omega)] | rw [if_neg (by omega)], rfl, rfl, rfl⟩
    ·
      refine r_iconst F dX9_isBegun_20 rfl ?_
      refine r_goto F (tgt := 25) dX9_isBegun_21 (by decide) ?_
      exact r_zret F Rt (by omega) dX9_isBegun_25 (by decide) ⟨by simp only [ja_b, N_bg]; first | rw [if_pos (by omega)] | rw [if_neg (by omega)], rfl, rfl, rfl⟩
abbrev rm_X9_area : Room := { frames := 0, cells := 0, slots := 0, locals := 0 }
set_option maxRecDepth 100000 in
set_option maxHeartbeats 800000 in
theorem c_X9_area (l : Launch) (D : va_G) (cA : Nat → ClassId) (B : Nat) {lay : ja_Y} {n : Nat} {m : Nat} {G : ja_M} {v : Nat → Int} (hM : ja_LM lay m) (hS : N_S v) : ja_Mt l D cA B yX9_area cX9_area 1 (some .int) rm_X9_area [.ref m] lay (ja_rw G (m + 1) v) n (ja_rd lay (ja_rw G (m + 1) v) n (some (.int (ja_I (N_ar v))))) := by
  refine ja_enter [some (.ref m)] (by decide) (Nat.le_of_ble_eq_true rfl) (fun q hq => hq) (fun C F Rt GC hnm => ?_)
  refine r_aload_n F rfl rfl dX9_area_0 rfl ?_
  refine r_getR F f_X9_7 (hM.1) rfl dX9_area_1 rfl ?_
  refine r_iconst F dX9_area_4 rfl ?_
  refine r_iald F (ja_LM_1 hM) (by omega) (by omega) (by decide) dX9_area_5 rfl ?_
  refine r_eqz (z := (v 3)) (by rw [ja_rw_s, show Int.toNat 3 = 3 from rfl]) ?_
  refine r_aload_n F rfl rfl dX9_area_6 rfl ?_
  refine r_getR F f_X9_7 (hM.1) rfl dX9_area_7 rfl ?_
  refine r_iconst F dX9_area_10 rfl ?_
  refine r_iald F (ja_LM_1 hM) (by omega) (by omega) (by decide) dX9_area_11 rfl ?_
  refine r_eqz (z := (v 4)) (by rw [ja_rw_s, show Int.toNat 4 = 4 from rfl]) ?_
  refine r_imul F dX9_area_12 rfl ?_
  exact r_iret F Rt dX9_area_13 (by decide) ⟨rfl, rfl, rfl, rfl⟩
abbrev rm_X9_isPacket : Room := { frames := 1, cells := 0, slots := 0, locals := 22 }
set_option maxRecDepth 100000 in
set_option maxHeartbeats 800000 in
theorem c_X9_isPacket (l : Launch) (D : va_G) (cA : Nat → ClassId) (B : Nat) {lay : ja_Y} {n : Nat} {m : Nat} {G : ja_M} {v : Nat → Int} (hM : ja_LM lay m) {r k i : Int} (hS : N_S v) (hr : 0 ≤ r ∧ r ≤ 1) (hk : ja_in k) (hi : ja_in i) : ja_Mt l D cA B yX9_isPacket cX9_isPacket 4 (some .boolean) rm_X9_isPacket [.ref m, .int (ja_I r), .int (ja_I k), .int (ja_I i)] lay (ja_rw G (m + 1) v) n (ja_rd lay (ja_rw G (m + 1) v) n (some (.int (ja_I (ja_b (N_hP v r k i)))))) := by
  refine ja_enter [some (.ref m), some (.int (ja_I r)), some (.int (ja_I k)), some (.int (ja_I i))] (by decide) (Nat.le_of_ble_eq_true rfl) (fun q hq => hq) (fun C F Rt GC hnm => ?_)
  have ha := N_ar_in hS
  obtain ⟨k1, k2⟩ := hk
  obtain ⟨i1, i2⟩ := hi
  have hd0 := Int.ediv_nonneg (show (0 : Int) ≤ 999 by omega) (show 0 ≤ N_ar v by omega)
  have hd1 := Int.ediv_le_self (N_ar v) (show (0 : Int) ≤ 999 by omega)
  obtain ⟨-, -, -, h3, h4, -⟩ := id hS
  refine r_iload_n F rfl rfl dX9_isPacket_0 rfl ?_
  refine r_iconst F dX9_isPacket_1 rfl ?_
  refine r_sipush F (by decide) dX9_isPacket_2 rfl ?_
  refine r_aload_n F rfl rfl dX9_isPacket_5 rfl ?_
  refine r_callV F GC (c_X9_area _ _ _ _ hM hS) v_X9_47 rfl (hM.1) rfl (by decide) (by decide) (Nat.le_of_ble_eq_true rfl) rfl dX9_isPacket_6 rfl (fun v lay' mem' n' hp => ?_)
  obtain ⟨q1, q2, q3, q4⟩ := hp
  subst q1; subst q2; subst q3; subst q4
  refine r_idivP F ⟨by omega, by omega⟩ ⟨by omega, by omega⟩ (by omega) (by omega) dX9_isPacket_9 rfl ?_
  refine r_callS F GC (c_X9_in _ _ _ _ ⟨by omega, by omega⟩ ⟨by omega, by omega⟩ ⟨by omega, by omega⟩) s_X9_35 rfl (by decide) (by decide) (Nat.le_of_ble_eq_true rfl) rfl dX9_isPacket_10 rfl (fun v lay' mem' n' hp => ?_)
  obtain ⟨q1, q2, q3, q4⟩ := hp
  subst q1; subst q2; subst q3; subst q4
  refine r_if_eq F (tgt := 49) ja_b_in dX9_isPacket_13 rfl (by decide) (fun h_13 => ?_) (fun h_13 => ?_)
  ·
    have b_13 : ¬ (0 ≤ k ∧ k ≤ (999 / (N_ar v))) := ja_b_0.mp h_13
    refine r_iconst F dX9_isPacket_49 rfl ?_
    exact r_zret F Rt (by omega) dX9_isPacket_50 (by decide) ⟨by simp only [ja_b, N_hP, N_hB]; first | rw [if_pos ⟨⟨by omega, by omega⟩, by omega, by first | rw [if_pos (by omega)]; omega | rw [if_neg (by omega)]; omega⟩] | rw [if_neg (fun q => by have := q.1.1; have := q.1.2; have q2 := q.2.2; first | (rw [if_pos (by omega)] at q2; omega) | (rw [if_neg (by omega)] at q2; omega) | omega)], rfl, rfl, rfl⟩
  ·
    have b_13 : (0 ≤ k ∧ k ≤ (999 / (N_ar v))) := ja_b_1 h_13
    refine r_iload_n F rfl rfl dX9_isPacket_16 rfl ?_
    refine r_iconst F dX9_isPacket_17 rfl ?_
    refine r_iload_n F rfl rfl dX9_isPacket_18 rfl ?_
    refine r_if_eq F (tgt := 31) ⟨by omega, by omega⟩ dX9_isPacket_19 rfl (by decide) (fun h_19 => ?_) (fun h_19 => ?_)
    ·
      refine r_aload_n F rfl rfl dX9_isPacket_31 rfl ?_
      refine r_getR F f_X9_7 (hM.1) rfl dX9_isPacket_32 rfl ?_
      refine r_iconst F dX9_isPacket_35 rfl ?_
      refine r_iald F (ja_LM_1 hM) (by omega) (by omega) (by decide) dX9_isPacket_36 rfl ?_
      refine r_eqz (z := (v 3)) (by rw [ja_rw_s, show Int.toNat 3 = 3 from rfl]) ?_
      refine r_iconst F dX9_isPacket_37 rfl ?_
      refine r_isub F dX9_isPacket_38 rfl ?_
      refine r_callS F GC (c_X9_in _ _ _ _ ⟨by omega, by omega⟩ ⟨by omega, by omega⟩ ⟨by omega, by omega⟩) s_X9_35 rfl (by decide) (by decide) (Nat.le_of_ble_eq_true rfl) rfl dX9_isPacket_39 rfl (fun v lay' mem' n' hp => ?_)
      obtain ⟨q1, q2, q3, q4⟩ := hp
      subst q1; subst q2; subst q3; subst q4
      refine r_if_eq F (tgt := 49) ja_b_in dX9_isPacket_42 rfl (by decide) (fun h_42 => ?_) (fun h_42 => ?_)
      ·
        have b_42 : ¬ (0 ≤ i ∧ i ≤ ((v 3) - 1)) := ja_b_0.mp h_42
        refine r_iconst F dX9_isPacket_49 rfl ?_
        exact r_zret F Rt (by omega) dX9_isPacket_50 (by decide) ⟨by simp only [ja_b, N_hP, N_hB]; first | rw [if_pos ⟨⟨by omega, by omega⟩, by omega, by first | rw [if_pos (by omega)]; omega | rw [if_neg (by omega)]; omega⟩] | rw [if_neg (fun q => by have := q.1.1; have := q.1.2; have q2 := q.2.2; first | (rw [if_pos (by omega)] at q2; omega) | (rw [if_neg (by omega)] at q2; omega) | omega)], rfl, rfl, rfl⟩
      ·
        have b_42 : (0 ≤ i ∧ i ≤ ((v 3) - 1)) := ja_b_1 h_42
        refine r_iconst F dX9_isPacket_45 rfl ?_
        refine r_goto F (tgt := 50) dX9_isPacket_46 (by decide) ?_
        exact r_zret F Rt (by omega) dX9_isPacket_50 (by decide) ⟨by simp only [ja_b, N_hP, N_hB]; first | rw [if_pos ⟨⟨by omega, by omega⟩, by omega, by first | rw [if_pos (by omega)]; omega | rw [if_neg (by omega)]; omega⟩] | rw [if_neg (fun q => by have := q.1.1; have := q.1.2; have q2 := q.2.2; first | (rw [if_pos (by omega)] at q2; omega) | (rw [if_neg (by omega)] at q2; omega) | omega)], rfl, rfl, rfl⟩
    ·
      refine r_aload_n F rfl rfl dX9_isPacket_22 rfl ?_
      refine r_getR F f_X9_7 (hM.1) rfl dX9_isPacket_23 rfl ?_
      refine r_iconst F dX9_isPacket_26 rfl ?_
      refine r_iald F (ja_LM_1 hM) (by omega) (by omega) (by decide) dX9_isPacket_27 rfl ?_
      refine r_eqz (z := (v 4)) (by rw [ja_rw_s, show Int.toNat 4 = 4 from rfl]) ?_
      refine r_goto F (tgt := 37) dX9_isPacket_28 (by decide) ?_
      refine r_iconst F dX9_isPacket_37 rfl ?_
      refine r_isub F dX9_isPacket_38 rfl ?_
      refine r_callS F GC (c_X9_in _ _ _ _ ⟨by omega, by omega⟩ ⟨by omega, by omega⟩ ⟨by omega, by omega⟩) s_X9_35 rfl (by decide) (by decide) (Nat.le_of_ble_eq_true rfl) rfl dX9_isPacket_39 rfl (fun v lay' mem' n' hp => ?_)
      obtain ⟨q1, q2, q3, q4⟩ := hp
      subst q1; subst q2; subst q3; subst q4
      refine r_if_eq F (tgt := 49) ja_b_in dX9_isPacket_42 rfl (by decide) (fun h_42 => ?_) (fun h_42 => ?_)
      ·
        have b_42 : ¬ (0 ≤ i ∧ i ≤ ((v 4) - 1)) := ja_b_0.mp h_42
        refine r_iconst F dX9_isPacket_49 rfl ?_
        exact r_zret F Rt (by omega) dX9_isPacket_50 (by decide) ⟨by simp only [ja_b, N_hP, N_hB]; first | rw [if_pos ⟨⟨by omega, by omega⟩, by omega, by first | rw [if_pos (by omega)]; omega | rw [if_neg (by omega)]; omega⟩] | rw [if_neg (fun q => by have := q.1.1; have := q.1.2; have q2 := q.2.2; first | (rw [if_pos (by omega)] at q2; omega) | (rw [if_neg (by omega)] at q2; omega) | omega)], rfl, rfl, rfl⟩
      ·
        have b_42 : (0 ≤ i ∧ i ≤ ((v 4) - 1)) := ja_b_1 h_42
        refine r_iconst F dX9_isPacket_45 rfl ?_
        refine r_goto F (tgt := 50) dX9_isPacket_46 (by decide) ?_
        exact r_zret F Rt (by omega) dX9_isPacket_50 (by decide) ⟨by simp only [ja_b, N_hP, N_hB]; first | rw [if_pos ⟨⟨by omega, by omega⟩, by omega, by first | rw [if_pos (by omega)]; omega | rw [if_neg (by omega)]; omega⟩] | rw [if_neg (fun q => by have := q.1.1; have := q.1.2; have q2 := q.2.2; first | (rw [if_pos (by omega)] at q2; omega) | (rw [if_neg (by omega)] at q2; omega) | omega)], rfl, rfl, rfl⟩
abbrev rm_X9_isKnown : Room := { frames := 0, cells := 0, slots := 0, locals := 0 }
set_option maxRecDepth 100000 in
set_option maxHeartbeats 800000 in
theorem c_X9_isKnown (l : Launch) (D : va_G) (cA : Nat → ClassId) (B : Nat) {lay : ja_Y} {n : Nat} {m : Nat} {G : ja_M} {v : Nat → Int} (hM : ja_LM lay m) {x : Int} (hR : N_R v) (hx : 0 ≤ x ∧ x ≤ 2000) : ja_Mt l D cA B yX9_isKnown cX9_isKnown 2 (some .boolean) rm_X9_isKnown [.ref m, .int (ja_I x)] lay (ja_rw G (m + 1) v) n (ja_rd lay (ja_rw G (m + 1) v) n (some (.int (ja_I (ja_b (N_kn v x)))))) := by
  refine ja_enter [some (.ref m), some (.int (ja_I x))] (by decide) (Nat.le_of_ble_eq_true rfl) (fun q hq => hq) (fun C F Rt GC hnm => ?_)
  refine r_iload_n F rfl rfl dX9_isKnown_0 rfl ?_
  refine r_sipush F (by decide) dX9_isKnown_1 rfl ?_
  refine r_icmp_gt F (tgt := 19) ⟨by omega, by omega⟩ ⟨by omega, by omega⟩ dX9_isKnown_4 rfl (by decide) (fun h_4 => ?_) (fun h_4 => ?_)
  ·
    refine r_iconst F dX9_isKnown_19 rfl ?_
    refine r_goto F (tgt := 24) dX9_isKnown_20 (by decide) ?_
    exact r_zret F Rt (by omega) dX9_isKnown_24 (by decide) ⟨by simp only [ja_b, N_kn]; first | rw [if_pos (by omega)] | rw [if_neg (by omega)], rfl, rfl, rfl⟩
  ·
    refine r_aload_n F rfl rfl dX9_isKnown_7 rfl ?_
    refine r_getR F f_X9_7 (hM.1) rfl dX9_isKnown_8 rfl ?_
    refine r_bipush F (by decide) dX9_isKnown_11 rfl ?_
    refine r_iload_n F rfl rfl dX9_isKnown_13 rfl ?_
    refine r_iadd F dX9_isKnown_14 rfl ?_
    refine r_iald F (ja_LM_1 hM) (by omega) (by omega) (by decide) dX9_isKnown_15 rfl ?_
    refine r_eqz (z := (v (Int.toNat (30 + x)))) (by rw [ja_rw_s]) ?_
    have hf := hR.F (j := (30 + x).toNat) (by omega) (by omega)
    refine r_if_le F (tgt := 23) ⟨by omega, by omega⟩ dX9_isKnown_16 rfl (by decide) (fun h_16 => ?_) (fun h_16 => ?_)
    ·
      refine r_iconst F dX9_isKnown_23 rfl ?_
      exact r_zret F Rt (by omega) dX9_isKnown_24 (by decide) ⟨by simp only [ja_b, N_kn]; first | rw [if_pos (by omega)] | rw [if_neg (by omega)], rfl, rfl, rfl⟩
    ·
      refine r_iconst F dX9_isKnown_19 rfl ?_
      refine r_goto F (tgt := 24) dX9_isKnown_20 (by decide) ?_
      exact r_zret F Rt (by omega) dX9_isKnown_24 (by decide) ⟨by simp only [ja_b, N_kn]; first | rw [if_pos (by omega)] | rw [if_neg (by omega)], rfl, rfl, rfl⟩
abbrev rm_X9_packet : Room := { frames := 0, cells := 0, slots := 0, locals := 0 }
set_option maxRecDepth 100000 in
set_option maxHeartbeats 800000 in
theorem c_X9_packet (l : Launch) (D : va_G) (cA : Nat → ClassId) (B : Nat) {lay : ja_Y} {n : Nat} {m : Nat} {G : ja_M} {v : Nat → Int} (hM : ja_LM lay m) {r k i : Int} (hr : 0 ≤ r ∧ r ≤ 1) (hS : N_S v) (hk : N_hB v k) (hi : 0 ≤ i ∧ i ≤ 6) : ja_Mt l D cA B yX9_packet cX9_packet 4 (some .int) rm_X9_packet [.ref m, .int (ja_I r), .int (ja_I k), .int (ja_I i)] lay (ja_rw G (m + 1) v) n (ja_rd lay (ja_rw G (m + 1) v) n (some (.int (ja_I (N_pk v r k i))))) := by
  refine ja_enter [some (.ref m), some (.int (ja_I r)), some (.int (ja_I k)), some (.int (ja_I i))] (by decide) (Nat.le_of_ble_eq_true rfl) (fun q hq => hq) (fun C F Rt GC hnm => ?_)
  refine r_iload_n F rfl rfl dX9_packet_0 rfl ?_
  refine r_if_eq F (tgt := 21) ⟨by omega, by omega⟩ dX9_packet_1 rfl (by decide) (fun h_1 => ?_) (fun h_1 => ?_)
  ·
    refine r_sipush F (by decide) dX9_packet_21 rfl ?_
    refine r_aload_n F rfl rfl dX9_packet_24 rfl ?_
    refine r_getR F f_X9_7 (hM.1) rfl dX9_packet_25 rfl ?_
    refine r_iconst F dX9_packet_28 rfl ?_
    refine r_iald F (ja_LM_1 hM) (by omega) (by omega) (by decide) dX9_packet_29 rfl ?_
    refine r_eqz (z := (v 3)) (by rw [ja_rw_s, show Int.toNat 3 = 3 from rfl]) ?_
    refine r_iload_n F rfl rfl dX9_packet_30 rfl ?_
    refine r_imul F dX9_packet_31 rfl ?_
    refine r_iadd F dX9_packet_32 rfl ?_
    refine r_iload_n F rfl rfl dX9_packet_33 rfl ?_
    refine r_iadd F dX9_packet_34 rfl ?_
    exact r_iret F Rt dX9_packet_35 (by decide) ⟨by simp only [N_pk]; first | rw [if_pos (by omega)] | rw [if_neg (by omega)], rfl, rfl, rfl⟩
  ·
    refine r_sipush F (by decide) dX9_packet_4 rfl ?_
    refine r_aload_n F rfl rfl dX9_packet_7 rfl ?_
    refine r_getR F f_X9_7 (hM.1) rfl dX9_packet_8 rfl ?_
    refine r_iconst F dX9_packet_11 rfl ?_
    refine r_iald F (ja_LM_1 hM) (by omega) (by omega) (by decide) dX9_packet_12 rfl ?_
    refine r_eqz (z := (v 4)) (by rw [ja_rw_s, show Int.toNat 4 = 4 from rfl]) ?_
    refine r_iload_n F rfl rfl dX9_packet_13 rfl ?_
    refine r_imul F dX9_packet_14 rfl ?_
    refine r_iadd F dX9_packet_15 rfl ?_
    refine r_iload_n F rfl rfl dX9_packet_16 rfl ?_
    refine r_iadd F dX9_packet_17 rfl ?_
    refine r_goto F (tgt := 35) dX9_packet_18 (by decide) ?_
    exact r_iret F Rt dX9_packet_35 (by decide) ⟨by simp only [N_pk]; first | rw [if_pos (by omega)] | rw [if_neg (by omega)], rfl, rfl, rfl⟩
abbrev rm_X9_covers : Room := { frames := 0, cells := 0, slots := 0, locals := 0 }
set_option maxRecDepth 100000 in
set_option maxHeartbeats 800000 in
theorem c_X9_covers (l : Launch) (D : va_G) (cA : Nat → ClassId) (B : Nat) {lay : ja_Y} {n : Nat} {m : Nat} {G : ja_M} {v : Nat → Int} (hM : ja_LM lay m) {r : Int} (hr : 0 ≤ r ∧ r ≤ 1) : ja_Mt l D cA B yX9_covers cX9_covers 2 (some .int) rm_X9_covers [.ref m, .int (ja_I r)] lay (ja_rw G (m + 1) v) n (ja_rd lay (ja_rw G (m + 1) v) n (some (.int (ja_I (N_cs v r))))) := by
  refine ja_enter [some (.ref m), some (.int (ja_I r))] (by decide) (Nat.le_of_ble_eq_true rfl) (fun q hq => hq) (fun C F Rt GC hnm => ?_)
  refine r_iload_n F rfl rfl dX9_covers_0 rfl ?_
  refine r_if_eq F (tgt := 13) ⟨by omega, by omega⟩ dX9_covers_1 rfl (by decide) (fun h_1 => ?_) (fun h_1 => ?_)
  ·
    refine r_aload_n F rfl rfl dX9_covers_13 rfl ?_
    refine r_getR F f_X9_7 (hM.1) rfl dX9_covers_14 rfl ?_
    refine r_iconst F dX9_covers_17 rfl ?_
    refine r_iald F (ja_LM_1 hM) (by omega) (by omega) (by decide) dX9_covers_18 rfl ?_
    refine r_eqz (z := (v 4)) (by rw [ja_rw_s, show Int.toNat 4 = 4 from rfl]) ?_
    exact r_iret F Rt dX9_covers_19 (by decide) ⟨by simp only [N_cs]; first | rw [if_pos (by omega)] | rw [if_neg (by omega)], rfl, rfl, rfl⟩
  ·
    refine r_aload_n F rfl rfl dX9_covers_4 rfl ?_
    refine r_getR F f_X9_7 (hM.1) rfl dX9_covers_5 rfl ?_
    refine r_iconst F dX9_covers_8 rfl ?_
    refine r_iald F (ja_LM_1 hM) (by omega) (by omega) (by decide) dX9_covers_9 rfl ?_
    refine r_eqz (z := (v 3)) (by rw [ja_rw_s, show Int.toNat 3 = 3 from rfl]) ?_
    refine r_goto F (tgt := 19) dX9_covers_10 (by decide) ?_
    exact r_iret F Rt dX9_covers_19 (by decide) ⟨by simp only [N_cs]; first | rw [if_pos (by omega)] | rw [if_neg (by omega)], rfl, rfl, rfl⟩
abbrev rm_X9_covered : Room := { frames := 1, cells := 0, slots := 0, locals := 20 }
set_option maxRecDepth 100000 in
set_option maxHeartbeats 800000 in
theorem c_X9_covered (l : Launch) (D : va_G) (cA : Nat → ClassId) (B : Nat) {lay : ja_Y} {n : Nat} {m : Nat} {G : ja_M} {v : Nat → Int} (hM : ja_LM lay m) {r k i j : Int} (hS : N_S v) (hr : 0 ≤ r ∧ r ≤ 1) : ja_Mt l D cA B yX9_covered cX9_covered 5 (some .int) rm_X9_covered [.ref m, .int (ja_I r), .int (ja_I k), .int (ja_I i), .int (ja_I j)] lay (ja_rw G (m + 1) v) n (ja_rd lay (ja_rw G (m + 1) v) n (some (.int (ja_I (N_cv v r k i j))))) := by
  refine ja_enter [some (.ref m), some (.int (ja_I r)), some (.int (ja_I k)), some (.int (ja_I i)), some (.int (ja_I j))] (by decide) (Nat.le_of_ble_eq_true rfl) (fun q hq => hq) (fun C F Rt GC hnm => ?_)
  refine r_aload_n F rfl rfl dX9_covered_0 rfl ?_
  refine r_callV F GC (c_X9_area _ _ _ _ hM hS) v_X9_47 rfl (hM.1) rfl (by decide) (by decide) (Nat.le_of_ble_eq_true rfl) rfl dX9_covered_1 rfl (fun v lay' mem' n' hp => ?_)
  obtain ⟨q1, q2, q3, q4⟩ := hp
  subst q1; subst q2; subst q3; subst q4
  refine r_iload_n F rfl rfl dX9_covered_4 rfl ?_
  refine r_imul F dX9_covered_5 rfl ?_
  refine r_iload_n F rfl rfl dX9_covered_6 rfl ?_
  refine r_if_eq F (tgt := 24) ⟨by omega, by omega⟩ dX9_covered_7 rfl (by decide) (fun h_7 => ?_) (fun h_7 => ?_)
  ·
    refine r_aload_n F rfl rfl dX9_covered_24 rfl ?_
    refine r_getR F f_X9_7 (hM.1) rfl dX9_covered_25 rfl ?_
    refine r_iconst F dX9_covered_28 rfl ?_
    refine r_iald F (ja_LM_1 hM) (by omega) (by omega) (by decide) dX9_covered_29 rfl ?_
    refine r_eqz (z := (v 3)) (by rw [ja_rw_s, show Int.toNat 3 = 3 from rfl]) ?_
    refine r_iload F rfl dX9_covered_30 rfl ?_
    refine r_imul F dX9_covered_32 rfl ?_
    refine r_iload_n F rfl rfl dX9_covered_33 rfl ?_
    refine r_iadd F dX9_covered_34 rfl ?_
    refine r_iadd F dX9_covered_35 rfl ?_
    exact r_iret F Rt dX9_covered_36 (by decide) ⟨by simp only [N_cv]; first | rw [if_pos (by omega)] | rw [if_neg (by omega)], rfl, rfl, rfl⟩
  ·
    refine r_aload_n F rfl rfl dX9_covered_10 rfl ?_
    refine r_getR F f_X9_7 (hM.1) rfl dX9_covered_11 rfl ?_
    refine r_iconst F dX9_covered_14 rfl ?_
    refine r_iald F (ja_LM_1 hM) (by omega) (by omega) (by decide) dX9_covered_15 rfl ?_
    refine r_eqz (z := (v 3)) (by rw [ja_rw_s, show Int.toNat 3 = 3 from rfl]) ?_
    refine r_iload_n F rfl rfl dX9_covered_16 rfl ?_
    refine r_imul F dX9_covered_17 rfl ?_
    refine r_iload F rfl dX9_covered_18 rfl ?_
    refine r_iadd F dX9_covered_20 rfl ?_
    refine r_goto F (tgt := 35) dX9_covered_21 (by decide) ?_
    refine r_iadd F dX9_covered_35 rfl ?_
    exact r_iret F Rt dX9_covered_36 (by decide) ⟨by simp only [N_cv]; first | rw [if_pos (by omega)] | rw [if_neg (by omega)], rfl, rfl, rfl⟩
abbrev rm_X9_missingOf : Room := { frames := 2, cells := 0, slots := 0, locals := 44 }
set_option maxRecDepth 100000 in
set_option maxHeartbeats 800000 in
theorem c_X9_missingOf (l : Launch) (D : va_G) (cA : Nat → ClassId) (B : Nat) {lay : ja_Y} {n : Nat} {m : Nat} {G : ja_M} {v : Nat → Int} (hM : ja_LM lay m) {r k i : Int} (hR : N_R v) (hr : 0 ≤ r ∧ r ≤ 1) (hk : N_hB v k) (hi : 0 ≤ i ∧ i ≤ 6) : ja_Mt l D cA B yX9_missingOf cX9_missingOf 6 (some .int) rm_X9_missingOf [.ref m, .int (ja_I r), .int (ja_I k), .int (ja_I i)] lay (ja_rw G (m + 1) v) n (ja_rd lay (ja_rw G (m + 1) v) n (some (.int (ja_I (N_mi v r k i (N_cs v r).toNat))))) := by
  refine ja_enter [some (.ref m), some (.int (ja_I r)), some (.int (ja_I k)), some (.int (ja_I i)), none, none] (by decide) (Nat.le_of_ble_eq_true rfl) (fun q hq => hq) (fun C F Rt GC hnm => ?_)
  have hS := hR.S
  have hcs := @N_cs_in v r hS
  refine r_iconst F dX9_missingOf_0 rfl ?_
  refine r_ist4 F (by decide) rfl dX9_missingOf_1 rfl ?_
  refine r_iconst F dX9_missingOf_3 rfl ?_
  refine r_ist5 F (by decide) rfl dX9_missingOf_4 rfl ?_
  have loop : ∀ (d c : Nat), c + d = (N_cs v r).toNat → ja_W C 0 0 lay (ja_rw G (m + 1) (v)) n 6 [some (.ref (m)), some (.int (ja_I (r))), some (.int (ja_I (k))), some (.int (ja_I (i))), some (.int (ja_I (N_mi v r k i c))), some (.int (ja_I ((c : Int))))] [] := by
    intro d
    induction d with
    | zero =>
      intro c hc
      refine r_iload F rfl dX9_missingOf_6 rfl ?_
      refine r_aload_n F rfl rfl dX9_missingOf_8 rfl ?_
      refine r_iload_n F rfl rfl dX9_missingOf_9 rfl ?_
      refine r_callV F GC (c_X9_covers _ _ _ _ hM ⟨by omega, by omega⟩) v_X9_51 rfl (hM.1) rfl (by decide) (by decide) (Nat.le_of_ble_eq_true rfl) rfl dX9_missingOf_10 rfl (fun v lay' mem' n' hp => ?_)
      obtain ⟨q1, q2, q3, q4⟩ := hp
      subst q1; subst q2; subst q3; subst q4
      refine r_icmp_ge F (tgt := 48) ⟨by omega, by omega⟩ ⟨by omega, by omega⟩ dX9_missingOf_13 rfl (by decide) (fun h_13 => ?_) (fun h_13 => ?_)
      ·
        refine r_iload F rfl dX9_missingOf_48 rfl ?_
        exact r_iret F Rt dX9_missingOf_50 (by decide) ⟨by rw [show (N_cs v r).toNat = c by omega], rfl, rfl, rfl⟩
      ·
        exfalso; omega
    | succ d ih =>
      intro c hc
      have hcv := N_cv_in (r := r) (j := (c : Int)) hS hk hi ⟨by omega, by omega⟩
      refine r_iload F rfl dX9_missingOf_6 rfl ?_
      refine r_aload_n F rfl rfl dX9_missingOf_8 rfl ?_
      refine r_iload_n F rfl rfl dX9_missingOf_9 rfl ?_
      refine r_callV F GC (c_X9_covers _ _ _ _ hM ⟨by omega, by omega⟩) v_X9_51 rfl (hM.1) rfl (by decide) (by decide) (Nat.le_of_ble_eq_true rfl) rfl dX9_missingOf_10 rfl (fun v lay' mem' n' hp => ?_)
      obtain ⟨q1, q2, q3, q4⟩ := hp
      subst q1; subst q2; subst q3; subst q4
      refine r_icmp_ge F (tgt := 48) ⟨by omega, by omega⟩ ⟨by omega, by omega⟩ dX9_missingOf_13 rfl (by decide) (fun h_13 => ?_) (fun h_13 => ?_)
      ·
        exfalso; omega
      ·
        refine r_iload F rfl dX9_missingOf_16 rfl ?_
        refine r_aload_n F rfl rfl dX9_missingOf_18 rfl ?_
        refine r_aload_n F rfl rfl dX9_missingOf_19 rfl ?_
        refine r_iload_n F rfl rfl dX9_missingOf_20 rfl ?_
        refine r_iload_n F rfl rfl dX9_missingOf_21 rfl ?_
        refine r_iload_n F rfl rfl dX9_missingOf_22 rfl ?_
        refine r_iload F rfl dX9_missingOf_23 rfl ?_
        refine r_callV F GC (c_X9_covered _ _ _ _ hM hS ⟨by omega, by omega⟩) v_X9_55 rfl (hM.1) rfl (by decide) (by decide) (Nat.le_of_ble_eq_true rfl) rfl dX9_missingOf_25 rfl (fun v lay' mem' n' hp => ?_)
        obtain ⟨q1, q2, q3, q4⟩ := hp
        subst q1; subst q2; subst q3; subst q4
        refine r_callV F GC (c_X9_isKnown _ _ _ _ hM hR ⟨hcv.1, by omega⟩) v_X9_59 rfl (hM.1) rfl (by decide) (by decide) (Nat.le_of_ble_eq_true rfl) rfl dX9_missingOf_28 rfl (fun v lay' mem' n' hp => ?_)
        obtain ⟨q1, q2, q3, q4⟩ := hp
        subst q1; subst q2; subst q3; subst q4
        refine r_if_eq F (tgt := 38) ja_b_in dX9_missingOf_31 rfl (by decide) (fun h_31 => ?_) (fun h_31 => ?_)
        ·
          have b_31 : ¬ (N_kn v (N_cv v r k i (c : Int))) := ja_b_0.mp h_31
          refine r_iconst F dX9_missingOf_38 rfl ?_
          refine r_iadd F dX9_missingOf_39 rfl ?_
          refine r_ist4 F (by decide) rfl dX9_missingOf_40 rfl ?_
          refine r_inc5 F (by decide) rfl dX9_missingOf_42 rfl ?_
          refine r_goto F (tgt := 6) dX9_missingOf_45 (by decide) ?_
          have h0 := ih (c + 1) (by omega)
          simp only [N_mi] at h0
          first
            | (rw [if_pos b_31] at h0; exact h0)
            | (rw [if_neg b_31] at h0; exact h0)
        ·
          have b_31 : (N_kn v (N_cv v r k i (c : Int))) := ja_b_1 h_31
          refine r_iconst F dX9_missingOf_34 rfl ?_
          refine r_goto F (tgt := 39) dX9_missingOf_35 (by decide) ?_
          refine r_iadd F dX9_missingOf_39 rfl ?_
          refine r_ist4 F (by decide) rfl dX9_missingOf_40 rfl ?_
          refine r_inc5 F (by decide) rfl dX9_missingOf_42 rfl ?_
          refine r_goto F (tgt := 6) dX9_missingOf_45 (by decide) ?_
          have h0 := ih (c + 1) (by omega)
          simp only [N_mi] at h0
          first
            | (rw [if_pos b_31] at h0; exact h0)
            | (rw [if_neg b_31] at h0; exact h0)
  exact loop ((N_cs v r).toNat) 0 (by omega)
abbrev rm_X9_restoresBy : Room := { frames := 3, cells := 0, slots := 0, locals := 69 }
set_option maxRecDepth 100000 in
set_option maxHeartbeats 800000 in
theorem c_X9_restoresBy (l : Launch) (D : va_G) (cA : Nat → ClassId) (B : Nat) {lay : ja_Y} {n : Nat} {m : Nat} {G : ja_M} {v : Nat → Int} (hM : ja_LM lay m) {r k i : Int} (hR : N_R v) (hr : 0 ≤ r ∧ r ≤ 1) (hk : N_hB v k) (hi : 0 ≤ i ∧ i ≤ 6) : ja_Mt l D cA B yX9_restoresBy cX9_restoresBy 6 (some .int) rm_X9_restoresBy [.ref m, .int (ja_I r), .int (ja_I k), .int (ja_I i)] lay (ja_rw G (m + 1) v) n (ja_rd lay (ja_rw G (m + 1) (N_rv v r k i)) n (some (.int (ja_I (N_rn v r k i))))) := by
  refine ja_enter [some (.ref m), some (.int (ja_I r)), some (.int (ja_I k)), some (.int (ja_I i)), none, none] (by decide) (Nat.le_of_ble_eq_true rfl) (fun q hq => hq) (fun C F Rt GC hnm => ?_)
  have hS := hR.S
  have hcs := @N_cs_in v r hS
  have hmi := @N_mi_in v r k i (N_cs v r).toNat
  refine r_aload_n F rfl rfl dX9_restoresBy_0 rfl ?_
  refine r_iload_n F rfl rfl dX9_restoresBy_1 rfl ?_
  refine r_iload_n F rfl rfl dX9_restoresBy_2 rfl ?_
  refine r_iload_n F rfl rfl dX9_restoresBy_3 rfl ?_
  refine r_callV F GC (c_X9_missingOf _ _ _ _ hM hR ⟨by omega, by omega⟩ hk ⟨by omega, by omega⟩) v_X9_63 rfl (hM.1) rfl (by decide) (by decide) (Nat.le_of_ble_eq_true rfl) rfl dX9_restoresBy_4 rfl (fun v lay' mem' n' hp => ?_)
  obtain ⟨q1, q2, q3, q4⟩ := hp
  subst q1; subst q2; subst q3; subst q4
  refine r_iconst F dX9_restoresBy_7 rfl ?_
  refine r_icmp_eq F (tgt := 13) ⟨by omega, by omega⟩ ⟨by omega, by omega⟩ dX9_restoresBy_8 rfl (by decide) (fun h_8 => ?_) (fun h_8 => ?_)
  ·
    have e1 : N_mi v r k i (N_cs v r).toNat = 1 := h_8
    refine r_iconst F dX9_restoresBy_13 rfl ?_
    refine r_ist4 F (by decide) rfl dX9_restoresBy_14 rfl ?_
    have loop : ∀ (d c : Nat), c + d = (N_cs v r).toNat → ja_W C 0 0 lay (ja_rw G (m + 1) (N_r1 v r k i c)) n 16 [some (.ref (m)), some (.int (ja_I (r))), some (.int (ja_I (k))), some (.int (ja_I (i))), some (.int (ja_I ((c : Int)))), none] [] := by
      intro d
      induction d with
      | zero =>
        intro c hc
        have hfr := N_r1_fr (r := r) hS hk hi c (by omega)
        refine r_iload F rfl dX9_restoresBy_16 rfl ?_
        refine r_aload_n F rfl rfl dX9_restoresBy_18 rfl ?_
        refine r_iload_n F rfl rfl dX9_restoresBy_19 rfl ?_
        refine r_callV F GC (c_X9_covers _ _ _ _ hM ⟨by omega, by omega⟩) v_X9_51 rfl (hM.1) rfl (by decide) (by decide) (Nat.le_of_ble_eq_true rfl) rfl dX9_restoresBy_20 rfl (fun v lay' mem' n' hp => ?_)
        obtain ⟨q1, q2, q3, q4⟩ := hp
        subst q1; subst q2; subst q3; subst q4
        refine r_eqz (z := N_cs v r) hfr.ss.cs ?_
        refine r_icmp_ge F (tgt := 63) ⟨by omega, by omega⟩ ⟨by omega, by omega⟩ dX9_restoresBy_23 rfl (by decide) (fun h_23 => ?_) (fun h_23 => ?_)
        ·
          refine r_iconst F dX9_restoresBy_63 rfl ?_
          exact r_iret F Rt dX9_restoresBy_64 (by decide) ⟨by rw [N_rn, if_pos e1], rfl, by rw [N_rv, if_pos e1, show (N_cs v r).toNat = c by omega], rfl⟩
        ·
          exfalso; omega
      | succ d ih =>
        intro c hc
        have hfr := N_r1_fr (r := r) hS hk hi c (by omega)
        have hcv := N_cv_in (r := r) (j := (c : Int)) hS hk hi ⟨by omega, by omega⟩
        refine r_iload F rfl dX9_restoresBy_16 rfl ?_
        refine r_aload_n F rfl rfl dX9_restoresBy_18 rfl ?_
        refine r_iload_n F rfl rfl dX9_restoresBy_19 rfl ?_
        refine r_callV F GC (c_X9_covers _ _ _ _ hM ⟨by omega, by omega⟩) v_X9_51 rfl (hM.1) rfl (by decide) (by decide) (Nat.le_of_ble_eq_true rfl) rfl dX9_restoresBy_20 rfl (fun v lay' mem' n' hp => ?_)
        obtain ⟨q1, q2, q3, q4⟩ := hp
        subst q1; subst q2; subst q3; subst q4
        refine r_eqz (z := N_cs v r) hfr.ss.cs ?_
        refine r_icmp_ge F (tgt := 63) ⟨by omega, by omega⟩ ⟨by omega, by omega⟩ dX9_restoresBy_23 rfl (by decide) (fun h_23 => ?_) (fun h_23 => ?_)
        ·
          exfalso; omega
        ·
          refine r_aload_n F rfl rfl dX9_restoresBy_26 rfl ?_
          refine r_iload_n F rfl rfl dX9_restoresBy_27 rfl ?_
          refine r_iload_n F rfl rfl dX9_restoresBy_28 rfl ?_
          refine r_iload_n F rfl rfl dX9_restoresBy_29 rfl ?_
          refine r_iload F rfl dX9_restoresBy_30 rfl ?_
          refine r_callV F GC (c_X9_covered _ _ _ _ hM (hfr.ss.S hS) ⟨by omega, by omega⟩) v_X9_55 rfl (hM.1) rfl (by decide) (by decide) (Nat.le_of_ble_eq_true rfl) rfl dX9_restoresBy_32 rfl (fun v lay' mem' n' hp => ?_)
          obtain ⟨q1, q2, q3, q4⟩ := hp
          subst q1; subst q2; subst q3; subst q4
          refine r_eqz (z := N_cv v r k i (c : Int)) hfr.ss.cv ?_
          refine r_ist5 F (by decide) rfl dX9_restoresBy_35 rfl ?_
          refine r_aload_n F rfl rfl dX9_restoresBy_37 rfl ?_
          refine r_iload F rfl dX9_restoresBy_38 rfl ?_
          refine r_callV F GC (c_X9_isKnown _ _ _ _ hM (hfr.R hR) ⟨hcv.1, by omega⟩) v_X9_59 rfl (hM.1) rfl (by decide) (by decide) (Nat.le_of_ble_eq_true rfl) rfl dX9_restoresBy_40 rfl (fun v lay' mem' n' hp => ?_)
          obtain ⟨q1, q2, q3, q4⟩ := hp
          subst q1; subst q2; subst q3; subst q4
          refine r_if_ne F (tgt := 57) ja_b_in dX9_restoresBy_43 rfl (by decide) (fun h_43 => ?_) (fun h_43 => ?_)
          ·
            have b_43 : (N_kn (N_r1 v r k i c) (N_cv v r k i (c : Int))) := ja_b_1 h_43
            refine r_inc4 F (by decide) rfl dX9_restoresBy_57 rfl ?_
            refine r_goto F (tgt := 16) dX9_restoresBy_60 (by decide) ?_
            refine r_msk [true, true, true, true, true, false] rfl ?_
            have h0 := ih (c + 1) (by omega)
            simp only [N_r1] at h0
            first
              | (rw [if_pos b_43] at h0; exact h0)
              | (rw [if_neg b_43] at h0; exact h0)
          ·
            have b_43 : ¬ (N_kn (N_r1 v r k i c) (N_cv v r k i (c : Int))) := ja_b_0.mp h_43
            refine r_aload_n F rfl rfl dX9_restoresBy_46 rfl ?_
            refine r_getR F f_X9_7 (hM.1) rfl dX9_restoresBy_47 rfl ?_
            refine r_bipush F (by decide) dX9_restoresBy_50 rfl ?_
            refine r_iload F rfl dX9_restoresBy_52 rfl ?_
            refine r_iadd F dX9_restoresBy_54 rfl ?_
            refine r_iconst F dX9_restoresBy_55 rfl ?_
            refine r_iast F (ja_LM_1 hM) (by omega) (by omega) (by decide) dX9_restoresBy_56 rfl ?_
            refine r_mem (mem' := ja_rw G (m + 1) (ja_rs (N_r1 v r k i c) (Int.toNat (30 + (N_cv v r k i (c : Int)))) 1)) (ja_rw_up _ _ _ _ _) ?_
            refine r_inc4 F (by decide) rfl dX9_restoresBy_57 rfl ?_
            refine r_goto F (tgt := 16) dX9_restoresBy_60 (by decide) ?_
            refine r_msk [true, true, true, true, true, false] rfl ?_
            have h0 := ih (c + 1) (by omega)
            simp only [N_r1] at h0
            first
              | (rw [if_pos b_43] at h0; exact h0)
              | (rw [if_neg b_43] at h0; exact h0)
    exact loop ((N_cs v r).toNat) 0 (by omega)
  ·
    refine r_iconst F dX9_restoresBy_11 rfl ?_
    exact r_iret F Rt dX9_restoresBy_12 (by decide) ⟨by rw [N_rn, if_neg h_8], rfl, by rw [N_rv, if_neg h_8], rfl⟩
abbrev rm_X9_restores : Room := { frames := 4, cells := 0, slots := 0, locals := 94 }
set_option maxRecDepth 100000 in
set_option maxHeartbeats 800000 in
theorem c_X9_restores (l : Launch) (D : va_G) (cA : Nat → ClassId) (B : Nat) {lay : ja_Y} {n : Nat} {m : Nat} {G : ja_M} {v : Nat → Int} (hM : ja_LM lay m) {k a : Int} (hR : N_R v) (hk : N_hB v k) (ha : 0 ≤ a ∧ a ≤ 1) : ja_Mt l D cA B yX9_restores cX9_restores 6 (some .int) rm_X9_restores [.ref m, .int (ja_I k), .int (ja_I a)] lay (ja_rw G (m + 1) v) n (ja_rd lay (ja_rw G (m + 1) ((N_rs a k 40 0 v).2)) n (some (.int (ja_I (N_rs a k 40 0 v).1)))) := by
  refine ja_enter [some (.ref m), some (.int (ja_I k)), some (.int (ja_I a)), none, none, none] (by decide) (Nat.le_of_ble_eq_true rfl) (fun q hq => hq) (fun C F Rt GC hnm => ?_)
  refine r_iconst F dX9_restores_0 rfl ?_
  refine r_ist3 F (by decide) rfl dX9_restores_1 rfl ?_
  refine r_iconst F dX9_restores_2 rfl ?_
  refine r_ist4 F (by decide) rfl dX9_restores_3 rfl ?_
  refine r_iload F rfl dX9_restores_5 rfl ?_
  refine r_iload_n F rfl rfl dX9_restores_7 rfl ?_
  refine r_icmp_eq F (tgt := 129) ⟨by omega, by omega⟩ ⟨by omega, by omega⟩ dX9_restores_8 rfl (by decide) (fun h_8 => ?_) (fun h_8 => ?_)
  ·
    exfalso; omega
  ·
    have loop : ∀ (f : Nat) (z : Int) (w : Nat → Int), N_R w → N_ss v w → N_U w k < f → (0 ≤ z ∧ z + N_U w k ≤ 100) → N_rs a k f z w = N_rs a k 40 0 v → ja_W C 0 0 lay (ja_rw G (m + 1) w) n 11 [some (.ref m), some (.int (ja_I k)), some (.int (ja_I a)), some (.int (ja_I z)), none, none] [] := by
      intro f
      induction f with
      | zero => intro z w _ _ hU; omega
      | succ f ih =>
        intro z w hwR hws hU hz hl
        have hwS := hwR.S
        have hkw := hws.hB.mpr hk
        have s3 := hwS.2.2.2.1
        have s4 := hwS.2.2.2.2.1
        have hun := N_rd_un (a := a) hwS hkw
        have hdf := N_rd_fr (a := a) hwS hkw
        refine r_iload_n F rfl rfl dX9_restores_11 rfl ?_
        refine r_ist4 F (by decide) rfl dX9_restores_12 rfl ?_
        refine r_iconst F dX9_restores_14 rfl ?_
        refine r_ist5 F (by decide) rfl dX9_restores_15 rfl ?_
        have lpA : ∀ (d c : Nat), c + d = (w 4).toNat → ja_W C 0 0 lay (ja_rw G (m + 1) ((N_rr a w 1 k c).2)) n 17 [some (.ref (m)), some (.int (ja_I (k))), some (.int (ja_I (a))), some (.int (ja_I ((z + (N_rr a w 1 k c).1)))), some (.int (ja_I (z))), some (.int (ja_I ((c : Int))))] [] := by
          intro d
          induction d with
          | zero =>
            intro c hc
            have hfr := N_rr_fr (a := a) (r := 1) hwS hkw c (by omega)
            have hxR := hfr.R hwR
            have hxk := hfr.ss.hB.mpr hkw
            have e3 := hfr.ss 3 (by omega)
            have e4 := hfr.ss 4 (by omega)
            refine r_iload F rfl dX9_restores_17 rfl ?_
            refine r_aload_n F rfl rfl dX9_restores_19 rfl ?_
            refine r_getR F f_X9_7 (hM.1) rfl dX9_restores_20 rfl ?_
            refine r_iconst F dX9_restores_23 rfl ?_
            refine r_iald F (ja_LM_1 hM) (by omega) (by omega) (by decide) dX9_restores_24 rfl ?_
            refine r_eqz (z := (((N_rr a w 1 k c).2) 4)) (by rw [ja_rw_s, show Int.toNat 4 = 4 from rfl]) ?_
            refine r_icmp_ge F (tgt := 70) ⟨by omega, by omega⟩ ⟨by omega, by omega⟩ dX9_restores_25 rfl (by decide) (fun h_25 => ?_) (fun h_25 => ?_)
            ·
              refine r_iconst F dX9_restores_70 rfl ?_
              refine r_ist5 F (by decide) rfl dX9_restores_71 rfl ?_
              obtain rfl : c = (w 4).toNat := by omega
              have h1f := N_rr_fr (a := a) (r := 1) hwS hkw (w 4).toNat (by omega)
              have h1S := h1f.ss.S hwS
              have h1k := h1f.ss.hB.mpr hkw
              have h1R := h1f.R hwR
              have h13 := h1f.ss 3 (by omega)
              generalize hu : (N_rr a w 1 k (w 4).toNat).2 = u at *
              generalize hy : z + (N_rr a w 1 k (w 4).toNat).1 = y at *
              have lpB : ∀ (d c : Nat), c + d = (u 3).toNat → ja_W C 0 0 lay (ja_rw G (m + 1) ((N_rr a u 0 k c).2)) n 73 [some (.ref (m)), some (.int (ja_I (k))), some (.int (ja_I (a))), some (.int (ja_I ((y + (N_rr a u 0 k c).1)))), some (.int (ja_I (z))), some (.int (ja_I ((c : Int))))] [] := by
                intro d
                induction d with
                | zero =>
                  intro c hc
                  have hfr := N_rr_fr (a := a) (r := 0) h1S h1k c (by omega)
                  have hxR := hfr.R h1R
                  have hxk := hfr.ss.hB.mpr h1k
                  have e3 := hfr.ss 3 (by omega)
                  have e4 := hfr.ss 4 (by omega)
                  refine r_iload F rfl dX9_restores_73 rfl ?_
                  refine r_aload_n F rfl rfl dX9_restores_75 rfl ?_
                  refine r_getR F f_X9_7 (hM.1) rfl dX9_restores_76 rfl ?_
                  refine r_iconst F dX9_restores_79 rfl ?_
                  refine r_iald F (ja_LM_1 hM) (by omega) (by omega) (by decide) dX9_restores_80 rfl ?_
                  refine r_eqz (z := (((N_rr a u 0 k c).2) 3)) (by rw [ja_rw_s, show Int.toNat 3 = 3 from rfl]) ?_
                  refine r_icmp_ge F (tgt := 126) ⟨by omega, by omega⟩ ⟨by omega, by omega⟩ dX9_restores_81 rfl (by decide) (fun h_81 => ?_) (fun h_81 => ?_)
                  ·
                    refine r_goto F (tgt := 5) dX9_restores_126 (by decide) ?_
                    obtain rfl : c = (u 3).toNat := by omega
                    have hrd : N_rd a w k = ((N_rr a w 1 k (w 4).toNat).1 + (N_rr a u 0 k (u 3).toNat).1, (N_rr a u 0 k (u 3).toNat).2) := by rw [← hu, N_rd, hu, show u 3 = w 3 by rw [← hu] at h13 ⊢; exact h13]
                    have hrn : y + (N_rr a u 0 k (u 3).toNat).1 = z + (N_rd a w k).1 := by rw [hrd, ← hy]; dsimp only; omega
                    have hrv : (N_rr a u 0 k (u 3).toNat).2 = (N_rd a w k).2 := by rw [hrd]
                    rw [hrn, hrv]
                    refine r_msk [true, true, true, true, true, false] rfl ?_
                    refine r_iload F rfl dX9_restores_5 rfl ?_
                    refine r_iload_n F rfl rfl dX9_restores_7 rfl ?_
                    refine r_icmp_eq F (tgt := 129) ⟨by omega, by omega⟩ ⟨by omega, by omega⟩ dX9_restores_8 rfl (by decide) (fun h_8 => ?_) (fun h_8 => ?_)
                    ·
                      have e0 : (N_rd a w k).1 = 0 := by omega
                      refine r_iload_n F rfl rfl dX9_restores_129 rfl ?_
                      exact r_iret F Rt dX9_restores_130 (by decide) ⟨by rw [← hl]; simp only [N_rs]; rw [if_pos e0, e0]; dsimp only; rw [Int.add_zero], rfl, by rw [← hl]; simp only [N_rs]; rw [if_pos e0], rfl⟩
                    ·
                      have e0 : ¬ (N_rd a w k).1 = 0 := by omega
                      refine r_msk [true, true, true, true, false, false] rfl ?_
                      refine ih _ _ (hdf.R hwR) (hws.tr hdf.ss) (by omega) ⟨by omega, by omega⟩ ?_
                      rw [← hl]
                      simp only [N_rs]
                      rw [if_neg e0]
                  ·
                    exfalso; omega
                | succ d ihr =>
                  intro c hc
                  have hfr := N_rr_fr (a := a) (r := 0) h1S h1k c (by omega)
                  have hxR := hfr.R h1R
                  have hxk := hfr.ss.hB.mpr h1k
                  have e3 := hfr.ss 3 (by omega)
                  have e4 := hfr.ss 4 (by omega)
                  have hpk := N_pk_in (r := 0) (i := (c : Int)) hxR.S hxk ⟨by omega, by omega⟩
                  have epk : N_pk (N_rr a u 0 k c).2 0 k (c : Int) = N_pk u 0 k (c : Int) := hfr.ss.pk
                  have hpr := hxR.K (j := (N_pk (N_rr a u 0 k c).2 0 k (c : Int)).toNat) (by omega) (by omega)
                  refine r_iload F rfl dX9_restores_73 rfl ?_
                  refine r_aload_n F rfl rfl dX9_restores_75 rfl ?_
                  refine r_getR F f_X9_7 (hM.1) rfl dX9_restores_76 rfl ?_
                  refine r_iconst F dX9_restores_79 rfl ?_
                  refine r_iald F (ja_LM_1 hM) (by omega) (by omega) (by decide) dX9_restores_80 rfl ?_
                  refine r_eqz (z := (((N_rr a u 0 k c).2) 3)) (by rw [ja_rw_s, show Int.toNat 3 = 3 from rfl]) ?_
                  refine r_icmp_ge F (tgt := 126) ⟨by omega, by omega⟩ ⟨by omega, by omega⟩ dX9_restores_81 rfl (by decide) (fun h_81 => ?_) (fun h_81 => ?_)
                  ·
                    exfalso; omega
                  ·
                    refine r_iload_n F rfl rfl dX9_restores_84 rfl ?_
                    refine r_iload_n F rfl rfl dX9_restores_85 rfl ?_
                    refine r_if_ne F (tgt := 106) ⟨by omega, by omega⟩ dX9_restores_86 rfl (by decide) (fun h_86 => ?_) (fun h_86 => ?_)
                    ·
                      refine r_aload_n F rfl rfl dX9_restores_106 rfl ?_
                      refine r_iconst F dX9_restores_107 rfl ?_
                      refine r_iload_n F rfl rfl dX9_restores_108 rfl ?_
                      refine r_iload F rfl dX9_restores_109 rfl ?_
                      refine r_callV F GC (c_X9_restoresBy _ _ _ _ hM hxR ⟨by omega, by omega⟩ hxk ⟨by omega, by omega⟩) v_X9_70 rfl (hM.1) rfl (by decide) (by decide) (Nat.le_of_ble_eq_true rfl) rfl dX9_restores_111 rfl (fun v lay' mem' n' hp => ?_)
                      obtain ⟨q1, q2, q3, q4⟩ := hp
                      subst q1; subst q2; subst q3; subst q4
                      refine r_goto F (tgt := 118) dX9_restores_114 (by decide) ?_
                      refine r_iadd F dX9_restores_118 rfl ?_
                      refine r_ist3 F (by decide) rfl dX9_restores_119 rfl ?_
                      refine r_inc5 F (by decide) rfl dX9_restores_120 rfl ?_
                      refine r_goto F (tgt := 73) dX9_restores_123 (by decide) ?_
                      have h0 := ihr (c + 1) (by omega)
                      simp only [N_rr] at h0
                      first
                        | (rw [if_pos (Or.inl h_86)] at h0; rw [Int.add_assoc]; exact h0)
                        | (rw [if_pos (Or.inr (epk ▸ h_103))] at h0; rw [Int.add_assoc]; exact h0)
                        | (rw [if_neg (fun q => q.elim (fun q2 => q2 (by omega)) (fun q2 => h_103 (by rw [epk]; exact q2)))] at h0; rw [Int.add_zero]; exact h0)
                    ·
                      refine r_aload_n F rfl rfl dX9_restores_89 rfl ?_
                      refine r_getR F f_X9_7 (hM.1) rfl dX9_restores_90 rfl ?_
                      refine r_aload_n F rfl rfl dX9_restores_93 rfl ?_
                      refine r_iconst F dX9_restores_94 rfl ?_
                      refine r_iload_n F rfl rfl dX9_restores_95 rfl ?_
                      refine r_iload F rfl dX9_restores_96 rfl ?_
                      refine r_callV F GC (c_X9_packet _ _ _ _ hM ⟨by omega, by omega⟩ hxR.S hxk ⟨by omega, by omega⟩) v_X9_67 rfl (hM.1) rfl (by decide) (by decide) (Nat.le_of_ble_eq_true rfl) rfl dX9_restores_98 rfl (fun v lay' mem' n' hp => ?_)
                      obtain ⟨q1, q2, q3, q4⟩ := hp
                      subst q1; subst q2; subst q3; subst q4
                      refine r_iald F (ja_LM_1 hM) (by omega) (by omega) (by decide) dX9_restores_101 rfl ?_
                      refine r_eqz (z := (((N_rr a u 0 k c).2) (Int.toNat (N_pk (N_rr a u 0 k c).2 0 k (c : Int))))) (by rw [ja_rw_s]) ?_
                      refine r_iconst F dX9_restores_102 rfl ?_
                      refine r_icmp_ne F (tgt := 117) ⟨by omega, by omega⟩ ⟨by omega, by omega⟩ dX9_restores_103 rfl (by decide) (fun h_103 => ?_) (fun h_103 => ?_)
                      ·
                        refine r_iconst F dX9_restores_117 rfl ?_
                        refine r_iadd F dX9_restores_118 rfl ?_
                        refine r_ist3 F (by decide) rfl dX9_restores_119 rfl ?_
                        refine r_inc5 F (by decide) rfl dX9_restores_120 rfl ?_
                        refine r_goto F (tgt := 73) dX9_restores_123 (by decide) ?_
                        have h0 := ihr (c + 1) (by omega)
                        simp only [N_rr] at h0
                        first
                          | (rw [if_pos (Or.inl h_86)] at h0; rw [Int.add_assoc]; exact h0)
                          | (rw [if_pos (Or.inr (epk ▸ h_103))] at h0; rw [Int.add_assoc]; exact h0)
                          | (rw [if_neg (fun q => q.elim (fun q2 => q2 (by omega)) (fun q2 => h_103 (by rw [epk]; exact q2)))] at h0; rw [Int.add_zero]; exact h0)
                      ·
                        refine r_aload_n F rfl rfl dX9_restores_106 rfl ?_
                        refine r_iconst F dX9_restores_107 rfl ?_
                        refine r_iload_n F rfl rfl dX9_restores_108 rfl ?_
                        refine r_iload F rfl dX9_restores_109 rfl ?_
                        refine r_callV F GC (c_X9_restoresBy _ _ _ _ hM hxR ⟨by omega, by omega⟩ hxk ⟨by omega, by omega⟩) v_X9_70 rfl (hM.1) rfl (by decide) (by decide) (Nat.le_of_ble_eq_true rfl) rfl dX9_restores_111 rfl (fun v lay' mem' n' hp => ?_)
                        obtain ⟨q1, q2, q3, q4⟩ := hp
                        subst q1; subst q2; subst q3; subst q4
                        refine r_goto F (tgt := 118) dX9_restores_114 (by decide) ?_
                        refine r_iadd F dX9_restores_118 rfl ?_
                        refine r_ist3 F (by decide) rfl dX9_restores_119 rfl ?_
                        refine r_inc5 F (by decide) rfl dX9_restores_120 rfl ?_
                        refine r_goto F (tgt := 73) dX9_restores_123 (by decide) ?_
                        have h0 := ihr (c + 1) (by omega)
                        simp only [N_rr] at h0
                        first
                          | (rw [if_pos (Or.inl h_86)] at h0; rw [Int.add_assoc]; exact h0)
                          | (rw [if_pos (Or.inr (epk ▸ h_103))] at h0; rw [Int.add_assoc]; exact h0)
                          | (rw [if_neg (fun q => q.elim (fun q2 => q2 (by omega)) (fun q2 => h_103 (by rw [epk]; exact q2)))] at h0; rw [Int.add_zero]; exact h0)
              have h0 := lpB (u 3).toNat 0 (by omega)
              rw [show y + (N_rr a u 0 k 0).1 = y from Int.add_zero y] at h0
              exact h0
            ·
              exfalso; omega
          | succ d ihr =>
            intro c hc
            have hfr := N_rr_fr (a := a) (r := 1) hwS hkw c (by omega)
            have hxR := hfr.R hwR
            have hxk := hfr.ss.hB.mpr hkw
            have e3 := hfr.ss 3 (by omega)
            have e4 := hfr.ss 4 (by omega)
            have hpk := N_pk_in (r := 1) (i := (c : Int)) hxR.S hxk ⟨by omega, by omega⟩
            have epk : N_pk (N_rr a w 1 k c).2 1 k (c : Int) = N_pk w 1 k (c : Int) := hfr.ss.pk
            have hpr := hxR.K (j := (N_pk (N_rr a w 1 k c).2 1 k (c : Int)).toNat) (by omega) (by omega)
            refine r_iload F rfl dX9_restores_17 rfl ?_
            refine r_aload_n F rfl rfl dX9_restores_19 rfl ?_
            refine r_getR F f_X9_7 (hM.1) rfl dX9_restores_20 rfl ?_
            refine r_iconst F dX9_restores_23 rfl ?_
            refine r_iald F (ja_LM_1 hM) (by omega) (by omega) (by decide) dX9_restores_24 rfl ?_
            refine r_eqz (z := (((N_rr a w 1 k c).2) 4)) (by rw [ja_rw_s, show Int.toNat 4 = 4 from rfl]) ?_
            refine r_icmp_ge F (tgt := 70) ⟨by omega, by omega⟩ ⟨by omega, by omega⟩ dX9_restores_25 rfl (by decide) (fun h_25 => ?_) (fun h_25 => ?_)
            ·
              exfalso; omega
            ·
              refine r_iload_n F rfl rfl dX9_restores_28 rfl ?_
              refine r_iload_n F rfl rfl dX9_restores_29 rfl ?_
              refine r_if_ne F (tgt := 50) ⟨by omega, by omega⟩ dX9_restores_30 rfl (by decide) (fun h_30 => ?_) (fun h_30 => ?_)
              ·
                refine r_aload_n F rfl rfl dX9_restores_50 rfl ?_
                refine r_iconst F dX9_restores_51 rfl ?_
                refine r_iload_n F rfl rfl dX9_restores_52 rfl ?_
                refine r_iload F rfl dX9_restores_53 rfl ?_
                refine r_callV F GC (c_X9_restoresBy _ _ _ _ hM hxR ⟨by omega, by omega⟩ hxk ⟨by omega, by omega⟩) v_X9_70 rfl (hM.1) rfl (by decide) (by decide) (Nat.le_of_ble_eq_true rfl) rfl dX9_restores_55 rfl (fun v lay' mem' n' hp => ?_)
                obtain ⟨q1, q2, q3, q4⟩ := hp
                subst q1; subst q2; subst q3; subst q4
                refine r_goto F (tgt := 62) dX9_restores_58 (by decide) ?_
                refine r_iadd F dX9_restores_62 rfl ?_
                refine r_ist3 F (by decide) rfl dX9_restores_63 rfl ?_
                refine r_inc5 F (by decide) rfl dX9_restores_64 rfl ?_
                refine r_goto F (tgt := 17) dX9_restores_67 (by decide) ?_
                have h0 := ihr (c + 1) (by omega)
                simp only [N_rr] at h0
                first
                  | (rw [if_pos (Or.inl h_30)] at h0; rw [Int.add_assoc]; exact h0)
                  | (rw [if_pos (Or.inr (epk ▸ h_47))] at h0; rw [Int.add_assoc]; exact h0)
                  | (rw [if_neg (fun q => q.elim (fun q2 => q2 (by omega)) (fun q2 => h_47 (by rw [epk]; exact q2)))] at h0; rw [Int.add_zero]; exact h0)
              ·
                refine r_aload_n F rfl rfl dX9_restores_33 rfl ?_
                refine r_getR F f_X9_7 (hM.1) rfl dX9_restores_34 rfl ?_
                refine r_aload_n F rfl rfl dX9_restores_37 rfl ?_
                refine r_iconst F dX9_restores_38 rfl ?_
                refine r_iload_n F rfl rfl dX9_restores_39 rfl ?_
                refine r_iload F rfl dX9_restores_40 rfl ?_
                refine r_callV F GC (c_X9_packet _ _ _ _ hM ⟨by omega, by omega⟩ hxR.S hxk ⟨by omega, by omega⟩) v_X9_67 rfl (hM.1) rfl (by decide) (by decide) (Nat.le_of_ble_eq_true rfl) rfl dX9_restores_42 rfl (fun v lay' mem' n' hp => ?_)
                obtain ⟨q1, q2, q3, q4⟩ := hp
                subst q1; subst q2; subst q3; subst q4
                refine r_iald F (ja_LM_1 hM) (by omega) (by omega) (by decide) dX9_restores_45 rfl ?_
                refine r_eqz (z := (((N_rr a w 1 k c).2) (Int.toNat (N_pk (N_rr a w 1 k c).2 1 k (c : Int))))) (by rw [ja_rw_s]) ?_
                refine r_iconst F dX9_restores_46 rfl ?_
                refine r_icmp_ne F (tgt := 61) ⟨by omega, by omega⟩ ⟨by omega, by omega⟩ dX9_restores_47 rfl (by decide) (fun h_47 => ?_) (fun h_47 => ?_)
                ·
                  refine r_iconst F dX9_restores_61 rfl ?_
                  refine r_iadd F dX9_restores_62 rfl ?_
                  refine r_ist3 F (by decide) rfl dX9_restores_63 rfl ?_
                  refine r_inc5 F (by decide) rfl dX9_restores_64 rfl ?_
                  refine r_goto F (tgt := 17) dX9_restores_67 (by decide) ?_
                  have h0 := ihr (c + 1) (by omega)
                  simp only [N_rr] at h0
                  first
                    | (rw [if_pos (Or.inl h_30)] at h0; rw [Int.add_assoc]; exact h0)
                    | (rw [if_pos (Or.inr (epk ▸ h_47))] at h0; rw [Int.add_assoc]; exact h0)
                    | (rw [if_neg (fun q => q.elim (fun q2 => q2 (by omega)) (fun q2 => h_47 (by rw [epk]; exact q2)))] at h0; rw [Int.add_zero]; exact h0)
                ·
                  refine r_aload_n F rfl rfl dX9_restores_50 rfl ?_
                  refine r_iconst F dX9_restores_51 rfl ?_
                  refine r_iload_n F rfl rfl dX9_restores_52 rfl ?_
                  refine r_iload F rfl dX9_restores_53 rfl ?_
                  refine r_callV F GC (c_X9_restoresBy _ _ _ _ hM hxR ⟨by omega, by omega⟩ hxk ⟨by omega, by omega⟩) v_X9_70 rfl (hM.1) rfl (by decide) (by decide) (Nat.le_of_ble_eq_true rfl) rfl dX9_restores_55 rfl (fun v lay' mem' n' hp => ?_)
                  obtain ⟨q1, q2, q3, q4⟩ := hp
                  subst q1; subst q2; subst q3; subst q4
                  refine r_goto F (tgt := 62) dX9_restores_58 (by decide) ?_
                  refine r_iadd F dX9_restores_62 rfl ?_
                  refine r_ist3 F (by decide) rfl dX9_restores_63 rfl ?_
                  refine r_inc5 F (by decide) rfl dX9_restores_64 rfl ?_
                  refine r_goto F (tgt := 17) dX9_restores_67 (by decide) ?_
                  have h0 := ihr (c + 1) (by omega)
                  simp only [N_rr] at h0
                  first
                    | (rw [if_pos (Or.inl h_30)] at h0; rw [Int.add_assoc]; exact h0)
                    | (rw [if_pos (Or.inr (epk ▸ h_47))] at h0; rw [Int.add_assoc]; exact h0)
                    | (rw [if_neg (fun q => q.elim (fun q2 => q2 (by omega)) (fun q2 => h_47 (by rw [epk]; exact q2)))] at h0; rw [Int.add_zero]; exact h0)
        have h0 := lpA (w 4).toNat 0 (by omega)
        rw [show z + (N_rr a w 1 k 0).1 = z from Int.add_zero z] at h0
        exact h0
    refine r_msk [true, true, true, true, false, false] rfl ?_
    have hu0 : N_U v k ≤ (N_ar v).toNat := N_un_le _
    have ha0 := N_ar_in hR.S
    exact loop 40 0 v hR N_ss.rf (by omega) ⟨by omega, by omega⟩ rfl
