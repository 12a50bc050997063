abbrev rm_X8_append : Room := { frames := 1, cells := 0, slots := 0, locals := 21 }
set_option maxRecDepth 100000 in
set_option maxHeartbeats 4000000 in
theorem c_X8_append (l : Launch) (D : va_G) (cA : Nat → ClassId) (B : Nat) {lay : ja_Y} {mem : ja_M} {n : Nat} {k : Int} {y : Nat} {sl : Nat → Option Nat} {t : Int} (hB : ja_LB lay y sl) (hO : ja_BO mem y sl t) (hk : ja_in k)  : ja_Mt l D cA B yX8_append cX8_append 2 (some .int) rm_X8_append [.ref y, .int (ja_I k)] lay mem n (ja_rd lay (if 32 ≤ k ∧ k ≤ 126 ∧ mem (y + 42) 1 < 120 then ja_up (ja_up mem (y + 42 + 1) (mem (y + 42) 1).toNat k) (y + 42) 1 (mem (y + 42) 1 + 1) else mem) n (some (.int (ja_I (if 32 ≤ k ∧ k ≤ 126 then (if mem (y + 42) 1 < 120 then mem (y + 42) 1 + 1 else -1002) else -1001))))) := by
  refine ja_enter [some (.ref y), some (.int (ja_I k))] (by decide) (Nat.le_of_ble_eq_true rfl) (fun q hq => hq) (fun C F Rt G hnm => ?_)
  obtain ⟨b1, b2, b3, b4, b5⟩ := id hO
  obtain ⟨g1, g2, g3, g4, g5, g6, g7, g8, g9, g10, g11, g12⟩ := id b1
  obtain ⟨p1, p2, p3, p4, p5, p6⟩ := id g3
  obtain ⟨s0, s1, s2, s3, s4, s5, s6, s7, s8⟩ := id g1
  have tt := g2.1
  have a0 := g4.1
  obtain ⟨k1_, k2_⟩ := id hk
  obtain ⟨h1, hch, h5, h6, h7⟩ := id b3
  refine r_iload_n F rfl rfl dX8_append_0 rfl ?_
  refine r_bipush F (by decide) dX8_append_1 rfl ?_
  refine r_icmp_lt F (tgt := 12) ⟨by omega, by omega⟩ ⟨by omega, by omega⟩ dX8_append_3 rfl (by decide) (fun h_3 => ?_) (fun h_3 => ?_)
  ·
    refine r_sipush F (by decide) dX8_append_12 rfl ?_
    exact r_iret F Rt dX8_append_15 (by decide) ⟨by rw [if_neg (by omega)], rfl, by rw [if_neg (by omega)], rfl⟩
  ·
    refine r_iload_n F rfl rfl dX8_append_6 rfl ?_
    refine r_bipush F (by decide) dX8_append_7 rfl ?_
    refine r_icmp_le F (tgt := 16) ⟨by omega, by omega⟩ ⟨by omega, by omega⟩ dX8_append_9 rfl (by decide) (fun h_9 => ?_) (fun h_9 => ?_)
    ·
      refine r_aload_n F rfl rfl dX8_append_16 rfl ?_
      refine r_getR F f_X8_26 (hB.1) rfl dX8_append_17 rfl ?_
      refine r_getI F f_X8_211 ((ja_LB_42 hB).1) rfl dX8_append_20 rfl ?_
      refine r_bipush F (by decide) dX8_append_23 rfl ?_
      refine r_icmp_lt F (tgt := 32) ⟨by omega, by omega⟩ ⟨by omega, by omega⟩ dX8_append_25 rfl (by decide) (fun h_25 => ?_) (fun h_25 => ?_)
      ·
        refine r_aload_n F rfl rfl dX8_append_32 rfl ?_
        refine r_getR F f_X8_26 (hB.1) rfl dX8_append_33 rfl ?_
        refine r_iload_n F rfl rfl dX8_append_36 rfl ?_
        refine r_callV F G (c_X0_write _ _ _ _ (ja_LB_42 hB) ⟨by omega, by omega⟩) v_X8_214 rfl ((ja_LB_42 hB).1) rfl (by decide) (by decide) (Nat.le_of_ble_eq_true rfl) rfl dX8_append_37 rfl (fun v lay' mem' n' hp => ?_)
        obtain ⟨q1, q2, q3, q4⟩ := hp
        subst q1; subst q2; subst q3; subst q4
        refine r_aload_n F rfl rfl dX8_append_40 rfl ?_
        refine r_getR F f_X8_26 (hB.1) rfl dX8_append_41 rfl ?_
        refine r_getI F f_X8_211 ((ja_LB_42 hB).1) rfl dX8_append_44 rfl ?_
        refine r_eqz (z := mem (y + 42) 1 + 1) (by rw [if_pos (by omega), ja_up_s]) ?_
        exact r_iret F Rt dX8_append_47 (by decide) ⟨by rw [if_pos ⟨by omega, by omega⟩, if_pos (by omega)], rfl, by rw [if_pos ⟨by omega, by omega, by omega⟩, if_pos (by omega)], rfl⟩
      ·
        refine r_sipush F (by decide) dX8_append_28 rfl ?_
        exact r_iret F Rt dX8_append_31 (by decide) ⟨by rw [if_pos ⟨by omega, by omega⟩, if_neg (by omega)], rfl, by rw [if_neg (by omega)], rfl⟩
    ·
      refine r_sipush F (by decide) dX8_append_12 rfl ?_
      exact r_iret F Rt dX8_append_15 (by decide) ⟨by rw [if_neg (by omega)], rfl, by rw [if_neg (by omega)], rfl⟩
abbrev rm_X8_clearText : Room := { frames := 0, cells := 0, slots := 0, locals := 0 }
set_option maxRecDepth 100000 in
set_option maxHeartbeats 4000000 in
theorem c_X8_clearText (l : Launch) (D : va_G) (cA : Nat → ClassId) (B : Nat) {lay : ja_Y} {mem : ja_M} {n : Nat} {y : Nat} {sl : Nat → Option Nat} {t : Int} (hB : ja_LB lay y sl) (hO : ja_BO mem y sl t)  : ja_Mt l D cA B yX8_clearText cX8_clearText 2 (some .int) rm_X8_clearText [.ref y] lay mem n (ja_rd lay (ja_up mem (y + 42) 1 0) n (some (.int (ja_I (mem (y + 42) 1))))) := by
  refine ja_enter [some (.ref y), none] (by decide) (Nat.le_of_ble_eq_true rfl) (fun q hq => hq) (fun C F Rt G hnm => ?_)
  obtain ⟨b1, b2, b3, b4, b5⟩ := id hO
  obtain ⟨g1, g2, g3, g4, g5, g6, g7, g8, g9, g10, g11, g12⟩ := id b1
  obtain ⟨p1, p2, p3, p4, p5, p6⟩ := id g3
  obtain ⟨s0, s1, s2, s3, s4, s5, s6, s7, s8⟩ := id g1
  have tt := g2.1
  have a0 := g4.1
  obtain ⟨h1, hch, h5, h6, h7⟩ := id b3
  refine r_aload_n F rfl rfl dX8_clearText_0 rfl ?_
  refine r_getR F f_X8_26 (hB.1) rfl dX8_clearText_1 rfl ?_
  refine r_getI F f_X8_211 ((ja_LB_42 hB).1) rfl dX8_clearText_4 rfl ?_
  refine r_ist1 F (by decide) rfl dX8_clearText_7 rfl ?_
  refine r_aload_n F rfl rfl dX8_clearText_8 rfl ?_
  refine r_getR F f_X8_26 (hB.1) rfl dX8_clearText_9 rfl ?_
  refine r_iconst F dX8_clearText_12 rfl ?_
  refine r_putI F f_X8_211 ((ja_LB_42 hB).1) rfl dX8_clearText_13 rfl ?_
  refine r_iload_n F rfl rfl dX8_clearText_16 rfl ?_
  exact r_iret F Rt dX8_clearText_17 (by decide) ⟨rfl, rfl, rfl, rfl⟩
abbrev rm_X8_faultPosition : Room := { frames := 4, cells := 0, slots := 0, locals := 89 }
set_option maxRecDepth 100000 in
set_option maxHeartbeats 4000000 in
theorem c_X8_faultPosition (l : Launch) (D : va_G) (cA : Nat → ClassId) (B : Nat) {lay : ja_Y} {mem : ja_M} {n : Nat} {y : Nat} {sl : Nat → Option Nat} {t : Int} (hB : ja_LB lay y sl) (hO : ja_BO mem y sl t)  : ja_Mt l D cA B yX8_faultPosition cX8_faultPosition 1 (some .int) rm_X8_faultPosition [.ref y] lay mem n (ja_rd lay ((B_rd mem y).2) n (some (.int (ja_I (B_rd mem y).1)))) := by
  refine ja_enter [some (.ref y)] (by decide) (Nat.le_of_ble_eq_true rfl) (fun q hq => hq) (fun C F Rt G hnm => ?_)
  obtain ⟨b1, b2, b3, b4, b5⟩ := id hO
  obtain ⟨g1, g2, g3, g4, g5, g6, g7, g8, g9, g10, g11, g12⟩ := id b1
  obtain ⟨p1, p2, p3, p4, p5, p6⟩ := id g3
  obtain ⟨s0, s1, s2, s3, s4, s5, s6, s7, s8⟩ := id g1
  have tt := g2.1
  have a0 := g4.1
  obtain ⟨h1, hch, h5, h6, h7⟩ := id b3
  refine r_aload_n F rfl rfl dX8_faultPosition_0 rfl ?_
  refine r_getR F f_X8_26 (hB.1) rfl dX8_faultPosition_1 rfl ?_
  refine r_aload_n F rfl rfl dX8_faultPosition_4 rfl ?_
  refine r_getR F f_X8_33 (hB.1) rfl dX8_faultPosition_5 rfl ?_
  refine r_callV F G (c_X0_readInto _ _ _ _ (ja_LB_42 hB) (ja_LB_44 hB) h1 (fun k _ => ⟨(hch k).1, by have := (hch k).2; omega⟩) (HO_XO b3 (by omega)) (AO_0 b4 (by omega)) (by omega)) v_X8_218 rfl ((ja_LB_42 hB).1) rfl (by decide) (by decide) (Nat.le_of_ble_eq_true rfl) rfl dX8_faultPosition_8 rfl (fun v lay' mem' n' hp => ?_)
  obtain ⟨q1, q2, q3, q4⟩ := hp
  subst q1; subst q2; subst q3; subst q4
  exact r_iret F Rt dX8_faultPosition_11 (by decide) ⟨rfl, rfl, rfl, rfl⟩
abbrev rm_X8_canArrive : Room := { frames := 3, cells := 0, slots := 0, locals := 64 }
set_option maxRecDepth 100000 in
set_option maxHeartbeats 4000000 in
theorem c_X8_canArrive (l : Launch) (D : va_G) (cA : Nat → ClassId) (B : Nat) {lay : ja_Y} {mem : ja_M} {n : Nat} {y : Nat} {sl : Nat → Option Nat} {t i : Int} (hB : ja_LB lay y sl) (hA : ja_AO mem (y + 44)) (hR : ja_RO mem (y + 1) t) (ht : t ≤ 898000) (hi : 0 ≤ i ∧ i < 24) : ja_Mt l D cA B yX8_canArrive cX8_canArrive 3 (some .boolean) rm_X8_canArrive [.ref y, .int (ja_I i)] lay mem n (ja_rd lay mem n (some (.int (ja_I (ja_b (B_ca mem y i.toNat)))))) := by
  refine ja_enter [some (.ref y), some (.int (ja_I i)), none] (by decide) (Nat.le_of_ble_eq_true rfl) (fun q hq => hq) (fun C F Rt G hnm => ?_)
  obtain ⟨g1, g2, g3, g4, g5, g6, g7, g8, g9, g10, g11, g12⟩ := id hR
  have u1 := hA.2.1 i.toNat
  obtain ⟨v1, v2⟩ := hA.2.2.1 i.toNat
  obtain ⟨w1, w2⟩ := hA.2.2.2.1 i.toNat
  obtain ⟨z1, z2⟩ := hA.2.2.2.2 i.toNat
  have hbf : ∀ (p : Prop) [Decidable p], ja_b p = 0 ∨ ja_b p = 1 := fun p _ => by unfold ja_b; split <;> omega
  have hbc : ∀ (p q : Prop) [Decidable p] [Decidable q], (p ↔ q) → ja_b p = ja_b q := fun p q _ _ h => by unfold ja_b; by_cases hp : p; rw [if_pos hp, if_pos (h.mp hp)]; rw [if_neg hp, if_neg (fun hq => hp (h.mpr hq))]
  refine r_aload_n F rfl rfl dX8_canArrive_0 rfl ?_
  refine r_getR F f_X8_33 (hB.1) rfl dX8_canArrive_1 rfl ?_
  refine r_getRN F f_X8_283 ((ja_LB_44 hB).1) rfl dX8_canArrive_4 rfl ?_
  refine r_iload_n F rfl rfl dX8_canArrive_7 rfl ?_
  refine r_iald F (ja_LA_4 (ja_LB_44 hB)) (by omega) (by omega) (by decide) dX8_canArrive_8 rfl ?_
  refine r_aload_n F rfl rfl dX8_canArrive_9 rfl ?_
  refine r_getR F f_X8_10 (hB.1) rfl dX8_canArrive_10 rfl ?_
  refine r_getI F f_X8_104 ((ja_LB_1 hB).1) rfl dX8_canArrive_13 rfl ?_
  refine r_icmp_gt F (tgt := 21) ⟨by omega, by omega⟩ ⟨by omega, by omega⟩ dX8_canArrive_16 rfl (by decide) (fun h_16 => ?_) (fun h_16 => ?_)
  ·
    refine r_aload_n F rfl rfl dX8_canArrive_21 rfl ?_
    refine r_getR F f_X8_33 (hB.1) rfl dX8_canArrive_22 rfl ?_
    refine r_getRN F f_X8_287 ((ja_LB_44 hB).1) rfl dX8_canArrive_25 rfl ?_
    refine r_iload_n F rfl rfl dX8_canArrive_28 rfl ?_
    refine r_iald F (ja_LA_2 (ja_LB_44 hB)) (by omega) (by omega) (by decide) dX8_canArrive_29 rfl ?_
    refine r_ist2 F (by decide) rfl dX8_canArrive_30 rfl ?_
    refine r_aload_n F rfl rfl dX8_canArrive_31 rfl ?_
    refine r_getR F f_X8_33 (hB.1) rfl dX8_canArrive_32 rfl ?_
    refine r_getRN F f_X8_290 ((ja_LB_44 hB).1) rfl dX8_canArrive_35 rfl ?_
    refine r_iload_n F rfl rfl dX8_canArrive_38 rfl ?_
    refine r_iald F (ja_LA_1 (ja_LB_44 hB)) (by omega) (by omega) (by decide) dX8_canArrive_39 rfl ?_
    refine r_if_ne F (tgt := 48) ⟨by omega, by omega⟩ dX8_canArrive_40 rfl (by decide) (fun h_40 => ?_) (fun h_40 => ?_)
    ·
      refine r_aload_n F rfl rfl dX8_canArrive_48 rfl ?_
      refine r_getR F f_X8_10 (hB.1) rfl dX8_canArrive_49 rfl ?_
      refine r_getR F f_X8_43 ((ja_LB_1 hB).1) rfl dX8_canArrive_52 rfl ?_
      refine r_aload_n F rfl rfl dX8_canArrive_55 rfl ?_
      refine r_getR F f_X8_33 (hB.1) rfl dX8_canArrive_56 rfl ?_
      refine r_getRN F f_X8_290 ((ja_LB_44 hB).1) rfl dX8_canArrive_59 rfl ?_
      refine r_iload_n F rfl rfl dX8_canArrive_62 rfl ?_
      refine r_iald F (ja_LA_1 (ja_LB_44 hB)) (by omega) (by omega) (by decide) dX8_canArrive_63 rfl ?_
      refine r_iconst F dX8_canArrive_64 rfl ?_
      refine r_icmp_ne F (tgt := 72) ⟨by omega, by omega⟩ ⟨by omega, by omega⟩ dX8_canArrive_65 rfl (by decide) (fun h_65 => ?_) (fun h_65 => ?_)
      ·
        refine r_iconst F dX8_canArrive_72 rfl ?_
        refine r_eqz (z := ja_b (mem (y + 44 + 1) i.toNat = 1)) (by unfold ja_b; first | rw [if_pos (by omega)] | rw [if_neg (by omega)]) ?_
        have hbb : 0 ≤ ja_b (mem (y + 44 + 1) i.toNat = 1) ∧ ja_b (mem (y + 44 + 1) i.toNat = 1) ≤ 1 := by unfold ja_b; split <;> omega
        refine r_iload_n F rfl rfl dX8_canArrive_73 rfl ?_
        refine r_aload_n F rfl rfl dX8_canArrive_74 rfl ?_
        refine r_getR F f_X8_33 (hB.1) rfl dX8_canArrive_75 rfl ?_
        refine r_getRN F f_X8_293 ((ja_LB_44 hB).1) rfl dX8_canArrive_78 rfl ?_
        refine r_iload_n F rfl rfl dX8_canArrive_81 rfl ?_
        refine r_iald F (ja_LA_3 (ja_LB_44 hB)) (by omega) (by omega) (by decide) dX8_canArrive_82 rfl ?_
        refine r_callV F G (c_X6_hasPacket _ _ _ _ (ja_LR_1 (ja_LB_1 hB)) g1 hbb ⟨by omega, by omega⟩ ⟨by omega, by omega⟩) v_X8_84 rfl (ja_LR_1 (ja_LB_1 hB)) rfl (by decide) (by decide) (Nat.le_of_ble_eq_true rfl) rfl dX8_canArrive_83 rfl (fun v lay' mem' n' hp => ?_)
        obtain ⟨q1, q2, q3, q4⟩ := hp
        subst q1; subst q2; subst q3; subst q4
        exact r_zret F Rt (hbf _) dX8_canArrive_86 (by decide) ⟨by rw [hbc (B_ca mem y i.toNat) (ja_hasP mem (y + 1 + 1) (ja_b (mem (y + 44 + 1) i.toNat = 1)) (mem (y + 44 + 2) i.toNat) (mem (y + 44 + 3) i.toNat)) (by constructor; (intro q; have := q.2; rw [if_neg h_40] at this; exact this); (intro q; exact ⟨by omega, by rw [if_neg h_40]; exact q⟩))], rfl, rfl, rfl⟩
      ·
        refine r_iconst F dX8_canArrive_68 rfl ?_
        refine r_goto F (tgt := 73) dX8_canArrive_69 (by decide) ?_
        refine r_eqz (z := ja_b (mem (y + 44 + 1) i.toNat = 1)) (by unfold ja_b; first | rw [if_pos (by omega)] | rw [if_neg (by omega)]) ?_
        have hbb : 0 ≤ ja_b (mem (y + 44 + 1) i.toNat = 1) ∧ ja_b (mem (y + 44 + 1) i.toNat = 1) ≤ 1 := by unfold ja_b; split <;> omega
        refine r_iload_n F rfl rfl dX8_canArrive_73 rfl ?_
        refine r_aload_n F rfl rfl dX8_canArrive_74 rfl ?_
        refine r_getR F f_X8_33 (hB.1) rfl dX8_canArrive_75 rfl ?_
        refine r_getRN F f_X8_293 ((ja_LB_44 hB).1) rfl dX8_canArrive_78 rfl ?_
        refine r_iload_n F rfl rfl dX8_canArrive_81 rfl ?_
        refine r_iald F (ja_LA_3 (ja_LB_44 hB)) (by omega) (by omega) (by decide) dX8_canArrive_82 rfl ?_
        refine r_callV F G (c_X6_hasPacket _ _ _ _ (ja_LR_1 (ja_LB_1 hB)) g1 hbb ⟨by omega, by omega⟩ ⟨by omega, by omega⟩) v_X8_84 rfl (ja_LR_1 (ja_LB_1 hB)) rfl (by decide) (by decide) (Nat.le_of_ble_eq_true rfl) rfl dX8_canArrive_83 rfl (fun v lay' mem' n' hp => ?_)
        obtain ⟨q1, q2, q3, q4⟩ := hp
        subst q1; subst q2; subst q3; subst q4
        exact r_zret F Rt (hbf _) dX8_canArrive_86 (by decide) ⟨by rw [hbc (B_ca mem y i.toNat) (ja_hasP mem (y + 1 + 1) (ja_b (mem (y + 44 + 1) i.toNat = 1)) (mem (y + 44 + 2) i.toNat) (mem (y + 44 + 3) i.toNat)) (by constructor; (intro q; have := q.2; rw [if_neg h_40] at this; exact this); (intro q; exact ⟨by omega, by rw [if_neg h_40]; exact q⟩))], rfl, rfl, rfl⟩
    ·
      refine r_iload_n F rfl rfl dX8_canArrive_43 rfl ?_
      refine r_callS F G (c_X8_isFrame _ _ _ _ ⟨by omega, by omega⟩) s_X8_76 rfl (by decide) (by decide) (Nat.le_of_ble_eq_true rfl) rfl dX8_canArrive_44 rfl (fun v lay' mem' n' hp => ?_)
      obtain ⟨q1, q2, q3, q4⟩ := hp
      subst q1; subst q2; subst q3; subst q4
      exact r_zret F Rt (hbf _) dX8_canArrive_47 (by decide) ⟨by rw [hbc (B_ca mem y i.toNat) (B_isF (mem (y + 44 + 2) i.toNat)) (by constructor; (intro q; have := q.2; rw [if_pos h_40] at this; exact this); (intro q; exact ⟨by omega, by rw [if_pos h_40]; exact q⟩))], rfl, rfl, rfl⟩
  ·
    refine r_iconst F dX8_canArrive_19 rfl ?_
    exact r_zret F Rt (by omega) dX8_canArrive_20 (by decide) ⟨by rw [ja_b_0.mpr (fun q : B_ca mem y i.toNat => absurd q.1 (by omega))], rfl, rfl, rfl⟩
abbrev rm_X8_schedule : Room := { frames := 4, cells := 0, slots := 0, locals := 89 }
set_option maxRecDepth 100000 in
set_option maxHeartbeats 4000000 in
theorem c_X8_schedule (l : Launch) (D : va_G) (cA : Nat → ClassId) (B : Nat) {lay : ja_Y} {mem : ja_M} {n : Nat} {y : Nat} {sl : Nat → Option Nat} {t : Int} (hB : ja_LB lay y sl) (hO : ja_BO mem y sl t) (ht : t ≤ 898000) : ja_Mt l D cA B yX8_schedule cX8_schedule 2 (some .int) rm_X8_schedule [.ref y] lay mem n (ja_rd lay ((B_sc mem y).2) n (some (.int (ja_I (B_sc mem y).1)))) := by
  refine ja_enter [some (.ref y), none] (by decide) (Nat.le_of_ble_eq_true rfl) (fun q hq => hq) (fun C F Rt G hnm => ?_)
  obtain ⟨b1, b2, b3, b4, b5⟩ := id hO
  obtain ⟨g1, g2, g3, g4, g5, g6, g7, g8, g9, g10, g11, g12⟩ := id b1
  obtain ⟨p1, p2, p3, p4, p5, p6⟩ := id g3
  obtain ⟨s0, s1, s2, s3, s4, s5, s6, s7, s8⟩ := id g1
  have tt := g2.1
  have a0 := g4.1
  obtain ⟨h1, hch, h5, h6, h7⟩ := id b3
  obtain ⟨r1, r2, r3⟩ := B_rd_all b3 b4
  have hR0 : ja_RO (B_rd mem y).2 (y + 1) t := ja_RO_all (fun q q1 q2 => r3 q (by omega)) b1
  have hre : -1004 ≤ (B_rd mem y).1 ∧ (B_rd mem y).1 ≤ 120 := B_rd_in b3
  refine r_aload_n F rfl rfl dX8_schedule_0 rfl ?_
  refine r_getR F f_X8_26 (hB.1) rfl dX8_schedule_1 rfl ?_
  refine r_aload_n F rfl rfl dX8_schedule_4 rfl ?_
  refine r_getR F f_X8_33 (hB.1) rfl dX8_schedule_5 rfl ?_
  refine r_callV F G (c_X0_readInto _ _ _ _ (ja_LB_42 hB) (ja_LB_44 hB) h1 (fun k _ => ⟨(hch k).1, by have := (hch k).2; omega⟩) (HO_XO b3 (by omega)) (AO_0 b4 (by omega)) (by omega)) v_X8_218 rfl ((ja_LB_42 hB).1) rfl (by decide) (by decide) (Nat.le_of_ble_eq_true rfl) rfl dX8_schedule_8 rfl (fun v lay' mem' n' hp => ?_)
  obtain ⟨q1, q2, q3, q4⟩ := hp
  subst q1; subst q2; subst q3; subst q4
  refine r_eqz (z := (B_rd mem y).1) rfl ?_
  refine r_mem (mem' := (B_rd mem y).2) rfl ?_
  generalize hm1 : (B_rd mem y).2 = m0 at *
  have m4 := r1.1
  have m5 := hR0.2.2.2.1.1
  refine r_sipush F (by decide) dX8_schedule_11 rfl ?_
  refine r_icmp_eq F (tgt := 21) ⟨by omega, by omega⟩ ⟨by omega, by omega⟩ dX8_schedule_14 rfl (by decide) (fun h_14 => ?_) (fun h_14 => ?_)
  ·
    have e14 : (B_rd mem y).1 = -1004 := h_14
    refine r_iconst F dX8_schedule_21 rfl ?_
    refine r_ist1 F (by decide) rfl dX8_schedule_22 rfl ?_
    have loop : ∀ (d k : Nat), k + d = (m0 (y + 44) 4).toNat → B_cas m0 y d k = B_cas m0 y (m0 (y + 44) 4).toNat 0 → ja_W C 0 0 lay m0 n 23 [some (.ref y), some (.int (ja_I (k : Int)))] [] := by
      intro d
      induction d with
      | zero =>
        intro k hk hl
        refine r_iload_n F rfl rfl dX8_schedule_23 rfl ?_
        refine r_aload_n F rfl rfl dX8_schedule_24 rfl ?_
        refine r_getR F f_X8_33 (hB.1) rfl dX8_schedule_25 rfl ?_
        refine r_getI F f_X8_222 ((ja_LB_44 hB).1) rfl dX8_schedule_28 rfl ?_
        refine r_eqz (z := m0 (y + 44) 4) (by rfl) ?_
        refine r_icmp_ge F (tgt := 52) ⟨by omega, by omega⟩ ⟨by omega, by omega⟩ dX8_schedule_31 rfl (by decide) (fun h_31 => ?_) (fun h_31 => ?_)
        ·
          refine r_aload_n F rfl rfl dX8_schedule_52 rfl ?_
          refine r_getR F f_X8_10 (hB.1) rfl dX8_schedule_53 rfl ?_
          refine r_getR F f_X8_228 ((ja_LB_1 hB).1) rfl dX8_schedule_56 rfl ?_
          refine r_getI F f_X8_222 ((ja_LR_15 (ja_LB_1 hB)).1) rfl dX8_schedule_59 rfl ?_
          refine r_eqz (z := m0 (y + 1 + 15) 4) (by rfl) ?_
          refine r_aload_n F rfl rfl dX8_schedule_62 rfl ?_
          refine r_getR F f_X8_33 (hB.1) rfl dX8_schedule_63 rfl ?_
          refine r_getI F f_X8_222 ((ja_LB_44 hB).1) rfl dX8_schedule_66 rfl ?_
          refine r_eqz (z := m0 (y + 44) 4) (by rfl) ?_
          refine r_iadd F dX8_schedule_69 rfl ?_
          refine r_bipush F (by decide) dX8_schedule_70 rfl ?_
          refine r_icmp_le F (tgt := 79) ⟨by omega, by omega⟩ ⟨by omega, by omega⟩ dX8_schedule_72 rfl (by decide) (fun h_72 => ?_) (fun h_72 => ?_)
          ·
            refine r_aload_n F rfl rfl dX8_schedule_79 rfl ?_
            refine r_getR F f_X8_10 (hB.1) rfl dX8_schedule_80 rfl ?_
            refine r_getR F f_X8_228 ((ja_LB_1 hB).1) rfl dX8_schedule_83 rfl ?_
            refine r_aload_n F rfl rfl dX8_schedule_86 rfl ?_
            refine r_getR F f_X8_33 (hB.1) rfl dX8_schedule_87 rfl ?_
            refine r_callV F G (c_X1_addAll _ _ _ _ (ja_LR_15 (ja_LB_1 hB)) (ja_LB_44 hB) m5 m4 (by omega)) v_X8_231 rfl ((ja_LR_15 (ja_LB_1 hB)).1) rfl (by decide) (by decide) (Nat.le_of_ble_eq_true rfl) rfl dX8_schedule_90 rfl (fun v lay' mem' n' hp => ?_)
            obtain ⟨q1, q2, q3, q4⟩ := hp
            subst q1; subst q2; subst q3; subst q4
            refine r_aload_n F rfl rfl dX8_schedule_93 rfl ?_
            refine r_getR F f_X8_33 (hB.1) rfl dX8_schedule_94 rfl ?_
            refine r_getI F f_X8_222 ((ja_LB_44 hB).1) rfl dX8_schedule_97 rfl ?_
            refine r_eqz (z := m0 (y + 44) 4) (by rw [A_all_o (by omega)]) ?_
            exact r_iret F Rt dX8_schedule_100 (by decide) ⟨by rw [B_sc, hm1, if_pos e14, if_neg (by rw [← hl]; exact (by decide : ¬ (1 : Int) = 0)), if_neg (by omega)], rfl, by rw [B_sc, hm1, if_pos e14, if_neg (by rw [← hl]; exact (by decide : ¬ (1 : Int) = 0)), if_neg (by omega)], rfl⟩
          ·
            refine r_sipush F (by decide) dX8_schedule_75 rfl ?_
            exact r_iret F Rt dX8_schedule_78 (by decide) ⟨by rw [B_sc, hm1, if_pos e14, if_neg (by rw [← hl]; exact (by decide : ¬ (1 : Int) = 0)), if_pos (by omega)], rfl, by rw [B_sc, hm1, if_pos e14, if_neg (by rw [← hl]; exact (by decide : ¬ (1 : Int) = 0)), if_pos (by omega)], rfl⟩
        ·
          exfalso; omega
      | succ d ih =>
        intro k hk hl
        have hcb : ja_b (B_ca m0 y k) = 0 ↔ ¬ B_ca m0 y k := ja_b_0
        have hcr : 0 ≤ ja_b (B_ca m0 y k) ∧ ja_b (B_ca m0 y k) ≤ 1 := ja_b_r
        refine r_iload_n F rfl rfl dX8_schedule_23 rfl ?_
        refine r_aload_n F rfl rfl dX8_schedule_24 rfl ?_
        refine r_getR F f_X8_33 (hB.1) rfl dX8_schedule_25 rfl ?_
        refine r_getI F f_X8_222 ((ja_LB_44 hB).1) rfl dX8_schedule_28 rfl ?_
        refine r_eqz (z := m0 (y + 44) 4) (by rfl) ?_
        refine r_icmp_ge F (tgt := 52) ⟨by omega, by omega⟩ ⟨by omega, by omega⟩ dX8_schedule_31 rfl (by decide) (fun h_31 => ?_) (fun h_31 => ?_)
        ·
          exfalso; omega
        ·
          refine r_aload_n F rfl rfl dX8_schedule_34 rfl ?_
          refine r_iload_n F rfl rfl dX8_schedule_35 rfl ?_
          refine r_eqz (z := (k : Int)) rfl ?_
          refine r_callV F G (c_X8_canArrive _ _ _ _ hB r1 hR0 (by omega) ⟨by omega, by omega⟩) v_X8_225 rfl (hB.1) rfl (by decide) (by decide) (Nat.le_of_ble_eq_true rfl) rfl dX8_schedule_36 rfl (fun v lay' mem' n' hp => ?_)
          obtain ⟨q1, q2, q3, q4⟩ := hp
          subst q1; subst q2; subst q3; subst q4
          refine r_eqz (z := ja_b (B_ca m0 y k)) (by rw [ja_nat]) ?_
          refine r_if_ne F (tgt := 46) ⟨by omega, by omega⟩ dX8_schedule_39 rfl (by decide) (fun h_39 => ?_) (fun h_39 => ?_)
          ·
            refine r_inc1 F (by decide) rfl dX8_schedule_46 rfl ?_
            refine r_goto F (tgt := 23) dX8_schedule_49 (by decide) ?_
            exact ih (k + 1) (by omega) (by rw [← hl]; simp only [B_cas]; rw [if_pos (Decidable.byContradiction fun q => h_39 (hcb.mpr q))])
          ·
            refine r_sipush F (by decide) dX8_schedule_42 rfl ?_
            exact r_iret F Rt dX8_schedule_45 (by decide) ⟨by rw [B_sc, hm1, if_pos e14, if_pos (by rw [← hl]; simp only [B_cas]; rw [if_neg (hcb.mp h_39)])], rfl, by rw [B_sc, hm1, if_pos e14, if_pos (by rw [← hl]; simp only [B_cas]; rw [if_neg (hcb.mp h_39)])], rfl⟩
    exact loop (m0 (y + 44) 4).toNat 0 (by omega) rfl
  ·
    refine r_sipush F (by decide) dX8_schedule_17 rfl ?_
    exact r_iret F Rt dX8_schedule_20 (by decide) ⟨by rw [B_sc, if_neg h_14], rfl, by rw [B_sc, if_neg h_14, hm1], rfl⟩
