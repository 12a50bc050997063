abbrev rm_X7_add : Room := { frames := 1, cells := 0, slots := 0, locals := 23 }
set_option maxRecDepth 100000 in
set_option maxHeartbeats 4000000 in
theorem c_X7_add (l : Launch) (D : va_G) (cA : Nat → ClassId) (B : Nat) {lay : ja_Y} {mem : ja_M} {n : Nat} {a : Nat} {v : Int} (hT : ja_LT lay a) (hO : ja_TO mem a) (hv : ja_sm v) : ja_Mt l D cA B yX7_add cX7_add 3 none rm_X7_add [.ref a, .int (ja_I v)] lay mem n (ja_rd lay (T_add mem a v) n (none)) := by
  refine ja_enter [some (.ref a), some (.int (ja_I v)), none] (by decide) (Nat.le_of_ble_eq_true rfl) (fun q hq => hq) (fun C F Rt G hnm => ?_)
  have hO2 := hO
  obtain ⟨h2, h3, b1, b2⟩ := hO2
  have hct : 1 ≤ T_ct mem a ∧ T_ct mem a ≤ 16 := by unfold T_ct; split <;> omega
  have hb1 : ∀ j, ja_sm (ja_rs (mem (a + 1)) (mem a 3).toNat v j) := fun j => by unfold ja_rs; split; exact hv; exact b1 j
  have hb2 := T_srt_in (P := ja_sm) hb1 b2
  refine r_aload_n F rfl rfl dX7_add_0 rfl ?_
  refine r_getR F f_X7_9 (hT.1) rfl dX7_add_1 rfl ?_
  refine r_aload_n F rfl rfl dX7_add_4 rfl ?_
  refine r_getI F f_X7_26 (hT.1) rfl dX7_add_5 rfl ?_
  refine r_iload_n F rfl rfl dX7_add_8 rfl ?_
  refine r_iast F (ja_LT_1 hT) (by omega) (by omega) (by decide) dX7_add_9 rfl ?_
  refine r_aload_n F rfl rfl dX7_add_10 rfl ?_
  refine r_aload_n F rfl rfl dX7_add_11 rfl ?_
  refine r_getI F f_X7_26 (hT.1) rfl dX7_add_12 rfl ?_
  refine r_eqz (z := mem a 3) (by simp [ja_up]) ?_
  refine r_iconst F dX7_add_15 rfl ?_
  refine r_iadd F dX7_add_16 rfl ?_
  refine r_bipush F (by decide) dX7_add_17 rfl ?_
  refine r_iremP F ⟨by omega, by omega⟩ ⟨by omega, by omega⟩ (by omega) (by omega) dX7_add_19 rfl ?_
  refine r_putI F f_X7_26 (hT.1) rfl dX7_add_20 rfl ?_
  refine r_aload_n F rfl rfl dX7_add_23 rfl ?_
  refine r_bipush F (by decide) dX7_add_24 rfl ?_
  refine r_aload_n F rfl rfl dX7_add_26 rfl ?_
  refine r_getI F f_X7_22 (hT.1) rfl dX7_add_27 rfl ?_
  refine r_eqz (z := mem a 2) (by simp [ja_up]) ?_
  refine r_iconst F dX7_add_30 rfl ?_
  refine r_iadd F dX7_add_31 rfl ?_
  refine r_mmin F ⟨by omega, by omega⟩ ⟨by omega, by omega⟩ s_X7_29 (Nat.le_of_ble_eq_true rfl) (by decide) (by decide) (by decide) dX7_add_32 rfl ?_
  refine r_eqz (z := T_ct mem a) (by unfold T_ct; first | rfl | skip) ?_
  refine r_putI F f_X7_22 (hT.1) rfl dX7_add_35 rfl ?_
  generalize hm0 : ja_up (ja_up (ja_up mem (a + 1) (mem a 3).toNat v) a 3 ((mem a 3 + 1) % 16)) a 2 (T_ct mem a) = m0
  have e2 : m0 a 2 = T_ct mem a := by rw [← hm0, ja_up_s]
  have e3 : m0 a 3 = (mem a 3 + 1) % 16 := by rw [← hm0, ja_up_j (by omega), ja_up_s]
  have e1 : m0 (a + 1) = ja_rs (mem (a + 1)) (mem a 3).toNat v := by rw [← hm0]; funext j; rw [ja_up_a (by omega), ja_up_a (by omega)]; simp [ja_up, ja_rs]
  have e4 : m0 (a + 2) = mem (a + 2) := by rw [← hm0]; funext j; rw [ja_up_a (by omega), ja_up_a (by omega), ja_up_a (by omega)]
  refine r_iconst F dX7_add_38 rfl ?_
  refine r_ist2 F (by decide) rfl dX7_add_39 rfl ?_
  have loop : ∀ (d k : Nat), k + d = (T_ct mem a).toNat → ja_W C 0 0 lay (ja_rw m0 (a + 2) (T_srt (ja_rs (mem (a + 1)) (mem a 3).toNat v) (mem (a + 2)) k)) n 40 [some (.ref a), some (.int (ja_I v)), some (.int (ja_I (k : Int)))] [] := by
    intro d
    induction d with
    | zero =>
      intro k hk
      refine r_iload_n F rfl rfl dX7_add_40 rfl ?_
      refine r_aload_n F rfl rfl dX7_add_41 rfl ?_
      refine r_getI F f_X7_22 (hT.1) rfl dX7_add_42 rfl ?_
      refine r_eqz (z := (T_ct mem a)) (by rw [ja_rw_n (by omega), e2]) ?_
      refine r_icmp_ge F (tgt := 65) ⟨by omega, by omega⟩ ⟨by omega, by omega⟩ dX7_add_45 rfl (by decide) (fun h_45 => ?_) (fun h_45 => ?_)
      ·
        exact r_vret F Rt dX7_add_65 (by decide) ⟨rfl, rfl, by rw [T_add, hm0, show (T_ct mem a).toNat = k by omega], rfl⟩
      ·
        exfalso; omega
    | succ d ih =>
      intro k hk
      refine r_iload_n F rfl rfl dX7_add_40 rfl ?_
      refine r_aload_n F rfl rfl dX7_add_41 rfl ?_
      refine r_getI F f_X7_22 (hT.1) rfl dX7_add_42 rfl ?_
      refine r_eqz (z := (T_ct mem a)) (by rw [ja_rw_n (by omega), e2]) ?_
      refine r_icmp_ge F (tgt := 65) ⟨by omega, by omega⟩ ⟨by omega, by omega⟩ dX7_add_45 rfl (by decide) (fun h_45 => ?_) (fun h_45 => ?_)
      ·
        exfalso; omega
      ·
        refine r_aload_n F rfl rfl dX7_add_48 rfl ?_
        refine r_aload_n F rfl rfl dX7_add_49 rfl ?_
        refine r_getR F f_X7_9 (hT.1) rfl dX7_add_50 rfl ?_
        refine r_iload_n F rfl rfl dX7_add_53 rfl ?_
        refine r_iald F (ja_LT_1 hT) (by omega) (by omega) (by decide) dX7_add_54 rfl ?_
        refine r_eqz (z := ja_rs (mem (a + 1)) (mem a 3).toNat v k) (by rw [ja_rw_n (by omega), e1, ja_nat]) ?_
        refine r_iload_n F rfl rfl dX7_add_55 rfl ?_
        refine r_callV F G (c_X7_insert _ _ _ _ hT ⟨by rw [ja_rw_n (by omega), e2]; omega, by rw [ja_rw_n (by omega), e3]; omega, fun j => by rw [ja_rw_n (by omega), e1]; exact hb1 j, fun j => by rw [ja_rw_s]; exact hb2 k j⟩ (hb1 k) ⟨by omega, by omega⟩) v_X7_35 rfl (hT.1) rfl (by decide) (by decide) (Nat.le_of_ble_eq_true rfl) rfl dX7_add_56 rfl (fun v lay' mem' n' hp => ?_)
        obtain ⟨q1, q2, q3, q4⟩ := hp
        subst q1; subst q2; subst q3; subst q4
        refine r_inc2 F (by decide) rfl dX7_add_59 rfl ?_
        refine r_goto F (tgt := 40) dX7_add_62 (by decide) ?_
        refine r_mem (mem' := ja_rw m0 (a + 2) (T_srt (ja_rs (mem (a + 1)) (mem a 3).toNat v) (mem (a + 2)) (k + 1))) (by rw [ja_rw_rw, ja_rw_s]; simp only [T_srt, ja_nat]) ?_
        exact ih (k + 1) (by omega)
  have h0 := loop (T_ct mem a).toNat 0 (by omega)
  rw [show ja_rw m0 (a + 2) (T_srt (ja_rs (mem (a + 1)) (mem a 3).toNat v) (mem (a + 2)) 0) = m0 by rw [show T_srt (ja_rs (mem (a + 1)) (mem a 3).toNat v) (mem (a + 2)) 0 = m0 (a + 2) from e4.symm]; exact ja_rw_self m0 (a + 2)] at h0
  exact h0
abbrev rm_X0_write : Room := { frames := 0, cells := 0, slots := 0, locals := 0 }
set_option maxRecDepth 100000 in
set_option maxHeartbeats 4000000 in
theorem c_X0_write (l : Launch) (D : va_G) (cA : Nat → ClassId) (B : Nat) {lay : ja_Y} {mem : ja_M} {n : Nat} {x : Nat} {c : Int} (hX : ja_LX lay x) (h1 : 0 ≤ mem x 1 ∧ mem x 1 ≤ 120) : ja_Mt l D cA B yX0_write cX0_write 2 none rm_X0_write [.ref x, .int (ja_I c)] lay mem n (ja_rd lay (if mem x 1 < 120 then ja_up (ja_up mem (x + 1) (mem x 1).toNat c) x 1 (mem x 1 + 1) else mem) n (none)) := by
  refine ja_enter [some (.ref x), some (.int (ja_I c))] (by decide) (Nat.le_of_ble_eq_true rfl) (fun q hq => hq) (fun C F Rt G hnm => ?_)
  refine r_aload_n F rfl rfl dX0_write_0 rfl ?_
  refine r_getI F f_X0_15 (hX.1) rfl dX0_write_1 rfl ?_
  refine r_bipush F (by decide) dX0_write_4 rfl ?_
  refine r_icmp_ge F (tgt := 29) ⟨by omega, by omega⟩ ⟨by omega, by omega⟩ dX0_write_6 rfl (by decide) (fun h_6 => ?_) (fun h_6 => ?_)
  ·
    exact r_vret F Rt dX0_write_29 (by decide) ⟨rfl, rfl, by first | rw [if_pos (by omega)] | rw [if_neg (by omega)], rfl⟩
  ·
    refine r_aload_n F rfl rfl dX0_write_9 rfl ?_
    refine r_getR F f_X0_11 (hX.1) rfl dX0_write_10 rfl ?_
    refine r_aload_n F rfl rfl dX0_write_13 rfl ?_
    refine r_getI F f_X0_15 (hX.1) rfl dX0_write_14 rfl ?_
    refine r_iload_n F rfl rfl dX0_write_17 rfl ?_
    refine r_iast F (ja_LX_1 hX) (by omega) (by omega) (by decide) dX0_write_18 rfl ?_
    refine r_aload_n F rfl rfl dX0_write_19 rfl ?_
    refine r_dup F rfl dX0_write_20 rfl ?_
    refine r_getI F f_X0_15 (hX.1) rfl dX0_write_21 rfl ?_
    refine r_eqz (z := mem x 1) (by simp [ja_up]) ?_
    refine r_iconst F dX0_write_24 rfl ?_
    refine r_iadd F dX0_write_25 rfl ?_
    refine r_putI F f_X0_15 (hX.1) rfl dX0_write_26 rfl ?_
    exact r_vret F Rt dX0_write_29 (by decide) ⟨rfl, rfl, by first | rw [if_pos (by omega)] | rw [if_neg (by omega)], rfl⟩
abbrev rm_X0_expect : Room := { frames := 0, cells := 0, slots := 0, locals := 0 }
set_option maxRecDepth 100000 in
set_option maxHeartbeats 4000000 in
theorem c_X0_expect (l : Launch) (D : va_G) (cA : Nat → ClassId) (B : Nat) {lay : ja_Y} {mem : ja_M} {n : Nat} {x : Nat} {p : Int} (hX : ja_LX lay x)  : ja_Mt l D cA B yX0_expect cX0_expect 2 none rm_X0_expect [.ref x, .int (ja_I p)] lay mem n (ja_rd lay (X_ex mem x p) n (none)) := by
  refine ja_enter [some (.ref x), some (.int (ja_I p))] (by decide) (Nat.le_of_ble_eq_true rfl) (fun q hq => hq) (fun C F Rt G hnm => ?_)
  refine r_aload_n F rfl rfl dX0_expect_0 rfl ?_
  refine r_iload_n F rfl rfl dX0_expect_1 rfl ?_
  refine r_putI F f_X0_24 (hX.1) rfl dX0_expect_2 rfl ?_
  refine r_aload_n F rfl rfl dX0_expect_5 rfl ?_
  refine r_iconst F dX0_expect_6 rfl ?_
  refine r_putI F f_X0_38 (hX.1) rfl dX0_expect_7 rfl ?_
  refine r_aload_n F rfl rfl dX0_expect_10 rfl ?_
  refine r_iconst F dX0_expect_11 rfl ?_
  refine r_putI F f_X0_35 (hX.1) rfl dX0_expect_12 rfl ?_
  exact r_vret F Rt dX0_expect_15 (by decide) ⟨rfl, rfl, rfl, rfl⟩
abbrev rm_X0_beginsEntry : Room := { frames := 1, cells := 0, slots := 0, locals := 21 }
set_option maxRecDepth 100000 in
set_option maxHeartbeats 4000000 in
theorem c_X0_beginsEntry (l : Launch) (D : va_G) (cA : Nat → ClassId) (B : Nat) {lay : ja_Y} {mem : ja_M} {n : Nat} {x : Nat} {c : Int} (hX : ja_LX lay x) (hc : ja_in c) : ja_Mt l D cA B yX0_beginsEntry cX0_beginsEntry 2 (some .boolean) rm_X0_beginsEntry [.ref x, .int (ja_I c)] lay mem n (ja_rd lay (X_be mem x c) n (some (.int (ja_I (ja_b (c = 100 ∨ c = 114 ∨ c = 99)))))) := by
  refine ja_enter [some (.ref x), some (.int (ja_I c))] (by decide) (Nat.le_of_ble_eq_true rfl) (fun q hq => hq) (fun C F Rt G hnm => ?_)
  refine r_iload_n F rfl rfl dX0_beginsEntry_0 rfl ?_
  rcases (show c = 99 ∨ c = 100 ∨ c = 114 ∨ (¬ c = 99 ∧ ¬ c = 100 ∧ ¬ c = 114) by omega) with h_1 | h_1 | h_1 | h_1
  ·
    refine r_lookup F (off := 59) (tgt := 60) hc dX0_beginsEntry_1 (by decide) (by rw [h_1] <;> decide) (by decide) ?_
    refine r_aload_n F rfl rfl dX0_beginsEntry_60 rfl ?_
    refine r_iconst F dX0_beginsEntry_61 rfl ?_
    refine r_putI F f_X0_49 (hX.1) rfl dX0_beginsEntry_62 rfl ?_
    refine r_aload_n F rfl rfl dX0_beginsEntry_65 rfl ?_
    refine r_iconst F dX0_beginsEntry_66 rfl ?_
    refine r_callV F G (c_X0_expect _ _ _ _ hX) v_X0_52 rfl (hX.1) rfl (by decide) (by decide) (Nat.le_of_ble_eq_true rfl) rfl dX0_beginsEntry_67 rfl (fun v lay' mem' n' hp => ?_)
    obtain ⟨q1, q2, q3, q4⟩ := hp
    subst q1; subst q2; subst q3; subst q4
    refine r_iconst F dX0_beginsEntry_70 rfl ?_
    exact r_zret F Rt (by omega) dX0_beginsEntry_71 (by decide) ⟨by unfold ja_b; first | rw [if_pos (by omega)] | rw [if_neg (by omega)], rfl, by unfold X_be; first | rw [if_pos (by omega)] | rw [if_neg (by omega), if_pos (by omega)] | rw [if_neg (by omega), if_neg (by omega), if_pos (by omega)] | rw [if_neg (by omega), if_neg (by omega), if_neg (by omega)], rfl⟩
  ·
    refine r_lookup F (off := 35) (tgt := 36) hc dX0_beginsEntry_1 (by decide) (by rw [h_1] <;> decide) (by decide) ?_
    refine r_aload_n F rfl rfl dX0_beginsEntry_36 rfl ?_
    refine r_iconst F dX0_beginsEntry_37 rfl ?_
    refine r_putI F f_X0_49 (hX.1) rfl dX0_beginsEntry_38 rfl ?_
    refine r_aload_n F rfl rfl dX0_beginsEntry_41 rfl ?_
    refine r_iconst F dX0_beginsEntry_42 rfl ?_
    refine r_callV F G (c_X0_expect _ _ _ _ hX) v_X0_52 rfl (hX.1) rfl (by decide) (by decide) (Nat.le_of_ble_eq_true rfl) rfl dX0_beginsEntry_43 rfl (fun v lay' mem' n' hp => ?_)
    obtain ⟨q1, q2, q3, q4⟩ := hp
    subst q1; subst q2; subst q3; subst q4
    refine r_iconst F dX0_beginsEntry_46 rfl ?_
    exact r_zret F Rt (by omega) dX0_beginsEntry_47 (by decide) ⟨by unfold ja_b; first | rw [if_pos (by omega)] | rw [if_neg (by omega)], rfl, by unfold X_be; first | rw [if_pos (by omega)] | rw [if_neg (by omega), if_pos (by omega)] | rw [if_neg (by omega), if_neg (by omega), if_pos (by omega)] | rw [if_neg (by omega), if_neg (by omega), if_neg (by omega)], rfl⟩
  ·
    refine r_lookup F (off := 47) (tgt := 48) hc dX0_beginsEntry_1 (by decide) (by rw [h_1] <;> decide) (by decide) ?_
    refine r_aload_n F rfl rfl dX0_beginsEntry_48 rfl ?_
    refine r_iconst F dX0_beginsEntry_49 rfl ?_
    refine r_putI F f_X0_49 (hX.1) rfl dX0_beginsEntry_50 rfl ?_
    refine r_aload_n F rfl rfl dX0_beginsEntry_53 rfl ?_
    refine r_iconst F dX0_beginsEntry_54 rfl ?_
    refine r_callV F G (c_X0_expect _ _ _ _ hX) v_X0_52 rfl (hX.1) rfl (by decide) (by decide) (Nat.le_of_ble_eq_true rfl) rfl dX0_beginsEntry_55 rfl (fun v lay' mem' n' hp => ?_)
    obtain ⟨q1, q2, q3, q4⟩ := hp
    subst q1; subst q2; subst q3; subst q4
    refine r_iconst F dX0_beginsEntry_58 rfl ?_
    exact r_zret F Rt (by omega) dX0_beginsEntry_59 (by decide) ⟨by unfold ja_b; first | rw [if_pos (by omega)] | rw [if_neg (by omega)], rfl, by unfold X_be; first | rw [if_pos (by omega)] | rw [if_neg (by omega), if_pos (by omega)] | rw [if_neg (by omega), if_neg (by omega), if_pos (by omega)] | rw [if_neg (by omega), if_neg (by omega), if_neg (by omega)], rfl⟩
  ·
    refine r_lookup F (off := 71) (tgt := 72) hc dX0_beginsEntry_1 (by decide) (by simp [Op.lookupswitch.offset]; rw [if_neg (by omega), if_neg (by omega), if_neg (by omega)]) (by decide) ?_
    refine r_iconst F dX0_beginsEntry_72 rfl ?_
    exact r_zret F Rt (by omega) dX0_beginsEntry_73 (by decide) ⟨by unfold ja_b; first | rw [if_pos (by omega)] | rw [if_neg (by omega)], rfl, by unfold X_be; first | rw [if_pos (by omega)] | rw [if_neg (by omega), if_pos (by omega)] | rw [if_neg (by omega), if_neg (by omega), if_pos (by omega)] | rw [if_neg (by omega), if_neg (by omega), if_neg (by omega)], rfl⟩
abbrev rm_X0_endOfNumber : Room := { frames := 0, cells := 0, slots := 0, locals := 0 }
set_option maxRecDepth 100000 in
set_option maxHeartbeats 4000000 in
theorem c_X0_endOfNumber (l : Launch) (D : va_G) (cA : Nat → ClassId) (B : Nat) {lay : ja_Y} {mem : ja_M} {n : Nat} {x : Nat} (hX : ja_LX lay x) (h2 : 0 ≤ mem x 2 ∧ mem x 2 ≤ 4) : ja_Mt l D cA B yX0_endOfNumber cX0_endOfNumber 1 (some .int) rm_X0_endOfNumber [.ref x] lay mem n (ja_rd lay mem n (some (.int (ja_I (X_eon mem x))))) := by
  refine ja_enter [some (.ref x)] (by decide) (Nat.le_of_ble_eq_true rfl) (fun q hq => hq) (fun C F Rt G hnm => ?_)
  refine r_aload_n F rfl rfl dX0_endOfNumber_0 rfl ?_
  refine r_getI F f_X0_24 (hX.1) rfl dX0_endOfNumber_1 rfl ?_
  rcases (show mem x 2 = 2 ∨ mem x 2 = 4 ∨ (¬ mem x 2 = 2 ∧ ¬ mem x 2 = 4) by omega) with h_4 | h_4 | h_4
  ·
    refine r_lookup F (off := 28) (tgt := 32) ⟨by omega, by omega⟩ dX0_endOfNumber_4 (by decide) (by rw [h_4] <;> decide) (by decide) ?_
    refine r_bipush F (by decide) dX0_endOfNumber_32 rfl ?_
    exact r_iret F Rt dX0_endOfNumber_34 (by decide) ⟨by unfold X_eon; first | rw [if_pos (by omega)] | rw [if_neg (by omega), if_pos (by omega)] | rw [if_neg (by omega), if_neg (by omega)], rfl, rfl, rfl⟩
  ·
    refine r_lookup F (off := 31) (tgt := 35) ⟨by omega, by omega⟩ dX0_endOfNumber_4 (by decide) (by rw [h_4] <;> decide) (by decide) ?_
    refine r_bipush F (by decide) dX0_endOfNumber_35 rfl ?_
    exact r_iret F Rt dX0_endOfNumber_37 (by decide) ⟨by unfold X_eon; first | rw [if_pos (by omega)] | rw [if_neg (by omega), if_pos (by omega)] | rw [if_neg (by omega), if_neg (by omega)], rfl, rfl, rfl⟩
  ·
    refine r_lookup F (off := 34) (tgt := 38) ⟨by omega, by omega⟩ dX0_endOfNumber_4 (by decide) (by simp [Op.lookupswitch.offset]; rw [if_neg (by omega), if_neg (by omega)]) (by decide) ?_
    refine r_bipush F (by decide) dX0_endOfNumber_38 rfl ?_
    exact r_iret F Rt dX0_endOfNumber_40 (by decide) ⟨by unfold X_eon; first | rw [if_pos (by omega)] | rw [if_neg (by omega), if_pos (by omega)] | rw [if_neg (by omega), if_neg (by omega)], rfl, rfl, rfl⟩
abbrev rm_X0_endNumber : Room := { frames := 1, cells := 0, slots := 0, locals := 24 }
set_option maxRecDepth 100000 in
set_option maxHeartbeats 4000000 in
theorem c_X0_endNumber (l : Launch) (D : va_G) (cA : Nat → ClassId) (B : Nat) {lay : ja_Y} {mem : ja_M} {n : Nat} {x o : Nat} (hX : ja_LX lay x) (hA : ja_LA lay o) (h2 : 0 ≤ mem x 2 ∧ mem x 2 ≤ 4) (hs : 0 ≤ mem o 4 ∧ mem o 4 ≤ 24) : ja_Mt l D cA B yX0_endNumber cX0_endNumber 2 none rm_X0_endNumber [.ref x, .ref o] lay mem n (ja_rd lay (X_en mem x o) n (none)) := by
  refine ja_enter [some (.ref x), some (.ref o)] (by decide) (Nat.le_of_ble_eq_true rfl) (fun q hq => hq) (fun C F Rt G hnm => ?_)
  refine r_aload_n F rfl rfl dX0_endNumber_0 rfl ?_
  refine r_getI F f_X0_24 (hX.1) rfl dX0_endNumber_1 rfl ?_
  rcases (show mem x 2 = 2 ∨ mem x 2 = 3 ∨ mem x 2 = 4 ∨ (¬ mem x 2 = 2 ∧ ¬ mem x 2 = 3 ∧ ¬ mem x 2 = 4) by omega) with h_4 | h_4 | h_4 | h_4
  ·
    refine r_tableIn F (tgt := 32) ⟨by omega, by omega⟩ dX0_endNumber_4 (by omega) (by omega) (by rw [h_4] <;> rfl) (by decide) ?_
    refine r_aload_n F rfl rfl dX0_endNumber_32 rfl ?_
    refine r_aload_n F rfl rfl dX0_endNumber_33 rfl ?_
    refine r_getI F f_X0_35 (hX.1) rfl dX0_endNumber_34 rfl ?_
    refine r_putI F f_X0_56 (hX.1) rfl dX0_endNumber_37 rfl ?_
    refine r_aload_n F rfl rfl dX0_endNumber_40 rfl ?_
    refine r_iconst F dX0_endNumber_41 rfl ?_
    refine r_callV F G (c_X0_expect _ _ _ _ hX) v_X0_52 rfl (hX.1) rfl (by decide) (by decide) (Nat.le_of_ble_eq_true rfl) rfl dX0_endNumber_42 rfl (fun v lay' mem' n' hp => ?_)
    obtain ⟨q1, q2, q3, q4⟩ := hp
    subst q1; subst q2; subst q3; subst q4
    refine r_goto F (tgt := 105) dX0_endNumber_45 (by decide) ?_
    exact r_vret F Rt dX0_endNumber_105 (by decide) ⟨rfl, rfl, by unfold X_en; first | rw [if_pos (by omega)] | rw [if_neg (by omega), if_pos (by omega)] | rw [if_neg (by omega), if_neg (by omega), if_pos (by omega)] | rw [if_neg (by omega), if_neg (by omega), if_neg (by omega)], rfl⟩
  ·
    refine r_tableIn F (tgt := 48) ⟨by omega, by omega⟩ dX0_endNumber_4 (by omega) (by omega) (by rw [h_4] <;> rfl) (by decide) ?_
    refine r_aload_n F rfl rfl dX0_endNumber_48 rfl ?_
    refine r_aload_n F rfl rfl dX0_endNumber_49 rfl ?_
    refine r_getI F f_X0_35 (hX.1) rfl dX0_endNumber_50 rfl ?_
    refine r_putI F f_X0_59 (hX.1) rfl dX0_endNumber_53 rfl ?_
    refine r_aload_n F rfl rfl dX0_endNumber_56 rfl ?_
    refine r_iconst F dX0_endNumber_57 rfl ?_
    refine r_callV F G (c_X0_expect _ _ _ _ hX) v_X0_52 rfl (hX.1) rfl (by decide) (by decide) (Nat.le_of_ble_eq_true rfl) rfl dX0_endNumber_58 rfl (fun v lay' mem' n' hp => ?_)
    obtain ⟨q1, q2, q3, q4⟩ := hp
    subst q1; subst q2; subst q3; subst q4
    refine r_goto F (tgt := 105) dX0_endNumber_61 (by decide) ?_
    exact r_vret F Rt dX0_endNumber_105 (by decide) ⟨rfl, rfl, by unfold X_en; first | rw [if_pos (by omega)] | rw [if_neg (by omega), if_pos (by omega)] | rw [if_neg (by omega), if_neg (by omega), if_pos (by omega)] | rw [if_neg (by omega), if_neg (by omega), if_neg (by omega)], rfl⟩
  ·
    refine r_tableIn F (tgt := 64) ⟨by omega, by omega⟩ dX0_endNumber_4 (by omega) (by omega) (by rw [h_4] <;> rfl) (by decide) ?_
    refine r_aload_n F rfl rfl dX0_endNumber_64 rfl ?_
    refine r_aload_n F rfl rfl dX0_endNumber_65 rfl ?_
    refine r_getI F f_X0_49 (hX.1) rfl dX0_endNumber_66 rfl ?_
    refine r_aload_n F rfl rfl dX0_endNumber_69 rfl ?_
    refine r_getI F f_X0_56 (hX.1) rfl dX0_endNumber_70 rfl ?_
    refine r_aload_n F rfl rfl dX0_endNumber_73 rfl ?_
    refine r_getI F f_X0_59 (hX.1) rfl dX0_endNumber_74 rfl ?_
    refine r_aload_n F rfl rfl dX0_endNumber_77 rfl ?_
    refine r_getI F f_X0_35 (hX.1) rfl dX0_endNumber_78 rfl ?_
    refine r_callV F G (c_X1_add _ _ _ _ hA ⟨by omega, by omega⟩) v_X0_62 rfl (hA.1) rfl (by decide) (by decide) (Nat.le_of_ble_eq_true rfl) rfl dX0_endNumber_81 rfl (fun v lay' mem' n' hp => ?_)
    obtain ⟨q1, q2, q3, q4⟩ := hp
    subst q1; subst q2; subst q3; subst q4
    refine r_aload_n F rfl rfl dX0_endNumber_84 rfl ?_
    refine r_iconst F dX0_endNumber_85 rfl ?_
    refine r_callV F G (c_X0_expect _ _ _ _ hX) v_X0_52 rfl (hX.1) rfl (by decide) (by decide) (Nat.le_of_ble_eq_true rfl) rfl dX0_endNumber_86 rfl (fun v lay' mem' n' hp => ?_)
    obtain ⟨q1, q2, q3, q4⟩ := hp
    subst q1; subst q2; subst q3; subst q4
    refine r_goto F (tgt := 105) dX0_endNumber_89 (by decide) ?_
    exact r_vret F Rt dX0_endNumber_105 (by decide) ⟨rfl, rfl, by unfold X_en; first | rw [if_pos (by omega)] | rw [if_neg (by omega), if_pos (by omega)] | rw [if_neg (by omega), if_neg (by omega), if_pos (by omega)] | rw [if_neg (by omega), if_neg (by omega), if_neg (by omega)], rfl⟩
  ·
    refine r_tableOut F (tgt := 92) ⟨by omega, by omega⟩ dX0_endNumber_4 (by omega) (by decide) ?_
    refine r_aload_n F rfl rfl dX0_endNumber_92 rfl ?_
    refine r_aload_n F rfl rfl dX0_endNumber_93 rfl ?_
    refine r_getI F f_X0_35 (hX.1) rfl dX0_endNumber_94 rfl ?_
    refine r_putI F f_X0_56 (hX.1) rfl dX0_endNumber_97 rfl ?_
    refine r_aload_n F rfl rfl dX0_endNumber_100 rfl ?_
    refine r_iconst F dX0_endNumber_101 rfl ?_
    refine r_callV F G (c_X0_expect _ _ _ _ hX) v_X0_52 rfl (hX.1) rfl (by decide) (by decide) (Nat.le_of_ble_eq_true rfl) rfl dX0_endNumber_102 rfl (fun v lay' mem' n' hp => ?_)
    obtain ⟨q1, q2, q3, q4⟩ := hp
    subst q1; subst q2; subst q3; subst q4
    exact r_vret F Rt dX0_endNumber_105 (by decide) ⟨rfl, rfl, by unfold X_en; first | rw [if_pos (by omega)] | rw [if_neg (by omega), if_pos (by omega)] | rw [if_neg (by omega), if_neg (by omega), if_pos (by omega)] | rw [if_neg (by omega), if_neg (by omega), if_neg (by omega)], rfl⟩
abbrev rm_X0_follows : Room := { frames := 2, cells := 0, slots := 0, locals := 45 }
set_option maxRecDepth 100000 in
set_option maxHeartbeats 4000000 in
theorem c_X0_follows (l : Launch) (D : va_G) (cA : Nat → ClassId) (B : Nat) {lay : ja_Y} {mem : ja_M} {n : Nat} {x o : Nat} {c : Int} (hX : ja_LX lay x) (hA : ja_LA lay o) (hX2 : ja_XO mem x) (hs : 0 ≤ mem o 4 ∧ mem o 4 ≤ 24) (hc : 0 ≤ c ∧ c ≤ 1000) : ja_Mt l D cA B yX0_follows cX0_follows 3 (some .boolean) rm_X0_follows [.ref x, .int (ja_I c), .ref o] lay mem n (ja_rd lay (X_fm mem x o c) n (some (.int (ja_I (X_fb mem x c))))) := by
  refine ja_enter [some (.ref x), some (.int (ja_I c)), some (.ref o)] (by decide) (Nat.le_of_ble_eq_true rfl) (fun q hq => hq) (fun C F Rt G hnm => ?_)
  obtain ⟨h2, h4, h5, h6, h7⟩ := hX2
  have he : 46 ≤ X_eon mem x ∧ X_eon mem x ≤ 64 := by unfold X_eon; (split; omega; split <;> omega)
  refine r_aload_n F rfl rfl dX0_follows_0 rfl ?_
  refine r_getI F f_X0_24 (hX.1) rfl dX0_follows_1 rfl ?_
  refine r_if_ne F (tgt := 13) ⟨by omega, by omega⟩ dX0_follows_4 rfl (by decide) (fun h_4 => ?_) (fun h_4 => ?_)
  ·
    refine r_iload_n F rfl rfl dX0_follows_13 rfl ?_
    refine r_bipush F (by decide) dX0_follows_14 rfl ?_
    refine r_icmp_lt F (tgt := 65) ⟨by omega, by omega⟩ ⟨by omega, by omega⟩ dX0_follows_16 rfl (by decide) (fun h_16 => ?_) (fun h_16 => ?_)
    ·
      refine r_aload_n F rfl rfl dX0_follows_65 rfl ?_
      refine r_getI F f_X0_38 (hX.1) rfl dX0_follows_66 rfl ?_
      refine r_if_eq F (tgt := 80) ⟨by omega, by omega⟩ dX0_follows_69 rfl (by decide) (fun h_69 => ?_) (fun h_69 => ?_)
      ·
        refine r_iconst F dX0_follows_80 rfl ?_
        exact r_zret F Rt (by omega) dX0_follows_81 (by decide) ⟨by rw [X_fb, if_neg (by omega), if_neg (by omega), if_pos (by omega)], rfl, by rw [X_fm, if_neg (by omega), if_neg (by omega), if_pos (by omega)], rfl⟩
      ·
        refine r_iload_n F rfl rfl dX0_follows_72 rfl ?_
        refine r_aload_n F rfl rfl dX0_follows_73 rfl ?_
        refine r_callV F G (c_X0_endOfNumber _ _ _ _ hX ⟨by omega, by omega⟩) v_X0_41 rfl (hX.1) rfl (by decide) (by decide) (Nat.le_of_ble_eq_true rfl) rfl dX0_follows_74 rfl (fun v lay' mem' n' hp => ?_)
        obtain ⟨q1, q2, q3, q4⟩ := hp
        subst q1; subst q2; subst q3; subst q4
        refine r_icmp_eq F (tgt := 82) ⟨by omega, by omega⟩ ⟨by omega, by omega⟩ dX0_follows_77 rfl (by decide) (fun h_77 => ?_) (fun h_77 => ?_)
        ·
          refine r_aload_n F rfl rfl dX0_follows_82 rfl ?_
          refine r_aload_n F rfl rfl dX0_follows_83 rfl ?_
          refine r_callV F G (c_X0_endNumber _ _ _ _ hX hA ⟨by omega, by omega⟩ ⟨by omega, by omega⟩) v_X0_45 rfl (hX.1) rfl (by decide) (by decide) (Nat.le_of_ble_eq_true rfl) rfl dX0_follows_84 rfl (fun v lay' mem' n' hp => ?_)
          obtain ⟨q1, q2, q3, q4⟩ := hp
          subst q1; subst q2; subst q3; subst q4
          refine r_iconst F dX0_follows_87 rfl ?_
          exact r_zret F Rt (by omega) dX0_follows_88 (by decide) ⟨by rw [X_fb, if_neg (by omega), if_neg (by omega), if_neg (by omega)], rfl, by rw [X_fm, if_neg (by omega), if_neg (by omega), if_neg (by omega)], rfl⟩
        ·
          refine r_iconst F dX0_follows_80 rfl ?_
          exact r_zret F Rt (by omega) dX0_follows_81 (by decide) ⟨by rw [X_fb, if_neg (by omega), if_neg (by omega), if_pos (by omega)], rfl, by rw [X_fm, if_neg (by omega), if_neg (by omega), if_pos (by omega)], rfl⟩
    ·
      refine r_iload_n F rfl rfl dX0_follows_19 rfl ?_
      refine r_bipush F (by decide) dX0_follows_20 rfl ?_
      refine r_icmp_gt F (tgt := 65) ⟨by omega, by omega⟩ ⟨by omega, by omega⟩ dX0_follows_22 rfl (by decide) (fun h_22 => ?_) (fun h_22 => ?_)
      ·
        refine r_aload_n F rfl rfl dX0_follows_65 rfl ?_
        refine r_getI F f_X0_38 (hX.1) rfl dX0_follows_66 rfl ?_
        refine r_if_eq F (tgt := 80) ⟨by omega, by omega⟩ dX0_follows_69 rfl (by decide) (fun h_69 => ?_) (fun h_69 => ?_)
        ·
          refine r_iconst F dX0_follows_80 rfl ?_
          exact r_zret F Rt (by omega) dX0_follows_81 (by decide) ⟨by rw [X_fb, if_neg (by omega), if_neg (by omega), if_pos (by omega)], rfl, by rw [X_fm, if_neg (by omega), if_neg (by omega), if_pos (by omega)], rfl⟩
        ·
          refine r_iload_n F rfl rfl dX0_follows_72 rfl ?_
          refine r_aload_n F rfl rfl dX0_follows_73 rfl ?_
          refine r_callV F G (c_X0_endOfNumber _ _ _ _ hX ⟨by omega, by omega⟩) v_X0_41 rfl (hX.1) rfl (by decide) (by decide) (Nat.le_of_ble_eq_true rfl) rfl dX0_follows_74 rfl (fun v lay' mem' n' hp => ?_)
          obtain ⟨q1, q2, q3, q4⟩ := hp
          subst q1; subst q2; subst q3; subst q4
          refine r_icmp_eq F (tgt := 82) ⟨by omega, by omega⟩ ⟨by omega, by omega⟩ dX0_follows_77 rfl (by decide) (fun h_77 => ?_) (fun h_77 => ?_)
          ·
            refine r_aload_n F rfl rfl dX0_follows_82 rfl ?_
            refine r_aload_n F rfl rfl dX0_follows_83 rfl ?_
            refine r_callV F G (c_X0_endNumber _ _ _ _ hX hA ⟨by omega, by omega⟩ ⟨by omega, by omega⟩) v_X0_45 rfl (hX.1) rfl (by decide) (by decide) (Nat.le_of_ble_eq_true rfl) rfl dX0_follows_84 rfl (fun v lay' mem' n' hp => ?_)
            obtain ⟨q1, q2, q3, q4⟩ := hp
            subst q1; subst q2; subst q3; subst q4
            refine r_iconst F dX0_follows_87 rfl ?_
            exact r_zret F Rt (by omega) dX0_follows_88 (by decide) ⟨by rw [X_fb, if_neg (by omega), if_neg (by omega), if_neg (by omega)], rfl, by rw [X_fm, if_neg (by omega), if_neg (by omega), if_neg (by omega)], rfl⟩
          ·
            refine r_iconst F dX0_follows_80 rfl ?_
            exact r_zret F Rt (by omega) dX0_follows_81 (by decide) ⟨by rw [X_fb, if_neg (by omega), if_neg (by omega), if_pos (by omega)], rfl, by rw [X_fm, if_neg (by omega), if_neg (by omega), if_pos (by omega)], rfl⟩
      ·
        refine r_aload_n F rfl rfl dX0_follows_25 rfl ?_
        refine r_bipush F (by decide) dX0_follows_26 rfl ?_
        refine r_aload_n F rfl rfl dX0_follows_28 rfl ?_
        refine r_getI F f_X0_35 (hX.1) rfl dX0_follows_29 rfl ?_
        refine r_imul F dX0_follows_32 rfl ?_
        refine r_iload_n F rfl rfl dX0_follows_33 rfl ?_
        refine r_iadd F dX0_follows_34 rfl ?_
        refine r_bipush F (by decide) dX0_follows_35 rfl ?_
        refine r_isub F dX0_follows_37 rfl ?_
        refine r_putI F f_X0_35 (hX.1) rfl dX0_follows_38 rfl ?_
        refine r_aload_n F rfl rfl dX0_follows_41 rfl ?_
        refine r_dup F rfl dX0_follows_42 rfl ?_
        refine r_getI F f_X0_38 (hX.1) rfl dX0_follows_43 rfl ?_
        refine r_eqz (z := mem x 3) (by simp [ja_up]) ?_
        refine r_iconst F dX0_follows_46 rfl ?_
        refine r_iadd F dX0_follows_47 rfl ?_
        refine r_putI F f_X0_38 (hX.1) rfl dX0_follows_48 rfl ?_
        refine r_aload_n F rfl rfl dX0_follows_51 rfl ?_
        refine r_getI F f_X0_38 (hX.1) rfl dX0_follows_52 rfl ?_
        refine r_eqz (z := (mem x 3 + 1)) (by simp [ja_up]) ?_
        refine r_iconst F dX0_follows_55 rfl ?_
        refine r_icmp_gt F (tgt := 63) ⟨by omega, by omega⟩ ⟨by omega, by omega⟩ dX0_follows_56 rfl (by decide) (fun h_56 => ?_) (fun h_56 => ?_)
        ·
          refine r_iconst F dX0_follows_63 rfl ?_
          exact r_zret F Rt (by omega) dX0_follows_64 (by decide) ⟨by rw [X_fb, if_neg (by omega), if_pos (by omega)]; unfold ja_b; first | rw [if_pos (by omega)] | rw [if_neg (by omega)], rfl, by rw [X_fm, if_neg (by omega), if_pos (by omega)], rfl⟩
        ·
          refine r_iconst F dX0_follows_59 rfl ?_
          refine r_goto F (tgt := 64) dX0_follows_60 (by decide) ?_
          exact r_zret F Rt (by omega) dX0_follows_64 (by decide) ⟨by rw [X_fb, if_neg (by omega), if_pos (by omega)]; unfold ja_b; first | rw [if_pos (by omega)] | rw [if_neg (by omega)], rfl, by rw [X_fm, if_neg (by omega), if_pos (by omega)], rfl⟩
  ·
    refine r_aload_n F rfl rfl dX0_follows_7 rfl ?_
    refine r_iload_n F rfl rfl dX0_follows_8 rfl ?_
    refine r_callV F G (c_X0_beginsEntry _ _ _ _ hX ⟨by omega, by omega⟩) v_X0_31 rfl (hX.1) rfl (by decide) (by decide) (Nat.le_of_ble_eq_true rfl) rfl dX0_follows_9 rfl (fun v lay' mem' n' hp => ?_)
    obtain ⟨q1, q2, q3, q4⟩ := hp
    subst q1; subst q2; subst q3; subst q4
    exact r_zret F Rt (by unfold ja_b; split <;> omega) dX0_follows_12 (by decide) ⟨by rw [X_fb, if_pos (by omega)], rfl, by rw [X_fm, if_pos (by omega)], rfl⟩
abbrev rm_X0_readInto : Room := { frames := 3, cells := 0, slots := 0, locals := 67 }
set_option maxRecDepth 100000 in
set_option maxHeartbeats 4000000 in
theorem c_X0_readInto (l : Launch) (D : va_G) (cA : Nat → ClassId) (B : Nat) {lay : ja_Y} {mem : ja_M} {n : Nat} {x o : Nat} (hX : ja_LX lay x) (hA : ja_LA lay o) (h1 : 0 ≤ mem x 1 ∧ mem x 1 ≤ 120) (hch : ∀ k : Nat, (k : Int) < mem x 1 → 0 ≤ mem (x + 1) k ∧ mem (x + 1) k ≤ 1000) (hX0 : ja_XO (ja_up (ja_up mem o 4 0) x 2 0) x) (hA0 : ja_AO (ja_up (ja_up mem o 4 0) x 2 0) o) (hxo : x + 1 < o ∨ o + 5 ≤ x) : ja_Mt l D cA B yX0_readInto cX0_readInto 3 (some .int) rm_X0_readInto [.ref x, .ref o] lay mem n (ja_rd lay ((X_lp (mem (x + 1)) x o (mem x 1) (mem x 1).toNat 0 (ja_up (ja_up mem o 4 0) x 2 0)).2) n (some (.int (ja_I (X_lp (mem (x + 1)) x o (mem x 1) (mem x 1).toNat 0 (ja_up (ja_up mem o 4 0) x 2 0)).1)))) := by
  refine ja_enter [some (.ref x), some (.ref o), none] (by decide) (Nat.le_of_ble_eq_true rfl) (fun q hq => hq) (fun C F Rt G hnm => ?_)
  have hxo : x < o ∨ o + 5 ≤ x := by omega
  have e1 : (ja_up (ja_up mem o 4 0) x 2 0) x 1 = mem x 1 := by rw [ja_up_j (by omega), ja_up_a (by omega)]
  have ex : (ja_up (ja_up mem o 4 0) x 2 0) (x + 1) = mem (x + 1) := by rw [ja_up_row (by omega), ja_up_row (by omega)]
  refine r_aload_n F rfl rfl dX0_readInto_0 rfl ?_
  refine r_iconst F dX0_readInto_1 rfl ?_
  refine r_putI F f_X0_19 (hA.1) rfl dX0_readInto_2 rfl ?_
  refine r_aload_n F rfl rfl dX0_readInto_5 rfl ?_
  refine r_iconst F dX0_readInto_6 rfl ?_
  refine r_putI F f_X0_24 (hX.1) rfl dX0_readInto_7 rfl ?_
  generalize hm0 : ja_up (ja_up mem o 4 0) x 2 0 = m0 at *
  refine r_iconst F dX0_readInto_10 rfl ?_
  refine r_ist2 F (by decide) rfl dX0_readInto_11 rfl ?_
  have loop : ∀ (d k : Nat) (m : ja_M), k + d = (mem x 1).toNat → X_lp (mem (x + 1)) x o (mem x 1) d k m = X_lp (mem (x + 1)) x o (mem x 1) (mem x 1).toNat 0 m0 → ja_XO m x → ja_AO m o → m x 1 = mem x 1 → m (x + 1) = mem (x + 1) → ja_W C 0 0 lay m n 12 [some (.ref x), some (.ref o), some (.int (ja_I (k : Int)))] [] := by
    intro d
    induction d with
    | zero =>
      intro k m hk hl hXm hAm e1 ex
      obtain ⟨u2, -⟩ := id hXm
      refine r_iload_n F rfl rfl dX0_readInto_12 rfl ?_
      refine r_aload_n F rfl rfl dX0_readInto_13 rfl ?_
      refine r_getI F f_X0_15 (hX.1) rfl dX0_readInto_14 rfl ?_
      refine r_eqz (z := mem x 1) (by exact e1) ?_
      refine r_icmp_ge F (tgt := 42) ⟨by omega, by omega⟩ ⟨by omega, by omega⟩ dX0_readInto_17 rfl (by decide) (fun h_17 => ?_) (fun h_17 => ?_)
      ·
        refine r_aload_n F rfl rfl dX0_readInto_42 rfl ?_
        refine r_getI F f_X0_24 (hX.1) rfl dX0_readInto_43 rfl ?_
        refine r_eqz (z := m x 2) (by rfl) ?_
        refine r_if_ne F (tgt := 55) ⟨by omega, by omega⟩ dX0_readInto_46 rfl (by decide) (fun h_46 => ?_) (fun h_46 => ?_)
        ·
          refine r_aload_n F rfl rfl dX0_readInto_55 rfl ?_
          refine r_getI F f_X0_15 (hX.1) rfl dX0_readInto_56 rfl ?_
          refine r_eqz (z := mem x 1) (by exact e1) ?_
          exact r_iret F Rt dX0_readInto_59 (by decide) ⟨by rw [← hl]; simp only [X_lp]; first | rw [if_pos (by omega)] | (rw [if_neg (by omega)]), rfl, by rw [← hl]; rfl, rfl⟩
        ·
          refine r_sipush F (by decide) dX0_readInto_49 rfl ?_
          refine r_goto F (tgt := 59) dX0_readInto_52 (by decide) ?_
          exact r_iret F Rt dX0_readInto_59 (by decide) ⟨by rw [← hl]; simp only [X_lp]; first | rw [if_pos (by omega)] | (rw [if_neg (by omega)]), rfl, by rw [← hl]; rfl, rfl⟩
      ·
        exfalso; omega
    | succ d ih =>
      intro k m hk hl hXm hAm e1 ex
      have hck := hch k (by omega)
      refine r_iload_n F rfl rfl dX0_readInto_12 rfl ?_
      refine r_aload_n F rfl rfl dX0_readInto_13 rfl ?_
      refine r_getI F f_X0_15 (hX.1) rfl dX0_readInto_14 rfl ?_
      refine r_eqz (z := mem x 1) (by exact e1) ?_
      refine r_icmp_ge F (tgt := 42) ⟨by omega, by omega⟩ ⟨by omega, by omega⟩ dX0_readInto_17 rfl (by decide) (fun h_17 => ?_) (fun h_17 => ?_)
      ·
        exfalso; omega
      ·
        refine r_aload_n F rfl rfl dX0_readInto_20 rfl ?_
        refine r_aload_n F rfl rfl dX0_readInto_21 rfl ?_
        refine r_getR F f_X0_11 (hX.1) rfl dX0_readInto_22 rfl ?_
        refine r_iload_n F rfl rfl dX0_readInto_25 rfl ?_
        refine r_iald F (ja_LX_1 hX) (by omega) (by omega) (by decide) dX0_readInto_26 rfl ?_
        refine r_eqz (z := mem (x + 1) k) (by rw [ex, ja_nat]) ?_
        refine r_aload_n F rfl rfl dX0_readInto_27 rfl ?_
        refine r_callV F G (c_X0_follows _ _ _ _ hX hA hXm hAm.1 hck) v_X0_27 rfl (hX.1) rfl (by decide) (by decide) (Nat.le_of_ble_eq_true rfl) rfl dX0_readInto_28 rfl (fun v lay' mem' n' hp => ?_)
        obtain ⟨q1, q2, q3, q4⟩ := hp
        subst q1; subst q2; subst q3; subst q4
        refine r_if_ne F (tgt := 36) ⟨by rcases X_fb_01 (mem := m) (x := x) (c := mem (x + 1) k) with q | q <;> rw [q] <;> omega, by rcases X_fb_01 (mem := m) (x := x) (c := mem (x + 1) k) with q | q <;> rw [q] <;> omega⟩ dX0_readInto_31 rfl (by decide) (fun h_31 => ?_) (fun h_31 => ?_)
        ·
          refine r_inc2 F (by decide) rfl dX0_readInto_36 rfl ?_
          refine r_goto F (tgt := 12) dX0_readInto_39 (by decide) ?_
          exact ih (k + 1) _ (by omega) (by rw [← hl]; simp only [X_lp]; rw [if_neg h_31]) (X_fm_XO hXm hxo h_31) (X_fm_AO hXm hAm hxo) ((X_fm_1 hxo).trans e1) ((X_fm_o ⟨by omega, by omega⟩).trans ex)
        ·
          refine r_iload_n F rfl rfl dX0_readInto_34 rfl ?_
          exact r_iret F Rt dX0_readInto_35 (by decide) ⟨by rw [← hl]; simp only [X_lp]; rw [if_pos h_31], rfl, by rw [← hl]; simp only [X_lp]; rw [if_pos h_31], rfl⟩
  exact loop (mem x 1).toNat 0 m0 (by omega) rfl hX0 hA0 e1 ex
