abbrev rm_X2_copyFrom : Room := { frames := 0, cells := 0, slots := 0, locals := 0 }
set_option maxRecDepth 100000 in
set_option maxHeartbeats 4000000 in
theorem c_X2_copyFrom (l : Launch) (D : va_G) (cA : Nat → ClassId) (B : Nat) {lay : ja_Y} {mem : ja_M} {n : Nat} {a o : Nat} (hC : ja_LC lay a) (hCo : ja_LC lay o) (hao : o ≠ a) : ja_Mt l D cA B yX2_copyFrom cX2_copyFrom 2 none rm_X2_copyFrom [.ref a, .ref o] lay mem n (ja_rd lay (C_cp mem a o) n (none)) := by
  refine ja_enter [some (.ref a), some (.ref o)] (by decide) (Nat.le_of_ble_eq_true rfl) (fun q hq => hq) (fun C F Rt G hnm => ?_)
  have hoa : ¬ o = a := hao
  refine r_aload_n F rfl rfl dX2_copyFrom_0 rfl ?_
  refine r_aload_n F rfl rfl dX2_copyFrom_1 rfl ?_
  refine r_getI F f_X2_9 hCo rfl dX2_copyFrom_2 rfl ?_
  refine r_putI F f_X2_9 hC rfl dX2_copyFrom_5 rfl ?_
  refine r_aload_n F rfl rfl dX2_copyFrom_8 rfl ?_
  refine r_aload_n F rfl rfl dX2_copyFrom_9 rfl ?_
  refine r_getI F f_X2_15 hCo rfl dX2_copyFrom_10 rfl ?_
  refine r_eqz (z := mem o 1) (by simp [ja_up]) ?_
  refine r_putI F f_X2_15 hC rfl dX2_copyFrom_13 rfl ?_
  refine r_aload_n F rfl rfl dX2_copyFrom_16 rfl ?_
  refine r_aload_n F rfl rfl dX2_copyFrom_17 rfl ?_
  refine r_getI F f_X2_18 hCo rfl dX2_copyFrom_18 rfl ?_
  refine r_eqz (z := mem o 2) (by simp [ja_up]) ?_
  refine r_putI F f_X2_18 hC rfl dX2_copyFrom_21 rfl ?_
  refine r_aload_n F rfl rfl dX2_copyFrom_24 rfl ?_
  refine r_aload_n F rfl rfl dX2_copyFrom_25 rfl ?_
  refine r_getI F f_X2_21 hCo rfl dX2_copyFrom_26 rfl ?_
  refine r_eqz (z := mem o 3) (by simp [ja_up]) ?_
  refine r_putI F f_X2_21 hC rfl dX2_copyFrom_29 rfl ?_
  refine r_aload_n F rfl rfl dX2_copyFrom_32 rfl ?_
  refine r_aload_n F rfl rfl dX2_copyFrom_33 rfl ?_
  refine r_getI F f_X2_24 hCo rfl dX2_copyFrom_34 rfl ?_
  refine r_eqz (z := mem o 4) (by simp [ja_up]) ?_
  refine r_putI F f_X2_24 hC rfl dX2_copyFrom_37 rfl ?_
  refine r_aload_n F rfl rfl dX2_copyFrom_40 rfl ?_
  refine r_aload_n F rfl rfl dX2_copyFrom_41 rfl ?_
  refine r_getI F f_X2_27 hCo rfl dX2_copyFrom_42 rfl ?_
  refine r_eqz (z := mem o 5) (by simp [ja_up]) ?_
  refine r_putI F f_X2_27 hC rfl dX2_copyFrom_45 rfl ?_
  refine r_aload_n F rfl rfl dX2_copyFrom_48 rfl ?_
  refine r_aload_n F rfl rfl dX2_copyFrom_49 rfl ?_
  refine r_getI F f_X2_30 hCo rfl dX2_copyFrom_50 rfl ?_
  refine r_eqz (z := mem o 6) (by simp [ja_up]) ?_
  refine r_putI F f_X2_30 hC rfl dX2_copyFrom_53 rfl ?_
  refine r_aload_n F rfl rfl dX2_copyFrom_56 rfl ?_
  refine r_aload_n F rfl rfl dX2_copyFrom_57 rfl ?_
  refine r_getI F f_X2_33 hCo rfl dX2_copyFrom_58 rfl ?_
  refine r_eqz (z := mem o 7) (by simp [ja_up]) ?_
  refine r_putI F f_X2_33 hC rfl dX2_copyFrom_61 rfl ?_
  refine r_aload_n F rfl rfl dX2_copyFrom_64 rfl ?_
  refine r_aload_n F rfl rfl dX2_copyFrom_65 rfl ?_
  refine r_getI F f_X2_36 hCo rfl dX2_copyFrom_66 rfl ?_
  refine r_eqz (z := mem o 8) (by simp [ja_up]) ?_
  refine r_putI F f_X2_36 hC rfl dX2_copyFrom_69 rfl ?_
  exact r_vret F Rt dX2_copyFrom_72 (by decide) ⟨rfl, rfl, rfl, rfl⟩
abbrev rm_X2_takenAs : Room := { frames := 0, cells := 0, slots := 0, locals := 0 }
set_option maxRecDepth 100000 in
set_option maxHeartbeats 4000000 in
theorem c_X2_takenAs (l : Launch) (D : va_G) (cA : Nat → ClassId) (B : Nat) {lay : ja_Y} {mem : ja_M} {n : Nat} {a : Nat} {k : Int} (hC : ja_LC lay a) (hk : 1 ≤ k ∧ k ≤ 3) : ja_Mt l D cA B yX2_takenAs cX2_takenAs 2 (some .int) rm_X2_takenAs [.ref a, .int (ja_I k)] lay mem n (ja_rd lay mem n (some (.int (ja_I (if k = 3 then mem a 2 else if k = 1 then mem a 0 else mem a 1))))) := by
  refine ja_enter [some (.ref a), some (.int (ja_I k))] (by decide) (Nat.le_of_ble_eq_true rfl) (fun q hq => hq) (fun C F Rt G hnm => ?_)
  refine r_iload_n F rfl rfl dX2_takenAs_0 rfl ?_
  refine r_iconst F dX2_takenAs_1 rfl ?_
  refine r_icmp_ne F (tgt := 10) ⟨by omega, by omega⟩ ⟨by omega, by omega⟩ dX2_takenAs_2 rfl (by decide) (fun h_2 => ?_) (fun h_2 => ?_)
  ·
    refine r_iload_n F rfl rfl dX2_takenAs_10 rfl ?_
    refine r_iconst F dX2_takenAs_11 rfl ?_
    refine r_icmp_ne F (tgt := 22) ⟨by omega, by omega⟩ ⟨by omega, by omega⟩ dX2_takenAs_12 rfl (by decide) (fun h_12 => ?_) (fun h_12 => ?_)
    ·
      refine r_aload_n F rfl rfl dX2_takenAs_22 rfl ?_
      refine r_getI F f_X2_15 hC rfl dX2_takenAs_23 rfl ?_
      exact r_iret F Rt dX2_takenAs_26 (by decide) ⟨by first | rw [if_pos (by omega)] | rw [if_neg (by omega), if_pos (by omega)] | rw [if_neg (by omega), if_neg (by omega)], rfl, rfl, rfl⟩
    ·
      refine r_aload_n F rfl rfl dX2_takenAs_15 rfl ?_
      refine r_getI F f_X2_9 hC rfl dX2_takenAs_16 rfl ?_
      refine r_goto F (tgt := 26) dX2_takenAs_19 (by decide) ?_
      exact r_iret F Rt dX2_takenAs_26 (by decide) ⟨by first | rw [if_pos (by omega)] | rw [if_neg (by omega), if_pos (by omega)] | rw [if_neg (by omega), if_neg (by omega)], rfl, rfl, rfl⟩
  ·
    refine r_aload_n F rfl rfl dX2_takenAs_5 rfl ?_
    refine r_getI F f_X2_18 hC rfl dX2_takenAs_6 rfl ?_
    exact r_iret F Rt dX2_takenAs_9 (by decide) ⟨by first | rw [if_pos (by omega)] | rw [if_neg (by omega), if_pos (by omega)] | rw [if_neg (by omega), if_neg (by omega)], rfl, rfl, rfl⟩
abbrev rm_X2_countKnown : Room := { frames := 0, cells := 0, slots := 0, locals := 0 }
set_option maxRecDepth 100000 in
set_option maxHeartbeats 4000000 in
theorem c_X2_countKnown (l : Launch) (D : va_G) (cA : Nat → ClassId) (B : Nat) {lay : ja_Y} {mem : ja_M} {n : Nat} {a : Nat} {k : Int} (hC : ja_LC lay a) (hk : 1 ≤ k ∧ k ≤ 2) : ja_Mt l D cA B yX2_countKnown cX2_countKnown 2 none rm_X2_countKnown [.ref a, .int (ja_I k)] lay mem n (ja_rd lay (C_kn mem a k) n (none)) := by
  refine ja_enter [some (.ref a), some (.int (ja_I k))] (by decide) (Nat.le_of_ble_eq_true rfl) (fun q hq => hq) (fun C F Rt G hnm => ?_)
  refine r_iload_n F rfl rfl dX2_countKnown_0 rfl ?_
  refine r_iconst F dX2_countKnown_1 rfl ?_
  refine r_icmp_ne F (tgt := 18) ⟨by omega, by omega⟩ ⟨by omega, by omega⟩ dX2_countKnown_2 rfl (by decide) (fun h_2 => ?_) (fun h_2 => ?_)
  ·
    refine r_aload_n F rfl rfl dX2_countKnown_18 rfl ?_
    refine r_dup F rfl dX2_countKnown_19 rfl ?_
    refine r_getI F f_X2_15 hC rfl dX2_countKnown_20 rfl ?_
    refine r_iconst F dX2_countKnown_23 rfl ?_
    refine r_iadd F dX2_countKnown_24 rfl ?_
    refine r_putI F f_X2_15 hC rfl dX2_countKnown_25 rfl ?_
    refine r_aload_n F rfl rfl dX2_countKnown_28 rfl ?_
    refine r_iconst F dX2_countKnown_29 rfl ?_
    refine r_putI F f_X2_33 hC rfl dX2_countKnown_30 rfl ?_
    exact r_vret F Rt dX2_countKnown_33 (by decide) ⟨rfl, rfl, by unfold C_kn; first | rw [if_pos (by omega)] | rw [if_neg (by omega)], rfl⟩
  ·
    refine r_aload_n F rfl rfl dX2_countKnown_5 rfl ?_
    refine r_dup F rfl dX2_countKnown_6 rfl ?_
    refine r_getI F f_X2_9 hC rfl dX2_countKnown_7 rfl ?_
    refine r_iconst F dX2_countKnown_10 rfl ?_
    refine r_iadd F dX2_countKnown_11 rfl ?_
    refine r_putI F f_X2_9 hC rfl dX2_countKnown_12 rfl ?_
    refine r_goto F (tgt := 28) dX2_countKnown_15 (by decide) ?_
    refine r_aload_n F rfl rfl dX2_countKnown_28 rfl ?_
    refine r_iconst F dX2_countKnown_29 rfl ?_
    refine r_putI F f_X2_33 hC rfl dX2_countKnown_30 rfl ?_
    exact r_vret F Rt dX2_countKnown_33 (by decide) ⟨rfl, rfl, by unfold C_kn; first | rw [if_pos (by omega)] | rw [if_neg (by omega)], rfl⟩
abbrev rm_X2_countConcealed : Room := { frames := 1, cells := 0, slots := 0, locals := 21 }
set_option maxRecDepth 100000 in
set_option maxHeartbeats 4000000 in
theorem c_X2_countConcealed (l : Launch) (D : va_G) (cA : Nat → ClassId) (B : Nat) {lay : ja_Y} {mem : ja_M} {n : Nat} {a : Nat} (hC : ja_LC lay a) (h7 : 0 ≤ mem a 7 ∧ mem a 7 ≤ 100000) (h8 : 0 ≤ mem a 8 ∧ mem a 8 ≤ 100000) : ja_Mt l D cA B yX2_countConcealed cX2_countConcealed 1 none rm_X2_countConcealed [.ref a] lay mem n (ja_rd lay (C_co mem a) n (none)) := by
  refine ja_enter [some (.ref a)] (by decide) (Nat.le_of_ble_eq_true rfl) (fun q hq => hq) (fun C F Rt G hnm => ?_)
  refine r_aload_n F rfl rfl dX2_countConcealed_0 rfl ?_
  refine r_dup F rfl dX2_countConcealed_1 rfl ?_
  refine r_getI F f_X2_18 hC rfl dX2_countConcealed_2 rfl ?_
  refine r_iconst F dX2_countConcealed_5 rfl ?_
  refine r_iadd F dX2_countConcealed_6 rfl ?_
  refine r_putI F f_X2_18 hC rfl dX2_countConcealed_7 rfl ?_
  refine r_aload_n F rfl rfl dX2_countConcealed_10 rfl ?_
  refine r_dup F rfl dX2_countConcealed_11 rfl ?_
  refine r_getI F f_X2_33 hC rfl dX2_countConcealed_12 rfl ?_
  refine r_eqz (z := mem a 7) (by simp [ja_up]) ?_
  refine r_iconst F dX2_countConcealed_15 rfl ?_
  refine r_iadd F dX2_countConcealed_16 rfl ?_
  refine r_putI F f_X2_33 hC rfl dX2_countConcealed_17 rfl ?_
  refine r_aload_n F rfl rfl dX2_countConcealed_20 rfl ?_
  refine r_aload_n F rfl rfl dX2_countConcealed_21 rfl ?_
  refine r_getI F f_X2_36 hC rfl dX2_countConcealed_22 rfl ?_
  refine r_eqz (z := mem a 8) (by simp [ja_up]) ?_
  refine r_aload_n F rfl rfl dX2_countConcealed_25 rfl ?_
  refine r_getI F f_X2_33 hC rfl dX2_countConcealed_26 rfl ?_
  refine r_eqz (z := (mem a 7 + 1)) (by simp [ja_up]) ?_
  refine r_mmax F ⟨by omega, by omega⟩ ⟨by omega, by omega⟩ s_X2_39 (Nat.le_of_ble_eq_true rfl) (by decide) (by decide) (by decide) dX2_countConcealed_29 rfl ?_
  refine r_putI F f_X2_36 hC rfl dX2_countConcealed_32 rfl ?_
  exact r_vret F Rt dX2_countConcealed_35 (by decide) ⟨rfl, rfl, rfl, rfl⟩
abbrev rm_X1_add : Room := { frames := 0, cells := 0, slots := 0, locals := 0 }
set_option maxRecDepth 100000 in
set_option maxHeartbeats 4000000 in
theorem c_X1_add (l : Launch) (D : va_G) (cA : Nat → ClassId) (B : Nat) {lay : ja_Y} {mem : ja_M} {n : Nat} {a : Nat} {k m i t : Int} (hA : ja_LA lay a) (h4 : 0 ≤ mem a 4 ∧ mem a 4 ≤ 24) : ja_Mt l D cA B yX1_add cX1_add 5 none rm_X1_add [.ref a, .int (ja_I k), .int (ja_I m), .int (ja_I i), .int (ja_I t)] lay mem n (ja_rd lay (A_add mem a k m i t) n (none)) := by
  refine ja_enter [some (.ref a), some (.int (ja_I k)), some (.int (ja_I m)), some (.int (ja_I i)), some (.int (ja_I t))] (by decide) (Nat.le_of_ble_eq_true rfl) (fun q hq => hq) (fun C F Rt G hnm => ?_)
  refine r_aload_n F rfl rfl dX1_add_0 rfl ?_
  refine r_getI F f_X1_22 (hA.1) rfl dX1_add_1 rfl ?_
  refine r_bipush F (by decide) dX1_add_4 rfl ?_
  refine r_icmp_ge F (tgt := 60) ⟨by omega, by omega⟩ ⟨by omega, by omega⟩ dX1_add_6 rfl (by decide) (fun h_6 => ?_) (fun h_6 => ?_)
  ·
    exact r_vret F Rt dX1_add_60 (by decide) ⟨rfl, rfl, by unfold A_add; first | rw [if_pos (by omega)] | rw [if_neg (by omega)], rfl⟩
  ·
    refine r_aload_n F rfl rfl dX1_add_9 rfl ?_
    refine r_getR F f_X1_9 (hA.1) rfl dX1_add_10 rfl ?_
    refine r_aload_n F rfl rfl dX1_add_13 rfl ?_
    refine r_getI F f_X1_22 (hA.1) rfl dX1_add_14 rfl ?_
    refine r_iload_n F rfl rfl dX1_add_17 rfl ?_
    refine r_iast F (ja_LA_1 hA) (by omega) (by omega) (by decide) dX1_add_18 rfl ?_
    refine r_aload_n F rfl rfl dX1_add_19 rfl ?_
    refine r_getR F f_X1_13 (hA.1) rfl dX1_add_20 rfl ?_
    refine r_aload_n F rfl rfl dX1_add_23 rfl ?_
    refine r_getI F f_X1_22 (hA.1) rfl dX1_add_24 rfl ?_
    refine r_eqz (z := mem a 4) (by simp [ja_up]) ?_
    refine r_iload_n F rfl rfl dX1_add_27 rfl ?_
    refine r_iast F (ja_LA_2 hA) (by omega) (by omega) (by decide) dX1_add_28 rfl ?_
    refine r_aload_n F rfl rfl dX1_add_29 rfl ?_
    refine r_getR F f_X1_16 (hA.1) rfl dX1_add_30 rfl ?_
    refine r_aload_n F rfl rfl dX1_add_33 rfl ?_
    refine r_getI F f_X1_22 (hA.1) rfl dX1_add_34 rfl ?_
    refine r_eqz (z := mem a 4) (by simp [ja_up]) ?_
    refine r_iload_n F rfl rfl dX1_add_37 rfl ?_
    refine r_iast F (ja_LA_3 hA) (by omega) (by omega) (by decide) dX1_add_38 rfl ?_
    refine r_aload_n F rfl rfl dX1_add_39 rfl ?_
    refine r_getR F f_X1_19 (hA.1) rfl dX1_add_40 rfl ?_
    refine r_aload_n F rfl rfl dX1_add_43 rfl ?_
    refine r_getI F f_X1_22 (hA.1) rfl dX1_add_44 rfl ?_
    refine r_eqz (z := mem a 4) (by simp [ja_up]) ?_
    refine r_iload F rfl dX1_add_47 rfl ?_
    refine r_iast F (ja_LA_4 hA) (by omega) (by omega) (by decide) dX1_add_49 rfl ?_
    refine r_aload_n F rfl rfl dX1_add_50 rfl ?_
    refine r_dup F rfl dX1_add_51 rfl ?_
    refine r_getI F f_X1_22 (hA.1) rfl dX1_add_52 rfl ?_
    refine r_eqz (z := mem a 4) (by simp [ja_up]) ?_
    refine r_iconst F dX1_add_55 rfl ?_
    refine r_iadd F dX1_add_56 rfl ?_
    refine r_putI F f_X1_22 (hA.1) rfl dX1_add_57 rfl ?_
    exact r_vret F Rt dX1_add_60 (by decide) ⟨rfl, rfl, by unfold A_add; first | rw [if_pos (by omega)] | rw [if_neg (by omega)], rfl⟩
abbrev rm_X1_addAll : Room := { frames := 1, cells := 0, slots := 0, locals := 24 }
set_option maxRecDepth 100000 in
set_option maxHeartbeats 4000000 in
theorem c_X1_addAll (l : Launch) (D : va_G) (cA : Nat → ClassId) (B : Nat) {lay : ja_Y} {mem : ja_M} {n : Nat} {a o : Nat} (hA : ja_LA lay a) (hAo : ja_LA lay o) (h4 : 0 ≤ mem a 4 ∧ mem a 4 ≤ 24) (g4 : 0 ≤ mem o 4 ∧ mem o 4 ≤ 24) (hao : a + 5 ≤ o ∨ o + 5 ≤ a) : ja_Mt l D cA B yX1_addAll cX1_addAll 3 none rm_X1_addAll [.ref a, .ref o] lay mem n (ja_rd lay (A_all mem a o (mem o 4).toNat) n (none)) := by
  refine ja_enter [some (.ref a), some (.ref o), none] (by decide) (Nat.le_of_ble_eq_true rfl) (fun q hq => hq) (fun C F Rt G hnm => ?_)
  refine r_iconst F dX1_addAll_0 rfl ?_
  refine r_ist2 F (by decide) rfl dX1_addAll_1 rfl ?_
  have loop : ∀ (d k : Nat), k + d = (mem o 4).toNat → ja_W C 0 0 lay (A_all mem a o k) n 2 [some (.ref a), some (.ref o), some (.int (ja_I (k : Int)))] [] := by
    intro d
    induction d with
    | zero =>
      intro k hk
      refine r_iload_n F rfl rfl dX1_addAll_2 rfl ?_
      refine r_aload_n F rfl rfl dX1_addAll_3 rfl ?_
      refine r_getI F f_X1_22 (hAo.1) rfl dX1_addAll_4 rfl ?_
      refine r_eqz (z := mem o 4) (by rw [A_all_o (by omega)]) ?_
      refine r_icmp_ge F (tgt := 44) ⟨by omega, by omega⟩ ⟨by omega, by omega⟩ dX1_addAll_7 rfl (by decide) (fun h_7 => ?_) (fun h_7 => ?_)
      ·
        exact r_vret F Rt dX1_addAll_44 (by decide) ⟨rfl, rfl, by rw [show (mem o 4).toNat = k by omega], rfl⟩
      ·
        exfalso; omega
    | succ d ih =>
      intro k hk
      refine r_iload_n F rfl rfl dX1_addAll_2 rfl ?_
      refine r_aload_n F rfl rfl dX1_addAll_3 rfl ?_
      refine r_getI F f_X1_22 (hAo.1) rfl dX1_addAll_4 rfl ?_
      refine r_eqz (z := mem o 4) (by rw [A_all_o (by omega)]) ?_
      refine r_icmp_ge F (tgt := 44) ⟨by omega, by omega⟩ ⟨by omega, by omega⟩ dX1_addAll_7 rfl (by decide) (fun h_7 => ?_) (fun h_7 => ?_)
      ·
        exfalso; omega
      ·
        refine r_aload_n F rfl rfl dX1_addAll_10 rfl ?_
        refine r_aload_n F rfl rfl dX1_addAll_11 rfl ?_
        refine r_getR F f_X1_9 (hAo.1) rfl dX1_addAll_12 rfl ?_
        refine r_iload_n F rfl rfl dX1_addAll_15 rfl ?_
        refine r_iald F (ja_LA_1 hAo) (by omega) (by omega) (by decide) dX1_addAll_16 rfl ?_
        refine r_eqz (z := mem (o + 1) k) (by rw [A_all_o (by omega), ja_nat]) ?_
        refine r_aload_n F rfl rfl dX1_addAll_17 rfl ?_
        refine r_getR F f_X1_13 (hAo.1) rfl dX1_addAll_18 rfl ?_
        refine r_iload_n F rfl rfl dX1_addAll_21 rfl ?_
        refine r_iald F (ja_LA_2 hAo) (by omega) (by omega) (by decide) dX1_addAll_22 rfl ?_
        refine r_eqz (z := mem (o + 2) k) (by rw [A_all_o (by omega), ja_nat]) ?_
        refine r_aload_n F rfl rfl dX1_addAll_23 rfl ?_
        refine r_getR F f_X1_16 (hAo.1) rfl dX1_addAll_24 rfl ?_
        refine r_iload_n F rfl rfl dX1_addAll_27 rfl ?_
        refine r_iald F (ja_LA_3 hAo) (by omega) (by omega) (by decide) dX1_addAll_28 rfl ?_
        refine r_eqz (z := mem (o + 3) k) (by rw [A_all_o (by omega), ja_nat]) ?_
        refine r_aload_n F rfl rfl dX1_addAll_29 rfl ?_
        refine r_getR F f_X1_19 (hAo.1) rfl dX1_addAll_30 rfl ?_
        refine r_iload_n F rfl rfl dX1_addAll_33 rfl ?_
        refine r_iald F (ja_LA_4 hAo) (by omega) (by omega) (by decide) dX1_addAll_34 rfl ?_
        refine r_eqz (z := mem (o + 4) k) (by rw [A_all_o (by omega), ja_nat]) ?_
        refine r_callV F G (c_X1_add _ _ _ _ hA (A_all_sz h4 k)) v_X1_30 rfl (hA.1) rfl (by decide) (by decide) (Nat.le_of_ble_eq_true rfl) rfl dX1_addAll_35 rfl (fun v lay' mem' n' hp => ?_)
        obtain ⟨q1, q2, q3, q4⟩ := hp
        subst q1; subst q2; subst q3; subst q4
        refine r_inc2 F (by decide) rfl dX1_addAll_38 rfl ?_
        refine r_goto F (tgt := 2) dX1_addAll_41 (by decide) ?_
        exact ih (k + 1) (by omega)
  exact loop (mem o 4).toNat 0 (by omega)
abbrev rm_X1_copyFrom : Room := { frames := 2, cells := 0, slots := 0, locals := 46 }
set_option maxRecDepth 100000 in
set_option maxHeartbeats 4000000 in
theorem c_X1_copyFrom (l : Launch) (D : va_G) (cA : Nat → ClassId) (B : Nat) {lay : ja_Y} {mem : ja_M} {n : Nat} {a o : Nat} (hA : ja_LA lay a) (hAo : ja_LA lay o) (g4 : 0 ≤ mem o 4 ∧ mem o 4 ≤ 24) (hao : a + 5 ≤ o ∨ o + 5 ≤ a) : ja_Mt l D cA B yX1_copyFrom cX1_copyFrom 2 none rm_X1_copyFrom [.ref a, .ref o] lay mem n (ja_rd lay (A_all (ja_up mem a 4 0) a o (mem o 4).toNat) n (none)) := by
  refine ja_enter [some (.ref a), some (.ref o)] (by decide) (Nat.le_of_ble_eq_true rfl) (fun q hq => hq) (fun C F Rt G hnm => ?_)
  refine r_aload_n F rfl rfl dX1_copyFrom_0 rfl ?_
  refine r_iconst F dX1_copyFrom_1 rfl ?_
  refine r_putI F f_X1_22 (hA.1) rfl dX1_copyFrom_2 rfl ?_
  refine r_aload_n F rfl rfl dX1_copyFrom_5 rfl ?_
  refine r_aload_n F rfl rfl dX1_copyFrom_6 rfl ?_
  refine r_callV F G (c_X1_addAll _ _ _ _ hA hAo (by rw [ja_up_s]; omega) (by rw [ja_up_a (by omega)]; omega) (by omega)) v_X1_26 rfl (hA.1) rfl (by decide) (by decide) (Nat.le_of_ble_eq_true rfl) rfl dX1_copyFrom_7 rfl (fun v lay' mem' n' hp => ?_)
  obtain ⟨q1, q2, q3, q4⟩ := hp
  subst q1; subst q2; subst q3; subst q4
  exact r_vret F Rt dX1_copyFrom_10 (by decide) ⟨rfl, rfl, by rw [ja_up_a (show o ≠ a by omega)], rfl⟩
abbrev rm_X1_removeAllAt : Room := { frames := 1, cells := 0, slots := 0, locals := 24 }
set_option maxRecDepth 100000 in
set_option maxHeartbeats 4000000 in
theorem c_X1_removeAllAt (l : Launch) (D : va_G) (cA : Nat → ClassId) (B : Nat) {lay : ja_Y} {mem : ja_M} {n : Nat} {a : Nat} {t : Int} (hA : ja_LA lay a) (h4 : 0 ≤ mem a 4 ∧ mem a 4 ≤ 24) (ht : ja_in t) (htt : ∀ j, ja_in (mem (a + 4) j)) : ja_Mt l D cA B yX1_removeAllAt cX1_removeAllAt 4 none rm_X1_removeAllAt [.ref a, .int (ja_I t)] lay mem n (ja_rd lay (A_rem mem a t (mem a 4).toNat) n (none)) := by
  refine ja_enter [some (.ref a), some (.int (ja_I t)), none, none] (by decide) (Nat.le_of_ble_eq_true rfl) (fun q hq => hq) (fun C F Rt G hnm => ?_)
  refine r_aload_n F rfl rfl dX1_removeAllAt_0 rfl ?_
  refine r_getI F f_X1_22 (hA.1) rfl dX1_removeAllAt_1 rfl ?_
  refine r_ist2 F (by decide) rfl dX1_removeAllAt_4 rfl ?_
  refine r_aload_n F rfl rfl dX1_removeAllAt_5 rfl ?_
  refine r_iconst F dX1_removeAllAt_6 rfl ?_
  refine r_putI F f_X1_22 (hA.1) rfl dX1_removeAllAt_7 rfl ?_
  refine r_iconst F dX1_removeAllAt_10 rfl ?_
  refine r_ist3 F (by decide) rfl dX1_removeAllAt_11 rfl ?_
  have loop : ∀ (d k : Nat), k + d = (mem a 4).toNat → ja_W C 0 0 lay (A_rem mem a t k) n 12 [some (.ref a), some (.int (ja_I t)), some (.int (ja_I (mem a 4))), some (.int (ja_I (k : Int)))] [] := by
    intro d
    induction d with
    | zero =>
      intro k hk
      refine r_iload_n F rfl rfl dX1_removeAllAt_12 rfl ?_
      refine r_iload_n F rfl rfl dX1_removeAllAt_13 rfl ?_
      refine r_icmp_ge F (tgt := 61) ⟨by omega, by omega⟩ ⟨by omega, by omega⟩ dX1_removeAllAt_14 rfl (by decide) (fun h_14 => ?_) (fun h_14 => ?_)
      ·
        exact r_vret F Rt dX1_removeAllAt_61 (by decide) ⟨rfl, rfl, by rw [show (mem a 4).toNat = k by omega], rfl⟩
      ·
        exfalso; omega
    | succ d ih =>
      intro k hk
      refine r_iload_n F rfl rfl dX1_removeAllAt_12 rfl ?_
      refine r_iload_n F rfl rfl dX1_removeAllAt_13 rfl ?_
      refine r_icmp_ge F (tgt := 61) ⟨by omega, by omega⟩ ⟨by omega, by omega⟩ dX1_removeAllAt_14 rfl (by decide) (fun h_14 => ?_) (fun h_14 => ?_)
      ·
        exfalso; omega
      ·
        refine r_aload_n F rfl rfl dX1_removeAllAt_17 rfl ?_
        refine r_getR F f_X1_19 (hA.1) rfl dX1_removeAllAt_18 rfl ?_
        refine r_iload_n F rfl rfl dX1_removeAllAt_21 rfl ?_
        refine r_iald F (ja_LA_4 hA) (by omega) (by omega) (by decide) dX1_removeAllAt_22 rfl ?_
        refine r_eqz (z := mem (a + 4) k) (by rw [ja_nat, A_rem_k (by omega) k (by omega) (by omega)]) ?_
        refine r_iload_n F rfl rfl dX1_removeAllAt_23 rfl ?_
        refine r_icmp_eq F (tgt := 55) (htt k) ht dX1_removeAllAt_24 rfl (by decide) (fun h_24 => ?_) (fun h_24 => ?_)
        ·
          refine r_inc3 F (by decide) rfl dX1_removeAllAt_55 rfl ?_
          refine r_goto F (tgt := 12) dX1_removeAllAt_58 (by decide) ?_
          refine r_mem (mem' := A_rem mem a t (k + 1)) (by simp only [A_rem]; first | rw [if_pos h_24] | rw [if_neg h_24]) ?_
          exact ih (k + 1) (by omega)
        ·
          refine r_aload_n F rfl rfl dX1_removeAllAt_27 rfl ?_
          refine r_aload_n F rfl rfl dX1_removeAllAt_28 rfl ?_
          refine r_getR F f_X1_9 (hA.1) rfl dX1_removeAllAt_29 rfl ?_
          refine r_iload_n F rfl rfl dX1_removeAllAt_32 rfl ?_
          refine r_iald F (ja_LA_1 hA) (by omega) (by omega) (by decide) dX1_removeAllAt_33 rfl ?_
          refine r_eqz (z := mem (a + 1) k) (by rw [ja_nat, A_rem_k (by omega) k (by omega) (by omega)]) ?_
          refine r_aload_n F rfl rfl dX1_removeAllAt_34 rfl ?_
          refine r_getR F f_X1_13 (hA.1) rfl dX1_removeAllAt_35 rfl ?_
          refine r_iload_n F rfl rfl dX1_removeAllAt_38 rfl ?_
          refine r_iald F (ja_LA_2 hA) (by omega) (by omega) (by decide) dX1_removeAllAt_39 rfl ?_
          refine r_eqz (z := mem (a + 2) k) (by rw [ja_nat, A_rem_k (by omega) k (by omega) (by omega)]) ?_
          refine r_aload_n F rfl rfl dX1_removeAllAt_40 rfl ?_
          refine r_getR F f_X1_16 (hA.1) rfl dX1_removeAllAt_41 rfl ?_
          refine r_iload_n F rfl rfl dX1_removeAllAt_44 rfl ?_
          refine r_iald F (ja_LA_3 hA) (by omega) (by omega) (by decide) dX1_removeAllAt_45 rfl ?_
          refine r_eqz (z := mem (a + 3) k) (by rw [ja_nat, A_rem_k (by omega) k (by omega) (by omega)]) ?_
          refine r_aload_n F rfl rfl dX1_removeAllAt_46 rfl ?_
          refine r_getR F f_X1_19 (hA.1) rfl dX1_removeAllAt_47 rfl ?_
          refine r_iload_n F rfl rfl dX1_removeAllAt_50 rfl ?_
          refine r_iald F (ja_LA_4 hA) (by omega) (by omega) (by decide) dX1_removeAllAt_51 rfl ?_
          refine r_eqz (z := mem (a + 4) k) (by rw [ja_nat, A_rem_k (by omega) k (by omega) (by omega)]) ?_
          refine r_callV F G (c_X1_add _ _ _ _ hA ⟨(A_rem_sz k (by omega)).1, Int.le_trans (A_rem_sz k (by omega)).2 (by omega)⟩) v_X1_30 rfl (hA.1) rfl (by decide) (by decide) (Nat.le_of_ble_eq_true rfl) rfl dX1_removeAllAt_52 rfl (fun v lay' mem' n' hp => ?_)
          obtain ⟨q1, q2, q3, q4⟩ := hp
          subst q1; subst q2; subst q3; subst q4
          refine r_inc3 F (by decide) rfl dX1_removeAllAt_55 rfl ?_
          refine r_goto F (tgt := 12) dX1_removeAllAt_58 (by decide) ?_
          refine r_mem (mem' := A_rem mem a t (k + 1)) (by simp only [A_rem]; first | rw [if_pos h_24] | rw [if_neg h_24]) ?_
          exact ih (k + 1) (by omega)
  exact loop (mem a 4).toNat 0 (by omega)
abbrev rm_X7_ascendingAt : Room := { frames := 0, cells := 0, slots := 0, locals := 0 }
set_option maxRecDepth 100000 in
set_option maxHeartbeats 4000000 in
theorem c_X7_ascendingAt (l : Launch) (D : va_G) (cA : Nat → ClassId) (B : Nat) {lay : ja_Y} {mem : ja_M} {n : Nat} {a : Nat} {k : Int} (hT : ja_LT lay a) (hk : 0 ≤ k ∧ k < 16) : ja_Mt l D cA B yX7_ascendingAt cX7_ascendingAt 2 (some .int) rm_X7_ascendingAt [.ref a, .int (ja_I k)] lay mem n (ja_rd lay mem n (some (.int (ja_I (mem (a + 2) k.toNat))))) := by
  refine ja_enter [some (.ref a), some (.int (ja_I k))] (by decide) (Nat.le_of_ble_eq_true rfl) (fun q hq => hq) (fun C F Rt G hnm => ?_)
  refine r_aload_n F rfl rfl dX7_ascendingAt_0 rfl ?_
  refine r_getR F f_X7_13 (hT.1) rfl dX7_ascendingAt_1 rfl ?_
  refine r_iload_n F rfl rfl dX7_ascendingAt_4 rfl ?_
  refine r_iald F (ja_LT_2 hT) (by omega) (by omega) (by decide) dX7_ascendingAt_5 rfl ?_
  exact r_iret F Rt dX7_ascendingAt_6 (by decide) ⟨rfl, rfl, rfl, rfl⟩
abbrev rm_X7_spread : Room := { frames := 0, cells := 0, slots := 0, locals := 0 }
set_option maxRecDepth 100000 in
set_option maxHeartbeats 4000000 in
theorem c_X7_spread (l : Launch) (D : va_G) (cA : Nat → ClassId) (B : Nat) {lay : ja_Y} {mem : ja_M} {n : Nat} {a : Nat} {q : Int} (hT : ja_LT lay a) (hO : ja_TO mem a) (hq : 1 ≤ q ∧ q ≤ 100) : ja_Mt l D cA B yX7_spread cX7_spread 2 (some .int) rm_X7_spread [.ref a, .int (ja_I q)] lay mem n (ja_rd lay mem n (some (.int (ja_I (T_spr mem a q))))) := by
  refine ja_enter [some (.ref a), some (.int (ja_I q))] (by decide) (Nat.le_of_ble_eq_true rfl) (fun q hq => hq) (fun C F Rt G hnm => ?_)
  have hO2 := hO.1
  have g1 := ja_mulb (by omega : 0 ≤ q) hq.2 hO2.1 hO2.2
  refine r_aload_n F rfl rfl dX7_spread_0 rfl ?_
  refine r_getI F f_X7_22 (hT.1) rfl dX7_spread_1 rfl ?_
  refine r_if_ne F (tgt := 9) ⟨by omega, by omega⟩ dX7_spread_4 rfl (by decide) (fun h_4 => ?_) (fun h_4 => ?_)
  ·
    have g2 := ja_mulb (by omega : 0 ≤ q - 1) (by omega : q - 1 ≤ 99) (by omega : 0 ≤ mem a 2 - 1) (by omega : mem a 2 - 1 ≤ 15)
    have g3 : 1 ≤ q * mem a 2 := by
      have := Int.mul_le_mul hq.1 (by omega : 1 ≤ mem a 2) (by omega) (by omega)
      omega
    refine r_aload_n F rfl rfl dX7_spread_9 rfl ?_
    refine r_getR F f_X7_13 (hT.1) rfl dX7_spread_10 rfl ?_
    refine r_iload_n F rfl rfl dX7_spread_13 rfl ?_
    refine r_aload_n F rfl rfl dX7_spread_14 rfl ?_
    refine r_getI F f_X7_22 (hT.1) rfl dX7_spread_15 rfl ?_
    refine r_imul F dX7_spread_18 rfl ?_
    refine r_bipush F (by decide) dX7_spread_19 rfl ?_
    refine r_iadd F dX7_spread_21 rfl ?_
    refine r_bipush F (by decide) dX7_spread_22 rfl ?_
    refine r_idivP F ⟨by omega, by omega⟩ ⟨by omega, by omega⟩ (by omega) (by omega) dX7_spread_24 rfl ?_
    refine r_iconst F dX7_spread_25 rfl ?_
    refine r_isub F dX7_spread_26 rfl ?_
    refine r_iald F (ja_LT_2 hT) (by omega) (by omega) (by decide) dX7_spread_27 rfl ?_
    refine r_aload_n F rfl rfl dX7_spread_28 rfl ?_
    refine r_getR F f_X7_13 (hT.1) rfl dX7_spread_29 rfl ?_
    refine r_iconst F dX7_spread_32 rfl ?_
    refine r_iald F (ja_LT_2 hT) (by omega) (by omega) (by decide) dX7_spread_33 rfl ?_
    refine r_isub F dX7_spread_34 rfl ?_
    exact r_iret F Rt dX7_spread_35 (by decide) ⟨by rw [T_spr, if_neg (by omega)]; rfl, rfl, rfl, rfl⟩
  ·
    refine r_iconst F dX7_spread_7 rfl ?_
    exact r_iret F Rt dX7_spread_8 (by decide) ⟨by rw [T_spr, if_pos (by omega)], rfl, rfl, rfl⟩
abbrev rm_X7_copyFrom : Room := { frames := 1, cells := 0, slots := 0, locals := 40 }
set_option maxRecDepth 100000 in
set_option maxHeartbeats 4000000 in
theorem c_X7_copyFrom (l : Launch) (D : va_G) (cA : Nat → ClassId) (B : Nat) {lay : ja_Y} {mem : ja_M} {n : Nat} {a o : Nat} (hT : ja_LT lay a) (hTo : ja_LT lay o) (hao : a + 3 ≤ o ∨ o + 3 ≤ a) : ja_Mt l D cA B yX7_copyFrom cX7_copyFrom 2 none rm_X7_copyFrom [.ref a, .ref o] lay mem n (ja_rd lay (T_cp mem a o) n (none)) := by
  refine ja_enter [some (.ref a), some (.ref o)] (by decide) (Nat.le_of_ble_eq_true rfl) (fun q hq => hq) (fun C F Rt G hnm => ?_)
  refine r_aload_n F rfl rfl dX7_copyFrom_0 rfl ?_
  refine r_getR F f_X7_9 (hTo.1) rfl dX7_copyFrom_1 rfl ?_
  refine r_iconst F dX7_copyFrom_4 rfl ?_
  refine r_aload_n F rfl rfl dX7_copyFrom_5 rfl ?_
  refine r_getR F f_X7_9 (hT.1) rfl dX7_copyFrom_6 rfl ?_
  refine r_iconst F dX7_copyFrom_9 rfl ?_
  refine r_bipush F (by decide) dX7_copyFrom_10 rfl ?_
  refine r_copy0 F s_X7_16 (ja_LT_1 hTo) (ja_LT_1 hT) (by decide) (by decide) (by decide) (by decide) (Nat.le_of_ble_eq_true rfl) (by decide) (by decide) dX7_copyFrom_12 rfl ?_
  refine r_aload_n F rfl rfl dX7_copyFrom_15 rfl ?_
  refine r_getR F f_X7_13 (hTo.1) rfl dX7_copyFrom_16 rfl ?_
  refine r_iconst F dX7_copyFrom_19 rfl ?_
  refine r_aload_n F rfl rfl dX7_copyFrom_20 rfl ?_
  refine r_getR F f_X7_13 (hT.1) rfl dX7_copyFrom_21 rfl ?_
  refine r_iconst F dX7_copyFrom_24 rfl ?_
  refine r_bipush F (by decide) dX7_copyFrom_25 rfl ?_
  refine r_copy0 F s_X7_16 (ja_LT_2 hTo) (ja_LT_2 hT) (by decide) (by decide) (by decide) (by decide) (Nat.le_of_ble_eq_true rfl) (by decide) (by decide) dX7_copyFrom_27 rfl ?_
  refine r_aload_n F rfl rfl dX7_copyFrom_30 rfl ?_
  refine r_aload_n F rfl rfl dX7_copyFrom_31 rfl ?_
  refine r_getI F f_X7_22 (hTo.1) rfl dX7_copyFrom_32 rfl ?_
  refine r_eqz (z := mem o 2) (by rw [ja_cp_o _ (by omega), ja_cp_o _ (by omega)]) ?_
  refine r_putI F f_X7_22 (hT.1) rfl dX7_copyFrom_35 rfl ?_
  refine r_aload_n F rfl rfl dX7_copyFrom_38 rfl ?_
  refine r_aload_n F rfl rfl dX7_copyFrom_39 rfl ?_
  refine r_getI F f_X7_26 (hTo.1) rfl dX7_copyFrom_40 rfl ?_
  refine r_eqz (z := mem o 3) (by rw [ja_up_a (by omega), ja_cp_o _ (by omega), ja_cp_o _ (by omega)]) ?_
  refine r_putI F f_X7_26 (hT.1) rfl dX7_copyFrom_43 rfl ?_
  exact r_vret F Rt dX7_copyFrom_46 (by decide) ⟨rfl, rfl, rfl, rfl⟩
