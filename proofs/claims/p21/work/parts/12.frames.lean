abbrev rm_X7_insert : Room := { frames := 0, cells := 0, slots := 0, locals := 0 }
set_option maxRecDepth 100000 in
set_option maxHeartbeats 4000000 in
theorem c_X7_insert (l : Launch) (D : va_G) (cA : Nat → ClassId) (B : Nat) {lay : ja_Y} {mem : ja_M} {n : Nat} {a : Nat} {v k : Int} (hT : ja_LT lay a) (hO : ja_TO mem a) (hv : ja_sm v) (hk : 0 ≤ k ∧ k < 16) : ja_Mt l D cA B yX7_insert cX7_insert 4 none rm_X7_insert [.ref a, .int (ja_I v), .int (ja_I k)] lay mem n (ja_rd lay (ja_rw mem (a + 2) (T_ins (mem (a + 2)) v k.toNat)) n (none)) := by
  refine ja_enter [some (.ref a), some (.int (ja_I v)), some (.int (ja_I k)), none] (by decide) (Nat.le_of_ble_eq_true rfl) (fun q hq => hq) (fun C F Rt G hnm => ?_)
  refine r_iload_n F rfl rfl dX7_insert_0 rfl ?_
  refine r_ist3 F (by decide) rfl dX7_insert_1 rfl ?_
  have loop : ∀ (h : Nat), h ≤ k.toNat → ∀ g : Nat → Int, (∀ j, ja_sm (g j)) → T_ins g v h = T_ins (mem (a + 2)) v k.toNat → ja_W C 0 0 lay (ja_rw mem (a + 2) g) n 2 [some (.ref a), some (.int (ja_I v)), some (.int (ja_I k)), some (.int (ja_I (h : Int)))] [] := by
    intro h
    induction h with
    | zero =>
      intro hk2 g hg hT2
      refine r_iload_n F rfl rfl dX7_insert_2 rfl ?_
      refine r_if_le F (tgt := 38) ⟨by omega, by omega⟩ dX7_insert_3 rfl (by decide) (fun h_3 => ?_) (fun h_3 => ?_)
      ·
        refine r_aload_n F rfl rfl dX7_insert_38 rfl ?_
        refine r_getR F f_X7_13 (hT.1) rfl dX7_insert_39 rfl ?_
        refine r_iload_n F rfl rfl dX7_insert_42 rfl ?_
        refine r_iload_n F rfl rfl dX7_insert_43 rfl ?_
        refine r_iast F (ja_LT_2 hT) (by omega) (by omega) (by decide) dX7_insert_44 rfl ?_
        exact r_vret F Rt dX7_insert_45 (by decide) ⟨rfl, rfl, by rw [ja_rw_up, T_cast0, ← hT2]; rfl, rfl⟩
      ·
        exfalso; omega
    | succ h ih =>
      intro hk2 g hg hT2
      have hg1 := hg h
      refine r_iload_n F rfl rfl dX7_insert_2 rfl ?_
      refine r_if_le F (tgt := 38) ⟨by omega, by omega⟩ dX7_insert_3 rfl (by decide) (fun h_3 => ?_) (fun h_3 => ?_)
      ·
        exfalso; omega
      ·
        refine r_aload_n F rfl rfl dX7_insert_6 rfl ?_
        refine r_getR F f_X7_13 (hT.1) rfl dX7_insert_7 rfl ?_
        refine r_iload_n F rfl rfl dX7_insert_10 rfl ?_
        refine r_iconst F dX7_insert_11 rfl ?_
        refine r_isub F dX7_insert_12 rfl ?_
        refine r_iald F (ja_LT_2 hT) (by omega) (by omega) (by decide) dX7_insert_13 rfl ?_
        refine r_eqz (z := g h) (by rw [ja_rw_s]; congr 1; omega) ?_
        refine r_iload_n F rfl rfl dX7_insert_14 rfl ?_
        refine r_icmp_le F (tgt := 38) ⟨by have := hg1.1; omega, by have := hg1.2; omega⟩ ⟨by have := hv.1; omega, by have := hv.2; omega⟩ dX7_insert_15 rfl (by decide) (fun h_15 => ?_) (fun h_15 => ?_)
        ·
          refine r_aload_n F rfl rfl dX7_insert_38 rfl ?_
          refine r_getR F f_X7_13 (hT.1) rfl dX7_insert_39 rfl ?_
          refine r_iload_n F rfl rfl dX7_insert_42 rfl ?_
          refine r_iload_n F rfl rfl dX7_insert_43 rfl ?_
          refine r_iast F (ja_LT_2 hT) (by omega) (by omega) (by decide) dX7_insert_44 rfl ?_
          exact r_vret F Rt dX7_insert_45 (by decide) ⟨rfl, rfl, by rw [ja_rw_up, ← hT2]; simp only [T_ins]; rw [if_neg (by omega)]; rfl, rfl⟩
        ·
          refine r_aload_n F rfl rfl dX7_insert_18 rfl ?_
          refine r_getR F f_X7_13 (hT.1) rfl dX7_insert_19 rfl ?_
          refine r_iload_n F rfl rfl dX7_insert_22 rfl ?_
          refine r_aload_n F rfl rfl dX7_insert_23 rfl ?_
          refine r_getR F f_X7_13 (hT.1) rfl dX7_insert_24 rfl ?_
          refine r_iload_n F rfl rfl dX7_insert_27 rfl ?_
          refine r_iconst F dX7_insert_28 rfl ?_
          refine r_isub F dX7_insert_29 rfl ?_
          refine r_iald F (ja_LT_2 hT) (by omega) (by omega) (by decide) dX7_insert_30 rfl ?_
          refine r_eqz (z := g h) (by rw [ja_rw_s]; congr 1; omega) ?_
          refine r_iast F (ja_LT_2 hT) (by omega) (by omega) (by decide) dX7_insert_31 rfl ?_
          refine r_inc3 F (by decide) rfl dX7_insert_32 rfl ?_
          refine r_goto F (tgt := 2) dX7_insert_35 (by decide) ?_
          refine r_mem (mem' := ja_rw mem (a + 2) (ja_rs g (h + 1) (g h))) (by rw [ja_rw_up]; congr 1) ?_
          have e : (((h + 1 : Nat)) : Int) + (-1) = (h : Int) := by omega
          rw [e]
          exact ih (by omega) _ (fun j => by unfold ja_rs; split; exact hg1; exact hg j) (by rw [← hT2]; simp only [T_ins]; rw [if_pos (by omega)])
  have h0 := loop k.toNat (Nat.le_refl _) (mem (a + 2)) hO.2.2.2 rfl
  rw [ja_rw_self, show ((k.toNat : Nat) : Int) = k by omega] at h0
  exact h0
abbrev rm_J13_bitCount_95d88 : Room := { frames := 0, cells := 0, slots := 0, locals := 0 }
set_option maxRecDepth 100000 in
set_option maxHeartbeats 4000000 in
theorem c_J13_bitCount_95d88 (l : Launch) (D : va_G) (cA : Nat → ClassId) (B : Nat) {lay : ja_Y} {mem : ja_M} {n : Nat} {x : Int64} : ja_Mt l D cA B yJ13_bitCount_95d88 cJ13_bitCount_95d88 2 (some .int) rm_J13_bitCount_95d88 [.long x] lay mem n (ja_rd lay mem n (some (.int (ja_I (J_bc x))))) := by
  refine ja_enter [some (.long x), none] (by decide) (Nat.le_of_ble_eq_true rfl) (fun q hq => hq) (fun C F Rt G hnm => ?_)
  refine r_lload_n F rfl rfl dJ13_bitCount_95d88_0 rfl ?_
  refine r_lload_n F rfl rfl dJ13_bitCount_95d88_1 rfl ?_
  refine r_iconst F dJ13_bitCount_95d88_2 rfl ?_
  refine r_lushr F dJ13_bitCount_95d88_3 rfl ?_
  refine r_ldc2 F l_J13_314 dJ13_bitCount_95d88_4 rfl ?_
  refine r_land F dJ13_bitCount_95d88_7 rfl ?_
  refine r_lsub F dJ13_bitCount_95d88_8 rfl ?_
  refine r_lst0 F (by decide) rfl dJ13_bitCount_95d88_9 rfl ?_
  refine r_lload_n F rfl rfl dJ13_bitCount_95d88_10 rfl ?_
  refine r_ldc2 F l_J13_316 dJ13_bitCount_95d88_11 rfl ?_
  refine r_land F dJ13_bitCount_95d88_14 rfl ?_
  refine r_lload_n F rfl rfl dJ13_bitCount_95d88_15 rfl ?_
  refine r_iconst F dJ13_bitCount_95d88_16 rfl ?_
  refine r_lushr F dJ13_bitCount_95d88_17 rfl ?_
  refine r_ldc2 F l_J13_316 dJ13_bitCount_95d88_18 rfl ?_
  refine r_land F dJ13_bitCount_95d88_21 rfl ?_
  refine r_ladd F dJ13_bitCount_95d88_22 rfl ?_
  refine r_lst0 F (by decide) rfl dJ13_bitCount_95d88_23 rfl ?_
  refine r_lload_n F rfl rfl dJ13_bitCount_95d88_24 rfl ?_
  refine r_lload_n F rfl rfl dJ13_bitCount_95d88_25 rfl ?_
  refine r_iconst F dJ13_bitCount_95d88_26 rfl ?_
  refine r_lushr F dJ13_bitCount_95d88_27 rfl ?_
  refine r_ladd F dJ13_bitCount_95d88_28 rfl ?_
  refine r_ldc2 F l_J13_318 dJ13_bitCount_95d88_29 rfl ?_
  refine r_land F dJ13_bitCount_95d88_32 rfl ?_
  refine r_lst0 F (by decide) rfl dJ13_bitCount_95d88_33 rfl ?_
  refine r_lload_n F rfl rfl dJ13_bitCount_95d88_34 rfl ?_
  refine r_lload_n F rfl rfl dJ13_bitCount_95d88_35 rfl ?_
  refine r_bipush F (by decide) dJ13_bitCount_95d88_36 rfl ?_
  refine r_lushr F dJ13_bitCount_95d88_38 rfl ?_
  refine r_ladd F dJ13_bitCount_95d88_39 rfl ?_
  refine r_lst0 F (by decide) rfl dJ13_bitCount_95d88_40 rfl ?_
  refine r_lload_n F rfl rfl dJ13_bitCount_95d88_41 rfl ?_
  refine r_lload_n F rfl rfl dJ13_bitCount_95d88_42 rfl ?_
  refine r_bipush F (by decide) dJ13_bitCount_95d88_43 rfl ?_
  refine r_lushr F dJ13_bitCount_95d88_45 rfl ?_
  refine r_ladd F dJ13_bitCount_95d88_46 rfl ?_
  refine r_lst0 F (by decide) rfl dJ13_bitCount_95d88_47 rfl ?_
  refine r_lload_n F rfl rfl dJ13_bitCount_95d88_48 rfl ?_
  refine r_lload_n F rfl rfl dJ13_bitCount_95d88_49 rfl ?_
  refine r_bipush F (by decide) dJ13_bitCount_95d88_50 rfl ?_
  refine r_lushr F dJ13_bitCount_95d88_52 rfl ?_
  refine r_ladd F dJ13_bitCount_95d88_53 rfl ?_
  refine r_lst0 F (by decide) rfl dJ13_bitCount_95d88_54 rfl ?_
  refine r_lload_n F rfl rfl dJ13_bitCount_95d88_55 rfl ?_
  refine r_l2i F dJ13_bitCount_95d88_56 rfl ?_
  refine r_bipush F (by decide) dJ13_bitCount_95d88_57 rfl ?_
  refine r_iand F (ja_of' _) dJ13_bitCount_95d88_59 rfl ?_
  exact r_iret F Rt dJ13_bitCount_95d88_60 (by decide) ⟨rfl, rfl, rfl, rfl⟩
abbrev rm_X3_packetBit : Room := { frames := 0, cells := 0, slots := 0, locals := 0 }
set_option maxRecDepth 100000 in
set_option maxHeartbeats 4000000 in
theorem c_X3_packetBit (l : Launch) (D : va_G) (cA : Nat → ClassId) (B : Nat) {lay : ja_Y} {mem : ja_M} {n : Nat} {r i : Int} (hr : 0 ≤ r ∧ r ≤ 1) : ja_Mt l D cA B yX3_packetBit cX3_packetBit 2 (some .int) rm_X3_packetBit [.int (ja_I r), .int (ja_I i)] lay mem n (ja_rd lay mem n (some (.int (ja_I (F_pb r i))))) := by
  refine ja_enter [some (.int (ja_I r)), some (.int (ja_I i))] (by decide) (Nat.le_of_ble_eq_true rfl) (fun q hq => hq) (fun C F Rt G hnm => ?_)
  refine r_iconst F dX3_packetBit_0 rfl ?_
  refine r_iload_n F rfl rfl dX3_packetBit_1 rfl ?_
  refine r_if_eq F (tgt := 9) ⟨by omega, by omega⟩ dX3_packetBit_2 rfl (by decide) (fun h_2 => ?_) (fun h_2 => ?_)
  ·
    refine r_bipush F (by decide) dX3_packetBit_9 rfl ?_
    refine r_iload_n F rfl rfl dX3_packetBit_11 rfl ?_
    refine r_iadd F dX3_packetBit_12 rfl ?_
    refine r_ishl F (ja_of' _) dX3_packetBit_13 rfl ?_
    exact r_iret F Rt dX3_packetBit_14 (by decide) ⟨by unfold F_pb; first | rw [if_pos (by omega)] | rw [if_neg (by omega)], rfl, rfl, rfl⟩
  ·
    refine r_iload_n F rfl rfl dX3_packetBit_5 rfl ?_
    refine r_goto F (tgt := 13) dX3_packetBit_6 (by decide) ?_
    refine r_ishl F (ja_of' _) dX3_packetBit_13 rfl ?_
    exact r_iret F Rt dX3_packetBit_14 (by decide) ⟨by unfold F_pb; first | rw [if_pos (by omega)] | rw [if_neg (by omega)], rfl, rfl, rfl⟩
abbrev rm_X3_lineBits : Room := { frames := 0, cells := 0, slots := 0, locals := 0 }
set_option maxRecDepth 100000 in
set_option maxHeartbeats 4000000 in
theorem c_X3_lineBits (l : Launch) (D : va_G) (cA : Nat → ClassId) (B : Nat) {lay : ja_Y} {mem : ja_M} {n : Nat} {s : Nat} {r i : Int} (hS : ja_LS lay s) (hO : ja_SO mem s) (hr : 0 ≤ r ∧ r ≤ 1) : ja_Mt l D cA B yX3_lineBits cX3_lineBits 6 (some .long) rm_X3_lineBits [.ref s, .int (ja_I r), .int (ja_I i)] lay mem n (ja_rd lay mem n (some (.long (F_lb mem s r i)))) := by
  refine ja_enter [some (.ref s), some (.int (ja_I r)), some (.int (ja_I i)), none, none, none] (by decide) (Nat.le_of_ble_eq_true rfl) (fun q hq => hq) (fun C F Rt G hnm => ?_)
  have hO2 := hO
  obtain ⟨-, -, -, h3, h4, -⟩ := hO2
  refine r_iload_n F rfl rfl dX3_lineBits_0 rfl ?_
  refine r_if_eq F (tgt := 20) ⟨by omega, by omega⟩ dX3_lineBits_1 rfl (by decide) (fun h_1 => ?_) (fun h_1 => ?_)
  ·
    refine r_lconst F (v := 0) rfl dX3_lineBits_20 rfl ?_
    refine r_lst3 F (by decide) rfl dX3_lineBits_21 rfl ?_
    refine r_iconst F dX3_lineBits_22 rfl ?_
    refine r_ist5 F (by decide) rfl dX3_lineBits_23 rfl ?_
    have loop : ∀ (d k : Nat), k + d = (mem s 4).toNat → ja_W C 0 0 lay (mem) n 25 [some (.ref s), some (.int (ja_I r)), some (.int (ja_I i)), some (.long (F_lbc (mem s 3) i k)), none, some (.int (ja_I (k : Int)))] [] := by
      intro d
      induction d with
      | zero =>
        intro k hk
        refine r_iload F rfl dX3_lineBits_25 rfl ?_
        refine r_aload_n F rfl rfl dX3_lineBits_27 rfl ?_
        refine r_getI F f_X3_62 hS rfl dX3_lineBits_28 rfl ?_
        refine r_eqz (z := mem s 4) (by simp [ja_up]) ?_
        refine r_icmp_ge F (tgt := 54) ⟨by omega, by omega⟩ ⟨by omega, by omega⟩ dX3_lineBits_31 rfl (by decide) (fun h_31 => ?_) (fun h_31 => ?_)
        ·
          refine r_lload_n F rfl rfl dX3_lineBits_54 rfl ?_
          exact r_lret F Rt dX3_lineBits_55 (by decide) ⟨by rw [F_lb, if_pos (by omega), show (mem s 4).toNat = k by omega], rfl, rfl, rfl⟩
        ·
          exfalso; omega
      | succ d ih =>
        intro k hk
        refine r_iload F rfl dX3_lineBits_25 rfl ?_
        refine r_aload_n F rfl rfl dX3_lineBits_27 rfl ?_
        refine r_getI F f_X3_62 hS rfl dX3_lineBits_28 rfl ?_
        refine r_eqz (z := mem s 4) (by simp [ja_up]) ?_
        refine r_icmp_ge F (tgt := 54) ⟨by omega, by omega⟩ ⟨by omega, by omega⟩ dX3_lineBits_31 rfl (by decide) (fun h_31 => ?_) (fun h_31 => ?_)
        ·
          exfalso; omega
        ·
          refine r_lload_n F rfl rfl dX3_lineBits_34 rfl ?_
          refine r_lconst F (v := 1) rfl dX3_lineBits_35 rfl ?_
          refine r_iload F rfl dX3_lineBits_36 rfl ?_
          refine r_aload_n F rfl rfl dX3_lineBits_38 rfl ?_
          refine r_getI F f_X3_70 hS rfl dX3_lineBits_39 rfl ?_
          refine r_eqz (z := mem s 3) (by simp [ja_up]) ?_
          refine r_imul F dX3_lineBits_42 rfl ?_
          refine r_iload_n F rfl rfl dX3_lineBits_43 rfl ?_
          refine r_iadd F dX3_lineBits_44 rfl ?_
          refine r_lshl F dX3_lineBits_45 rfl ?_
          refine r_lor F dX3_lineBits_46 rfl ?_
          refine r_lst3 F (by decide) rfl dX3_lineBits_47 rfl ?_
          refine r_inc5 F (by decide) rfl dX3_lineBits_48 rfl ?_
          refine r_goto F (tgt := 25) dX3_lineBits_51 (by decide) ?_
          exact ih (k + 1) (by omega)
    exact loop (mem s 4).toNat 0 (by omega)
  ·
    refine r_lconst F (v := 1) rfl dX3_lineBits_4 rfl ?_
    refine r_aload_n F rfl rfl dX3_lineBits_5 rfl ?_
    refine r_getI F f_X3_70 hS rfl dX3_lineBits_6 rfl ?_
    refine r_lshl F dX3_lineBits_9 rfl ?_
    refine r_lconst F (v := 1) rfl dX3_lineBits_10 rfl ?_
    refine r_lsub F dX3_lineBits_11 rfl ?_
    refine r_iload_n F rfl rfl dX3_lineBits_12 rfl ?_
    refine r_aload_n F rfl rfl dX3_lineBits_13 rfl ?_
    refine r_getI F f_X3_70 hS rfl dX3_lineBits_14 rfl ?_
    refine r_imul F dX3_lineBits_17 rfl ?_
    refine r_lshl F dX3_lineBits_18 rfl ?_
    exact r_lret F Rt dX3_lineBits_19 (by decide) ⟨by rw [F_lb, if_neg (by omega)], rfl, rfl, rfl⟩
abbrev rm_X3_withLine : Room := { frames := 1, cells := 0, slots := 0, locals := 25 }
set_option maxRecDepth 100000 in
set_option maxHeartbeats 4000000 in
theorem c_X3_withLine (l : Launch) (D : va_G) (cA : Nat → ClassId) (B : Nat) {lay : ja_Y} {mem : ja_M} {n : Nat} {s : Nat} {x : Int64} {p r i : Int} (hS : ja_LS lay s) (hO : ja_SO mem s) (hr : 0 ≤ r ∧ r ≤ 1) : ja_Mt l D cA B yX3_withLine cX3_withLine 8 (some .long) rm_X3_withLine [.ref s, .long x, .int (ja_I p), .int (ja_I r), .int (ja_I i)] lay mem n (ja_rd lay mem n (some (.long (F_wl mem s x p r i)))) := by
  refine ja_enter [some (.ref s), some (.long x), none, some (.int (ja_I p)), some (.int (ja_I r)), some (.int (ja_I i)), none, none] (by decide) (Nat.le_of_ble_eq_true rfl) (fun q hq => hq) (fun C F Rt G hnm => ?_)
  refine r_iload_n F rfl rfl dX3_withLine_0 rfl ?_
  refine r_iload F rfl dX3_withLine_1 rfl ?_
  refine r_iload F rfl dX3_withLine_3 rfl ?_
  refine r_callS F G (c_X3_packetBit _ _ _ _ ⟨by omega, by omega⟩) s_X3_34 rfl (by decide) (by decide) (Nat.le_of_ble_eq_true rfl) rfl dX3_withLine_5 rfl (fun v lay' mem' n' hp => ?_)
  obtain ⟨q1, q2, q3, q4⟩ := hp
  subst q1; subst q2; subst q3; subst q4
  refine r_iand F (ja_of' _) dX3_withLine_8 rfl ?_
  refine r_if_ne F (tgt := 14) (ja_range _) dX3_withLine_9 rfl (by decide) (fun h_9 => ?_) (fun h_9 => ?_)
  ·
    refine r_aload_n F rfl rfl dX3_withLine_14 rfl ?_
    refine r_iload F rfl dX3_withLine_15 rfl ?_
    refine r_iload F rfl dX3_withLine_17 rfl ?_
    refine r_callS F G (c_X3_lineBits _ _ _ _ hS hO ⟨by omega, by omega⟩) s_X3_54 rfl (by decide) (by decide) (Nat.le_of_ble_eq_true rfl) rfl dX3_withLine_19 rfl (fun v lay' mem' n' hp => ?_)
    obtain ⟨q1, q2, q3, q4⟩ := hp
    subst q1; subst q2; subst q3; subst q4
    refine r_lload_n F rfl rfl dX3_withLine_22 rfl ?_
    refine r_ldc2 F l_X3_46 dX3_withLine_23 rfl ?_
    refine r_lxor F dX3_withLine_26 rfl ?_
    refine r_land F dX3_withLine_27 rfl ?_
    refine r_lst6 F (by decide) rfl dX3_withLine_28 rfl ?_
    refine r_lload F rfl dX3_withLine_30 rfl ?_
    refine r_callS F G (c_J13_bitCount_95d88 _ _ _ _ ) s_X3_48 rfl (by decide) (by decide) (Nat.le_of_ble_eq_true rfl) rfl dX3_withLine_32 rfl (fun v lay' mem' n' hp => ?_)
    obtain ⟨q1, q2, q3, q4⟩ := hp
    subst q1; subst q2; subst q3; subst q4
    refine r_iconst F dX3_withLine_35 rfl ?_
    refine r_icmp_ne F (tgt := 46) ⟨by have := (J_bc_le (F_lb mem s r i &&& (x ^^^ (-1)))).1; omega, by have := (J_bc_le (F_lb mem s r i &&& (x ^^^ (-1)))).2; omega⟩ ⟨by omega, by omega⟩ dX3_withLine_36 rfl (by decide) (fun h_36 => ?_) (fun h_36 => ?_)
    ·
      refine r_lload_n F rfl rfl dX3_withLine_46 rfl ?_
      exact r_lret F Rt dX3_withLine_47 (by decide) ⟨by rw [F_wl, if_neg h_9]; first | rw [if_pos h_36] | rw [if_neg h_36], rfl, rfl, rfl⟩
    ·
      refine r_lload_n F rfl rfl dX3_withLine_39 rfl ?_
      refine r_lload F rfl dX3_withLine_40 rfl ?_
      refine r_lor F dX3_withLine_42 rfl ?_
      refine r_goto F (tgt := 47) dX3_withLine_43 (by decide) ?_
      exact r_lret F Rt dX3_withLine_47 (by decide) ⟨by rw [F_wl, if_neg h_9]; first | rw [if_pos h_36] | rw [if_neg h_36], rfl, rfl, rfl⟩
  ·
    refine r_lload_n F rfl rfl dX3_withLine_12 rfl ?_
    exact r_lret F Rt dX3_withLine_13 (by decide) ⟨by rw [F_wl, if_pos h_9], rfl, rfl, rfl⟩
abbrev rm_X3_completed : Room := { frames := 2, cells := 0, slots := 0, locals := 52 }
set_option maxRecDepth 100000 in
set_option maxHeartbeats 4000000 in
theorem c_X3_completed (l : Launch) (D : va_G) (cA : Nat → ClassId) (B : Nat) {lay : ja_Y} {mem : ja_M} {n : Nat} {s : Nat} {x0 : Int64} {p : Int} (hS : ja_LS lay s) (hO : ja_SO mem s) : ja_Mt l D cA B yX3_completed cX3_completed 10 (some .long) rm_X3_completed [.ref s, .long x0, .int (ja_I p)] lay mem n (ja_rd lay mem n (some (.long (F_cp mem s p 37 x0)))) := by
  refine ja_enter [some (.ref s), some (.long x0), none, some (.int (ja_I p)), none, none, none, none, none, none] (by decide) (Nat.le_of_ble_eq_true rfl) (fun q hq => hq) (fun C F Rt G hnm => ?_)
  have hO2 := hO
  obtain ⟨-, -, -, h3, h4, -⟩ := hO2
  refine r_lload_n F rfl rfl dX3_completed_0 rfl ?_
  refine r_lst4 F (by decide) rfl dX3_completed_1 rfl ?_
  refine r_iconst F dX3_completed_3 rfl ?_
  refine r_ist6 F (by decide) rfl dX3_completed_4 rfl ?_
  have loop : ∀ (d r : Nat), r + d = 37 → ∀ x : Int64, F_cp mem s p d x = F_cp mem s p 37 x0 → ja_W C 0 0 lay mem n 6 [some (.ref s), some (.long x0), none, some (.int (ja_I p)), some (.long x), none, some (.int (ja_I (r : Int))), none, none, none] [] := by
    intro d
    induction d with
    | zero =>
      intro r hk x hx
      refine r_iload F rfl dX3_completed_6 rfl ?_
      refine r_bipush F (by decide) dX3_completed_8 rfl ?_
      refine r_icmp_gt F (tgt := 94) ⟨by omega, by omega⟩ ⟨by omega, by omega⟩ dX3_completed_10 rfl (by decide) (fun h_10 => ?_) (fun h_10 => ?_)
      ·
        refine r_pc rfl ?_
        refine r_lload F rfl dX3_completed_94 rfl ?_
        exact r_lret F Rt dX3_completed_96 (by decide) ⟨by rw [← hx]; rfl, rfl, rfl, rfl⟩
      ·
        exfalso; omega
    | succ d ih =>
      intro r hk x hx
      refine r_iload F rfl dX3_completed_6 rfl ?_
      refine r_bipush F (by decide) dX3_completed_8 rfl ?_
      refine r_icmp_gt F (tgt := 94) ⟨by omega, by omega⟩ ⟨by omega, by omega⟩ dX3_completed_10 rfl (by decide) (fun h_10 => ?_) (fun h_10 => ?_)
      ·
        exfalso; omega
      ·
        refine r_lload F rfl dX3_completed_13 rfl ?_
        refine r_lst7 F (by decide) rfl dX3_completed_15 rfl ?_
        refine r_iconst F dX3_completed_17 rfl ?_
        refine r_ist9 F (by decide) rfl dX3_completed_18 rfl ?_
        have rl : ∀ (d k : Nat), k + d = (mem s 4).toNat → ja_W C 0 0 lay (mem) n 20 [some (.ref s), some (.long x0), none, some (.int (ja_I p)), some (.long (F_ln mem s p 1 x k)), none, some (.int (ja_I (r : Int))), some (.long x), none, some (.int (ja_I (k : Int)))] [] := by
          intro d
          induction d with
          | zero =>
            intro k hk
            refine r_iload F rfl dX3_completed_20 rfl ?_
            refine r_aload_n F rfl rfl dX3_completed_22 rfl ?_
            refine r_getI F f_X3_62 hS rfl dX3_completed_23 rfl ?_
            refine r_eqz (z := mem s 4) (by simp [ja_up]) ?_
            refine r_icmp_ge F (tgt := 47) ⟨by omega, by omega⟩ ⟨by omega, by omega⟩ dX3_completed_26 rfl (by decide) (fun h_26 => ?_) (fun h_26 => ?_)
            ·
              rw [show k = (mem s 4).toNat by omega]
              refine r_iconst F dX3_completed_47 rfl ?_
              refine r_ist9 F (by decide) rfl dX3_completed_48 rfl ?_
              have cl : ∀ (d k : Nat), k + d = (mem s 3).toNat → ja_W C 0 0 lay (mem) n 50 [some (.ref s), some (.long x0), none, some (.int (ja_I p)), some (.long (F_ln mem s p 0 (F_ln mem s p 1 x (mem s 4).toNat) k)), none, some (.int (ja_I (r : Int))), some (.long x), none, some (.int (ja_I (k : Int)))] [] := by
                intro d
                induction d with
                | zero =>
                  intro k hk
                  refine r_iload F rfl dX3_completed_50 rfl ?_
                  refine r_aload_n F rfl rfl dX3_completed_52 rfl ?_
                  refine r_getI F f_X3_70 hS rfl dX3_completed_53 rfl ?_
                  refine r_eqz (z := mem s 3) (by simp [ja_up]) ?_
                  refine r_icmp_ge F (tgt := 77) ⟨by omega, by omega⟩ ⟨by omega, by omega⟩ dX3_completed_56 rfl (by decide) (fun h_56 => ?_) (fun h_56 => ?_)
                  ·
                    rw [show k = (mem s 3).toNat by omega]
                    refine r_msk [true, true, true, true, true, true, true, true, true, false] rfl ?_
                    refine r_lload F rfl dX3_completed_77 rfl ?_
                    refine r_lload F rfl dX3_completed_79 rfl ?_
                    refine r_lcmp F dX3_completed_81 rfl ?_
                    refine r_eqi ja_lcmp0 ?_
                    refine r_if_ne F (tgt := 88) ja_lc_in dX3_completed_82 rfl (by decide) (fun h_82 => ?_) (fun h_82 => ?_)
                    ·
                      refine r_inc6 F (by decide) rfl dX3_completed_88 rfl ?_
                      refine r_goto F (tgt := 6) dX3_completed_91 (by decide) ?_
                      refine r_msk [true, true, true, true, true, true, true, false, false, false] rfl ?_
                      exact ih (r + 1) (by omega) (F_rd mem s p x) (by rw [← hx]; simp only [F_cp]; rw [if_neg (fun q => h_82 (ja_lc_0.mpr q))])
                    ·
                      refine r_goto F (tgt := 94) dX3_completed_85 (by decide) ?_
                      refine r_lload F rfl dX3_completed_94 rfl ?_
                      exact r_lret F Rt dX3_completed_96 (by decide) ⟨by rw [← hx]; simp only [F_cp]; rw [if_pos (ja_lc_0.mp h_82), ja_lc_0.mp h_82], rfl, rfl, rfl⟩
                  ·
                    exfalso; omega
                | succ d ih =>
                  intro k hk
                  refine r_iload F rfl dX3_completed_50 rfl ?_
                  refine r_aload_n F rfl rfl dX3_completed_52 rfl ?_
                  refine r_getI F f_X3_70 hS rfl dX3_completed_53 rfl ?_
                  refine r_eqz (z := mem s 3) (by simp [ja_up]) ?_
                  refine r_icmp_ge F (tgt := 77) ⟨by omega, by omega⟩ ⟨by omega, by omega⟩ dX3_completed_56 rfl (by decide) (fun h_56 => ?_) (fun h_56 => ?_)
                  ·
                    exfalso; omega
                  ·
                    refine r_aload_n F rfl rfl dX3_completed_59 rfl ?_
                    refine r_lload F rfl dX3_completed_60 rfl ?_
                    refine r_iload_n F rfl rfl dX3_completed_62 rfl ?_
                    refine r_iconst F dX3_completed_63 rfl ?_
                    refine r_iload F rfl dX3_completed_64 rfl ?_
                    refine r_callS F G (c_X3_withLine _ _ _ _ hS hO ⟨by omega, by omega⟩) s_X3_66 rfl (by decide) (by decide) (Nat.le_of_ble_eq_true rfl) rfl dX3_completed_66 rfl (fun v lay' mem' n' hp => ?_)
                    obtain ⟨q1, q2, q3, q4⟩ := hp
                    subst q1; subst q2; subst q3; subst q4
                    refine r_lst4 F (by decide) rfl dX3_completed_69 rfl ?_
                    refine r_inc9 F (by decide) rfl dX3_completed_71 rfl ?_
                    refine r_goto F (tgt := 50) dX3_completed_74 (by decide) ?_
                    exact ih (k + 1) (by omega)
              exact cl (mem s 3).toNat 0 (by omega)
            ·
              exfalso; omega
          | succ d ih =>
            intro k hk
            refine r_iload F rfl dX3_completed_20 rfl ?_
            refine r_aload_n F rfl rfl dX3_completed_22 rfl ?_
            refine r_getI F f_X3_62 hS rfl dX3_completed_23 rfl ?_
            refine r_eqz (z := mem s 4) (by simp [ja_up]) ?_
            refine r_icmp_ge F (tgt := 47) ⟨by omega, by omega⟩ ⟨by omega, by omega⟩ dX3_completed_26 rfl (by decide) (fun h_26 => ?_) (fun h_26 => ?_)
            ·
              exfalso; omega
            ·
              refine r_aload_n F rfl rfl dX3_completed_29 rfl ?_
              refine r_lload F rfl dX3_completed_30 rfl ?_
              refine r_iload_n F rfl rfl dX3_completed_32 rfl ?_
              refine r_iconst F dX3_completed_33 rfl ?_
              refine r_iload F rfl dX3_completed_34 rfl ?_
              refine r_callS F G (c_X3_withLine _ _ _ _ hS hO ⟨by omega, by omega⟩) s_X3_66 rfl (by decide) (by decide) (Nat.le_of_ble_eq_true rfl) rfl dX3_completed_36 rfl (fun v lay' mem' n' hp => ?_)
              obtain ⟨q1, q2, q3, q4⟩ := hp
              subst q1; subst q2; subst q3; subst q4
              refine r_lst4 F (by decide) rfl dX3_completed_39 rfl ?_
              refine r_inc9 F (by decide) rfl dX3_completed_41 rfl ?_
              refine r_goto F (tgt := 20) dX3_completed_44 (by decide) ?_
              exact ih (k + 1) (by omega)
        exact rl (mem s 4).toNat 0 (by omega)
  exact loop 37 0 (by omega) x0 rfl
abbrev rm_X3_hasPacket : Room := { frames := 1, cells := 0, slots := 0, locals := 21 }
set_option maxRecDepth 100000 in
set_option maxHeartbeats 4000000 in
theorem c_X3_hasPacket (l : Launch) (D : va_G) (cA : Nat → ClassId) (B : Nat) {lay : ja_Y} {mem : ja_M} {n : Nat} {f : Nat} {r k i : Int} (hF : ja_LF lay f) (hr : 0 ≤ r ∧ r ≤ 1) (hk : 0 ≤ k ∧ k < 250) : ja_Mt l D cA B yX3_hasPacket cX3_hasPacket 4 (some .boolean) rm_X3_hasPacket [.ref f, .int (ja_I r), .int (ja_I k), .int (ja_I i)] lay mem n (ja_rd lay mem n (some (.int (ja_I (ja_b (¬ F_and (mem (f + 3) k.toNat) (F_pb r i) = 0)))))) := by
  refine ja_enter [some (.ref f), some (.int (ja_I r)), some (.int (ja_I k)), some (.int (ja_I i))] (by decide) (Nat.le_of_ble_eq_true rfl) (fun q hq => hq) (fun C F Rt G hnm => ?_)
  refine r_aload_n F rfl rfl dX3_hasPacket_0 rfl ?_
  refine r_getR F f_X3_20 (hF.1) rfl dX3_hasPacket_1 rfl ?_
  refine r_iload_n F rfl rfl dX3_hasPacket_4 rfl ?_
  refine r_iald F (ja_LF_3 hF) (by omega) (by omega) (by decide) dX3_hasPacket_5 rfl ?_
  refine r_iload_n F rfl rfl dX3_hasPacket_6 rfl ?_
  refine r_iload_n F rfl rfl dX3_hasPacket_7 rfl ?_
  refine r_callS F G (c_X3_packetBit _ _ _ _ ⟨by omega, by omega⟩) s_X3_34 rfl (by decide) (by decide) (Nat.le_of_ble_eq_true rfl) rfl dX3_hasPacket_8 rfl (fun v lay' mem' n' hp => ?_)
  obtain ⟨q1, q2, q3, q4⟩ := hp
  subst q1; subst q2; subst q3; subst q4
  refine r_iand F (ja_of' _) dX3_hasPacket_11 rfl ?_
  refine r_if_eq F (tgt := 19) (ja_range _) dX3_hasPacket_12 rfl (by decide) (fun h_12 => ?_) (fun h_12 => ?_)
  ·
    refine r_iconst F dX3_hasPacket_19 rfl ?_
    exact r_zret F Rt (by omega) dX3_hasPacket_20 (by decide) ⟨by simp only [ja_b]; first | rw [if_pos h_12] | rw [if_neg (fun q => q h_12)], rfl, rfl, rfl⟩
  ·
    refine r_iconst F dX3_hasPacket_15 rfl ?_
    refine r_goto F (tgt := 20) dX3_hasPacket_16 (by decide) ?_
    exact r_zret F Rt (by omega) dX3_hasPacket_20 (by decide) ⟨by simp only [ja_b]; first | rw [if_pos h_12] | rw [if_neg (fun q => q h_12)], rfl, rfl, rfl⟩
abbrev rm_X3_stateOf : Room := { frames := 1, cells := 0, slots := 0, locals := 20 }
set_option maxRecDepth 100000 in
set_option maxHeartbeats 4000000 in
theorem c_X3_stateOf (l : Launch) (D : va_G) (cA : Nat → ClassId) (B : Nat) {lay : ja_Y} {mem : ja_M} {n : Nat} {s f : Nat} {x : Int} (hF : ja_LF lay f) (hS : ja_LS lay s) (hO : ja_SO mem s) (hx : 0 ≤ x ∧ x ≤ 999) : ja_Mt l D cA B yX3_stateOf cX3_stateOf 5 (some .int) rm_X3_stateOf [.ref f, .ref s, .int (ja_I x)] lay mem n (ja_rd lay mem n (some (.int (ja_I (F_st mem s f x))))) := by
  refine ja_enter [some (.ref f), some (.ref s), some (.int (ja_I x)), none, none] (by decide) (Nat.le_of_ble_eq_true rfl) (fun q hq => hq) (fun C F Rt G hnm => ?_)
  have g := ja_blk hO hx
  have hc := hO.cells
  refine r_iload_n F rfl rfl dX3_stateOf_0 rfl ?_
  refine r_aload_n F rfl rfl dX3_stateOf_1 rfl ?_
  refine r_callV F G (c_X6_cells _ _ _ _ hS) v_X3_30 rfl hS rfl (by decide) (by decide) (Nat.le_of_ble_eq_true rfl) rfl dX3_stateOf_2 rfl (fun v lay' mem' n' hp => ?_)
  obtain ⟨q1, q2, q3, q4⟩ := hp
  subst q1; subst q2; subst q3; subst q4
  refine r_idivP F ⟨by omega, by omega⟩ ⟨by omega, by omega⟩ (by omega) (by omega) dX3_stateOf_5 rfl ?_
  refine r_ist3 F (by decide) rfl dX3_stateOf_6 rfl ?_
  refine r_iload_n F rfl rfl dX3_stateOf_7 rfl ?_
  refine r_aload_n F rfl rfl dX3_stateOf_8 rfl ?_
  refine r_callV F G (c_X6_cells _ _ _ _ hS) v_X3_30 rfl hS rfl (by decide) (by decide) (Nat.le_of_ble_eq_true rfl) rfl dX3_stateOf_9 rfl (fun v lay' mem' n' hp => ?_)
  obtain ⟨q1, q2, q3, q4⟩ := hp
  subst q1; subst q2; subst q3; subst q4
  refine r_iremP F ⟨by omega, by omega⟩ ⟨by omega, by omega⟩ (by omega) (by omega) dX3_stateOf_12 rfl ?_
  refine r_ist4 F (by decide) rfl dX3_stateOf_13 rfl ?_
  refine r_aload_n F rfl rfl dX3_stateOf_15 rfl ?_
  refine r_getR F f_X3_17 (hF.1) rfl dX3_stateOf_16 rfl ?_
  refine r_iload_n F rfl rfl dX3_stateOf_19 rfl ?_
  refine r_lald F (ja_LF_2 hF) (by omega) (by omega) (by decide) dX3_stateOf_20 rfl ?_
  refine r_iload F rfl dX3_stateOf_21 rfl ?_
  refine r_lshr F dX3_stateOf_23 rfl ?_
  refine r_lconst F (v := 1) rfl dX3_stateOf_24 rfl ?_
  refine r_land F dX3_stateOf_25 rfl ?_
  refine r_lconst F (v := 0) rfl dX3_stateOf_26 rfl ?_
  refine r_lcmp F dX3_stateOf_27 rfl ?_
  refine r_eqi ja_lcmp0 ?_
  refine r_if_eq F (tgt := 33) ja_lc_in dX3_stateOf_28 rfl (by decide) (fun h_28 => ?_) (fun h_28 => ?_)
  ·
    refine r_aload_n F rfl rfl dX3_stateOf_33 rfl ?_
    refine r_getR F f_X3_13 (hF.1) rfl dX3_stateOf_34 rfl ?_
    refine r_iload_n F rfl rfl dX3_stateOf_37 rfl ?_
    refine r_lald F (ja_LF_1 hF) (by omega) (by omega) (by decide) dX3_stateOf_38 rfl ?_
    refine r_iload F rfl dX3_stateOf_39 rfl ?_
    refine r_lshr F dX3_stateOf_41 rfl ?_
    refine r_lconst F (v := 1) rfl dX3_stateOf_42 rfl ?_
    refine r_land F dX3_stateOf_43 rfl ?_
    refine r_lconst F (v := 0) rfl dX3_stateOf_44 rfl ?_
    refine r_lcmp F dX3_stateOf_45 rfl ?_
    refine r_eqi ja_lcmp0 ?_
    refine r_if_eq F (tgt := 53) ja_lc_in dX3_stateOf_46 rfl (by decide) (fun h_46 => ?_) (fun h_46 => ?_)
    ·
      refine r_iconst F dX3_stateOf_53 rfl ?_
      exact r_iret F Rt dX3_stateOf_54 (by decide) ⟨by rw [F_st, if_pos (ja_lc_0.mp h_28)]; first | rw [if_pos (ja_lc_0.mp h_46)] | rw [if_neg (fun q => h_46 (ja_lc_0.mpr q))], rfl, rfl, rfl⟩
    ·
      refine r_iconst F dX3_stateOf_49 rfl ?_
      refine r_goto F (tgt := 54) dX3_stateOf_50 (by decide) ?_
      exact r_iret F Rt dX3_stateOf_54 (by decide) ⟨by rw [F_st, if_pos (ja_lc_0.mp h_28)]; first | rw [if_pos (ja_lc_0.mp h_46)] | rw [if_neg (fun q => h_46 (ja_lc_0.mpr q))], rfl, rfl, rfl⟩
  ·
    refine r_iconst F dX3_stateOf_31 rfl ?_
    exact r_iret F Rt dX3_stateOf_32 (by decide) ⟨by rw [F_st, if_neg (fun q => h_28 (ja_lc_0.mpr q))], rfl, rfl, rfl⟩
abbrev rm_X3_addFrame : Room := { frames := 1, cells := 0, slots := 0, locals := 20 }
set_option maxRecDepth 100000 in
set_option maxHeartbeats 4000000 in
theorem c_X3_addFrame (l : Launch) (D : va_G) (cA : Nat → ClassId) (B : Nat) {lay : ja_Y} {mem : ja_M} {n : Nat} {s f : Nat} {x : Int} (hF : ja_LF lay f) (hS : ja_LS lay s) (hO : ja_SO mem s) (hx : 0 ≤ x ∧ x ≤ 999) (sf : s < f) : ja_Mt l D cA B yX3_addFrame cX3_addFrame 6 none rm_X3_addFrame [.ref f, .ref s, .int (ja_I x)] lay mem n (ja_rd lay (F_ad mem s f x) n (none)) := by
  refine ja_enter [some (.ref f), some (.ref s), some (.int (ja_I x)), none, none, none] (by decide) (Nat.le_of_ble_eq_true rfl) (fun q hq => hq) (fun C F Rt G hnm => ?_)
  have g := ja_blk hO hx
  have hc := hO.cells
  refine r_iload_n F rfl rfl dX3_addFrame_0 rfl ?_
  refine r_aload_n F rfl rfl dX3_addFrame_1 rfl ?_
  refine r_callV F G (c_X6_cells _ _ _ _ hS) v_X3_30 rfl hS rfl (by decide) (by decide) (Nat.le_of_ble_eq_true rfl) rfl dX3_addFrame_2 rfl (fun v lay' mem' n' hp => ?_)
  obtain ⟨q1, q2, q3, q4⟩ := hp
  subst q1; subst q2; subst q3; subst q4
  refine r_idivP F ⟨by omega, by omega⟩ ⟨by omega, by omega⟩ (by omega) (by omega) dX3_addFrame_5 rfl ?_
  refine r_ist3 F (by decide) rfl dX3_addFrame_6 rfl ?_
  refine r_lconst F (v := 1) rfl dX3_addFrame_7 rfl ?_
  refine r_iload_n F rfl rfl dX3_addFrame_8 rfl ?_
  refine r_aload_n F rfl rfl dX3_addFrame_9 rfl ?_
  refine r_callV F G (c_X6_cells _ _ _ _ hS) v_X3_30 rfl hS rfl (by decide) (by decide) (Nat.le_of_ble_eq_true rfl) rfl dX3_addFrame_10 rfl (fun v lay' mem' n' hp => ?_)
  obtain ⟨q1, q2, q3, q4⟩ := hp
  subst q1; subst q2; subst q3; subst q4
  refine r_iremP F ⟨by omega, by omega⟩ ⟨by omega, by omega⟩ (by omega) (by omega) dX3_addFrame_13 rfl ?_
  refine r_lshl F dX3_addFrame_14 rfl ?_
  refine r_lst4 F (by decide) rfl dX3_addFrame_15 rfl ?_
  refine r_aload_n F rfl rfl dX3_addFrame_17 rfl ?_
  refine r_getR F f_X3_17 (hF.1) rfl dX3_addFrame_18 rfl ?_
  refine r_iload_n F rfl rfl dX3_addFrame_21 rfl ?_
  refine r_dup2 F rfl rfl dX3_addFrame_22 rfl ?_
  refine r_lald F (ja_LF_2 hF) (by omega) (by omega) (by decide) dX3_addFrame_23 rfl ?_
  refine r_lload F rfl dX3_addFrame_24 rfl ?_
  refine r_lor F dX3_addFrame_26 rfl ?_
  refine r_last F (ja_LF_2 hF) (by omega) (by omega) (by decide) dX3_addFrame_27 rfl ?_
  refine r_aload_n F rfl rfl dX3_addFrame_28 rfl ?_
  refine r_getR F f_X3_13 (hF.1) rfl dX3_addFrame_29 rfl ?_
  refine r_iload_n F rfl rfl dX3_addFrame_32 rfl ?_
  refine r_dup2 F rfl rfl dX3_addFrame_33 rfl ?_
  refine r_lald F (ja_LF_1 hF) (by omega) (by omega) (by decide) dX3_addFrame_34 rfl ?_
  refine r_lload F rfl dX3_addFrame_35 rfl ?_
  refine r_lor F dX3_addFrame_37 rfl ?_
  refine r_last F (ja_LF_1 hF) (by omega) (by omega) (by decide) dX3_addFrame_38 rfl ?_
  exact r_vret F Rt dX3_addFrame_39 (by decide) ⟨rfl, rfl, by unfold F_ad; congr 3; rw [ja_up_a (by omega)], rfl⟩
abbrev rm_X3_addPacket : Room := { frames := 1, cells := 0, slots := 0, locals := 21 }
set_option maxRecDepth 100000 in
set_option maxHeartbeats 4000000 in
theorem c_X3_addPacket (l : Launch) (D : va_G) (cA : Nat → ClassId) (B : Nat) {lay : ja_Y} {mem : ja_M} {n : Nat} {f : Nat} {r k i : Int} (hF : ja_LF lay f) (hr : 0 ≤ r ∧ r ≤ 1) (hk : 0 ≤ k ∧ k < 250) : ja_Mt l D cA B yX3_addPacket cX3_addPacket 4 none rm_X3_addPacket [.ref f, .int (ja_I r), .int (ja_I k), .int (ja_I i)] lay mem n (ja_rd lay (F_ap mem f r k i) n (none)) := by
  refine ja_enter [some (.ref f), some (.int (ja_I r)), some (.int (ja_I k)), some (.int (ja_I i))] (by decide) (Nat.le_of_ble_eq_true rfl) (fun q hq => hq) (fun C F Rt G hnm => ?_)
  refine r_aload_n F rfl rfl dX3_addPacket_0 rfl ?_
  refine r_getR F f_X3_20 (hF.1) rfl dX3_addPacket_1 rfl ?_
  refine r_iload_n F rfl rfl dX3_addPacket_4 rfl ?_
  refine r_dup2 F rfl rfl dX3_addPacket_5 rfl ?_
  refine r_iald F (ja_LF_3 hF) (by omega) (by omega) (by decide) dX3_addPacket_6 rfl ?_
  refine r_iload_n F rfl rfl dX3_addPacket_7 rfl ?_
  refine r_iload_n F rfl rfl dX3_addPacket_8 rfl ?_
  refine r_callS F G (c_X3_packetBit _ _ _ _ ⟨by omega, by omega⟩) s_X3_34 rfl (by decide) (by decide) (Nat.le_of_ble_eq_true rfl) rfl dX3_addPacket_9 rfl (fun v lay' mem' n' hp => ?_)
  obtain ⟨q1, q2, q3, q4⟩ := hp
  subst q1; subst q2; subst q3; subst q4
  refine r_ior F (ja_of' _) dX3_addPacket_12 rfl ?_
  refine r_iast F (ja_LF_3 hF) (by omega) (by omega) (by decide) dX3_addPacket_13 rfl ?_
  exact r_vret F Rt dX3_addPacket_14 (by decide) ⟨rfl, rfl, rfl, rfl⟩
abbrev rm_X3_knownIn : Room := { frames := 1, cells := 0, slots := 0, locals := 20 }
set_option maxRecDepth 100000 in
set_option maxHeartbeats 4000000 in
theorem c_X3_knownIn (l : Launch) (D : va_G) (cA : Nat → ClassId) (B : Nat) {lay : ja_Y} {mem : ja_M} {n : Nat} {s f : Nat} {k : Int} (hF : ja_LF lay f) (hS : ja_LS lay s) (hO : ja_SO mem s) (hk : ja_hasB mem s k) : ja_Mt l D cA B yX3_knownIn cX3_knownIn 6 (some .long) rm_X3_knownIn [.ref f, .ref s, .int (ja_I k)] lay mem n (ja_rd lay mem n (some (.long (F_kn mem s f k)))) := by
  refine ja_enter [some (.ref f), some (.ref s), some (.int (ja_I k)), none, none, none] (by decide) (Nat.le_of_ble_eq_true rfl) (fun q hq => hq) (fun C F Rt G hnm => ?_)
  have g := ja_blk2 hO hk
  have hc := hO.cells
  refine r_sipush F (by decide) dX3_knownIn_0 rfl ?_
  refine r_iload_n F rfl rfl dX3_knownIn_3 rfl ?_
  refine r_aload_n F rfl rfl dX3_knownIn_4 rfl ?_
  refine r_callV F G (c_X6_cells _ _ _ _ hS) v_X3_30 rfl hS rfl (by decide) (by decide) (Nat.le_of_ble_eq_true rfl) rfl dX3_knownIn_5 rfl (fun v lay' mem' n' hp => ?_)
  obtain ⟨q1, q2, q3, q4⟩ := hp
  subst q1; subst q2; subst q3; subst q4
  refine r_imul F dX3_knownIn_8 rfl ?_
  refine r_isub F dX3_knownIn_9 rfl ?_
  refine r_ist3 F (by decide) rfl dX3_knownIn_10 rfl ?_
  refine r_iload_n F rfl rfl dX3_knownIn_11 rfl ?_
  refine r_bipush F (by decide) dX3_knownIn_12 rfl ?_
  refine r_icmp_ge F (tgt := 25) ⟨by omega, by omega⟩ ⟨by omega, by omega⟩ dX3_knownIn_14 rfl (by decide) (fun h_14 => ?_) (fun h_14 => ?_)
  ·
    refine r_lconst F (v := 0) rfl dX3_knownIn_25 rfl ?_
    refine r_lst4 F (by decide) rfl dX3_knownIn_26 rfl ?_
    refine r_aload_n F rfl rfl dX3_knownIn_28 rfl ?_
    refine r_getR F f_X3_13 (hF.1) rfl dX3_knownIn_29 rfl ?_
    refine r_iload_n F rfl rfl dX3_knownIn_32 rfl ?_
    refine r_lald F (ja_LF_1 hF) (by omega) (by omega) (by decide) dX3_knownIn_33 rfl ?_
    refine r_lload F rfl dX3_knownIn_34 rfl ?_
    refine r_lor F dX3_knownIn_36 rfl ?_
    exact r_lret F Rt dX3_knownIn_37 (by decide) ⟨by unfold F_kn F_bey; first | rw [if_pos (by omega)] | rw [if_neg (by omega)], rfl, rfl, rfl⟩
  ·
    refine r_ldc2 F l_X3_46 dX3_knownIn_17 rfl ?_
    refine r_iload_n F rfl rfl dX3_knownIn_20 rfl ?_
    refine r_lshl F dX3_knownIn_21 rfl ?_
    refine r_goto F (tgt := 26) dX3_knownIn_22 (by decide) ?_
    refine r_lst4 F (by decide) rfl dX3_knownIn_26 rfl ?_
    refine r_aload_n F rfl rfl dX3_knownIn_28 rfl ?_
    refine r_getR F f_X3_13 (hF.1) rfl dX3_knownIn_29 rfl ?_
    refine r_iload_n F rfl rfl dX3_knownIn_32 rfl ?_
    refine r_lald F (ja_LF_1 hF) (by omega) (by omega) (by decide) dX3_knownIn_33 rfl ?_
    refine r_lload F rfl dX3_knownIn_34 rfl ?_
    refine r_lor F dX3_knownIn_36 rfl ?_
    exact r_lret F Rt dX3_knownIn_37 (by decide) ⟨by unfold F_kn F_bey; first | rw [if_pos (by omega)] | rw [if_neg (by omega)], rfl, rfl, rfl⟩
abbrev rm_X3_restoreIn : Room := { frames := 3, cells := 0, slots := 0, locals := 81 }
set_option maxRecDepth 100000 in
set_option maxHeartbeats 4000000 in
theorem c_X3_restoreIn (l : Launch) (D : va_G) (cA : Nat → ClassId) (B : Nat) {lay : ja_Y} {mem : ja_M} {n : Nat} {s f : Nat} {k : Int} (hF : ja_LF lay f) (hS : ja_LS lay s) (hO : ja_SO mem s) (hk : ja_hasB mem s k) : ja_Mt l D cA B yX3_restoreIn cX3_restoreIn 7 (some .int) rm_X3_restoreIn [.ref f, .ref s, .int (ja_I k)] lay mem n (ja_rd lay (ja_up mem (f + 1) k.toNat (F_re mem s f k).toInt) n (some (.int (ja_I (J_bc (F_re mem s f k &&& (F_kn mem s f k ^^^ (-1)))))))) := by
  refine ja_enter [some (.ref f), some (.ref s), some (.int (ja_I k)), none, none, none, none] (by decide) (Nat.le_of_ble_eq_true rfl) (fun q hq => hq) (fun C F Rt G hnm => ?_)
  have g := ja_blk2 hO hk
  refine r_aload_n F rfl rfl dX3_restoreIn_0 rfl ?_
  refine r_aload_n F rfl rfl dX3_restoreIn_1 rfl ?_
  refine r_iload_n F rfl rfl dX3_restoreIn_2 rfl ?_
  refine r_callV F G (c_X3_knownIn _ _ _ _ hF hS hO hk) v_X3_38 rfl (hF.1) rfl (by decide) (by decide) (Nat.le_of_ble_eq_true rfl) rfl dX3_restoreIn_3 rfl (fun v lay' mem' n' hp => ?_)
  obtain ⟨q1, q2, q3, q4⟩ := hp
  subst q1; subst q2; subst q3; subst q4
  refine r_lst3 F (by decide) rfl dX3_restoreIn_6 rfl ?_
  refine r_aload_n F rfl rfl dX3_restoreIn_7 rfl ?_
  refine r_lload_n F rfl rfl dX3_restoreIn_8 rfl ?_
  refine r_aload_n F rfl rfl dX3_restoreIn_9 rfl ?_
  refine r_getR F f_X3_20 (hF.1) rfl dX3_restoreIn_10 rfl ?_
  refine r_iload_n F rfl rfl dX3_restoreIn_13 rfl ?_
  refine r_iald F (ja_LF_3 hF) (by omega) (by omega) (by decide) dX3_restoreIn_14 rfl ?_
  refine r_callS F G (c_X3_completed _ _ _ _ hS hO) s_X3_42 rfl (by decide) (by decide) (Nat.le_of_ble_eq_true rfl) rfl dX3_restoreIn_15 rfl (fun v lay' mem' n' hp => ?_)
  obtain ⟨q1, q2, q3, q4⟩ := hp
  subst q1; subst q2; subst q3; subst q4
  refine r_lst5 F (by decide) rfl dX3_restoreIn_18 rfl ?_
  refine r_aload_n F rfl rfl dX3_restoreIn_20 rfl ?_
  refine r_getR F f_X3_13 (hF.1) rfl dX3_restoreIn_21 rfl ?_
  refine r_iload_n F rfl rfl dX3_restoreIn_24 rfl ?_
  refine r_lload F rfl dX3_restoreIn_25 rfl ?_
  refine r_last F (ja_LF_1 hF) (by omega) (by omega) (by decide) dX3_restoreIn_27 rfl ?_
  refine r_lload F rfl dX3_restoreIn_28 rfl ?_
  refine r_lload_n F rfl rfl dX3_restoreIn_30 rfl ?_
  refine r_ldc2 F l_X3_46 dX3_restoreIn_31 rfl ?_
  refine r_lxor F dX3_restoreIn_34 rfl ?_
  refine r_land F dX3_restoreIn_35 rfl ?_
  refine r_callS F G (c_J13_bitCount_95d88 _ _ _ _ ) s_X3_48 rfl (by decide) (by decide) (Nat.le_of_ble_eq_true rfl) rfl dX3_restoreIn_36 rfl (fun v lay' mem' n' hp => ?_)
  obtain ⟨q1, q2, q3, q4⟩ := hp
  subst q1; subst q2; subst q3; subst q4
  exact r_iret F Rt dX3_restoreIn_39 (by decide) ⟨rfl, rfl, rfl, rfl⟩
abbrev rm_X3_missingIn : Room := { frames := 2, cells := 0, slots := 0, locals := 45 }
set_option maxRecDepth 100000 in
set_option maxHeartbeats 4000000 in
theorem c_X3_missingIn (l : Launch) (D : va_G) (cA : Nat → ClassId) (B : Nat) {lay : ja_Y} {mem : ja_M} {n : Nat} {s f : Nat} {r k i : Int} (hF : ja_LF lay f) (hS : ja_LS lay s) (hO : ja_SO mem s) (hr : 0 ≤ r ∧ r ≤ 1) (hk : ja_hasB mem s k) : ja_Mt l D cA B yX3_missingIn cX3_missingIn 5 (some .int) rm_X3_missingIn [.ref f, .ref s, .int (ja_I r), .int (ja_I k), .int (ja_I i)] lay mem n (ja_rd lay mem n (some (.int (ja_I (J_bc (F_lb mem s r i &&& (F_kn mem s f k ^^^ (-1)))))))) := by
  refine ja_enter [some (.ref f), some (.ref s), some (.int (ja_I r)), some (.int (ja_I k)), some (.int (ja_I i))] (by decide) (Nat.le_of_ble_eq_true rfl) (fun q hq => hq) (fun C F Rt G hnm => ?_)
  refine r_aload_n F rfl rfl dX3_missingIn_0 rfl ?_
  refine r_iload_n F rfl rfl dX3_missingIn_1 rfl ?_
  refine r_iload F rfl dX3_missingIn_2 rfl ?_
  refine r_callS F G (c_X3_lineBits _ _ _ _ hS hO ⟨by omega, by omega⟩) s_X3_54 rfl (by decide) (by decide) (Nat.le_of_ble_eq_true rfl) rfl dX3_missingIn_4 rfl (fun v lay' mem' n' hp => ?_)
  obtain ⟨q1, q2, q3, q4⟩ := hp
  subst q1; subst q2; subst q3; subst q4
  refine r_aload_n F rfl rfl dX3_missingIn_7 rfl ?_
  refine r_aload_n F rfl rfl dX3_missingIn_8 rfl ?_
  refine r_iload_n F rfl rfl dX3_missingIn_9 rfl ?_
  refine r_callV F G (c_X3_knownIn _ _ _ _ hF hS hO hk) v_X3_38 rfl (hF.1) rfl (by decide) (by decide) (Nat.le_of_ble_eq_true rfl) rfl dX3_missingIn_10 rfl (fun v lay' mem' n' hp => ?_)
  obtain ⟨q1, q2, q3, q4⟩ := hp
  subst q1; subst q2; subst q3; subst q4
  refine r_ldc2 F l_X3_46 dX3_missingIn_13 rfl ?_
  refine r_lxor F dX3_missingIn_16 rfl ?_
  refine r_land F dX3_missingIn_17 rfl ?_
  refine r_callS F G (c_J13_bitCount_95d88 _ _ _ _ ) s_X3_48 rfl (by decide) (by decide) (Nat.le_of_ble_eq_true rfl) rfl dX3_missingIn_18 rfl (fun v lay' mem' n' hp => ?_)
  obtain ⟨q1, q2, q3, q4⟩ := hp
  subst q1; subst q2; subst q3; subst q4
  exact r_iret F Rt dX3_missingIn_21 (by decide) ⟨rfl, rfl, rfl, rfl⟩
abbrev rm_X3_unrestorableIn : Room := { frames := 3, cells := 0, slots := 0, locals := 81 }
set_option maxRecDepth 100000 in
set_option maxHeartbeats 4000000 in
theorem c_X3_unrestorableIn (l : Launch) (D : va_G) (cA : Nat → ClassId) (B : Nat) {lay : ja_Y} {mem : ja_M} {n : Nat} {s f : Nat} {k : Int} (hF : ja_LF lay f) (hS : ja_LS lay s) (hO : ja_SO mem s) (hk : ja_hasB mem s k) : ja_Mt l D cA B yX3_unrestorableIn cX3_unrestorableIn 5 (some .int) rm_X3_unrestorableIn [.ref f, .ref s, .int (ja_I k)] lay mem n (ja_rd lay mem n (some (.int (ja_I (J_bc ((ja_shl 1 (ja_cells mem s) - 1) &&& (F_cp mem s (-1) 37 (F_kn mem s f k) ^^^ (-1)))))))) := by
  refine ja_enter [some (.ref f), some (.ref s), some (.int (ja_I k)), none, none] (by decide) (Nat.le_of_ble_eq_true rfl) (fun q hq => hq) (fun C F Rt G hnm => ?_)
  refine r_lconst F (v := 1) rfl dX3_unrestorableIn_0 rfl ?_
  refine r_aload_n F rfl rfl dX3_unrestorableIn_1 rfl ?_
  refine r_callV F G (c_X6_cells _ _ _ _ hS) v_X3_30 rfl hS rfl (by decide) (by decide) (Nat.le_of_ble_eq_true rfl) rfl dX3_unrestorableIn_2 rfl (fun v lay' mem' n' hp => ?_)
  obtain ⟨q1, q2, q3, q4⟩ := hp
  subst q1; subst q2; subst q3; subst q4
  refine r_lshl F dX3_unrestorableIn_5 rfl ?_
  refine r_lconst F (v := 1) rfl dX3_unrestorableIn_6 rfl ?_
  refine r_lsub F dX3_unrestorableIn_7 rfl ?_
  refine r_lst3 F (by decide) rfl dX3_unrestorableIn_8 rfl ?_
  refine r_lload_n F rfl rfl dX3_unrestorableIn_9 rfl ?_
  refine r_aload_n F rfl rfl dX3_unrestorableIn_10 rfl ?_
  refine r_aload_n F rfl rfl dX3_unrestorableIn_11 rfl ?_
  refine r_aload_n F rfl rfl dX3_unrestorableIn_12 rfl ?_
  refine r_iload_n F rfl rfl dX3_unrestorableIn_13 rfl ?_
  refine r_callV F G (c_X3_knownIn _ _ _ _ hF hS hO hk) v_X3_38 rfl (hF.1) rfl (by decide) (by decide) (Nat.le_of_ble_eq_true rfl) rfl dX3_unrestorableIn_14 rfl (fun v lay' mem' n' hp => ?_)
  obtain ⟨q1, q2, q3, q4⟩ := hp
  subst q1; subst q2; subst q3; subst q4
  refine r_iconst F dX3_unrestorableIn_17 rfl ?_
  refine r_callS F G (c_X3_completed _ _ _ _ hS hO) s_X3_42 rfl (by decide) (by decide) (Nat.le_of_ble_eq_true rfl) rfl dX3_unrestorableIn_18 rfl (fun v lay' mem' n' hp => ?_)
  obtain ⟨q1, q2, q3, q4⟩ := hp
  subst q1; subst q2; subst q3; subst q4
  refine r_ldc2 F l_X3_46 dX3_unrestorableIn_21 rfl ?_
  refine r_lxor F dX3_unrestorableIn_24 rfl ?_
  refine r_land F dX3_unrestorableIn_25 rfl ?_
  refine r_callS F G (c_J13_bitCount_95d88 _ _ _ _ ) s_X3_48 rfl (by decide) (by decide) (Nat.le_of_ble_eq_true rfl) rfl dX3_unrestorableIn_26 rfl (fun v lay' mem' n' hp => ?_)
  obtain ⟨q1, q2, q3, q4⟩ := hp
  subst q1; subst q2; subst q3; subst q4
  exact r_iret F Rt dX3_unrestorableIn_29 (by decide) ⟨rfl, rfl, rfl, rfl⟩
abbrev rm_X3_knownFrom : Room := { frames := 2, cells := 0, slots := 0, locals := 44 }
set_option maxRecDepth 100000 in
set_option maxHeartbeats 4000000 in
theorem c_X3_knownFrom (l : Launch) (D : va_G) (cA : Nat → ClassId) (B : Nat) {lay : ja_Y} {mem : ja_M} {n : Nat} {s f : Nat} {x : Int} (hF : ja_LF lay f) (hS : ja_LS lay s) (hO : ja_SO mem s) (hx : 0 ≤ x ∧ x ≤ 1000) : ja_Mt l D cA B yX3_knownFrom cX3_knownFrom 4 (some .int) rm_X3_knownFrom [.ref f, .ref s, .int (ja_I x)] lay mem n (ja_rd lay mem n (some (.int (ja_I (F_fr mem s f x (1000 - x).toNat - x))))) := by
  refine ja_enter [some (.ref f), some (.ref s), some (.int (ja_I x)), none] (by decide) (Nat.le_of_ble_eq_true rfl) (fun q hq => hq) (fun C F Rt G hnm => ?_)
  refine r_iload_n F rfl rfl dX3_knownFrom_0 rfl ?_
  refine r_ist3 F (by decide) rfl dX3_knownFrom_1 rfl ?_
  have loop : ∀ (d : Nat) (y : Int), y + d = 1000 → x ≤ y → F_fr mem s f y d = F_fr mem s f x (1000 - x).toNat → ja_W C 0 0 lay mem n 2 [some (.ref f), some (.ref s), some (.int (ja_I x)), some (.int (ja_I y))] [] := by
    intro d
    induction d with
    | zero =>
      intro y hk hy hx2
      refine r_iload_n F rfl rfl dX3_knownFrom_2 rfl ?_
      refine r_sipush F (by decide) dX3_knownFrom_3 rfl ?_
      refine r_icmp_gt F (tgt := 27) ⟨by omega, by omega⟩ ⟨by omega, by omega⟩ dX3_knownFrom_6 rfl (by decide) (fun h_6 => ?_) (fun h_6 => ?_)
      ·
        refine r_iload_n F rfl rfl dX3_knownFrom_27 rfl ?_
        refine r_iload_n F rfl rfl dX3_knownFrom_28 rfl ?_
        refine r_isub F dX3_knownFrom_29 rfl ?_
        exact r_iret F Rt dX3_knownFrom_30 (by decide) ⟨by rw [← hx2]; rfl, rfl, rfl, rfl⟩
      ·
        exfalso; omega
    | succ d ih =>
      intro y hk hy hx2
      refine r_iload_n F rfl rfl dX3_knownFrom_2 rfl ?_
      refine r_sipush F (by decide) dX3_knownFrom_3 rfl ?_
      refine r_icmp_gt F (tgt := 27) ⟨by omega, by omega⟩ ⟨by omega, by omega⟩ dX3_knownFrom_6 rfl (by decide) (fun h_6 => ?_) (fun h_6 => ?_)
      ·
        exfalso; omega
      ·
        refine r_aload_n F rfl rfl dX3_knownFrom_9 rfl ?_
        refine r_aload_n F rfl rfl dX3_knownFrom_10 rfl ?_
        refine r_iload_n F rfl rfl dX3_knownFrom_11 rfl ?_
        refine r_callV F G (c_X3_stateOf _ _ _ _ hF hS hO ⟨by omega, by omega⟩) v_X3_58 rfl (hF.1) rfl (by decide) (by decide) (Nat.le_of_ble_eq_true rfl) rfl dX3_knownFrom_12 rfl (fun v lay' mem' n' hp => ?_)
        obtain ⟨q1, q2, q3, q4⟩ := hp
        subst q1; subst q2; subst q3; subst q4
        refine r_if_ne F (tgt := 21) ⟨by have := (F_st_in (mem := mem) (s := s) (f := f) (x := y)).1; omega, by have := (F_st_in (mem := mem) (s := s) (f := f) (x := y)).2; omega⟩ dX3_knownFrom_15 rfl (by decide) (fun h_15 => ?_) (fun h_15 => ?_)
        ·
          refine r_inc3 F (by decide) rfl dX3_knownFrom_21 rfl ?_
          refine r_goto F (tgt := 2) dX3_knownFrom_24 (by decide) ?_
          exact ih (y + 1) (by omega) (by omega) (by rw [← hx2]; simp only [F_fr]; rw [if_neg h_15])
        ·
          refine r_goto F (tgt := 27) dX3_knownFrom_18 (by decide) ?_
          refine r_iload_n F rfl rfl dX3_knownFrom_27 rfl ?_
          refine r_iload_n F rfl rfl dX3_knownFrom_28 rfl ?_
          refine r_isub F dX3_knownFrom_29 rfl ?_
          exact r_iret F Rt dX3_knownFrom_30 (by decide) ⟨by rw [← hx2]; simp only [F_fr]; rw [if_pos h_15], rfl, rfl, rfl⟩
  exact loop (1000 - x).toNat x (by omega) (by omega) rfl
abbrev rm_X3_copyFrom : Room := { frames := 1, cells := 0, slots := 0, locals := 40 }
set_option maxRecDepth 100000 in
set_option maxHeartbeats 4000000 in
theorem c_X3_copyFrom (l : Launch) (D : va_G) (cA : Nat → ClassId) (B : Nat) {lay : ja_Y} {mem : ja_M} {n : Nat} {f o : Nat} (hF : ja_LF lay f) (hFo : ja_LF lay o) : ja_Mt l D cA B yX3_copyFrom cX3_copyFrom 2 none rm_X3_copyFrom [.ref f, .ref o] lay mem n (ja_rd lay (ja_cp (ja_cp (ja_cp mem (o + 1) (f + 1) 0 0 250) (o + 2) (f + 2) 0 0 250) (o + 3) (f + 3) 0 0 250) n (none)) := by
  refine ja_enter [some (.ref f), some (.ref o)] (by decide) (Nat.le_of_ble_eq_true rfl) (fun q hq => hq) (fun C F Rt G hnm => ?_)
  refine r_aload_n F rfl rfl dX3_copyFrom_0 rfl ?_
  refine r_getR F f_X3_13 (hFo.1) rfl dX3_copyFrom_1 rfl ?_
  refine r_iconst F dX3_copyFrom_4 rfl ?_
  refine r_aload_n F rfl rfl dX3_copyFrom_5 rfl ?_
  refine r_getR F f_X3_13 (hF.1) rfl dX3_copyFrom_6 rfl ?_
  refine r_iconst F dX3_copyFrom_9 rfl ?_
  refine r_sipush F (by decide) dX3_copyFrom_10 rfl ?_
  refine r_copy1 F s_X3_24 (ja_LF_1 hFo) (ja_LF_1 hF) (by decide) (by decide) (by decide) (by decide) (Nat.le_of_ble_eq_true rfl) (by decide) (by decide) dX3_copyFrom_13 rfl ?_
  refine r_aload_n F rfl rfl dX3_copyFrom_16 rfl ?_
  refine r_getR F f_X3_17 (hFo.1) rfl dX3_copyFrom_17 rfl ?_
  refine r_iconst F dX3_copyFrom_20 rfl ?_
  refine r_aload_n F rfl rfl dX3_copyFrom_21 rfl ?_
  refine r_getR F f_X3_17 (hF.1) rfl dX3_copyFrom_22 rfl ?_
  refine r_iconst F dX3_copyFrom_25 rfl ?_
  refine r_sipush F (by decide) dX3_copyFrom_26 rfl ?_
  refine r_copy1 F s_X3_24 (ja_LF_2 hFo) (ja_LF_2 hF) (by decide) (by decide) (by decide) (by decide) (Nat.le_of_ble_eq_true rfl) (by decide) (by decide) dX3_copyFrom_29 rfl ?_
  refine r_aload_n F rfl rfl dX3_copyFrom_32 rfl ?_
  refine r_getR F f_X3_20 (hFo.1) rfl dX3_copyFrom_33 rfl ?_
  refine r_iconst F dX3_copyFrom_36 rfl ?_
  refine r_aload_n F rfl rfl dX3_copyFrom_37 rfl ?_
  refine r_getR F f_X3_20 (hF.1) rfl dX3_copyFrom_38 rfl ?_
  refine r_iconst F dX3_copyFrom_41 rfl ?_
  refine r_sipush F (by decide) dX3_copyFrom_42 rfl ?_
  refine r_copy0 F s_X3_24 (ja_LF_3 hFo) (ja_LF_3 hF) (by decide) (by decide) (by decide) (by decide) (Nat.le_of_ble_eq_true rfl) (by decide) (by decide) dX3_copyFrom_45 rfl ?_
  exact r_vret F Rt dX3_copyFrom_48 (by decide) ⟨rfl, rfl, rfl, rfl⟩
