abbrev rm_X7_insert : Room := { frames := 0, cells := 0, slots := 0, locals := 0 }
set_option maxRecDepth 100000 in
set_option maxHeartbeats 4000000 in
theorem c_X7_insert (l : Launch) (D : va_G) (cA : Nat → ClassId) (B : Nat) {lay : ja_Y} {mem : ja_M} {n : Nat} {a : Nat} {v k : Int} (hT : ja_LT lay a) (hO : ja_TO mem a) (hv : ja_sm v) (hk : 0 ≤ k ∧ k < 16) : ja_Mt l D cA B yX7_insert cX7_insert 4 none rm_X7_insert [.ref a, .int (ja_I v), .int (ja_I k)] lay mem n (ja_rd lay (ja_rw mem (a + 2) (T_ins (mem (a + 2)) v k.toNat)) n (none)) := by
  refine ja_enter [some (.ref a), some (.int (ja_I v)), some (.int (ja_I k)), none] (by decide) (Nat.le_of_ble_eq_true rfl) (fun q hq => hq) (fun C F Rt G hnm => ?_)
  refine r_iload_n F rfl rfl dX7_insert_0 rfl ?_
  refine r_ist3 F (by decide) rfl dX7_insert_1 rfl ?_
  have loop : ∀ (h : Nat), h ≤ k.toNat → ∀ g : Nat → Int, (∀ j, ja_sm (g j)) → T_ins g v h = T_ins (mem (a + 2)) v k.toNat → ja_W C 0 0 lay (ja_rw mem (a + 2) g) n 2 [some (.ref a), some (.int (ja_I v)), some (.int (ja_I k)), some (.int (ja_I (h : Int)))] [] := by
    intro h
    induction h with
    | zero =>
      intro hk2 g hg hT2
      refine r_iload_n F rfl rfl dX7_insert_2 rfl ?_
      refine r_if_le F (tgt := 38) ⟨by omega, by omega⟩ dX7_insert_3 rfl (by decide) (fun h_3 => ?_) (fun h_3 => ?_)
      ·
        refine r_aload_n F rfl rfl dX7_insert_38 rfl ?_
        refine r_getR F f_X7_13 (hT.1) rfl dX7_insert_39 rfl ?_
        refine r_iload_n F rfl rfl dX7_insert_42 rfl ?_
        refine r_iload_n F rfl rfl dX7_insert_43 rfl ?_
        refine r_iast F (ja_LT_2 hT) (by omega) (by omega) (by decide) dX7_insert_44 rfl ?_
        exact r_vret F Rt dX7_insert_45 (by decide) ⟨rfl, rfl, by rw [ja_rw_up, T_cast0, ← hT2]; rfl, rfl⟩
      ·
        exfalso; omega
    | succ h ih =>
      intro hk2 g hg hT2
      have hg1 := hg h
      refine r_iload_n F rfl rfl dX7_insert_2 rfl ?_
      refine r_if_le F (tgt := 38) ⟨by omega, by omega⟩ dX7_insert_3 rfl (by decide) (fun h_3 => ?_) (fun h_3 => ?_)
      ·
        exfalso; omega
      ·
        refine r_aload_n F rfl rfl dX7_insert_6 rfl ?_
        refine r_getR F f_X7_13 (hT.1) rfl dX7_insert_7 rfl ?_
        refine r_iload_n F rfl rfl dX7_insert_10 rfl ?_
        refine r_iconst F dX7_insert_11 rfl ?_
        refine r_isub F dX7_insert_12 rfl ?_
        refine r_iald F (ja_LT_2 hT) (by omega) (by omega) (by decide) dX7_insert_13 rfl ?_
        refine r_eqz (z := g h) (by rw [ja_rw_s]; congr 1; omega) ?_
        refine r_iload_n F rfl rfl dX7_insert_14 rfl ?_
        refine r_icmp_le F (tgt := 38) ⟨by have := hg1.1; omega, by have := hg1.2; omega⟩ ⟨by have := hv.1; omega, by have := hv.2; omega⟩ dX7_insert_15 rfl (by decide) (fun h_15 => ?_) (fun h_15 => ?_)
        ·
          refine r_aload_n F rfl rfl dX7_insert_38 rfl ?_
          refine r_getR F f_X7_13 (hT.1) rfl dX7_insert_39 rfl ?_
          refine r_iload_n F rfl rfl dX7_insert_42 rfl ?_
          refine r_iload_n F rfl rfl dX7_insert_43 rfl ?_
          refine r_iast F (ja_LT_2 hT) (by omega) (by omega) (by decide) dX7_insert_44 rfl ?_
          exact r_vret F Rt dX7_insert_45 (by decide) ⟨rfl, rfl, by rw [ja_rw_up, ← hT2]; simp only [T_ins]; rw [if_neg (by omega)]; rfl, rfl⟩
        ·
          refine r_aload_n F rfl rfl dX7_insert_18 rfl ?_
          refine r_getR F f_X7_13 (hT.1) rfl dX7_insert_19 rfl ?_
          refine r_iload_n F rfl rfl dX7_insert_22 rfl ?_
          refine r_aload_n F rfl rfl dX7_insert_23 rfl ?_
          refine r_getR F f_X7_13 (hT.1) rfl dX7_insert_24 rfl ?_
          refine r_iload_n F rfl rfl dX7_insert_27 rfl ?_
          refine r_iconst F dX7_insert_28 rfl ?_
          refine r_isub F dX7_insert_29 rfl ?_
          refine r_iald F (ja_LT_2 hT) (by omega) (by omega) (by decide) dX7_insert_30 rfl ?_
          refine r_eqz (z := g h) (by rw [ja_rw_s]; congr 1; omega) ?_
          refine r_iast F (ja_LT_2 hT) (by omega) (by omega) (by decide) dX7_insert_31 rfl ?_
          refine r_inc3 F (by decide) rfl dX7_insert_32 rfl ?_
          refine r_goto F (tgt := 2) dX7_insert_35 (by decide) ?_
          refine r_mem (mem' := ja_rw mem (a + 2) (ja_rs g (h + 1) (g h))) (by rw [ja_rw_up]; congr 1) ?_
          have e : (((h + 1 : Nat)) : Int) + (-1) = (h : Int) := by omega
          rw [e]
          exact ih (by omega) _ (fun j => by unfold ja_rs; split; exact hg1; exact hg j) (by rw [← hT2]; simp only [T_ins]; rw [if_pos (by omega)])
  have h0 := loop k.toNat (Nat.le_refl _) (mem (a + 2)) hO.2.2.2 rfl
  rw [ja_rw_self, show ((k.toNat : Nat) : Int) = k by omega] at h0
  exact h0
abbrev rm_J13_bitCount_95d88 : Room := { frames := 0, cells := 0, slots := 0, locals := 0 }
set_option maxRecDepth 100000 in
set_option maxHeartbeats 4000000 in
theorem c_J13_bitCount_95d88 (l : Launch) (D : va_G) (cA : Nat → ClassId) (B : Nat) {lay : ja_Y} {mem : ja_M} {n : Nat} {x : Int64} : ja_Mt l D cA B yJ13_bitCount_95d88 cJ13_bitCount_95d88 2 (some .int) rm_J13_bitCount_95d88 [.long x] lay mem n (ja_rd lay mem n (some (.int (ja_I (J_bc x))))) := by
  refine ja_enter [some (.long x), none] (by decide) (Nat.le_of_ble_eq_true rfl) (fun q hq => hq) (fun C F Rt G hnm => ?_)
  refine r_lload_n F rfl rfl dJ13_bitCount_95d88_0 rfl ?_
  refine r_lload_n F rfl rfl dJ13_bitCount_95d88_1 rfl ?_
  refine r_iconst F dJ13_bitCount_95d88_2 rfl ?_
  refine r_lushr F dJ13_bitCount_95d88_3 rfl ?_
  refine r_ldc2 F l_J13_314 dJ13_bitCount_95d88_4 rfl ?_
  refine r_land F dJ13_bitCount_95d88_7 rfl ?_
  refine r_lsub F dJ13_bitCount_95d88_8 rfl ?_
  refine r_lst0 F (by decide) rfl dJ13_bitCount_95d88_9 rfl ?_
  refine r_lload_n F rfl rfl dJ13_bitCount_95d88_10 rfl ?_
  refine r_ldc2 F l_J13_316 dJ13_bitCount_95d88_11 rfl ?_
  refine r_land F dJ13_bitCount_95d88_14 rfl ?_
  refine r_lload_n F rfl rfl dJ13_bitCount_95d88_15 rfl ?_
  refine r_iconst F dJ13_bitCount_95d88_16 rfl ?_
  refine r_lushr F dJ13_bitCount_95d88_17 rfl ?_
  refine r_ldc2 F l_J13_316 dJ13_bitCount_95d88_18 rfl ?_
  refine r_land F dJ13_bitCount_95d88_21 rfl ?_
  refine r_ladd F dJ13_bitCount_95d88_22 rfl ?_
  refine r_lst0 F (by decide) rfl dJ13_bitCount_95d88_23 rfl ?_
  refine r_lload_n F rfl rfl dJ13_bitCount_95d88_24 rfl ?_
  refine r_lload_n F rfl rfl dJ13_bitCount_95d88_25 rfl ?_
  refine r_iconst F dJ13_bitCount_95d88_26 rfl ?_
  refine r_lushr F dJ13_bitCount_95d88_27 rfl ?_
  refine r_ladd F dJ13_bitCount_95d88_28 rfl ?_
  refine r_ldc2 F l_J13_318 dJ13_bitCount_95d88_29 rfl ?_
  refine r_land F dJ13_bitCount_95d88_32 rfl ?_
  refine r_lst0 F (by decide) rfl dJ13_bitCount_95d88_33 rfl ?_
  refine r_lload_n F rfl rfl dJ13_bitCount_95d88_34 rfl ?_
  refine r_lload_n F rfl rfl dJ13_bitCount_95d88_35 rfl ?_
  refine r_bipush F (by decide) dJ13_bitCount_95d88_36 rfl ?_
  refine r_lushr F dJ13_bitCount_95d88_38 rfl ?_
  refine r_ladd F dJ13_bitCount_95d88_39 rfl ?_
  refine r_lst0 F (by decide) rfl dJ13_bitCount_95d88_40 rfl ?_
  refine r_lload_n F rfl rfl dJ13_bitCount_95d88_41 rfl ?_
  refine r_lload_n F rfl rfl dJ13_bitCount_95d88_42 rfl ?_
  refine r_bipush F (by decide) dJ13_bitCount_95d88_43 rfl ?_
  refine r_lushr F dJ13_bitCount_95d88_45 rfl ?_
  refine r_ladd F dJ13_bitCount_95d88_46 rfl ?_
  refine r_lst0 F (by decide) rfl dJ13_bitCount_95d88_47 rfl ?_
  refine r_lload_n F rfl rfl dJ13_bitCount_95d88_48 rfl ?_
  refine r_lload_n F rfl rfl dJ13_bitCount_95d88_49 rfl ?_
  refine r_bipush F (by decide) dJ13_bitCount_95d88_50 rfl ?_
  refine r_lushr F dJ13_bitCount_95d88_52 rfl ?_
  refine r_ladd F dJ13_bitCount_95d88_53 rfl ?_
  refine r_lst0 F (by decide) rfl dJ13_bitCount_95d88_54 rfl ?_
  refine r_lload_n F rfl rfl dJ13_bitCount_95d88_55 rfl ?_
  refine r_l2i F dJ13_bitCount_95d88_56 rfl ?_
  refine r_bipush F (by decide) dJ13_bitCount_95d88_57 rfl ?_
  refine r_iand F (ja_of' _) dJ13_bitCount_95d88_59 rfl ?_
  exact r_iret F Rt dJ13_bitCount_95d88_60 (by decide) ⟨rfl, rfl, rfl, rfl⟩
abbrev rm_X3_packetBit : Room := { frames := 0, cells := 0, slots := 0, locals := 0 }
set_option maxRecDepth 100000 in
set_option maxHeartbeats 4000000 in
theorem c_X3_packetBit (l : Launch) (D : va_G) (cA : Nat → ClassId) (B : Nat) {lay : ja_Y} {mem : ja_M} {n : Nat} {r i : Int} (hr : 0 ≤ r ∧ r ≤ 1) : ja_Mt l D cA B yX3_packetBit cX3_packetBit 2 (some .int) rm_X3_packetBit [.int (ja_I r), .int (ja_I i)] lay mem n (ja_rd lay mem n (some (.int (ja_I (F_pb r i))))) := by
  refine ja_enter [some (.int (ja_I r)), some (.int (ja_I i))] (by decide) (Nat.le_of_ble_eq_true rfl) (fun q hq => hq) (fun C F Rt G hnm => ?_)
  refine r_iconst F dX3_packetBit_0 rfl ?_
  refine r_iload_n F rfl rfl dX3_packetBit_1 rfl ?_
  refine r_if_eq F (tgt := 9) ⟨by omega, by omega⟩ dX3_packetBit_2 rfl (by decide) (fun h_2 => ?_) (fun h_2 => ?_)
  ·
    refine r_bipush F (by decide) dX3_packetBit_9 rfl ?_
    refine r_iload_n F rfl rfl dX3_packetBit_11 rfl ?_
    refine r_iadd F dX3_packetBit_12 rfl ?_
    refine r_ishl F (ja_of' _) dX3_packetBit_13 rfl ?_
    exact r_iret F Rt dX3_packetBit_14 (by decide) ⟨by unfold F_pb; first | rw [if_pos (by omega)] | rw [if_neg (by omega)], rfl, rfl, rfl⟩
  ·
    refine r_iload_n F rfl rfl dX3_packetBit_5 rfl ?_
    refine r_goto F (tgt := 13) dX3_packetBit_6 (by decide) ?_
    refine r_ishl F (ja_of' _) dX3_packetBit_13 rfl ?_
    exact r_iret F Rt dX3_packetBit_14 (by decide) ⟨by unfold F_pb; first | rw [if_pos (by omega)] | rw [if_neg (by omega)], rfl, rfl, rfl⟩
abbrev rm_X3_lineBits : Room := { frames := 0, cells := 0, slots := 0, locals := 0 }
set_option maxRecDepth 100000 in
set_option maxHeartbeats 4000000 in
theorem c_X3_lineBits (l : Launch) (D : va_G) (cA : Nat → ClassId) (B : Nat) {lay : ja_Y} {mem : ja_M} {n : Nat} {s : Nat} {r i : Int} (hS : ja_LS lay s) (hO : ja_SO mem s) (hr : 0 ≤ r ∧ r ≤ 1) : ja_Mt l D cA B yX3_lineBits cX3_lineBits 6 (some .long) rm_X3_lineBits [.ref s, .int (ja_I r), .int (ja_I i)] lay mem n (ja_rd lay mem n (some (.long (F_lb mem s r i)))) := by
  refine ja_enter [some (.ref s), some (.int (ja_I r)), some (.int (ja_I i)), none, none, none] (by decide) (Nat.le_of_ble_eq_true rfl) (fun q hq => hq) (fun C F Rt G hnm => ?_)
  have hO2 := hO
  obtain ⟨-, -, -, h3, h4, -⟩ := hO2
  refine r_iload_n F rfl rfl dX3_lineBits_0 rfl ?_
  refine r_if_eq F (tgt := 20) ⟨by omega, by omega⟩ dX3_lineBits_1 rfl (by decide) (fun h_1 => ?_) (fun h_1 => ?_)
  ·
    refine r_lconst F rfl dX3_lineBits_20 rfl ?_
    refine r_lst3 F (by decide) rfl dX3_lineBits_21 rfl ?_
    refine r_iconst F dX3_lineBits_22 rfl ?_
    refine r_ist5 F (by decide) rfl dX3_lineBits_23 rfl ?_
    have loop : ∀ (d k : Nat), k + d = (mem s 4).toNat → ja_W C 0 0 lay (mem) n 25 [some (.ref s), some (.int (ja_I r)), some (.int (ja_I i)), some (.long (F_lbc (mem s 3) i k)), none, some (.int (ja_I (k : Int)))] [] := by
      intro d
      induction d with
      | zero =>
        intro k hk
        refine r_iload F rfl dX3_lineBits_25 rfl ?_
        refine r_aload_n F rfl rfl dX3_lineBits_27 rfl ?_
        refine r_getI F f_X3_62 hS rfl dX3_lineBits_28 rfl ?_
        refine r_eqz (z := mem s 4) (by simp [ja_up]) ?_
        refine r_icmp_ge F (tgt := 54) ⟨by omega, by omega⟩ ⟨by omega, by omega⟩ dX3_lineBits_31 rfl (by decide) (fun h_31 => ?_) (fun h_31 => ?_)
        ·
          refine r_lload_n F rfl rfl dX3_lineBits_54 rfl ?_
          exact r_lret F Rt dX3_lineBits_55 (by decide) ⟨by rw [F_lb, if_pos (by omega), show (mem s 4).toNat = k by omega], rfl, rfl, rfl⟩
        ·
          exfalso; omega
      | succ d ih =>
        intro k hk
        refine r_iload F rfl dX3_lineBits_25 rfl ?_
        refine r_aload_n F rfl rfl dX3_lineBits_27 rfl ?_
        refine r_getI F f_X3_62 hS rfl dX3_lineBits_28 rfl ?_
        refine r_eqz (z := mem s 4) (by simp [ja_up]) ?_
        refine r_icmp_ge F (tgt := 54) ⟨by omega, by omega⟩ ⟨by omega, by omega⟩ dX3_lineBits_31 rfl (by decide) (fun h_31 => ?_) (fun h_31 => ?_)
        ·
          exfalso; omega
        ·
          refine r_lload_n F rfl rfl dX3_lineBits_34 rfl ?_
          refine r_lconst F rfl dX3_lineBits_35 rfl ?_
          refine r_iload F rfl dX3_lineBits_36 rfl ?_
          refine r_aload_n F rfl rfl dX3_lineBits_38 rfl ?_
          refine r_getI F f_X3_70 hS rfl dX3_lineBits_39 rfl ?_
          refine r_eqz (z := mem s 3) (by simp [ja_up]) ?_
          refine r_imul F dX3_lineBits_42 rfl ?_
          refine r_iload_n F rfl rfl dX3_lineBits_43 rfl ?_
          refine r_iadd F dX3_lineBits_44 rfl ?_
          refine r_lshl F dX3_lineBits_45 rfl ?_
          refine r_lor F dX3_lineBits_46 rfl ?_
          refine r_lst3 F (by decide) rfl dX3_lineBits_47 rfl ?_
          refine r_inc5 F (by decide) rfl dX3_lineBits_48 rfl ?_
          refine r_goto F (tgt := 25) dX3_lineBits_51 (by decide) ?_
          exact ih (k + 1) (by omega)
    exact loop (mem s 4).toNat 0 (by omega)
  ·
    refine r_lconst F rfl dX3_lineBits_4 rfl ?_
    refine r_aload_n F rfl rfl dX3_lineBits_5 rfl ?_
    refine r_getI F f_X3_70 hS rfl dX3_lineBits_6 rfl ?_
    refine r_lshl F dX3_lineBits_9 rfl ?_
    refine r_lconst F rfl dX3_lineBits_10 rfl ?_
    refine r_lsub F dX3_lineBits_11 rfl ?_
    refine r_iload_n F rfl rfl dX3_lineBits_12 rfl ?_
    refine r_aload_n F rfl rfl dX3_lineBits_13 rfl ?_
    refine r_getI F f_X3_70 hS rfl dX3_lineBits_14 rfl ?_
    refine r_imul F dX3_lineBits_17 rfl ?_
    refine r_lshl F dX3_lineBits_18 rfl ?_
    exact r_lret F Rt dX3_lineBits_19 (by decide) ⟨by rw [F_lb, if_neg (by omega)]; rfl, rfl, rfl, rfl⟩
