section
abbrev rm_X6_cells : Room := { frames := 0, cells := 0, slots := 0, locals := 0 }
set_option maxRecDepth 100000 in
set_option maxHeartbeats 4000000 in
theorem c_X6_cells (l : Launch) (D : va_G) (cA : Nat → ClassId) (B : Nat) {lay : ja_Y} {mem : ja_M} {n : Nat} {s : Nat} (hS : ja_LS lay s) : ja_Mt l D cA B yX6_cells cX6_cells 1 (some .int) rm_X6_cells [.ref s] lay mem n (ja_rd lay mem n (some (.int (ja_I (ja_cells mem s))))) := by
  refine ja_enter [some (.ref s)] (by decide) (Nat.le_of_ble_eq_true rfl) (fun q hq => hq) (fun C F Rt G hnm => ?_)
  refine r_aload_n F rfl rfl dX6_cells_0 rfl ?_
  refine r_getI F f_X6_21 hS rfl dX6_cells_1 rfl ?_
  refine r_aload_n F rfl rfl dX6_cells_4 rfl ?_
  refine r_getI F f_X6_24 hS rfl dX6_cells_5 rfl ?_
  refine r_imul F dX6_cells_8 rfl ?_
  exact r_iret F Rt dX6_cells_9 (by decide) ⟨rfl, rfl, rfl, rfl⟩
abbrev rm_X6_waveAt : Room := { frames := 0, cells := 0, slots := 0, locals := 0 }
set_option maxRecDepth 100000 in
set_option maxHeartbeats 4000000 in
theorem c_X6_waveAt (l : Launch) (D : va_G) (cA : Nat → ClassId) (B : Nat) {lay : ja_Y} {mem : ja_M} {n : Nat} {s : Nat} {f j : Int} (hS : ja_LS lay s) (hO : ja_SO mem s) (hf : 0 ≤ f ∧ f ≤ 1000) (hj : 0 ≤ j ∧ j ≤ 100) : ja_Mt l D cA B yX6_waveAt cX6_waveAt 4 (some .int) rm_X6_waveAt [.ref s, .int (ja_I f), .int (ja_I j)] lay mem n (ja_rd lay mem n (some (.int (ja_I (ja_wave mem s f j))))) := by
  refine ja_enter [some (.ref s), some (.int (ja_I f)), some (.int (ja_I j)), none] (by decide) (Nat.le_of_ble_eq_true rfl) (fun q hq => hq) (fun C F Rt G hnm => ?_)
  have hO2 := hO
  obtain ⟨h0, h1, h2, -⟩ := hO2
  have g1 := ja_mulb hf.1 hf.2 (by omega : 0 ≤ mem s 0) h0.2
  have g2 := Int.emod_nonneg (f * mem s 0 + j) (by omega : mem s 1 ≠ 0)
  have g3 := Int.emod_lt_of_pos (f * mem s 0 + j) (by omega : 0 < mem s 1)
  have g4 := ja_mulb (by omega : 0 ≤ mem s 2) h2.2 g2 (by omega : (f * mem s 0 + j) % mem s 1 ≤ 32)
  refine r_iload_n F rfl rfl dX6_waveAt_0 rfl ?_
  refine r_aload_n F rfl rfl dX6_waveAt_1 rfl ?_
  refine r_getI F f_X6_9 hS rfl dX6_waveAt_2 rfl ?_
  refine r_imul F dX6_waveAt_5 rfl ?_
  refine r_iload_n F rfl rfl dX6_waveAt_6 rfl ?_
  refine r_iadd F dX6_waveAt_7 rfl ?_
  refine r_aload_n F rfl rfl dX6_waveAt_8 rfl ?_
  refine r_getI F f_X6_15 hS rfl dX6_waveAt_9 rfl ?_
  refine r_iremP F ⟨by omega, by omega⟩ ⟨by omega, by omega⟩ (by omega) (by omega) dX6_waveAt_12 rfl ?_
  refine r_ist3 F (by decide) rfl dX6_waveAt_13 rfl ?_
  refine r_aload_n F rfl rfl dX6_waveAt_14 rfl ?_
  refine r_getI F f_X6_18 hS rfl dX6_waveAt_15 rfl ?_
  refine r_iload_n F rfl rfl dX6_waveAt_18 rfl ?_
  refine r_imul F dX6_waveAt_19 rfl ?_
  refine r_sipush F (by decide) dX6_waveAt_20 rfl ?_
  refine r_iremP F ⟨by omega, by omega⟩ ⟨by omega, by omega⟩ (by omega) (by omega) dX6_waveAt_23 rfl ?_
  refine r_bipush F (by decide) dX6_waveAt_24 rfl ?_
  refine r_isub F dX6_waveAt_26 rfl ?_
  exact r_iret F Rt dX6_waveAt_27 (by decide) ⟨rfl, rfl, rfl, rfl⟩
abbrev rm_X6_hasBlock : Room := { frames := 1, cells := 0, slots := 0, locals := 20 }
set_option maxRecDepth 100000 in
set_option maxHeartbeats 4000000 in
theorem c_X6_hasBlock (l : Launch) (D : va_G) (cA : Nat → ClassId) (B : Nat) {lay : ja_Y} {mem : ja_M} {n : Nat} {s : Nat} {k : Int} (hS : ja_LS lay s) (hO : ja_SO mem s) (hk : ja_in k) : ja_Mt l D cA B yX6_hasBlock cX6_hasBlock 2 (some .boolean) rm_X6_hasBlock [.ref s, .int (ja_I k)] lay mem n (ja_rd lay mem n (some (.int (ja_I (ja_b (ja_hasB mem s k)))))) := by
  refine ja_enter [some (.ref s), some (.int (ja_I k))] (by decide) (Nat.le_of_ble_eq_true rfl) (fun q hq => hq) (fun C F Rt G hnm => ?_)
  obtain ⟨hk1, hk2⟩ := hk
  have g0 := hO.cells
  have g1 : 0 ≤ 999 / ja_cells mem s := Int.ediv_nonneg (by omega) (by omega)
  have g2 := Int.ediv_le_self (ja_cells mem s) (by omega : (0 : Int) ≤ 999)
  refine r_iload_n F rfl rfl dX6_hasBlock_0 rfl ?_
  refine r_if_lt F (tgt := 20) ⟨by omega, by omega⟩ dX6_hasBlock_1 rfl (by decide) (fun h_1 => ?_) (fun h_1 => ?_)
  ·
    refine r_iconst F dX6_hasBlock_20 rfl ?_
    exact r_zret F Rt (by omega) dX6_hasBlock_21 (by decide) ⟨by simp only [ja_b]; split <;> first | rfl | (exfalso; omega), rfl, rfl, rfl⟩
  ·
    refine r_iload_n F rfl rfl dX6_hasBlock_4 rfl ?_
    refine r_sipush F (by decide) dX6_hasBlock_5 rfl ?_
    refine r_aload_n F rfl rfl dX6_hasBlock_8 rfl ?_
    refine r_callV F G (c_X6_cells _ _ _ _ hS) v_X6_40 rfl hS rfl (by decide) (by decide) (Nat.le_of_ble_eq_true rfl) rfl dX6_hasBlock_9 rfl (fun v lay' mem' n' hp => ?_)
    obtain ⟨q1, q2, q3, q4⟩ := hp
    subst q1; subst q2; subst q3; subst q4
    refine r_idivP F ⟨by omega, by omega⟩ ⟨by omega, by omega⟩ (by omega) (by omega) dX6_hasBlock_12 rfl ?_
    refine r_icmp_gt F (tgt := 20) ⟨by omega, by omega⟩ ⟨by omega, by omega⟩ dX6_hasBlock_13 rfl (by decide) (fun h_13 => ?_) (fun h_13 => ?_)
    ·
      refine r_iconst F dX6_hasBlock_20 rfl ?_
      exact r_zret F Rt (by omega) dX6_hasBlock_21 (by decide) ⟨by simp only [ja_b]; split <;> first | rfl | (exfalso; omega), rfl, rfl, rfl⟩
    ·
      refine r_iconst F dX6_hasBlock_16 rfl ?_
      refine r_goto F (tgt := 21) dX6_hasBlock_17 (by decide) ?_
      exact r_zret F Rt (by omega) dX6_hasBlock_21 (by decide) ⟨by simp only [ja_b]; split <;> first | rfl | (exfalso; omega), rfl, rfl, rfl⟩
abbrev rm_X6_hasPacket : Room := { frames := 2, cells := 0, slots := 0, locals := 41 }
set_option maxRecDepth 100000 in
set_option maxHeartbeats 4000000 in
theorem c_X6_hasPacket (l : Launch) (D : va_G) (cA : Nat → ClassId) (B : Nat) {lay : ja_Y} {mem : ja_M} {n : Nat} {s : Nat} {r k i : Int} (hS : ja_LS lay s) (hO : ja_SO mem s) (hr : 0 ≤ r ∧ r ≤ 1) (hk : ja_in k) (hi : ja_in i) : ja_Mt l D cA B yX6_hasPacket cX6_hasPacket 4 (some .boolean) rm_X6_hasPacket [.ref s, .int (ja_I r), .int (ja_I k), .int (ja_I i)] lay mem n (ja_rd lay mem n (some (.int (ja_I (ja_b (ja_hasP mem s r k i)))))) := by
  refine ja_enter [some (.ref s), some (.int (ja_I r)), some (.int (ja_I k)), some (.int (ja_I i))] (by decide) (Nat.le_of_ble_eq_true rfl) (fun q hq => hq) (fun C F Rt G hnm => ?_)
  have hO2 := hO
  obtain ⟨-, -, -, h3, h4, -⟩ := hO2
  obtain ⟨hi1, hi2⟩ := hi
  have hb : ∀ p : Prop, [Decidable p] → 0 ≤ ja_b p ∧ ja_b p ≤ 1 := fun p _ => by unfold ja_b; split <;> omega
  have hb1 := hb (ja_hasB mem s k)
  have hbt : ja_b (ja_hasB mem s k) = 0 ↔ ¬ ja_hasB mem s k := by unfold ja_b; split <;> simp_all
  refine r_aload_n F rfl rfl dX6_hasPacket_0 rfl ?_
  refine r_iload_n F rfl rfl dX6_hasPacket_1 rfl ?_
  refine r_callV F G (c_X6_hasBlock _ _ _ _ hS hO hk) v_X6_44 rfl hS rfl (by decide) (by decide) (Nat.le_of_ble_eq_true rfl) rfl dX6_hasPacket_2 rfl (fun v lay' mem' n' hp => ?_)
  obtain ⟨q1, q2, q3, q4⟩ := hp
  subst q1; subst q2; subst q3; subst q4
  refine r_if_eq F (tgt := 35) ⟨by omega, by omega⟩ dX6_hasPacket_5 rfl (by decide) (fun h_5 => ?_) (fun h_5 => ?_)
  ·
    refine r_iconst F dX6_hasPacket_35 rfl ?_
    exact r_zret F Rt (by omega) dX6_hasPacket_36 (by decide) ⟨by simp only [ja_b]; split <;> first | rfl | (exfalso; simp_all; omega) | (exfalso; simp_all), rfl, rfl, rfl⟩
  ·
    refine r_iload_n F rfl rfl dX6_hasPacket_8 rfl ?_
    refine r_if_lt F (tgt := 35) ⟨by omega, by omega⟩ dX6_hasPacket_9 rfl (by decide) (fun h_9 => ?_) (fun h_9 => ?_)
    ·
      refine r_iconst F dX6_hasPacket_35 rfl ?_
      exact r_zret F Rt (by omega) dX6_hasPacket_36 (by decide) ⟨by simp only [ja_b]; split <;> first | rfl | (exfalso; simp_all; omega) | (exfalso; simp_all), rfl, rfl, rfl⟩
    ·
      refine r_iload_n F rfl rfl dX6_hasPacket_12 rfl ?_
      refine r_iload_n F rfl rfl dX6_hasPacket_13 rfl ?_
      refine r_if_eq F (tgt := 24) ⟨by omega, by omega⟩ dX6_hasPacket_14 rfl (by decide) (fun h_14 => ?_) (fun h_14 => ?_)
      ·
        refine r_aload_n F rfl rfl dX6_hasPacket_24 rfl ?_
        refine r_getI F f_X6_21 hS rfl dX6_hasPacket_25 rfl ?_
        refine r_icmp_ge F (tgt := 35) ⟨by omega, by omega⟩ ⟨by omega, by omega⟩ dX6_hasPacket_28 rfl (by decide) (fun h_28 => ?_) (fun h_28 => ?_)
        ·
          refine r_iconst F dX6_hasPacket_35 rfl ?_
          exact r_zret F Rt (by omega) dX6_hasPacket_36 (by decide) ⟨by simp only [ja_b]; split <;> first | rfl | (exfalso; simp_all; omega) | (exfalso; simp_all), rfl, rfl, rfl⟩
        ·
          refine r_iconst F dX6_hasPacket_31 rfl ?_
          refine r_goto F (tgt := 36) dX6_hasPacket_32 (by decide) ?_
          exact r_zret F Rt (by omega) dX6_hasPacket_36 (by decide) ⟨by simp only [ja_b]; split <;> first | rfl | (exfalso; simp_all; omega) | (exfalso; simp_all), rfl, rfl, rfl⟩
      ·
        refine r_aload_n F rfl rfl dX6_hasPacket_17 rfl ?_
        refine r_getI F f_X6_24 hS rfl dX6_hasPacket_18 rfl ?_
        refine r_goto F (tgt := 28) dX6_hasPacket_21 (by decide) ?_
        refine r_icmp_ge F (tgt := 35) ⟨by omega, by omega⟩ ⟨by omega, by omega⟩ dX6_hasPacket_28 rfl (by decide) (fun h_28 => ?_) (fun h_28 => ?_)
        ·
          refine r_iconst F dX6_hasPacket_35 rfl ?_
          exact r_zret F Rt (by omega) dX6_hasPacket_36 (by decide) ⟨by simp only [ja_b]; split <;> first | rfl | (exfalso; simp_all; omega) | (exfalso; simp_all), rfl, rfl, rfl⟩
        ·
          refine r_iconst F dX6_hasPacket_31 rfl ?_
          refine r_goto F (tgt := 36) dX6_hasPacket_32 (by decide) ?_
          exact r_zret F Rt (by omega) dX6_hasPacket_36 (by decide) ⟨by simp only [ja_b]; split <;> first | rfl | (exfalso; simp_all; omega) | (exfalso; simp_all), rfl, rfl, rfl⟩
abbrev rm_X6_coveredFrame : Room := { frames := 1, cells := 0, slots := 0, locals := 20 }
set_option maxRecDepth 100000 in
set_option maxHeartbeats 4000000 in
theorem c_X6_coveredFrame (l : Launch) (D : va_G) (cA : Nat → ClassId) (B : Nat) {lay : ja_Y} {mem : ja_M} {n : Nat} {s : Nat} {r k i j : Int} (hS : ja_LS lay s) (hr : 0 ≤ r ∧ r ≤ 1) : ja_Mt l D cA B yX6_coveredFrame cX6_coveredFrame 6 (some .int) rm_X6_coveredFrame [.ref s, .int (ja_I r), .int (ja_I k), .int (ja_I i), .int (ja_I j)] lay mem n (ja_rd lay mem n (some (.int (ja_I (ja_cov mem s r k i j))))) := by
  refine ja_enter [some (.ref s), some (.int (ja_I r)), some (.int (ja_I k)), some (.int (ja_I i)), some (.int (ja_I j)), none] (by decide) (Nat.le_of_ble_eq_true rfl) (fun q hq => hq) (fun C F Rt G hnm => ?_)
  refine r_iload_n F rfl rfl dX6_coveredFrame_0 rfl ?_
  refine r_if_eq F (tgt := 16) ⟨by omega, by omega⟩ dX6_coveredFrame_1 rfl (by decide) (fun h_1 => ?_) (fun h_1 => ?_)
  ·
    refine r_iload F rfl dX6_coveredFrame_16 rfl ?_
    refine r_aload_n F rfl rfl dX6_coveredFrame_18 rfl ?_
    refine r_getI F f_X6_21 hS rfl dX6_coveredFrame_19 rfl ?_
    refine r_imul F dX6_coveredFrame_22 rfl ?_
    refine r_iload_n F rfl rfl dX6_coveredFrame_23 rfl ?_
    refine r_iadd F dX6_coveredFrame_24 rfl ?_
    refine r_ist5 F (by decide) rfl dX6_coveredFrame_25 rfl ?_
    refine r_iload_n F rfl rfl dX6_coveredFrame_27 rfl ?_
    refine r_aload_n F rfl rfl dX6_coveredFrame_28 rfl ?_
    refine r_callV F G (c_X6_cells _ _ _ _ hS) v_X6_40 rfl hS rfl (by decide) (by decide) (Nat.le_of_ble_eq_true rfl) rfl dX6_coveredFrame_29 rfl (fun v lay' mem' n' hp => ?_)
    obtain ⟨q1, q2, q3, q4⟩ := hp
    subst q1; subst q2; subst q3; subst q4
    refine r_imul F dX6_coveredFrame_32 rfl ?_
    refine r_iload F rfl dX6_coveredFrame_33 rfl ?_
    refine r_iadd F dX6_coveredFrame_35 rfl ?_
    exact r_iret F Rt dX6_coveredFrame_36 (by decide) ⟨by simp only [ja_cov]; split <;> first | rfl | (exfalso; omega), rfl, rfl, rfl⟩
  ·
    refine r_iload_n F rfl rfl dX6_coveredFrame_4 rfl ?_
    refine r_aload_n F rfl rfl dX6_coveredFrame_5 rfl ?_
    refine r_getI F f_X6_21 hS rfl dX6_coveredFrame_6 rfl ?_
    refine r_imul F dX6_coveredFrame_9 rfl ?_
    refine r_iload F rfl dX6_coveredFrame_10 rfl ?_
    refine r_iadd F dX6_coveredFrame_12 rfl ?_
    refine r_goto F (tgt := 25) dX6_coveredFrame_13 (by decide) ?_
    refine r_ist5 F (by decide) rfl dX6_coveredFrame_25 rfl ?_
    refine r_iload_n F rfl rfl dX6_coveredFrame_27 rfl ?_
    refine r_aload_n F rfl rfl dX6_coveredFrame_28 rfl ?_
    refine r_callV F G (c_X6_cells _ _ _ _ hS) v_X6_40 rfl hS rfl (by decide) (by decide) (Nat.le_of_ble_eq_true rfl) rfl dX6_coveredFrame_29 rfl (fun v lay' mem' n' hp => ?_)
    obtain ⟨q1, q2, q3, q4⟩ := hp
    subst q1; subst q2; subst q3; subst q4
    refine r_imul F dX6_coveredFrame_32 rfl ?_
    refine r_iload F rfl dX6_coveredFrame_33 rfl ?_
    refine r_iadd F dX6_coveredFrame_35 rfl ?_
    exact r_iret F Rt dX6_coveredFrame_36 (by decide) ⟨by simp only [ja_cov]; split <;> first | rfl | (exfalso; omega), rfl, rfl, rfl⟩
end
section
abbrev rm_X2_copyFrom : Room := { frames := 0, cells := 0, slots := 0, locals := 0 }
set_option maxRecDepth 100000 in
set_option maxHeartbeats 4000000 in
theorem c_X2_copyFrom (l : Launch) (D : va_G) (cA : Nat → ClassId) (B : Nat) {lay : ja_Y} {mem : ja_M} {n : Nat} {a o : Nat} (hC : ja_LC lay a) (hCo : ja_LC lay o) (hao : o ≠ a) : ja_Mt l D cA B yX2_copyFrom cX2_copyFrom 2 none rm_X2_copyFrom [.ref a, .ref o] lay mem n (ja_rd lay (C_cp mem a o) n (none)) := by
  refine ja_enter [some (.ref a), some (.ref o)] (by decide) (Nat.le_of_ble_eq_true rfl) (fun q hq => hq) (fun C F Rt G hnm => ?_)
  have hoa : ¬ o = a := hao
  refine r_aload_n F rfl rfl dX2_copyFrom_0 rfl ?_
  refine r_aload_n F rfl rfl dX2_copyFrom_1 rfl ?_
  refine r_getI F f_X2_9 hCo rfl dX2_copyFrom_2 rfl ?_
  refine r_putI F f_X2_9 hC rfl dX2_copyFrom_5 rfl ?_
  refine r_aload_n F rfl rfl dX2_copyFrom_8 rfl ?_
  refine r_aload_n F rfl rfl dX2_copyFrom_9 rfl ?_
  refine r_getI F f_X2_15 hCo rfl dX2_copyFrom_10 rfl ?_
  refine r_eqz (z := mem o 1) (by simp [ja_up]) ?_
  refine r_putI F f_X2_15 hC rfl dX2_copyFrom_13 rfl ?_
  refine r_aload_n F rfl rfl dX2_copyFrom_16 rfl ?_
  refine r_aload_n F rfl rfl dX2_copyFrom_17 rfl ?_
  refine r_getI F f_X2_18 hCo rfl dX2_copyFrom_18 rfl ?_
  refine r_eqz (z := mem o 2) (by simp [ja_up]) ?_
  refine r_putI F f_X2_18 hC rfl dX2_copyFrom_21 rfl ?_
  refine r_aload_n F rfl rfl dX2_copyFrom_24 rfl ?_
  refine r_aload_n F rfl rfl dX2_copyFrom_25 rfl ?_
  refine r_getI F f_X2_21 hCo rfl dX2_copyFrom_26 rfl ?_
  refine r_eqz (z := mem o 3) (by simp [ja_up]) ?_
  refine r_putI F f_X2_21 hC rfl dX2_copyFrom_29 rfl ?_
  refine r_aload_n F rfl rfl dX2_copyFrom_32 rfl ?_
  refine r_aload_n F rfl rfl dX2_copyFrom_33 rfl ?_
  refine r_getI F f_X2_24 hCo rfl dX2_copyFrom_34 rfl ?_
  refine r_eqz (z := mem o 4) (by simp [ja_up]) ?_
  refine r_putI F f_X2_24 hC rfl dX2_copyFrom_37 rfl ?_
  refine r_aload_n F rfl rfl dX2_copyFrom_40 rfl ?_
  refine r_aload_n F rfl rfl dX2_copyFrom_41 rfl ?_
  refine r_getI F f_X2_27 hCo rfl dX2_copyFrom_42 rfl ?_
  refine r_eqz (z := mem o 5) (by simp [ja_up]) ?_
  refine r_putI F f_X2_27 hC rfl dX2_copyFrom_45 rfl ?_
  refine r_aload_n F rfl rfl dX2_copyFrom_48 rfl ?_
  refine r_aload_n F rfl rfl dX2_copyFrom_49 rfl ?_
  refine r_getI F f_X2_30 hCo rfl dX2_copyFrom_50 rfl ?_
  refine r_eqz (z := mem o 6) (by simp [ja_up]) ?_
  refine r_putI F f_X2_30 hC rfl dX2_copyFrom_53 rfl ?_
  refine r_aload_n F rfl rfl dX2_copyFrom_56 rfl ?_
  refine r_aload_n F rfl rfl dX2_copyFrom_57 rfl ?_
  refine r_getI F f_X2_33 hCo rfl dX2_copyFrom_58 rfl ?_
  refine r_eqz (z := mem o 7) (by simp [ja_up]) ?_
  refine r_putI F f_X2_33 hC rfl dX2_copyFrom_61 rfl ?_
  refine r_aload_n F rfl rfl dX2_copyFrom_64 rfl ?_
  refine r_aload_n F rfl rfl dX2_copyFrom_65 rfl ?_
  refine r_getI F f_X2_36 hCo rfl dX2_copyFrom_66 rfl ?_
  refine r_eqz (z := mem o 8) (by simp [ja_up]) ?_
  refine r_putI F f_X2_36 hC rfl dX2_copyFrom_69 rfl ?_
  exact r_vret F Rt dX2_copyFrom_72 (by decide) ⟨rfl, rfl, rfl, rfl⟩
abbrev rm_X2_takenAs : Room := { frames := 0, cells := 0, slots := 0, locals := 0 }
set_option maxRecDepth 100000 in
set_option maxHeartbeats 4000000 in
theorem c_X2_takenAs (l : Launch) (D : va_G) (cA : Nat → ClassId) (B : Nat) {lay : ja_Y} {mem : ja_M} {n : Nat} {a : Nat} {k : Int} (hC : ja_LC lay a) (hk : 1 ≤ k ∧ k ≤ 3) : ja_Mt l D cA B yX2_takenAs cX2_takenAs 2 (some .int) rm_X2_takenAs [.ref a, .int (ja_I k)] lay mem n (ja_rd lay mem n (some (.int (ja_I (if k = 3 then mem a 2 else if k = 1 then mem a 0 else mem a 1))))) := by
  refine ja_enter [some (.ref a), some (.int (ja_I k))] (by decide) (Nat.le_of_ble_eq_true rfl) (fun q hq => hq) (fun C F Rt G hnm => ?_)
  refine r_iload_n F rfl rfl dX2_takenAs_0 rfl ?_
  refine r_iconst F dX2_takenAs_1 rfl ?_
  refine r_icmp_ne F (tgt := 10) ⟨by omega, by omega⟩ ⟨by omega, by omega⟩ dX2_takenAs_2 rfl (by decide) (fun h_2 => ?_) (fun h_2 => ?_)
  ·
    refine r_iload_n F rfl rfl dX2_takenAs_10 rfl ?_
    refine r_iconst F dX2_takenAs_11 rfl ?_
    refine r_icmp_ne F (tgt := 22) ⟨by omega, by omega⟩ ⟨by omega, by omega⟩ dX2_takenAs_12 rfl (by decide) (fun h_12 => ?_) (fun h_12 => ?_)
    ·
      refine r_aload_n F rfl rfl dX2_takenAs_22 rfl ?_
      refine r_getI F f_X2_15 hC rfl dX2_takenAs_23 rfl ?_
      exact r_iret F Rt dX2_takenAs_26 (by decide) ⟨by first | rw [if_pos (by omega)] | rw [if_neg (by omega), if_pos (by omega)] | rw [if_neg (by omega), if_neg (by omega)], rfl, rfl, rfl⟩
    ·
      refine r_aload_n F rfl rfl dX2_takenAs_15 rfl ?_
      refine r_getI F f_X2_9 hC rfl dX2_takenAs_16 rfl ?_
      refine r_goto F (tgt := 26) dX2_takenAs_19 (by decide) ?_
      exact r_iret F Rt dX2_takenAs_26 (by decide) ⟨by first | rw [if_pos (by omega)] | rw [if_neg (by omega), if_pos (by omega)] | rw [if_neg (by omega), if_neg (by omega)], rfl, rfl, rfl⟩
  ·
    refine r_aload_n F rfl rfl dX2_takenAs_5 rfl ?_
    refine r_getI F f_X2_18 hC rfl dX2_takenAs_6 rfl ?_
    exact r_iret F Rt dX2_takenAs_9 (by decide) ⟨by first | rw [if_pos (by omega)] | rw [if_neg (by omega), if_pos (by omega)] | rw [if_neg (by omega), if_neg (by omega)], rfl, rfl, rfl⟩
abbrev rm_X2_countKnown : Room := { frames := 0, cells := 0, slots := 0, locals := 0 }
set_option maxRecDepth 100000 in
set_option maxHeartbeats 4000000 in
theorem c_X2_countKnown (l : Launch) (D : va_G) (cA : Nat → ClassId) (B : Nat) {lay : ja_Y} {mem : ja_M} {n : Nat} {a : Nat} {k : Int} (hC : ja_LC lay a) (hk : 1 ≤ k ∧ k ≤ 2) : ja_Mt l D cA B yX2_countKnown cX2_countKnown 2 none rm_X2_countKnown [.ref a, .int (ja_I k)] lay mem n (ja_rd lay (C_kn mem a k) n (none)) := by
  refine ja_enter [some (.ref a), some (.int (ja_I k))] (by decide) (Nat.le_of_ble_eq_true rfl) (fun q hq => hq) (fun C F Rt G hnm => ?_)
  refine r_iload_n F rfl rfl dX2_countKnown_0 rfl ?_
  refine r_iconst F dX2_countKnown_1 rfl ?_
  refine r_icmp_ne F (tgt := 18) ⟨by omega, by omega⟩ ⟨by omega, by omega⟩ dX2_countKnown_2 rfl (by decide) (fun h_2 => ?_) (fun h_2 => ?_)
  ·
    refine r_aload_n F rfl rfl dX2_countKnown_18 rfl ?_
    refine r_dup F rfl dX2_countKnown_19 rfl ?_
    refine r_getI F f_X2_15 hC rfl dX2_countKnown_20 rfl ?_
    refine r_iconst F dX2_countKnown_23 rfl ?_
    refine r_iadd F dX2_countKnown_24 rfl ?_
    refine r_putI F f_X2_15 hC rfl dX2_countKnown_25 rfl ?_
    refine r_aload_n F rfl rfl dX2_countKnown_28 rfl ?_
    refine r_iconst F dX2_countKnown_29 rfl ?_
    refine r_putI F f_X2_33 hC rfl dX2_countKnown_30 rfl ?_
    exact r_vret F Rt dX2_countKnown_33 (by decide) ⟨rfl, rfl, by unfold C_kn; first | rw [if_pos (by omega)] | rw [if_neg (by omega)], rfl⟩
  ·
    refine r_aload_n F rfl rfl dX2_countKnown_5 rfl ?_
    refine r_dup F rfl dX2_countKnown_6 rfl ?_
    refine r_getI F f_X2_9 hC rfl dX2_countKnown_7 rfl ?_
    refine r_iconst F dX2_countKnown_10 rfl ?_
    refine r_iadd F dX2_countKnown_11 rfl ?_
    refine r_putI F f_X2_9 hC rfl dX2_countKnown_12 rfl ?_
    refine r_goto F (tgt := 28) dX2_countKnown_15 (by decide) ?_
    refine r_aload_n F rfl rfl dX2_countKnown_28 rfl ?_
    refine r_iconst F dX2_countKnown_29 rfl ?_
    refine r_putI F f_X2_33 hC rfl dX2_countKnown_30 rfl ?_
    exact r_vret F Rt dX2_countKnown_33 (by decide) ⟨rfl, rfl, by unfold C_kn; first | rw [if_pos (by omega)] | rw [if_neg (by omega)], rfl⟩
abbrev rm_X2_countConcealed : Room := { frames := 1, cells := 0, slots := 0, locals := 21 }
set_option maxRecDepth 100000 in
set_option maxHeartbeats 4000000 in
theorem c_X2_countConcealed (l : Launch) (D : va_G) (cA : Nat → ClassId) (B : Nat) {lay : ja_Y} {mem : ja_M} {n : Nat} {a : Nat} (hC : ja_LC lay a) (h7 : 0 ≤ mem a 7 ∧ mem a 7 ≤ 100000) (h8 : 0 ≤ mem a 8 ∧ mem a 8 ≤ 100000) : ja_Mt l D cA B yX2_countConcealed cX2_countConcealed 1 none rm_X2_countConcealed [.ref a] lay mem n (ja_rd lay (C_co mem a) n (none)) := by
  refine ja_enter [some (.ref a)] (by decide) (Nat.le_of_ble_eq_true rfl) (fun q hq => hq) (fun C F Rt G hnm => ?_)
  refine r_aload_n F rfl rfl dX2_countConcealed_0 rfl ?_
  refine r_dup F rfl dX2_countConcealed_1 rfl ?_
  refine r_getI F f_X2_18 hC rfl dX2_countConcealed_2 rfl ?_
  refine r_iconst F dX2_countConcealed_5 rfl ?_
  refine r_iadd F dX2_countConcealed_6 rfl ?_
  refine r_putI F f_X2_18 hC rfl dX2_countConcealed_7 rfl ?_
  refine r_aload_n F rfl rfl dX2_countConcealed_10 rfl ?_
  refine r_dup F rfl dX2_countConcealed_11 rfl ?_
  refine r_getI F f_X2_33 hC rfl dX2_countConcealed_12 rfl ?_
  refine r_eqz (z := mem a 7) (by simp [ja_up]) ?_
  refine r_iconst F dX2_countConcealed_15 rfl ?_
  refine r_iadd F dX2_countConcealed_16 rfl ?_
  refine r_putI F f_X2_33 hC rfl dX2_countConcealed_17 rfl ?_
  refine r_aload_n F rfl rfl dX2_countConcealed_20 rfl ?_
  refine r_aload_n F rfl rfl dX2_countConcealed_21 rfl ?_
  refine r_getI F f_X2_36 hC rfl dX2_countConcealed_22 rfl ?_
  refine r_eqz (z := mem a 8) (by simp [ja_up]) ?_
  refine r_aload_n F rfl rfl dX2_countConcealed_25 rfl ?_
  refine r_getI F f_X2_33 hC rfl dX2_countConcealed_26 rfl ?_
  refine r_eqz (z := (mem a 7 + 1)) (by simp [ja_up]) ?_
  refine r_mmax F ⟨by omega, by omega⟩ ⟨by omega, by omega⟩ s_X2_39 (Nat.le_of_ble_eq_true rfl) (by decide) (by decide) (by decide) dX2_countConcealed_29 rfl ?_
  refine r_putI F f_X2_36 hC rfl dX2_countConcealed_32 rfl ?_
  exact r_vret F Rt dX2_countConcealed_35 (by decide) ⟨rfl, rfl, rfl, rfl⟩
abbrev rm_X1_add : Room := { frames := 0, cells := 0, slots := 0, locals := 0 }
set_option maxRecDepth 100000 in
set_option maxHeartbeats 4000000 in
theorem c_X1_add (l : Launch) (D : va_G) (cA : Nat → ClassId) (B : Nat) {lay : ja_Y} {mem : ja_M} {n : Nat} {a : Nat} {k m i t : Int} (hA : ja_LA lay a) (h4 : 0 ≤ mem a 4 ∧ mem a 4 ≤ 24) : ja_Mt l D cA B yX1_add cX1_add 5 none rm_X1_add [.ref a, .int (ja_I k), .int (ja_I m), .int (ja_I i), .int (ja_I t)] lay mem n (ja_rd lay (A_add mem a k m i t) n (none)) := by
  refine ja_enter [some (.ref a), some (.int (ja_I k)), some (.int (ja_I m)), some (.int (ja_I i)), some (.int (ja_I t))] (by decide) (Nat.le_of_ble_eq_true rfl) (fun q hq => hq) (fun C F Rt G hnm => ?_)
  refine r_aload_n F rfl rfl dX1_add_0 rfl ?_
  refine r_getI F f_X1_22 (hA.1) rfl dX1_add_1 rfl ?_
  refine r_bipush F (by decide) dX1_add_4 rfl ?_
  refine r_icmp_ge F (tgt := 60) ⟨by omega, by omega⟩ ⟨by omega, by omega⟩ dX1_add_6 rfl (by decide) (fun h_6 => ?_) (fun h_6 => ?_)
  ·
    exact r_vret F Rt dX1_add_60 (by decide) ⟨rfl, rfl, by unfold A_add; first | rw [if_pos (by omega)] | rw [if_neg (by omega)], rfl⟩
  ·
    refine r_aload_n F rfl rfl dX1_add_9 rfl ?_
    refine r_getR F f_X1_9 (hA.1) rfl dX1_add_10 rfl ?_
    refine r_aload_n F rfl rfl dX1_add_13 rfl ?_
    refine r_getI F f_X1_22 (hA.1) rfl dX1_add_14 rfl ?_
    refine r_iload_n F rfl rfl dX1_add_17 rfl ?_
    refine r_iast F (ja_LA_1 hA) (by omega) (by omega) (by decide) dX1_add_18 rfl ?_
    refine r_aload_n F rfl rfl dX1_add_19 rfl ?_
    refine r_getR F f_X1_13 (hA.1) rfl dX1_add_20 rfl ?_
    refine r_aload_n F rfl rfl dX1_add_23 rfl ?_
    refine r_getI F f_X1_22 (hA.1) rfl dX1_add_24 rfl ?_
    refine r_eqz (z := mem a 4) (by simp [ja_up]) ?_
    refine r_iload_n F rfl rfl dX1_add_27 rfl ?_
    refine r_iast F (ja_LA_2 hA) (by omega) (by omega) (by decide) dX1_add_28 rfl ?_
    refine r_aload_n F rfl rfl dX1_add_29 rfl ?_
    refine r_getR F f_X1_16 (hA.1) rfl dX1_add_30 rfl ?_
    refine r_aload_n F rfl rfl dX1_add_33 rfl ?_
    refine r_getI F f_X1_22 (hA.1) rfl dX1_add_34 rfl ?_
    refine r_eqz (z := mem a 4) (by simp [ja_up]) ?_
    refine r_iload_n F rfl rfl dX1_add_37 rfl ?_
    refine r_iast F (ja_LA_3 hA) (by omega) (by omega) (by decide) dX1_add_38 rfl ?_
    refine r_aload_n F rfl rfl dX1_add_39 rfl ?_
    refine r_getR F f_X1_19 (hA.1) rfl dX1_add_40 rfl ?_
    refine r_aload_n F rfl rfl dX1_add_43 rfl ?_
    refine r_getI F f_X1_22 (hA.1) rfl dX1_add_44 rfl ?_
    refine r_eqz (z := mem a 4) (by simp [ja_up]) ?_
    refine r_iload F rfl dX1_add_47 rfl ?_
    refine r_iast F (ja_LA_4 hA) (by omega) (by omega) (by decide) dX1_add_49 rfl ?_
    refine r_aload_n F rfl rfl dX1_add_50 rfl ?_
    refine r_dup F rfl dX1_add_51 rfl ?_
    refine r_getI F f_X1_22 (hA.1) rfl dX1_add_52 rfl ?_
    refine r_eqz (z := mem a 4) (by simp [ja_up]) ?_
    refine r_iconst F dX1_add_55 rfl ?_
    refine r_iadd F dX1_add_56 rfl ?_
    refine r_putI F f_X1_22 (hA.1) rfl dX1_add_57 rfl ?_
    exact r_vret F Rt dX1_add_60 (by decide) ⟨rfl, rfl, by unfold A_add; first | rw [if_pos (by omega)] | rw [if_neg (by omega)], rfl⟩
abbrev rm_X1_addAll : Room := { frames := 1, cells := 0, slots := 0, locals := 24 }
set_option maxRecDepth 100000 in
set_option maxHeartbeats 4000000 in
theorem c_X1_addAll (l : Launch) (D : va_G) (cA : Nat → ClassId) (B : Nat) {lay : ja_Y} {mem : ja_M} {n : Nat} {a o : Nat} (hA : ja_LA lay a) (hAo : ja_LA lay o) (h4 : 0 ≤ mem a 4 ∧ mem a 4 ≤ 24) (g4 : 0 ≤ mem o 4 ∧ mem o 4 ≤ 24) (hao : a + 5 ≤ o ∨ o + 5 ≤ a) : ja_Mt l D cA B yX1_addAll cX1_addAll 3 none rm_X1_addAll [.ref a, .ref o] lay mem n (ja_rd lay (A_all mem a o (mem o 4).toNat) n (none)) := by
  refine ja_enter [some (.ref a), some (.ref o), none] (by decide) (Nat.le_of_ble_eq_true rfl) (fun q hq => hq) (fun C F Rt G hnm => ?_)
  refine r_iconst F dX1_addAll_0 rfl ?_
  refine r_ist2 F (by decide) rfl dX1_addAll_1 rfl ?_
  have loop : ∀ (d k : Nat), k + d = (mem o 4).toNat → ja_W C 0 0 lay (A_all mem a o k) n 2 [some (.ref a), some (.ref o), some (.int (ja_I (k : Int)))] [] := by
    intro d
    induction d with
    | zero =>
      intro k hk
      refine r_iload_n F rfl rfl dX1_addAll_2 rfl ?_
      refine r_aload_n F rfl rfl dX1_addAll_3 rfl ?_
      refine r_getI F f_X1_22 (hAo.1) rfl dX1_addAll_4 rfl ?_
      refine r_eqz (z := mem o 4) (by rw [A_all_o (by omega)]) ?_
      refine r_icmp_ge F (tgt := 44) ⟨by omega, by omega⟩ ⟨by omega, by omega⟩ dX1_addAll_7 rfl (by decide) (fun h_7 => ?_) (fun h_7 => ?_)
      ·
        exact r_vret F Rt dX1_addAll_44 (by decide) ⟨rfl, rfl, by rw [show (mem o 4).toNat = k by omega], rfl⟩
      ·
        exfalso; omega
    | succ d ih =>
      intro k hk
      refine r_iload_n F rfl rfl dX1_addAll_2 rfl ?_
      refine r_aload_n F rfl rfl dX1_addAll_3 rfl ?_
      refine r_getI F f_X1_22 (hAo.1) rfl dX1_addAll_4 rfl ?_
      refine r_eqz (z := mem o 4) (by rw [A_all_o (by omega)]) ?_
      refine r_icmp_ge F (tgt := 44) ⟨by omega, by omega⟩ ⟨by omega, by omega⟩ dX1_addAll_7 rfl (by decide) (fun h_7 => ?_) (fun h_7 => ?_)
      ·
        exfalso; omega
      ·
        refine r_aload_n F rfl rfl dX1_addAll_10 rfl ?_
        refine r_aload_n F rfl rfl dX1_addAll_11 rfl ?_
        refine r_getR F f_X1_9 (hAo.1) rfl dX1_addAll_12 rfl ?_
        refine r_iload_n F rfl rfl dX1_addAll_15 rfl ?_
        refine r_iald F (ja_LA_1 hAo) (by omega) (by omega) (by decide) dX1_addAll_16 rfl ?_
        refine r_eqz (z := mem (o + 1) k) (by rw [A_all_o (by omega), ja_nat]) ?_
        refine r_aload_n F rfl rfl dX1_addAll_17 rfl ?_
        refine r_getR F f_X1_13 (hAo.1) rfl dX1_addAll_18 rfl ?_
        refine r_iload_n F rfl rfl dX1_addAll_21 rfl ?_
        refine r_iald F (ja_LA_2 hAo) (by omega) (by omega) (by decide) dX1_addAll_22 rfl ?_
        refine r_eqz (z := mem (o + 2) k) (by rw [A_all_o (by omega), ja_nat]) ?_
        refine r_aload_n F rfl rfl dX1_addAll_23 rfl ?_
        refine r_getR F f_X1_16 (hAo.1) rfl dX1_addAll_24 rfl ?_
        refine r_iload_n F rfl rfl dX1_addAll_27 rfl ?_
        refine r_iald F (ja_LA_3 hAo) (by omega) (by omega) (by decide) dX1_addAll_28 rfl ?_
        refine r_eqz (z := mem (o + 3) k) (by rw [A_all_o (by omega), ja_nat]) ?_
        refine r_aload_n F rfl rfl dX1_addAll_29 rfl ?_
        refine r_getR F f_X1_19 (hAo.1) rfl dX1_addAll_30 rfl ?_
        refine r_iload_n F rfl rfl dX1_addAll_33 rfl ?_
        refine r_iald F (ja_LA_4 hAo) (by omega) (by omega) (by decide) dX1_addAll_34 rfl ?_
        refine r_eqz (z := mem (o + 4) k) (by rw [A_all_o (by omega), ja_nat]) ?_
        refine r_callV F G (c_X1_add _ _ _ _ hA (A_all_sz h4 k)) v_X1_30 rfl (hA.1) rfl (by decide) (by decide) (Nat.le_of_ble_eq_true rfl) rfl dX1_addAll_35 rfl (fun v lay' mem' n' hp => ?_)
        obtain ⟨q1, q2, q3, q4⟩ := hp
        subst q1; subst q2; subst q3; subst q4
        refine r_inc2 F (by decide) rfl dX1_addAll_38 rfl ?_
        refine r_goto F (tgt := 2) dX1_addAll_41 (by decide) ?_
        exact ih (k + 1) (by omega)
  exact loop (mem o 4).toNat 0 (by omega)
abbrev rm_X1_copyFrom : Room := { frames := 2, cells := 0, slots := 0, locals := 46 }
set_option maxRecDepth 100000 in
set_option maxHeartbeats 4000000 in
theorem c_X1_copyFrom (l : Launch) (D : va_G) (cA : Nat → ClassId) (B : Nat) {lay : ja_Y} {mem : ja_M} {n : Nat} {a o : Nat} (hA : ja_LA lay a) (hAo : ja_LA lay o) (g4 : 0 ≤ mem o 4 ∧ mem o 4 ≤ 24) (hao : a + 5 ≤ o ∨ o + 5 ≤ a) : ja_Mt l D cA B yX1_copyFrom cX1_copyFrom 2 none rm_X1_copyFrom [.ref a, .ref o] lay mem n (ja_rd lay (A_all (ja_up mem a 4 0) a o (mem o 4).toNat) n (none)) := by
  refine ja_enter [some (.ref a), some (.ref o)] (by decide) (Nat.le_of_ble_eq_true rfl) (fun q hq => hq) (fun C F Rt G hnm => ?_)
  refine r_aload_n F rfl rfl dX1_copyFrom_0 rfl ?_
  refine r_iconst F dX1_copyFrom_1 rfl ?_
  refine r_putI F f_X1_22 (hA.1) rfl dX1_copyFrom_2 rfl ?_
  refine r_aload_n F rfl rfl dX1_copyFrom_5 rfl ?_
  refine r_aload_n F rfl rfl dX1_copyFrom_6 rfl ?_
  refine r_callV F G (c_X1_addAll _ _ _ _ hA hAo (by rw [ja_up_s]; omega) (by rw [ja_up_a (by omega)]; omega) (by omega)) v_X1_26 rfl (hA.1) rfl (by decide) (by decide) (Nat.le_of_ble_eq_true rfl) rfl dX1_copyFrom_7 rfl (fun v lay' mem' n' hp => ?_)
  obtain ⟨q1, q2, q3, q4⟩ := hp
  subst q1; subst q2; subst q3; subst q4
  exact r_vret F Rt dX1_copyFrom_10 (by decide) ⟨rfl, rfl, by rw [ja_up_a (show o ≠ a by omega)], rfl⟩
abbrev rm_X1_removeAllAt : Room := { frames := 1, cells := 0, slots := 0, locals := 24 }
set_option maxRecDepth 100000 in
set_option maxHeartbeats 4000000 in
theorem c_X1_removeAllAt (l : Launch) (D : va_G) (cA : Nat → ClassId) (B : Nat) {lay : ja_Y} {mem : ja_M} {n : Nat} {a : Nat} {t : Int} (hA : ja_LA lay a) (h4 : 0 ≤ mem a 4 ∧ mem a 4 ≤ 24) (ht : ja_in t) (htt : ∀ j, ja_in (mem (a + 4) j)) : ja_Mt l D cA B yX1_removeAllAt cX1_removeAllAt 4 none rm_X1_removeAllAt [.ref a, .int (ja_I t)] lay mem n (ja_rd lay (A_rem mem a t (mem a 4).toNat) n (none)) := by
  refine ja_enter [some (.ref a), some (.int (ja_I t)), none, none] (by decide) (Nat.le_of_ble_eq_true rfl) (fun q hq => hq) (fun C F Rt G hnm => ?_)
  refine r_aload_n F rfl rfl dX1_removeAllAt_0 rfl ?_
  refine r_getI F f_X1_22 (hA.1) rfl dX1_removeAllAt_1 rfl ?_
  refine r_ist2 F (by decide) rfl dX1_removeAllAt_4 rfl ?_
  refine r_aload_n F rfl rfl dX1_removeAllAt_5 rfl ?_
  refine r_iconst F dX1_removeAllAt_6 rfl ?_
  refine r_putI F f_X1_22 (hA.1) rfl dX1_removeAllAt_7 rfl ?_
  refine r_iconst F dX1_removeAllAt_10 rfl ?_
  refine r_ist3 F (by decide) rfl dX1_removeAllAt_11 rfl ?_
  have loop : ∀ (d k : Nat), k + d = (mem a 4).toNat → ja_W C 0 0 lay (A_rem mem a t k) n 12 [some (.ref a), some (.int (ja_I t)), some (.int (ja_I (mem a 4))), some (.int (ja_I (k : Int)))] [] := by
    intro d
    induction d with
    | zero =>
      intro k hk
      refine r_iload_n F rfl rfl dX1_removeAllAt_12 rfl ?_
      refine r_iload_n F rfl rfl dX1_removeAllAt_13 rfl ?_
      refine r_icmp_ge F (tgt := 61) ⟨by omega, by omega⟩ ⟨by omega, by omega⟩ dX1_removeAllAt_14 rfl (by decide) (fun h_14 => ?_) (fun h_14 => ?_)
      ·
        exact r_vret F Rt dX1_removeAllAt_61 (by decide) ⟨rfl, rfl, by rw [show (mem a 4).toNat = k by omega], rfl⟩
      ·
        exfalso; omega
    | succ d ih =>
      intro k hk
      refine r_iload_n F rfl rfl dX1_removeAllAt_12 rfl ?_
      refine r_iload_n F rfl rfl dX1_removeAllAt_13 rfl ?_
      refine r_icmp_ge F (tgt := 61) ⟨by omega, by omega⟩ ⟨by omega, by omega⟩ dX1_removeAllAt_14 rfl (by decide) (fun h_14 => ?_) (fun h_14 => ?_)
      ·
        exfalso; omega
      ·
        refine r_aload_n F rfl rfl dX1_removeAllAt_17 rfl ?_
        refine r_getR F f_X1_19 (hA.1) rfl dX1_removeAllAt_18 rfl ?_
        refine r_iload_n F rfl rfl dX1_removeAllAt_21 rfl ?_
        refine r_iald F (ja_LA_4 hA) (by omega) (by omega) (by decide) dX1_removeAllAt_22 rfl ?_
        refine r_eqz (z := mem (a + 4) k) (by rw [ja_nat, A_rem_k (by omega) k (by omega) (by omega)]) ?_
        refine r_iload_n F rfl rfl dX1_removeAllAt_23 rfl ?_
        refine r_icmp_eq F (tgt := 55) (htt k) ht dX1_removeAllAt_24 rfl (by decide) (fun h_24 => ?_) (fun h_24 => ?_)
        ·
          refine r_inc3 F (by decide) rfl dX1_removeAllAt_55 rfl ?_
          refine r_goto F (tgt := 12) dX1_removeAllAt_58 (by decide) ?_
          refine r_mem (mem' := A_rem mem a t (k + 1)) (by simp only [A_rem]; first | rw [if_pos h_24] | rw [if_neg h_24]) ?_
          exact ih (k + 1) (by omega)
        ·
          refine r_aload_n F rfl rfl dX1_removeAllAt_27 rfl ?_
          refine r_aload_n F rfl rfl dX1_removeAllAt_28 rfl ?_
          refine r_getR F f_X1_9 (hA.1) rfl dX1_removeAllAt_29 rfl ?_
          refine r_iload_n F rfl rfl dX1_removeAllAt_32 rfl ?_
          refine r_iald F (ja_LA_1 hA) (by omega) (by omega) (by decide) dX1_removeAllAt_33 rfl ?_
          refine r_eqz (z := mem (a + 1) k) (by rw [ja_nat, A_rem_k (by omega) k (by omega) (by omega)]) ?_
          refine r_aload_n F rfl rfl dX1_removeAllAt_34 rfl ?_
          refine r_getR F f_X1_13 (hA.1) rfl dX1_removeAllAt_35 rfl ?_
          refine r_iload_n F rfl rfl dX1_removeAllAt_38 rfl ?_
          refine r_iald F (ja_LA_2 hA) (by omega) (by omega) (by decide) dX1_removeAllAt_39 rfl ?_
          refine r_eqz (z := mem (a + 2) k) (by rw [ja_nat, A_rem_k (by omega) k (by omega) (by omega)]) ?_
          refine r_aload_n F rfl rfl dX1_removeAllAt_40 rfl ?_
          refine r_getR F f_X1_16 (hA.1) rfl dX1_removeAllAt_41 rfl ?_
          refine r_iload_n F rfl rfl dX1_removeAllAt_44 rfl ?_
          refine r_iald F (ja_LA_3 hA) (by omega) (by omega) (by decide) dX1_removeAllAt_45 rfl ?_
          refine r_eqz (z := mem (a + 3) k) (by rw [ja_nat, A_rem_k (by omega) k (by omega) (by omega)]) ?_
          refine r_aload_n F rfl rfl dX1_removeAllAt_46 rfl ?_
          refine r_getR F f_X1_19 (hA.1) rfl dX1_removeAllAt_47 rfl ?_
          refine r_iload_n F rfl rfl dX1_removeAllAt_50 rfl ?_
          refine r_iald F (ja_LA_4 hA) (by omega) (by omega) (by decide) dX1_removeAllAt_51 rfl ?_
          refine r_eqz (z := mem (a + 4) k) (by rw [ja_nat, A_rem_k (by omega) k (by omega) (by omega)]) ?_
          refine r_callV F G (c_X1_add _ _ _ _ hA ⟨(A_rem_sz k (by omega)).1, Int.le_trans (A_rem_sz k (by omega)).2 (by omega)⟩) v_X1_30 rfl (hA.1) rfl (by decide) (by decide) (Nat.le_of_ble_eq_true rfl) rfl dX1_removeAllAt_52 rfl (fun v lay' mem' n' hp => ?_)
          obtain ⟨q1, q2, q3, q4⟩ := hp
          subst q1; subst q2; subst q3; subst q4
          refine r_inc3 F (by decide) rfl dX1_removeAllAt_55 rfl ?_
          refine r_goto F (tgt := 12) dX1_removeAllAt_58 (by decide) ?_
          refine r_mem (mem' := A_rem mem a t (k + 1)) (by simp only [A_rem]; first | rw [if_pos h_24] | rw [if_neg h_24]) ?_
          exact ih (k + 1) (by omega)
  exact loop (mem a 4).toNat 0 (by omega)
abbrev rm_X7_ascendingAt : Room := { frames := 0, cells := 0, slots := 0, locals := 0 }
set_option maxRecDepth 100000 in
set_option maxHeartbeats 4000000 in
theorem c_X7_ascendingAt (l : Launch) (D : va_G) (cA : Nat → ClassId) (B : Nat) {lay : ja_Y} {mem : ja_M} {n : Nat} {a : Nat} {k : Int} (hT : ja_LT lay a) (hk : 0 ≤ k ∧ k < 16) : ja_Mt l D cA B yX7_ascendingAt cX7_ascendingAt 2 (some .int) rm_X7_ascendingAt [.ref a, .int (ja_I k)] lay mem n (ja_rd lay mem n (some (.int (ja_I (mem (a + 2) k.toNat))))) := by
  refine ja_enter [some (.ref a), some (.int (ja_I k))] (by decide) (Nat.le_of_ble_eq_true rfl) (fun q hq => hq) (fun C F Rt G hnm => ?_)
  refine r_aload_n F rfl rfl dX7_ascendingAt_0 rfl ?_
  refine r_getR F f_X7_13 (hT.1) rfl dX7_ascendingAt_1 rfl ?_
  refine r_iload_n F rfl rfl dX7_ascendingAt_4 rfl ?_
  refine r_iald F (ja_LT_2 hT) (by omega) (by omega) (by decide) dX7_ascendingAt_5 rfl ?_
  exact r_iret F Rt dX7_ascendingAt_6 (by decide) ⟨rfl, rfl, rfl, rfl⟩
abbrev rm_X7_spread : Room := { frames := 0, cells := 0, slots := 0, locals := 0 }
set_option maxRecDepth 100000 in
set_option maxHeartbeats 4000000 in
theorem c_X7_spread (l : Launch) (D : va_G) (cA : Nat → ClassId) (B : Nat) {lay : ja_Y} {mem : ja_M} {n : Nat} {a : Nat} {q : Int} (hT : ja_LT lay a) (hO : ja_TO mem a) (hq : 1 ≤ q ∧ q ≤ 100) : ja_Mt l D cA B yX7_spread cX7_spread 2 (some .int) rm_X7_spread [.ref a, .int (ja_I q)] lay mem n (ja_rd lay mem n (some (.int (ja_I (T_spr mem a q))))) := by
  refine ja_enter [some (.ref a), some (.int (ja_I q))] (by decide) (Nat.le_of_ble_eq_true rfl) (fun q hq => hq) (fun C F Rt G hnm => ?_)
  have hO2 := hO.1
  have g1 := ja_mulb (by omega : 0 ≤ q) hq.2 hO2.1 hO2.2
  refine r_aload_n F rfl rfl dX7_spread_0 rfl ?_
  refine r_getI F f_X7_22 (hT.1) rfl dX7_spread_1 rfl ?_
  refine r_if_ne F (tgt := 9) ⟨by omega, by omega⟩ dX7_spread_4 rfl (by decide) (fun h_4 => ?_) (fun h_4 => ?_)
  ·
    have g2 := ja_mulb (by omega : 0 ≤ q - 1) (by omega : q - 1 ≤ 99) (by omega : 0 ≤ mem a 2 - 1) (by omega : mem a 2 - 1 ≤ 15)
    have g3 : 1 ≤ q * mem a 2 := by
      have := Int.mul_le_mul hq.1 (by omega : 1 ≤ mem a 2) (by omega) (by omega)
      omega
    refine r_aload_n F rfl rfl dX7_spread_9 rfl ?_
    refine r_getR F f_X7_13 (hT.1) rfl dX7_spread_10 rfl ?_
    refine r_iload_n F rfl rfl dX7_spread_13 rfl ?_
    refine r_aload_n F rfl rfl dX7_spread_14 rfl ?_
    refine r_getI F f_X7_22 (hT.1) rfl dX7_spread_15 rfl ?_
    refine r_imul F dX7_spread_18 rfl ?_
    refine r_bipush F (by decide) dX7_spread_19 rfl ?_
    refine r_iadd F dX7_spread_21 rfl ?_
    refine r_bipush F (by decide) dX7_spread_22 rfl ?_
    refine r_idivP F ⟨by omega, by omega⟩ ⟨by omega, by omega⟩ (by omega) (by omega) dX7_spread_24 rfl ?_
    refine r_iconst F dX7_spread_25 rfl ?_
    refine r_isub F dX7_spread_26 rfl ?_
    refine r_iald F (ja_LT_2 hT) (by omega) (by omega) (by decide) dX7_spread_27 rfl ?_
    refine r_aload_n F rfl rfl dX7_spread_28 rfl ?_
    refine r_getR F f_X7_13 (hT.1) rfl dX7_spread_29 rfl ?_
    refine r_iconst F dX7_spread_32 rfl ?_
    refine r_iald F (ja_LT_2 hT) (by omega) (by omega) (by decide) dX7_spread_33 rfl ?_
    refine r_isub F dX7_spread_34 rfl ?_
    exact r_iret F Rt dX7_spread_35 (by decide) ⟨by rw [T_spr, if_neg (by omega)]; rfl, rfl, rfl, rfl⟩
  ·
    refine r_iconst F dX7_spread_7 rfl ?_
    exact r_iret F Rt dX7_spread_8 (by decide) ⟨by rw [T_spr, if_pos (by omega)], rfl, rfl, rfl⟩
abbrev rm_X7_copyFrom : Room := { frames := 1, cells := 0, slots := 0, locals := 40 }
set_option maxRecDepth 100000 in
set_option maxHeartbeats 4000000 in
theorem c_X7_copyFrom (l : Launch) (D : va_G) (cA : Nat → ClassId) (B : Nat) {lay : ja_Y} {mem : ja_M} {n : Nat} {a o : Nat} (hT : ja_LT lay a) (hTo : ja_LT lay o) (hao : a + 3 ≤ o ∨ o + 3 ≤ a) : ja_Mt l D cA B yX7_copyFrom cX7_copyFrom 2 none rm_X7_copyFrom [.ref a, .ref o] lay mem n (ja_rd lay (T_cp mem a o) n (none)) := by
  refine ja_enter [some (.ref a), some (.ref o)] (by decide) (Nat.le_of_ble_eq_true rfl) (fun q hq => hq) (fun C F Rt G hnm => ?_)
  refine r_aload_n F rfl rfl dX7_copyFrom_0 rfl ?_
  refine r_getR F f_X7_9 (hTo.1) rfl dX7_copyFrom_1 rfl ?_
  refine r_iconst F dX7_copyFrom_4 rfl ?_
  refine r_aload_n F rfl rfl dX7_copyFrom_5 rfl ?_
  refine r_getR F f_X7_9 (hT.1) rfl dX7_copyFrom_6 rfl ?_
  refine r_iconst F dX7_copyFrom_9 rfl ?_
  refine r_bipush F (by decide) dX7_copyFrom_10 rfl ?_
  refine r_copy0 F s_X7_16 (ja_LT_1 hTo) (ja_LT_1 hT) (by decide) (by decide) (by decide) (by decide) (Nat.le_of_ble_eq_true rfl) (by decide) (by decide) dX7_copyFrom_12 rfl ?_
  refine r_aload_n F rfl rfl dX7_copyFrom_15 rfl ?_
  refine r_getR F f_X7_13 (hTo.1) rfl dX7_copyFrom_16 rfl ?_
  refine r_iconst F dX7_copyFrom_19 rfl ?_
  refine r_aload_n F rfl rfl dX7_copyFrom_20 rfl ?_
  refine r_getR F f_X7_13 (hT.1) rfl dX7_copyFrom_21 rfl ?_
  refine r_iconst F dX7_copyFrom_24 rfl ?_
  refine r_bipush F (by decide) dX7_copyFrom_25 rfl ?_
  refine r_copy0 F s_X7_16 (ja_LT_2 hTo) (ja_LT_2 hT) (by decide) (by decide) (by decide) (by decide) (Nat.le_of_ble_eq_true rfl) (by decide) (by decide) dX7_copyFrom_27 rfl ?_
  refine r_aload_n F rfl rfl dX7_copyFrom_30 rfl ?_
  refine r_aload_n F rfl rfl dX7_copyFrom_31 rfl ?_
  refine r_getI F f_X7_22 (hTo.1) rfl dX7_copyFrom_32 rfl ?_
  refine r_eqz (z := mem o 2) (by rw [ja_cp_o _ (by omega), ja_cp_o _ (by omega)]) ?_
  refine r_putI F f_X7_22 (hT.1) rfl dX7_copyFrom_35 rfl ?_
  refine r_aload_n F rfl rfl dX7_copyFrom_38 rfl ?_
  refine r_aload_n F rfl rfl dX7_copyFrom_39 rfl ?_
  refine r_getI F f_X7_26 (hTo.1) rfl dX7_copyFrom_40 rfl ?_
  refine r_eqz (z := mem o 3) (by rw [ja_up_a (by omega), ja_cp_o _ (by omega), ja_cp_o _ (by omega)]) ?_
  refine r_putI F f_X7_26 (hT.1) rfl dX7_copyFrom_43 rfl ?_
  exact r_vret F Rt dX7_copyFrom_46 (by decide) ⟨rfl, rfl, rfl, rfl⟩
end
section
abbrev rm_X7_insert : Room := { frames := 0, cells := 0, slots := 0, locals := 0 }
set_option maxRecDepth 100000 in
set_option maxHeartbeats 4000000 in
theorem c_X7_insert (l : Launch) (D : va_G) (cA : Nat → ClassId) (B : Nat) {lay : ja_Y} {mem : ja_M} {n : Nat} {a : Nat} {v k : Int} (hT : ja_LT lay a) (hO : ja_TO mem a) (hv : ja_sm v) (hk : 0 ≤ k ∧ k < 16) : ja_Mt l D cA B yX7_insert cX7_insert 4 none rm_X7_insert [.ref a, .int (ja_I v), .int (ja_I k)] lay mem n (ja_rd lay (ja_rw mem (a + 2) (T_ins (mem (a + 2)) v k.toNat)) n (none)) := by
  refine ja_enter [some (.ref a), some (.int (ja_I v)), some (.int (ja_I k)), none] (by decide) (Nat.le_of_ble_eq_true rfl) (fun q hq => hq) (fun C F Rt G hnm => ?_)
  refine r_iload_n F rfl rfl dX7_insert_0 rfl ?_
  refine r_ist3 F (by decide) rfl dX7_insert_1 rfl ?_
  have loop : ∀ (h : Nat), h ≤ k.toNat → ∀ g : Nat → Int, (∀ j, ja_sm (g j)) → T_ins g v h = T_ins (mem (a + 2)) v k.toNat → ja_W C 0 0 lay (ja_rw mem (a + 2) g) n 2 [some (.ref a), some (.int (ja_I v)), some (.int (ja_I k)), some (.int (ja_I (h : Int)))] [] := by
    intro h
    induction h with
    | zero =>
      intro hk2 g hg hT2
      refine r_iload_n F rfl rfl dX7_insert_2 rfl ?_
      refine r_if_le F (tgt := 38) ⟨by omega, by omega⟩ dX7_insert_3 rfl (by decide) (fun h_3 => ?_) (fun h_3 => ?_)
      ·
        refine r_aload_n F rfl rfl dX7_insert_38 rfl ?_
        refine r_getR F f_X7_13 (hT.1) rfl dX7_insert_39 rfl ?_
        refine r_iload_n F rfl rfl dX7_insert_42 rfl ?_
        refine r_iload_n F rfl rfl dX7_insert_43 rfl ?_
        refine r_iast F (ja_LT_2 hT) (by omega) (by omega) (by decide) dX7_insert_44 rfl ?_
        exact r_vret F Rt dX7_insert_45 (by decide) ⟨rfl, rfl, by rw [ja_rw_up, T_cast0, ← hT2]; rfl, rfl⟩
      ·
        exfalso; omega
    | succ h ih =>
      intro hk2 g hg hT2
      have hg1 := hg h
      refine r_iload_n F rfl rfl dX7_insert_2 rfl ?_
      refine r_if_le F (tgt := 38) ⟨by omega, by omega⟩ dX7_insert_3 rfl (by decide) (fun h_3 => ?_) (fun h_3 => ?_)
      ·
        exfalso; omega
      ·
        refine r_aload_n F rfl rfl dX7_insert_6 rfl ?_
        refine r_getR F f_X7_13 (hT.1) rfl dX7_insert_7 rfl ?_
        refine r_iload_n F rfl rfl dX7_insert_10 rfl ?_
        refine r_iconst F dX7_insert_11 rfl ?_
        refine r_isub F dX7_insert_12 rfl ?_
        refine r_iald F (ja_LT_2 hT) (by omega) (by omega) (by decide) dX7_insert_13 rfl ?_
        refine r_eqz (z := g h) (by rw [ja_rw_s]; congr 1; omega) ?_
        refine r_iload_n F rfl rfl dX7_insert_14 rfl ?_
        refine r_icmp_le F (tgt := 38) ⟨by have := hg1.1; omega, by have := hg1.2; omega⟩ ⟨by have := hv.1; omega, by have := hv.2; omega⟩ dX7_insert_15 rfl (by decide) (fun h_15 => ?_) (fun h_15 => ?_)
        ·
          refine r_aload_n F rfl rfl dX7_insert_38 rfl ?_
          refine r_getR F f_X7_13 (hT.1) rfl dX7_insert_39 rfl ?_
          refine r_iload_n F rfl rfl dX7_insert_42 rfl ?_
          refine r_iload_n F rfl rfl dX7_insert_43 rfl ?_
          refine r_iast F (ja_LT_2 hT) (by omega) (by omega) (by decide) dX7_insert_44 rfl ?_
          exact r_vret F Rt dX7_insert_45 (by decide) ⟨rfl, rfl, by rw [ja_rw_up, ← hT2]; simp only [T_ins]; rw [if_neg (by omega)]; rfl, rfl⟩
        ·
          refine r_aload_n F rfl rfl dX7_insert_18 rfl ?_
          refine r_getR F f_X7_13 (hT.1) rfl dX7_insert_19 rfl ?_
          refine r_iload_n F rfl rfl dX7_insert_22 rfl ?_
          refine r_aload_n F rfl rfl dX7_insert_23 rfl ?_
          refine r_getR F f_X7_13 (hT.1) rfl dX7_insert_24 rfl ?_
          refine r_iload_n F rfl rfl dX7_insert_27 rfl ?_
          refine r_iconst F dX7_insert_28 rfl ?_
          refine r_isub F dX7_insert_29 rfl ?_
          refine r_iald F (ja_LT_2 hT) (by omega) (by omega) (by decide) dX7_insert_30 rfl ?_
          refine r_eqz (z := g h) (by rw [ja_rw_s]; congr 1; omega) ?_
          refine r_iast F (ja_LT_2 hT) (by omega) (by omega) (by decide) dX7_insert_31 rfl ?_
          refine r_inc3 F (by decide) rfl dX7_insert_32 rfl ?_
          refine r_goto F (tgt := 2) dX7_insert_35 (by decide) ?_
          refine r_mem (mem' := ja_rw mem (a + 2) (ja_rs g (h + 1) (g h))) (by rw [ja_rw_up]; congr 1) ?_
          have e : (((h + 1 : Nat)) : Int) + (-1) = (h : Int) := by omega
          rw [e]
          exact ih (by omega) _ (fun j => by unfold ja_rs; split; exact hg1; exact hg j) (by rw [← hT2]; simp only [T_ins]; rw [if_pos (by omega)])
  have h0 := loop k.toNat (Nat.le_refl _) (mem (a + 2)) hO.2.2.2 rfl
  rw [ja_rw_self, show ((k.toNat : Nat) : Int) = k by omega] at h0
  exact h0
abbrev rm_J13_bitCount_95d88 : Room := { frames := 0, cells := 0, slots := 0, locals := 0 }
set_option maxRecDepth 100000 in
set_option maxHeartbeats 4000000 in
theorem c_J13_bitCount_95d88 (l : Launch) (D : va_G) (cA : Nat → ClassId) (B : Nat) {lay : ja_Y} {mem : ja_M} {n : Nat} {x : Int64} : ja_Mt l D cA B yJ13_bitCount_95d88 cJ13_bitCount_95d88 2 (some .int) rm_J13_bitCount_95d88 [.long x] lay mem n (ja_rd lay mem n (some (.int (ja_I (J_bc x))))) := by
  refine ja_enter [some (.long x), none] (by decide) (Nat.le_of_ble_eq_true rfl) (fun q hq => hq) (fun C F Rt G hnm => ?_)
  refine r_lload_n F rfl rfl dJ13_bitCount_95d88_0 rfl ?_
  refine r_lload_n F rfl rfl dJ13_bitCount_95d88_1 rfl ?_
  refine r_iconst F dJ13_bitCount_95d88_2 rfl ?_
  refine r_lushr F dJ13_bitCount_95d88_3 rfl ?_
  refine r_ldc2 F l_J13_314 dJ13_bitCount_95d88_4 rfl ?_
  refine r_land F dJ13_bitCount_95d88_7 rfl ?_
  refine r_lsub F dJ13_bitCount_95d88_8 rfl ?_
  refine r_lst0 F (by decide) rfl dJ13_bitCount_95d88_9 rfl ?_
  refine r_lload_n F rfl rfl dJ13_bitCount_95d88_10 rfl ?_
  refine r_ldc2 F l_J13_316 dJ13_bitCount_95d88_11 rfl ?_
  refine r_land F dJ13_bitCount_95d88_14 rfl ?_
  refine r_lload_n F rfl rfl dJ13_bitCount_95d88_15 rfl ?_
  refine r_iconst F dJ13_bitCount_95d88_16 rfl ?_
  refine r_lushr F dJ13_bitCount_95d88_17 rfl ?_
  refine r_ldc2 F l_J13_316 dJ13_bitCount_95d88_18 rfl ?_
  refine r_land F dJ13_bitCount_95d88_21 rfl ?_
  refine r_ladd F dJ13_bitCount_95d88_22 rfl ?_
  refine r_lst0 F (by decide) rfl dJ13_bitCount_95d88_23 rfl ?_
  refine r_lload_n F rfl rfl dJ13_bitCount_95d88_24 rfl ?_
  refine r_lload_n F rfl rfl dJ13_bitCount_95d88_25 rfl ?_
  refine r_iconst F dJ13_bitCount_95d88_26 rfl ?_
  refine r_lushr F dJ13_bitCount_95d88_27 rfl ?_
  refine r_ladd F dJ13_bitCount_95d88_28 rfl ?_
  refine r_ldc2 F l_J13_318 dJ13_bitCount_95d88_29 rfl ?_
  refine r_land F dJ13_bitCount_95d88_32 rfl ?_
  refine r_lst0 F (by decide) rfl dJ13_bitCount_95d88_33 rfl ?_
  refine r_lload_n F rfl rfl dJ13_bitCount_95d88_34 rfl ?_
  refine r_lload_n F rfl rfl dJ13_bitCount_95d88_35 rfl ?_
  refine r_bipush F (by decide) dJ13_bitCount_95d88_36 rfl ?_
  refine r_lushr F dJ13_bitCount_95d88_38 rfl ?_
  refine r_ladd F dJ13_bitCount_95d88_39 rfl ?_
  refine r_lst0 F (by decide) rfl dJ13_bitCount_95d88_40 rfl ?_
  refine r_lload_n F rfl rfl dJ13_bitCount_95d88_41 rfl ?_
  refine r_lload_n F rfl rfl dJ13_bitCount_95d88_42 rfl ?_
  refine r_bipush F (by decide) dJ13_bitCount_95d88_43 rfl ?_
  refine r_lushr F dJ13_bitCount_95d88_45 rfl ?_
  refine r_ladd F dJ13_bitCount_95d88_46 rfl ?_
  refine r_lst0 F (by decide) rfl dJ13_bitCount_95d88_47 rfl ?_
  refine r_lload_n F rfl rfl dJ13_bitCount_95d88_48 rfl ?_
  refine r_lload_n F rfl rfl dJ13_bitCount_95d88_49 rfl ?_
  refine r_bipush F (by decide) dJ13_bitCount_95d88_50 rfl ?_
  refine r_lushr F dJ13_bitCount_95d88_52 rfl ?_
  refine r_ladd F dJ13_bitCount_95d88_53 rfl ?_
  refine r_lst0 F (by decide) rfl dJ13_bitCount_95d88_54 rfl ?_
  refine r_lload_n F rfl rfl dJ13_bitCount_95d88_55 rfl ?_
  refine r_l2i F dJ13_bitCount_95d88_56 rfl ?_
  refine r_bipush F (by decide) dJ13_bitCount_95d88_57 rfl ?_
  refine r_iand F (ja_of' _) dJ13_bitCount_95d88_59 rfl ?_
  exact r_iret F Rt dJ13_bitCount_95d88_60 (by decide) ⟨rfl, rfl, rfl, rfl⟩
abbrev rm_X3_packetBit : Room := { frames := 0, cells := 0, slots := 0, locals := 0 }
set_option maxRecDepth 100000 in
set_option maxHeartbeats 4000000 in
theorem c_X3_packetBit (l : Launch) (D : va_G) (cA : Nat → ClassId) (B : Nat) {lay : ja_Y} {mem : ja_M} {n : Nat} {r i : Int} (hr : 0 ≤ r ∧ r ≤ 1) : ja_Mt l D cA B yX3_packetBit cX3_packetBit 2 (some .int) rm_X3_packetBit [.int (ja_I r), .int (ja_I i)] lay mem n (ja_rd lay mem n (some (.int (ja_I (F_pb r i))))) := by
  refine ja_enter [some (.int (ja_I r)), some (.int (ja_I i))] (by decide) (Nat.le_of_ble_eq_true rfl) (fun q hq => hq) (fun C F Rt G hnm => ?_)
  refine r_iconst F dX3_packetBit_0 rfl ?_
  refine r_iload_n F rfl rfl dX3_packetBit_1 rfl ?_
  refine r_if_eq F (tgt := 9) ⟨by omega, by omega⟩ dX3_packetBit_2 rfl (by decide) (fun h_2 => ?_) (fun h_2 => ?_)
  ·
    refine r_bipush F (by decide) dX3_packetBit_9 rfl ?_
    refine r_iload_n F rfl rfl dX3_packetBit_11 rfl ?_
    refine r_iadd F dX3_packetBit_12 rfl ?_
    refine r_ishl F (ja_of' _) dX3_packetBit_13 rfl ?_
    exact r_iret F Rt dX3_packetBit_14 (by decide) ⟨by unfold F_pb; first | rw [if_pos (by omega)] | rw [if_neg (by omega)], rfl, rfl, rfl⟩
  ·
    refine r_iload_n F rfl rfl dX3_packetBit_5 rfl ?_
    refine r_goto F (tgt := 13) dX3_packetBit_6 (by decide) ?_
    refine r_ishl F (ja_of' _) dX3_packetBit_13 rfl ?_
    exact r_iret F Rt dX3_packetBit_14 (by decide) ⟨by unfold F_pb; first | rw [if_pos (by omega)] | rw [if_neg (by omega)], rfl, rfl, rfl⟩
abbrev rm_X3_lineBits : Room := { frames := 0, cells := 0, slots := 0, locals := 0 }
set_option maxRecDepth 100000 in
set_option maxHeartbeats 4000000 in
theorem c_X3_lineBits (l : Launch) (D : va_G) (cA : Nat → ClassId) (B : Nat) {lay : ja_Y} {mem : ja_M} {n : Nat} {s : Nat} {r i : Int} (hS : ja_LS lay s) (hO : ja_SO mem s) (hr : 0 ≤ r ∧ r ≤ 1) : ja_Mt l D cA B yX3_lineBits cX3_lineBits 6 (some .long) rm_X3_lineBits [.ref s, .int (ja_I r), .int (ja_I i)] lay mem n (ja_rd lay mem n (some (.long (F_lb mem s r i)))) := by
  refine ja_enter [some (.ref s), some (.int (ja_I r)), some (.int (ja_I i)), none, none, none] (by decide) (Nat.le_of_ble_eq_true rfl) (fun q hq => hq) (fun C F Rt G hnm => ?_)
  have hO2 := hO
  obtain ⟨-, -, -, h3, h4, -⟩ := hO2
  refine r_iload_n F rfl rfl dX3_lineBits_0 rfl ?_
  refine r_if_eq F (tgt := 20) ⟨by omega, by omega⟩ dX3_lineBits_1 rfl (by decide) (fun h_1 => ?_) (fun h_1 => ?_)
  ·
    refine r_lconst F (v := 0) rfl dX3_lineBits_20 rfl ?_
    refine r_lst3 F (by decide) rfl dX3_lineBits_21 rfl ?_
    refine r_iconst F dX3_lineBits_22 rfl ?_
    refine r_ist5 F (by decide) rfl dX3_lineBits_23 rfl ?_
    have loop : ∀ (d k : Nat), k + d = (mem s 4).toNat → ja_W C 0 0 lay (mem) n 25 [some (.ref s), some (.int (ja_I r)), some (.int (ja_I i)), some (.long (F_lbc (mem s 3) i k)), none, some (.int (ja_I (k : Int)))] [] := by
      intro d
      induction d with
      | zero =>
        intro k hk
        refine r_iload F rfl dX3_lineBits_25 rfl ?_
        refine r_aload_n F rfl rfl dX3_lineBits_27 rfl ?_
        refine r_getI F f_X3_62 hS rfl dX3_lineBits_28 rfl ?_
        refine r_eqz (z := mem s 4) (by simp [ja_up]) ?_
        refine r_icmp_ge F (tgt := 54) ⟨by omega, by omega⟩ ⟨by omega, by omega⟩ dX3_lineBits_31 rfl (by decide) (fun h_31 => ?_) (fun h_31 => ?_)
        ·
          refine r_lload_n F rfl rfl dX3_lineBits_54 rfl ?_
          exact r_lret F Rt dX3_lineBits_55 (by decide) ⟨by rw [F_lb, if_pos (by omega), show (mem s 4).toNat = k by omega], rfl, rfl, rfl⟩
        ·
          exfalso; omega
      | succ d ih =>
        intro k hk
        refine r_iload F rfl dX3_lineBits_25 rfl ?_
        refine r_aload_n F rfl rfl dX3_lineBits_27 rfl ?_
        refine r_getI F f_X3_62 hS rfl dX3_lineBits_28 rfl ?_
        refine r_eqz (z := mem s 4) (by simp [ja_up]) ?_
        refine r_icmp_ge F (tgt := 54) ⟨by omega, by omega⟩ ⟨by omega, by omega⟩ dX3_lineBits_31 rfl (by decide) (fun h_31 => ?_) (fun h_31 => ?_)
        ·
          exfalso; omega
        ·
          refine r_lload_n F rfl rfl dX3_lineBits_34 rfl ?_
          refine r_lconst F (v := 1) rfl dX3_lineBits_35 rfl ?_
          refine r_iload F rfl dX3_lineBits_36 rfl ?_
          refine r_aload_n F rfl rfl dX3_lineBits_38 rfl ?_
          refine r_getI F f_X3_70 hS rfl dX3_lineBits_39 rfl ?_
          refine r_eqz (z := mem s 3) (by simp [ja_up]) ?_
          refine r_imul F dX3_lineBits_42 rfl ?_
          refine r_iload_n F rfl rfl dX3_lineBits_43 rfl ?_
          refine r_iadd F dX3_lineBits_44 rfl ?_
          refine r_lshl F dX3_lineBits_45 rfl ?_
          refine r_lor F dX3_lineBits_46 rfl ?_
          refine r_lst3 F (by decide) rfl dX3_lineBits_47 rfl ?_
          refine r_inc5 F (by decide) rfl dX3_lineBits_48 rfl ?_
          refine r_goto F (tgt := 25) dX3_lineBits_51 (by decide) ?_
          exact ih (k + 1) (by omega)
    exact loop (mem s 4).toNat 0 (by omega)
  ·
    refine r_lconst F (v := 1) rfl dX3_lineBits_4 rfl ?_
    refine r_aload_n F rfl rfl dX3_lineBits_5 rfl ?_
    refine r_getI F f_X3_70 hS rfl dX3_lineBits_6 rfl ?_
    refine r_lshl F dX3_lineBits_9 rfl ?_
    refine r_lconst F (v := 1) rfl dX3_lineBits_10 rfl ?_
    refine r_lsub F dX3_lineBits_11 rfl ?_
    refine r_iload_n F rfl rfl dX3_lineBits_12 rfl ?_
    refine r_aload_n F rfl rfl dX3_lineBits_13 rfl ?_
    refine r_getI F f_X3_70 hS rfl dX3_lineBits_14 rfl ?_
    refine r_imul F dX3_lineBits_17 rfl ?_
    refine r_lshl F dX3_lineBits_18 rfl ?_
    exact r_lret F Rt dX3_lineBits_19 (by decide) ⟨by rw [F_lb, if_neg (by omega)], rfl, rfl, rfl⟩
abbrev rm_X3_withLine : Room := { frames := 1, cells := 0, slots := 0, locals := 25 }
set_option maxRecDepth 100000 in
set_option maxHeartbeats 4000000 in
theorem c_X3_withLine (l : Launch) (D : va_G) (cA : Nat → ClassId) (B : Nat) {lay : ja_Y} {mem : ja_M} {n : Nat} {s : Nat} {x : Int64} {p r i : Int} (hS : ja_LS lay s) (hO : ja_SO mem s) (hr : 0 ≤ r ∧ r ≤ 1) : ja_Mt l D cA B yX3_withLine cX3_withLine 8 (some .long) rm_X3_withLine [.ref s, .long x, .int (ja_I p), .int (ja_I r), .int (ja_I i)] lay mem n (ja_rd lay mem n (some (.long (F_wl mem s x p r i)))) := by
  refine ja_enter [some (.ref s), some (.long x), none, some (.int (ja_I p)), some (.int (ja_I r)), some (.int (ja_I i)), none, none] (by decide) (Nat.le_of_ble_eq_true rfl) (fun q hq => hq) (fun C F Rt G hnm => ?_)
  refine r_iload_n F rfl rfl dX3_withLine_0 rfl ?_
  refine r_iload F rfl dX3_withLine_1 rfl ?_
  refine r_iload F rfl dX3_withLine_3 rfl ?_
  refine r_callS F G (c_X3_packetBit _ _ _ _ ⟨by omega, by omega⟩) s_X3_34 rfl (by decide) (by decide) (Nat.le_of_ble_eq_true rfl) rfl dX3_withLine_5 rfl (fun v lay' mem' n' hp => ?_)
  obtain ⟨q1, q2, q3, q4⟩ := hp
  subst q1; subst q2; subst q3; subst q4
  refine r_iand F (ja_of' _) dX3_withLine_8 rfl ?_
  refine r_if_ne F (tgt := 14) (ja_range _) dX3_withLine_9 rfl (by decide) (fun h_9 => ?_) (fun h_9 => ?_)
  ·
    refine r_aload_n F rfl rfl dX3_withLine_14 rfl ?_
    refine r_iload F rfl dX3_withLine_15 rfl ?_
    refine r_iload F rfl dX3_withLine_17 rfl ?_
    refine r_callS F G (c_X3_lineBits _ _ _ _ hS hO ⟨by omega, by omega⟩) s_X3_54 rfl (by decide) (by decide) (Nat.le_of_ble_eq_true rfl) rfl dX3_withLine_19 rfl (fun v lay' mem' n' hp => ?_)
    obtain ⟨q1, q2, q3, q4⟩ := hp
    subst q1; subst q2; subst q3; subst q4
    refine r_lload_n F rfl rfl dX3_withLine_22 rfl ?_
    refine r_ldc2 F l_X3_46 dX3_withLine_23 rfl ?_
    refine r_lxor F dX3_withLine_26 rfl ?_
    refine r_land F dX3_withLine_27 rfl ?_
    refine r_lst6 F (by decide) rfl dX3_withLine_28 rfl ?_
    refine r_lload F rfl dX3_withLine_30 rfl ?_
    refine r_callS F G (c_J13_bitCount_95d88 _ _ _ _ ) s_X3_48 rfl (by decide) (by decide) (Nat.le_of_ble_eq_true rfl) rfl dX3_withLine_32 rfl (fun v lay' mem' n' hp => ?_)
    obtain ⟨q1, q2, q3, q4⟩ := hp
    subst q1; subst q2; subst q3; subst q4
    refine r_iconst F dX3_withLine_35 rfl ?_
    refine r_icmp_ne F (tgt := 46) ⟨by have := (J_bc_le (F_lb mem s r i &&& (x ^^^ (-1)))).1; omega, by have := (J_bc_le (F_lb mem s r i &&& (x ^^^ (-1)))).2; omega⟩ ⟨by omega, by omega⟩ dX3_withLine_36 rfl (by decide) (fun h_36 => ?_) (fun h_36 => ?_)
    ·
      refine r_lload_n F rfl rfl dX3_withLine_46 rfl ?_
      exact r_lret F Rt dX3_withLine_47 (by decide) ⟨by rw [F_wl, if_neg h_9]; first | rw [if_pos h_36] | rw [if_neg h_36], rfl, rfl, rfl⟩
    ·
      refine r_lload_n F rfl rfl dX3_withLine_39 rfl ?_
      refine r_lload F rfl dX3_withLine_40 rfl ?_
      refine r_lor F dX3_withLine_42 rfl ?_
      refine r_goto F (tgt := 47) dX3_withLine_43 (by decide) ?_
      exact r_lret F Rt dX3_withLine_47 (by decide) ⟨by rw [F_wl, if_neg h_9]; first | rw [if_pos h_36] | rw [if_neg h_36], rfl, rfl, rfl⟩
  ·
    refine r_lload_n F rfl rfl dX3_withLine_12 rfl ?_
    exact r_lret F Rt dX3_withLine_13 (by decide) ⟨by rw [F_wl, if_pos h_9], rfl, rfl, rfl⟩
abbrev rm_X3_completed : Room := { frames := 2, cells := 0, slots := 0, locals := 52 }
set_option maxRecDepth 100000 in
set_option maxHeartbeats 4000000 in
theorem c_X3_completed (l : Launch) (D : va_G) (cA : Nat → ClassId) (B : Nat) {lay : ja_Y} {mem : ja_M} {n : Nat} {s : Nat} {x0 : Int64} {p : Int} (hS : ja_LS lay s) (hO : ja_SO mem s) : ja_Mt l D cA B yX3_completed cX3_completed 10 (some .long) rm_X3_completed [.ref s, .long x0, .int (ja_I p)] lay mem n (ja_rd lay mem n (some (.long (F_cp mem s p 37 x0)))) := by
  refine ja_enter [some (.ref s), some (.long x0), none, some (.int (ja_I p)), none, none, none, none, none, none] (by decide) (Nat.le_of_ble_eq_true rfl) (fun q hq => hq) (fun C F Rt G hnm => ?_)
  have hO2 := hO
  obtain ⟨-, -, -, h3, h4, -⟩ := hO2
  refine r_lload_n F rfl rfl dX3_completed_0 rfl ?_
  refine r_lst4 F (by decide) rfl dX3_completed_1 rfl ?_
  refine r_iconst F dX3_completed_3 rfl ?_
  refine r_ist6 F (by decide) rfl dX3_completed_4 rfl ?_
  have loop : ∀ (d r : Nat), r + d = 37 → ∀ x : Int64, F_cp mem s p d x = F_cp mem s p 37 x0 → ja_W C 0 0 lay mem n 6 [some (.ref s), some (.long x0), none, some (.int (ja_I p)), some (.long x), none, some (.int (ja_I (r : Int))), none, none, none] [] := by
    intro d
    induction d with
    | zero =>
      intro r hk x hx
      refine r_iload F rfl dX3_completed_6 rfl ?_
      refine r_bipush F (by decide) dX3_completed_8 rfl ?_
      refine r_icmp_gt F (tgt := 94) ⟨by omega, by omega⟩ ⟨by omega, by omega⟩ dX3_completed_10 rfl (by decide) (fun h_10 => ?_) (fun h_10 => ?_)
      ·
        refine r_pc rfl ?_
        refine r_lload F rfl dX3_completed_94 rfl ?_
        exact r_lret F Rt dX3_completed_96 (by decide) ⟨by rw [← hx]; rfl, rfl, rfl, rfl⟩
      ·
        exfalso; omega
    | succ d ih =>
      intro r hk x hx
      refine r_iload F rfl dX3_completed_6 rfl ?_
      refine r_bipush F (by decide) dX3_completed_8 rfl ?_
      refine r_icmp_gt F (tgt := 94) ⟨by omega, by omega⟩ ⟨by omega, by omega⟩ dX3_completed_10 rfl (by decide) (fun h_10 => ?_) (fun h_10 => ?_)
      ·
        exfalso; omega
      ·
        refine r_lload F rfl dX3_completed_13 rfl ?_
        refine r_lst7 F (by decide) rfl dX3_completed_15 rfl ?_
        refine r_iconst F dX3_completed_17 rfl ?_
        refine r_ist9 F (by decide) rfl dX3_completed_18 rfl ?_
        have rl : ∀ (d k : Nat), k + d = (mem s 4).toNat → ja_W C 0 0 lay (mem) n 20 [some (.ref s), some (.long x0), none, some (.int (ja_I p)), some (.long (F_ln mem s p 1 x k)), none, some (.int (ja_I (r : Int))), some (.long x), none, some (.int (ja_I (k : Int)))] [] := by
          intro d
          induction d with
          | zero =>
            intro k hk
            refine r_iload F rfl dX3_completed_20 rfl ?_
            refine r_aload_n F rfl rfl dX3_completed_22 rfl ?_
            refine r_getI F f_X3_62 hS rfl dX3_completed_23 rfl ?_
            refine r_eqz (z := mem s 4) (by simp [ja_up]) ?_
            refine r_icmp_ge F (tgt := 47) ⟨by omega, by omega⟩ ⟨by omega, by omega⟩ dX3_completed_26 rfl (by decide) (fun h_26 => ?_) (fun h_26 => ?_)
            ·
              rw [show k = (mem s 4).toNat by omega]
              refine r_iconst F dX3_completed_47 rfl ?_
              refine r_ist9 F (by decide) rfl dX3_completed_48 rfl ?_
              have cl : ∀ (d k : Nat), k + d = (mem s 3).toNat → ja_W C 0 0 lay (mem) n 50 [some (.ref s), some (.long x0), none, some (.int (ja_I p)), some (.long (F_ln mem s p 0 (F_ln mem s p 1 x (mem s 4).toNat) k)), none, some (.int (ja_I (r : Int))), some (.long x), none, some (.int (ja_I (k : Int)))] [] := by
                intro d
                induction d with
                | zero =>
                  intro k hk
                  refine r_iload F rfl dX3_completed_50 rfl ?_
                  refine r_aload_n F rfl rfl dX3_completed_52 rfl ?_
                  refine r_getI F f_X3_70 hS rfl dX3_completed_53 rfl ?_
                  refine r_eqz (z := mem s 3) (by simp [ja_up]) ?_
                  refine r_icmp_ge F (tgt := 77) ⟨by omega, by omega⟩ ⟨by omega, by omega⟩ dX3_completed_56 rfl (by decide) (fun h_56 => ?_) (fun h_56 => ?_)
                  ·
                    rw [show k = (mem s 3).toNat by omega]
                    refine r_msk [true, true, true, true, true, true, true, true, true, false] rfl ?_
                    refine r_lload F rfl dX3_completed_77 rfl ?_
                    refine r_lload F rfl dX3_completed_79 rfl ?_
                    refine r_lcmp F dX3_completed_81 rfl ?_
                    refine r_eqi ja_lcmp0 ?_
                    refine r_if_ne F (tgt := 88) ja_lc_in dX3_completed_82 rfl (by decide) (fun h_82 => ?_) (fun h_82 => ?_)
                    ·
                      refine r_inc6 F (by decide) rfl dX3_completed_88 rfl ?_
                      refine r_goto F (tgt := 6) dX3_completed_91 (by decide) ?_
                      refine r_msk [true, true, true, true, true, true, true, false, false, false] rfl ?_
                      exact ih (r + 1) (by omega) (F_rd mem s p x) (by rw [← hx]; simp only [F_cp]; rw [if_neg (fun q => h_82 (ja_lc_0.mpr q))])
                    ·
                      refine r_goto F (tgt := 94) dX3_completed_85 (by decide) ?_
                      refine r_lload F rfl dX3_completed_94 rfl ?_
                      exact r_lret F Rt dX3_completed_96 (by decide) ⟨by rw [← hx]; simp only [F_cp]; rw [if_pos (ja_lc_0.mp h_82), ja_lc_0.mp h_82], rfl, rfl, rfl⟩
                  ·
                    exfalso; omega
                | succ d ih =>
                  intro k hk
                  refine r_iload F rfl dX3_completed_50 rfl ?_
                  refine r_aload_n F rfl rfl dX3_completed_52 rfl ?_
                  refine r_getI F f_X3_70 hS rfl dX3_completed_53 rfl ?_
                  refine r_eqz (z := mem s 3) (by simp [ja_up]) ?_
                  refine r_icmp_ge F (tgt := 77) ⟨by omega, by omega⟩ ⟨by omega, by omega⟩ dX3_completed_56 rfl (by decide) (fun h_56 => ?_) (fun h_56 => ?_)
                  ·
                    exfalso; omega
                  ·
                    refine r_aload_n F rfl rfl dX3_completed_59 rfl ?_
                    refine r_lload F rfl dX3_completed_60 rfl ?_
                    refine r_iload_n F rfl rfl dX3_completed_62 rfl ?_
                    refine r_iconst F dX3_completed_63 rfl ?_
                    refine r_iload F rfl dX3_completed_64 rfl ?_
                    refine r_callS F G (c_X3_withLine _ _ _ _ hS hO ⟨by omega, by omega⟩) s_X3_66 rfl (by decide) (by decide) (Nat.le_of_ble_eq_true rfl) rfl dX3_completed_66 rfl (fun v lay' mem' n' hp => ?_)
                    obtain ⟨q1, q2, q3, q4⟩ := hp
                    subst q1; subst q2; subst q3; subst q4
                    refine r_lst4 F (by decide) rfl dX3_completed_69 rfl ?_
                    refine r_inc9 F (by decide) rfl dX3_completed_71 rfl ?_
                    refine r_goto F (tgt := 50) dX3_completed_74 (by decide) ?_
                    exact ih (k + 1) (by omega)
              exact cl (mem s 3).toNat 0 (by omega)
            ·
              exfalso; omega
          | succ d ih =>
            intro k hk
            refine r_iload F rfl dX3_completed_20 rfl ?_
            refine r_aload_n F rfl rfl dX3_completed_22 rfl ?_
            refine r_getI F f_X3_62 hS rfl dX3_completed_23 rfl ?_
            refine r_eqz (z := mem s 4) (by simp [ja_up]) ?_
            refine r_icmp_ge F (tgt := 47) ⟨by omega, by omega⟩ ⟨by omega, by omega⟩ dX3_completed_26 rfl (by decide) (fun h_26 => ?_) (fun h_26 => ?_)
            ·
              exfalso; omega
            ·
              refine r_aload_n F rfl rfl dX3_completed_29 rfl ?_
              refine r_lload F rfl dX3_completed_30 rfl ?_
              refine r_iload_n F rfl rfl dX3_completed_32 rfl ?_
              refine r_iconst F dX3_completed_33 rfl ?_
              refine r_iload F rfl dX3_completed_34 rfl ?_
              refine r_callS F G (c_X3_withLine _ _ _ _ hS hO ⟨by omega, by omega⟩) s_X3_66 rfl (by decide) (by decide) (Nat.le_of_ble_eq_true rfl) rfl dX3_completed_36 rfl (fun v lay' mem' n' hp => ?_)
              obtain ⟨q1, q2, q3, q4⟩ := hp
              subst q1; subst q2; subst q3; subst q4
              refine r_lst4 F (by decide) rfl dX3_completed_39 rfl ?_
              refine r_inc9 F (by decide) rfl dX3_completed_41 rfl ?_
              refine r_goto F (tgt := 20) dX3_completed_44 (by decide) ?_
              exact ih (k + 1) (by omega)
        exact rl (mem s 4).toNat 0 (by omega)
  exact loop 37 0 (by omega) x0 rfl
abbrev rm_X3_hasPacket : Room := { frames := 1, cells := 0, slots := 0, locals := 21 }
set_option maxRecDepth 100000 in
set_option maxHeartbeats 4000000 in
theorem c_X3_hasPacket (l : Launch) (D : va_G) (cA : Nat → ClassId) (B : Nat) {lay : ja_Y} {mem : ja_M} {n : Nat} {f : Nat} {r k i : Int} (hF : ja_LF lay f) (hr : 0 ≤ r ∧ r ≤ 1) (hk : 0 ≤ k ∧ k < 250) : ja_Mt l D cA B yX3_hasPacket cX3_hasPacket 4 (some .boolean) rm_X3_hasPacket [.ref f, .int (ja_I r), .int (ja_I k), .int (ja_I i)] lay mem n (ja_rd lay mem n (some (.int (ja_I (ja_b (¬ F_and (mem (f + 3) k.toNat) (F_pb r i) = 0)))))) := by
  refine ja_enter [some (.ref f), some (.int (ja_I r)), some (.int (ja_I k)), some (.int (ja_I i))] (by decide) (Nat.le_of_ble_eq_true rfl) (fun q hq => hq) (fun C F Rt G hnm => ?_)
  refine r_aload_n F rfl rfl dX3_hasPacket_0 rfl ?_
  refine r_getR F f_X3_20 (hF.1) rfl dX3_hasPacket_1 rfl ?_
  refine r_iload_n F rfl rfl dX3_hasPacket_4 rfl ?_
  refine r_iald F (ja_LF_3 hF) (by omega) (by omega) (by decide) dX3_hasPacket_5 rfl ?_
  refine r_iload_n F rfl rfl dX3_hasPacket_6 rfl ?_
  refine r_iload_n F rfl rfl dX3_hasPacket_7 rfl ?_
  refine r_callS F G (c_X3_packetBit _ _ _ _ ⟨by omega, by omega⟩) s_X3_34 rfl (by decide) (by decide) (Nat.le_of_ble_eq_true rfl) rfl dX3_hasPacket_8 rfl (fun v lay' mem' n' hp => ?_)
  obtain ⟨q1, q2, q3, q4⟩ := hp
  subst q1; subst q2; subst q3; subst q4
  refine r_iand F (ja_of' _) dX3_hasPacket_11 rfl ?_
  refine r_if_eq F (tgt := 19) (ja_range _) dX3_hasPacket_12 rfl (by decide) (fun h_12 => ?_) (fun h_12 => ?_)
  ·
    refine r_iconst F dX3_hasPacket_19 rfl ?_
    exact r_zret F Rt (by omega) dX3_hasPacket_20 (by decide) ⟨by simp only [ja_b]; first | rw [if_pos h_12] | rw [if_neg (fun q => q h_12)], rfl, rfl, rfl⟩
  ·
    refine r_iconst F dX3_hasPacket_15 rfl ?_
    refine r_goto F (tgt := 20) dX3_hasPacket_16 (by decide) ?_
    exact r_zret F Rt (by omega) dX3_hasPacket_20 (by decide) ⟨by simp only [ja_b]; first | rw [if_pos h_12] | rw [if_neg (fun q => q h_12)], rfl, rfl, rfl⟩
abbrev rm_X3_stateOf : Room := { frames := 1, cells := 0, slots := 0, locals := 20 }
set_option maxRecDepth 100000 in
set_option maxHeartbeats 4000000 in
theorem c_X3_stateOf (l : Launch) (D : va_G) (cA : Nat → ClassId) (B : Nat) {lay : ja_Y} {mem : ja_M} {n : Nat} {s f : Nat} {x : Int} (hF : ja_LF lay f) (hS : ja_LS lay s) (hO : ja_SO mem s) (hx : 0 ≤ x ∧ x ≤ 999) : ja_Mt l D cA B yX3_stateOf cX3_stateOf 5 (some .int) rm_X3_stateOf [.ref f, .ref s, .int (ja_I x)] lay mem n (ja_rd lay mem n (some (.int (ja_I (F_st mem s f x))))) := by
  refine ja_enter [some (.ref f), some (.ref s), some (.int (ja_I x)), none, none] (by decide) (Nat.le_of_ble_eq_true rfl) (fun q hq => hq) (fun C F Rt G hnm => ?_)
  have g := ja_blk hO hx
  have hc := hO.cells
  refine r_iload_n F rfl rfl dX3_stateOf_0 rfl ?_
  refine r_aload_n F rfl rfl dX3_stateOf_1 rfl ?_
  refine r_callV F G (c_X6_cells _ _ _ _ hS) v_X3_30 rfl hS rfl (by decide) (by decide) (Nat.le_of_ble_eq_true rfl) rfl dX3_stateOf_2 rfl (fun v lay' mem' n' hp => ?_)
  obtain ⟨q1, q2, q3, q4⟩ := hp
  subst q1; subst q2; subst q3; subst q4
  refine r_idivP F ⟨by omega, by omega⟩ ⟨by omega, by omega⟩ (by omega) (by omega) dX3_stateOf_5 rfl ?_
  refine r_ist3 F (by decide) rfl dX3_stateOf_6 rfl ?_
  refine r_iload_n F rfl rfl dX3_stateOf_7 rfl ?_
  refine r_aload_n F rfl rfl dX3_stateOf_8 rfl ?_
  refine r_callV F G (c_X6_cells _ _ _ _ hS) v_X3_30 rfl hS rfl (by decide) (by decide) (Nat.le_of_ble_eq_true rfl) rfl dX3_stateOf_9 rfl (fun v lay' mem' n' hp => ?_)
  obtain ⟨q1, q2, q3, q4⟩ := hp
  subst q1; subst q2; subst q3; subst q4
  refine r_iremP F ⟨by omega, by omega⟩ ⟨by omega, by omega⟩ (by omega) (by omega) dX3_stateOf_12 rfl ?_
  refine r_ist4 F (by decide) rfl dX3_stateOf_13 rfl ?_
  refine r_aload_n F rfl rfl dX3_stateOf_15 rfl ?_
  refine r_getR F f_X3_17 (hF.1) rfl dX3_stateOf_16 rfl ?_
  refine r_iload_n F rfl rfl dX3_stateOf_19 rfl ?_
  refine r_lald F (ja_LF_2 hF) (by omega) (by omega) (by decide) dX3_stateOf_20 rfl ?_
  refine r_iload F rfl dX3_stateOf_21 rfl ?_
  refine r_lshr F dX3_stateOf_23 rfl ?_
  refine r_lconst F (v := 1) rfl dX3_stateOf_24 rfl ?_
  refine r_land F dX3_stateOf_25 rfl ?_
  refine r_lconst F (v := 0) rfl dX3_stateOf_26 rfl ?_
  refine r_lcmp F dX3_stateOf_27 rfl ?_
  refine r_eqi ja_lcmp0 ?_
  refine r_if_eq F (tgt := 33) ja_lc_in dX3_stateOf_28 rfl (by decide) (fun h_28 => ?_) (fun h_28 => ?_)
  ·
    refine r_aload_n F rfl rfl dX3_stateOf_33 rfl ?_
    refine r_getR F f_X3_13 (hF.1) rfl dX3_stateOf_34 rfl ?_
    refine r_iload_n F rfl rfl dX3_stateOf_37 rfl ?_
    refine r_lald F (ja_LF_1 hF) (by omega) (by omega) (by decide) dX3_stateOf_38 rfl ?_
    refine r_iload F rfl dX3_stateOf_39 rfl ?_
    refine r_lshr F dX3_stateOf_41 rfl ?_
    refine r_lconst F (v := 1) rfl dX3_stateOf_42 rfl ?_
    refine r_land F dX3_stateOf_43 rfl ?_
    refine r_lconst F (v := 0) rfl dX3_stateOf_44 rfl ?_
    refine r_lcmp F dX3_stateOf_45 rfl ?_
    refine r_eqi ja_lcmp0 ?_
    refine r_if_eq F (tgt := 53) ja_lc_in dX3_stateOf_46 rfl (by decide) (fun h_46 => ?_) (fun h_46 => ?_)
    ·
      refine r_iconst F dX3_stateOf_53 rfl ?_
      exact r_iret F Rt dX3_stateOf_54 (by decide) ⟨by rw [F_st, if_pos (ja_lc_0.mp h_28)]; first | rw [if_pos (ja_lc_0.mp h_46)] | rw [if_neg (fun q => h_46 (ja_lc_0.mpr q))], rfl, rfl, rfl⟩
    ·
      refine r_iconst F dX3_stateOf_49 rfl ?_
      refine r_goto F (tgt := 54) dX3_stateOf_50 (by decide) ?_
      exact r_iret F Rt dX3_stateOf_54 (by decide) ⟨by rw [F_st, if_pos (ja_lc_0.mp h_28)]; first | rw [if_pos (ja_lc_0.mp h_46)] | rw [if_neg (fun q => h_46 (ja_lc_0.mpr q))], rfl, rfl, rfl⟩
  ·
    refine r_iconst F dX3_stateOf_31 rfl ?_
    exact r_iret F Rt dX3_stateOf_32 (by decide) ⟨by rw [F_st, if_neg (fun q => h_28 (ja_lc_0.mpr q))], rfl, rfl, rfl⟩
abbrev rm_X3_addFrame : Room := { frames := 1, cells := 0, slots := 0, locals := 20 }
set_option maxRecDepth 100000 in
set_option maxHeartbeats 4000000 in
theorem c_X3_addFrame (l : Launch) (D : va_G) (cA : Nat → ClassId) (B : Nat) {lay : ja_Y} {mem : ja_M} {n : Nat} {s f : Nat} {x : Int} (hF : ja_LF lay f) (hS : ja_LS lay s) (hO : ja_SO mem s) (hx : 0 ≤ x ∧ x ≤ 999) (sf : s < f) : ja_Mt l D cA B yX3_addFrame cX3_addFrame 6 none rm_X3_addFrame [.ref f, .ref s, .int (ja_I x)] lay mem n (ja_rd lay (F_ad mem s f x) n (none)) := by
  refine ja_enter [some (.ref f), some (.ref s), some (.int (ja_I x)), none, none, none] (by decide) (Nat.le_of_ble_eq_true rfl) (fun q hq => hq) (fun C F Rt G hnm => ?_)
  have g := ja_blk hO hx
  have hc := hO.cells
  refine r_iload_n F rfl rfl dX3_addFrame_0 rfl ?_
  refine r_aload_n F rfl rfl dX3_addFrame_1 rfl ?_
  refine r_callV F G (c_X6_cells _ _ _ _ hS) v_X3_30 rfl hS rfl (by decide) (by decide) (Nat.le_of_ble_eq_true rfl) rfl dX3_addFrame_2 rfl (fun v lay' mem' n' hp => ?_)
  obtain ⟨q1, q2, q3, q4⟩ := hp
  subst q1; subst q2; subst q3; subst q4
  refine r_idivP F ⟨by omega, by omega⟩ ⟨by omega, by omega⟩ (by omega) (by omega) dX3_addFrame_5 rfl ?_
  refine r_ist3 F (by decide) rfl dX3_addFrame_6 rfl ?_
  refine r_lconst F (v := 1) rfl dX3_addFrame_7 rfl ?_
  refine r_iload_n F rfl rfl dX3_addFrame_8 rfl ?_
  refine r_aload_n F rfl rfl dX3_addFrame_9 rfl ?_
  refine r_callV F G (c_X6_cells _ _ _ _ hS) v_X3_30 rfl hS rfl (by decide) (by decide) (Nat.le_of_ble_eq_true rfl) rfl dX3_addFrame_10 rfl (fun v lay' mem' n' hp => ?_)
  obtain ⟨q1, q2, q3, q4⟩ := hp
  subst q1; subst q2; subst q3; subst q4
  refine r_iremP F ⟨by omega, by omega⟩ ⟨by omega, by omega⟩ (by omega) (by omega) dX3_addFrame_13 rfl ?_
  refine r_lshl F dX3_addFrame_14 rfl ?_
  refine r_lst4 F (by decide) rfl dX3_addFrame_15 rfl ?_
  refine r_aload_n F rfl rfl dX3_addFrame_17 rfl ?_
  refine r_getR F f_X3_17 (hF.1) rfl dX3_addFrame_18 rfl ?_
  refine r_iload_n F rfl rfl dX3_addFrame_21 rfl ?_
  refine r_dup2 F rfl rfl dX3_addFrame_22 rfl ?_
  refine r_lald F (ja_LF_2 hF) (by omega) (by omega) (by decide) dX3_addFrame_23 rfl ?_
  refine r_lload F rfl dX3_addFrame_24 rfl ?_
  refine r_lor F dX3_addFrame_26 rfl ?_
  refine r_last F (ja_LF_2 hF) (by omega) (by omega) (by decide) dX3_addFrame_27 rfl ?_
  refine r_aload_n F rfl rfl dX3_addFrame_28 rfl ?_
  refine r_getR F f_X3_13 (hF.1) rfl dX3_addFrame_29 rfl ?_
  refine r_iload_n F rfl rfl dX3_addFrame_32 rfl ?_
  refine r_dup2 F rfl rfl dX3_addFrame_33 rfl ?_
  refine r_lald F (ja_LF_1 hF) (by omega) (by omega) (by decide) dX3_addFrame_34 rfl ?_
  refine r_lload F rfl dX3_addFrame_35 rfl ?_
  refine r_lor F dX3_addFrame_37 rfl ?_
  refine r_last F (ja_LF_1 hF) (by omega) (by omega) (by decide) dX3_addFrame_38 rfl ?_
  exact r_vret F Rt dX3_addFrame_39 (by decide) ⟨rfl, rfl, by unfold F_ad; congr 3; rw [ja_up_a (by omega)], rfl⟩
abbrev rm_X3_addPacket : Room := { frames := 1, cells := 0, slots := 0, locals := 21 }
set_option maxRecDepth 100000 in
set_option maxHeartbeats 4000000 in
theorem c_X3_addPacket (l : Launch) (D : va_G) (cA : Nat → ClassId) (B : Nat) {lay : ja_Y} {mem : ja_M} {n : Nat} {f : Nat} {r k i : Int} (hF : ja_LF lay f) (hr : 0 ≤ r ∧ r ≤ 1) (hk : 0 ≤ k ∧ k < 250) : ja_Mt l D cA B yX3_addPacket cX3_addPacket 4 none rm_X3_addPacket [.ref f, .int (ja_I r), .int (ja_I k), .int (ja_I i)] lay mem n (ja_rd lay (F_ap mem f r k i) n (none)) := by
  refine ja_enter [some (.ref f), some (.int (ja_I r)), some (.int (ja_I k)), some (.int (ja_I i))] (by decide) (Nat.le_of_ble_eq_true rfl) (fun q hq => hq) (fun C F Rt G hnm => ?_)
  refine r_aload_n F rfl rfl dX3_addPacket_0 rfl ?_
  refine r_getR F f_X3_20 (hF.1) rfl dX3_addPacket_1 rfl ?_
  refine r_iload_n F rfl rfl dX3_addPacket_4 rfl ?_
  refine r_dup2 F rfl rfl dX3_addPacket_5 rfl ?_
  refine r_iald F (ja_LF_3 hF) (by omega) (by omega) (by decide) dX3_addPacket_6 rfl ?_
  refine r_iload_n F rfl rfl dX3_addPacket_7 rfl ?_
  refine r_iload_n F rfl rfl dX3_addPacket_8 rfl ?_
  refine r_callS F G (c_X3_packetBit _ _ _ _ ⟨by omega, by omega⟩) s_X3_34 rfl (by decide) (by decide) (Nat.le_of_ble_eq_true rfl) rfl dX3_addPacket_9 rfl (fun v lay' mem' n' hp => ?_)
  obtain ⟨q1, q2, q3, q4⟩ := hp
  subst q1; subst q2; subst q3; subst q4
  refine r_ior F (ja_of' _) dX3_addPacket_12 rfl ?_
  refine r_iast F (ja_LF_3 hF) (by omega) (by omega) (by decide) dX3_addPacket_13 rfl ?_
  exact r_vret F Rt dX3_addPacket_14 (by decide) ⟨rfl, rfl, rfl, rfl⟩
abbrev rm_X3_knownIn : Room := { frames := 1, cells := 0, slots := 0, locals := 20 }
set_option maxRecDepth 100000 in
set_option maxHeartbeats 4000000 in
theorem c_X3_knownIn (l : Launch) (D : va_G) (cA : Nat → ClassId) (B : Nat) {lay : ja_Y} {mem : ja_M} {n : Nat} {s f : Nat} {k : Int} (hF : ja_LF lay f) (hS : ja_LS lay s) (hO : ja_SO mem s) (hk : ja_hasB mem s k) : ja_Mt l D cA B yX3_knownIn cX3_knownIn 6 (some .long) rm_X3_knownIn [.ref f, .ref s, .int (ja_I k)] lay mem n (ja_rd lay mem n (some (.long (F_kn mem s f k)))) := by
  refine ja_enter [some (.ref f), some (.ref s), some (.int (ja_I k)), none, none, none] (by decide) (Nat.le_of_ble_eq_true rfl) (fun q hq => hq) (fun C F Rt G hnm => ?_)
  have g := ja_blk2 hO hk
  have hc := hO.cells
  refine r_sipush F (by decide) dX3_knownIn_0 rfl ?_
  refine r_iload_n F rfl rfl dX3_knownIn_3 rfl ?_
  refine r_aload_n F rfl rfl dX3_knownIn_4 rfl ?_
  refine r_callV F G (c_X6_cells _ _ _ _ hS) v_X3_30 rfl hS rfl (by decide) (by decide) (Nat.le_of_ble_eq_true rfl) rfl dX3_knownIn_5 rfl (fun v lay' mem' n' hp => ?_)
  obtain ⟨q1, q2, q3, q4⟩ := hp
  subst q1; subst q2; subst q3; subst q4
  refine r_imul F dX3_knownIn_8 rfl ?_
  refine r_isub F dX3_knownIn_9 rfl ?_
  refine r_ist3 F (by decide) rfl dX3_knownIn_10 rfl ?_
  refine r_iload_n F rfl rfl dX3_knownIn_11 rfl ?_
  refine r_bipush F (by decide) dX3_knownIn_12 rfl ?_
  refine r_icmp_ge F (tgt := 25) ⟨by omega, by omega⟩ ⟨by omega, by omega⟩ dX3_knownIn_14 rfl (by decide) (fun h_14 => ?_) (fun h_14 => ?_)
  ·
    refine r_lconst F (v := 0) rfl dX3_knownIn_25 rfl ?_
    refine r_lst4 F (by decide) rfl dX3_knownIn_26 rfl ?_
    refine r_aload_n F rfl rfl dX3_knownIn_28 rfl ?_
    refine r_getR F f_X3_13 (hF.1) rfl dX3_knownIn_29 rfl ?_
    refine r_iload_n F rfl rfl dX3_knownIn_32 rfl ?_
    refine r_lald F (ja_LF_1 hF) (by omega) (by omega) (by decide) dX3_knownIn_33 rfl ?_
    refine r_lload F rfl dX3_knownIn_34 rfl ?_
    refine r_lor F dX3_knownIn_36 rfl ?_
    exact r_lret F Rt dX3_knownIn_37 (by decide) ⟨by unfold F_kn F_bey; first | rw [if_pos (by omega)] | rw [if_neg (by omega)], rfl, rfl, rfl⟩
  ·
    refine r_ldc2 F l_X3_46 dX3_knownIn_17 rfl ?_
    refine r_iload_n F rfl rfl dX3_knownIn_20 rfl ?_
    refine r_lshl F dX3_knownIn_21 rfl ?_
    refine r_goto F (tgt := 26) dX3_knownIn_22 (by decide) ?_
    refine r_lst4 F (by decide) rfl dX3_knownIn_26 rfl ?_
    refine r_aload_n F rfl rfl dX3_knownIn_28 rfl ?_
    refine r_getR F f_X3_13 (hF.1) rfl dX3_knownIn_29 rfl ?_
    refine r_iload_n F rfl rfl dX3_knownIn_32 rfl ?_
    refine r_lald F (ja_LF_1 hF) (by omega) (by omega) (by decide) dX3_knownIn_33 rfl ?_
    refine r_lload F rfl dX3_knownIn_34 rfl ?_
    refine r_lor F dX3_knownIn_36 rfl ?_
    exact r_lret F Rt dX3_knownIn_37 (by decide) ⟨by unfold F_kn F_bey; first | rw [if_pos (by omega)] | rw [if_neg (by omega)], rfl, rfl, rfl⟩
abbrev rm_X3_restoreIn : Room := { frames := 3, cells := 0, slots := 0, locals := 81 }
set_option maxRecDepth 100000 in
set_option maxHeartbeats 4000000 in
theorem c_X3_restoreIn (l : Launch) (D : va_G) (cA : Nat → ClassId) (B : Nat) {lay : ja_Y} {mem : ja_M} {n : Nat} {s f : Nat} {k : Int} (hF : ja_LF lay f) (hS : ja_LS lay s) (hO : ja_SO mem s) (hk : ja_hasB mem s k) : ja_Mt l D cA B yX3_restoreIn cX3_restoreIn 7 (some .int) rm_X3_restoreIn [.ref f, .ref s, .int (ja_I k)] lay mem n (ja_rd lay (ja_up mem (f + 1) k.toNat (F_re mem s f k).toInt) n (some (.int (ja_I (J_bc (F_re mem s f k &&& (F_kn mem s f k ^^^ (-1)))))))) := by
  refine ja_enter [some (.ref f), some (.ref s), some (.int (ja_I k)), none, none, none, none] (by decide) (Nat.le_of_ble_eq_true rfl) (fun q hq => hq) (fun C F Rt G hnm => ?_)
  have g := ja_blk2 hO hk
  refine r_aload_n F rfl rfl dX3_restoreIn_0 rfl ?_
  refine r_aload_n F rfl rfl dX3_restoreIn_1 rfl ?_
  refine r_iload_n F rfl rfl dX3_restoreIn_2 rfl ?_
  refine r_callV F G (c_X3_knownIn _ _ _ _ hF hS hO hk) v_X3_38 rfl (hF.1) rfl (by decide) (by decide) (Nat.le_of_ble_eq_true rfl) rfl dX3_restoreIn_3 rfl (fun v lay' mem' n' hp => ?_)
  obtain ⟨q1, q2, q3, q4⟩ := hp
  subst q1; subst q2; subst q3; subst q4
  refine r_lst3 F (by decide) rfl dX3_restoreIn_6 rfl ?_
  refine r_aload_n F rfl rfl dX3_restoreIn_7 rfl ?_
  refine r_lload_n F rfl rfl dX3_restoreIn_8 rfl ?_
  refine r_aload_n F rfl rfl dX3_restoreIn_9 rfl ?_
  refine r_getR F f_X3_20 (hF.1) rfl dX3_restoreIn_10 rfl ?_
  refine r_iload_n F rfl rfl dX3_restoreIn_13 rfl ?_
  refine r_iald F (ja_LF_3 hF) (by omega) (by omega) (by decide) dX3_restoreIn_14 rfl ?_
  refine r_callS F G (c_X3_completed _ _ _ _ hS hO) s_X3_42 rfl (by decide) (by decide) (Nat.le_of_ble_eq_true rfl) rfl dX3_restoreIn_15 rfl (fun v lay' mem' n' hp => ?_)
  obtain ⟨q1, q2, q3, q4⟩ := hp
  subst q1; subst q2; subst q3; subst q4
  refine r_lst5 F (by decide) rfl dX3_restoreIn_18 rfl ?_
  refine r_aload_n F rfl rfl dX3_restoreIn_20 rfl ?_
  refine r_getR F f_X3_13 (hF.1) rfl dX3_restoreIn_21 rfl ?_
  refine r_iload_n F rfl rfl dX3_restoreIn_24 rfl ?_
  refine r_lload F rfl dX3_restoreIn_25 rfl ?_
  refine r_last F (ja_LF_1 hF) (by omega) (by omega) (by decide) dX3_restoreIn_27 rfl ?_
  refine r_lload F rfl dX3_restoreIn_28 rfl ?_
  refine r_lload_n F rfl rfl dX3_restoreIn_30 rfl ?_
  refine r_ldc2 F l_X3_46 dX3_restoreIn_31 rfl ?_
  refine r_lxor F dX3_restoreIn_34 rfl ?_
  refine r_land F dX3_restoreIn_35 rfl ?_
  refine r_callS F G (c_J13_bitCount_95d88 _ _ _ _ ) s_X3_48 rfl (by decide) (by decide) (Nat.le_of_ble_eq_true rfl) rfl dX3_restoreIn_36 rfl (fun v lay' mem' n' hp => ?_)
  obtain ⟨q1, q2, q3, q4⟩ := hp
  subst q1; subst q2; subst q3; subst q4
  exact r_iret F Rt dX3_restoreIn_39 (by decide) ⟨rfl, rfl, rfl, rfl⟩
abbrev rm_X3_missingIn : Room := { frames := 2, cells := 0, slots := 0, locals := 45 }
set_option maxRecDepth 100000 in
set_option maxHeartbeats 4000000 in
theorem c_X3_missingIn (l : Launch) (D : va_G) (cA : Nat → ClassId) (B : Nat) {lay : ja_Y} {mem : ja_M} {n : Nat} {s f : Nat} {r k i : Int} (hF : ja_LF lay f) (hS : ja_LS lay s) (hO : ja_SO mem s) (hr : 0 ≤ r ∧ r ≤ 1) (hk : ja_hasB mem s k) : ja_Mt l D cA B yX3_missingIn cX3_missingIn 5 (some .int) rm_X3_missingIn [.ref f, .ref s, .int (ja_I r), .int (ja_I k), .int (ja_I i)] lay mem n (ja_rd lay mem n (some (.int (ja_I (J_bc (F_lb mem s r i &&& (F_kn mem s f k ^^^ (-1)))))))) := by
  refine ja_enter [some (.ref f), some (.ref s), some (.int (ja_I r)), some (.int (ja_I k)), some (.int (ja_I i))] (by decide) (Nat.le_of_ble_eq_true rfl) (fun q hq => hq) (fun C F Rt G hnm => ?_)
  refine r_aload_n F rfl rfl dX3_missingIn_0 rfl ?_
  refine r_iload_n F rfl rfl dX3_missingIn_1 rfl ?_
  refine r_iload F rfl dX3_missingIn_2 rfl ?_
  refine r_callS F G (c_X3_lineBits _ _ _ _ hS hO ⟨by omega, by omega⟩) s_X3_54 rfl (by decide) (by decide) (Nat.le_of_ble_eq_true rfl) rfl dX3_missingIn_4 rfl (fun v lay' mem' n' hp => ?_)
  obtain ⟨q1, q2, q3, q4⟩ := hp
  subst q1; subst q2; subst q3; subst q4
  refine r_aload_n F rfl rfl dX3_missingIn_7 rfl ?_
  refine r_aload_n F rfl rfl dX3_missingIn_8 rfl ?_
  refine r_iload_n F rfl rfl dX3_missingIn_9 rfl ?_
  refine r_callV F G (c_X3_knownIn _ _ _ _ hF hS hO hk) v_X3_38 rfl (hF.1) rfl (by decide) (by decide) (Nat.le_of_ble_eq_true rfl) rfl dX3_missingIn_10 rfl (fun v lay' mem' n' hp => ?_)
  obtain ⟨q1, q2, q3, q4⟩ := hp
  subst q1; subst q2; subst q3; subst q4
  refine r_ldc2 F l_X3_46 dX3_missingIn_13 rfl ?_
  refine r_lxor F dX3_missingIn_16 rfl ?_
  refine r_land F dX3_missingIn_17 rfl ?_
  refine r_callS F G (c_J13_bitCount_95d88 _ _ _ _ ) s_X3_48 rfl (by decide) (by decide) (Nat.le_of_ble_eq_true rfl) rfl dX3_missingIn_18 rfl (fun v lay' mem' n' hp => ?_)
  obtain ⟨q1, q2, q3, q4⟩ := hp
  subst q1; subst q2; subst q3; subst q4
  exact r_iret F Rt dX3_missingIn_21 (by decide) ⟨rfl, rfl, rfl, rfl⟩
abbrev rm_X3_unrestorableIn : Room := { frames := 3, cells := 0, slots := 0, locals := 81 }
set_option maxRecDepth 100000 in
set_option maxHeartbeats 4000000 in
theorem c_X3_unrestorableIn (l : Launch) (D : va_G) (cA : Nat → ClassId) (B : Nat) {lay : ja_Y} {mem : ja_M} {n : Nat} {s f : Nat} {k : Int} (hF : ja_LF lay f) (hS : ja_LS lay s) (hO : ja_SO mem s) (hk : ja_hasB mem s k) : ja_Mt l D cA B yX3_unrestorableIn cX3_unrestorableIn 5 (some .int) rm_X3_unrestorableIn [.ref f, .ref s, .int (ja_I k)] lay mem n (ja_rd lay mem n (some (.int (ja_I (J_bc ((ja_shl 1 (ja_cells mem s) - 1) &&& (F_cp mem s (-1) 37 (F_kn mem s f k) ^^^ (-1)))))))) := by
  refine ja_enter [some (.ref f), some (.ref s), some (.int (ja_I k)), none, none] (by decide) (Nat.le_of_ble_eq_true rfl) (fun q hq => hq) (fun C F Rt G hnm => ?_)
  refine r_lconst F (v := 1) rfl dX3_unrestorableIn_0 rfl ?_
  refine r_aload_n F rfl rfl dX3_unrestorableIn_1 rfl ?_
  refine r_callV F G (c_X6_cells _ _ _ _ hS) v_X3_30 rfl hS rfl (by decide) (by decide) (Nat.le_of_ble_eq_true rfl) rfl dX3_unrestorableIn_2 rfl (fun v lay' mem' n' hp => ?_)
  obtain ⟨q1, q2, q3, q4⟩ := hp
  subst q1; subst q2; subst q3; subst q4
  refine r_lshl F dX3_unrestorableIn_5 rfl ?_
  refine r_lconst F (v := 1) rfl dX3_unrestorableIn_6 rfl ?_
  refine r_lsub F dX3_unrestorableIn_7 rfl ?_
  refine r_lst3 F (by decide) rfl dX3_unrestorableIn_8 rfl ?_
  refine r_lload_n F rfl rfl dX3_unrestorableIn_9 rfl ?_
  refine r_aload_n F rfl rfl dX3_unrestorableIn_10 rfl ?_
  refine r_aload_n F rfl rfl dX3_unrestorableIn_11 rfl ?_
  refine r_aload_n F rfl rfl dX3_unrestorableIn_12 rfl ?_
  refine r_iload_n F rfl rfl dX3_unrestorableIn_13 rfl ?_
  refine r_callV F G (c_X3_knownIn _ _ _ _ hF hS hO hk) v_X3_38 rfl (hF.1) rfl (by decide) (by decide) (Nat.le_of_ble_eq_true rfl) rfl dX3_unrestorableIn_14 rfl (fun v lay' mem' n' hp => ?_)
  obtain ⟨q1, q2, q3, q4⟩ := hp
  subst q1; subst q2; subst q3; subst q4
  refine r_iconst F dX3_unrestorableIn_17 rfl ?_
  refine r_callS F G (c_X3_completed _ _ _ _ hS hO) s_X3_42 rfl (by decide) (by decide) (Nat.le_of_ble_eq_true rfl) rfl dX3_unrestorableIn_18 rfl (fun v lay' mem' n' hp => ?_)
  obtain ⟨q1, q2, q3, q4⟩ := hp
  subst q1; subst q2; subst q3; subst q4
  refine r_ldc2 F l_X3_46 dX3_unrestorableIn_21 rfl ?_
  refine r_lxor F dX3_unrestorableIn_24 rfl ?_
  refine r_land F dX3_unrestorableIn_25 rfl ?_
  refine r_callS F G (c_J13_bitCount_95d88 _ _ _ _ ) s_X3_48 rfl (by decide) (by decide) (Nat.le_of_ble_eq_true rfl) rfl dX3_unrestorableIn_26 rfl (fun v lay' mem' n' hp => ?_)
  obtain ⟨q1, q2, q3, q4⟩ := hp
  subst q1; subst q2; subst q3; subst q4
  exact r_iret F Rt dX3_unrestorableIn_29 (by decide) ⟨rfl, rfl, rfl, rfl⟩
abbrev rm_X3_knownFrom : Room := { frames := 2, cells := 0, slots := 0, locals := 44 }
set_option maxRecDepth 100000 in
set_option maxHeartbeats 4000000 in
theorem c_X3_knownFrom (l : Launch) (D : va_G) (cA : Nat → ClassId) (B : Nat) {lay : ja_Y} {mem : ja_M} {n : Nat} {s f : Nat} {x : Int} (hF : ja_LF lay f) (hS : ja_LS lay s) (hO : ja_SO mem s) (hx : 0 ≤ x ∧ x ≤ 1000) : ja_Mt l D cA B yX3_knownFrom cX3_knownFrom 4 (some .int) rm_X3_knownFrom [.ref f, .ref s, .int (ja_I x)] lay mem n (ja_rd lay mem n (some (.int (ja_I (F_fr mem s f x (1000 - x).toNat - x))))) := by
  refine ja_enter [some (.ref f), some (.ref s), some (.int (ja_I x)), none] (by decide) (Nat.le_of_ble_eq_true rfl) (fun q hq => hq) (fun C F Rt G hnm => ?_)
  refine r_iload_n F rfl rfl dX3_knownFrom_0 rfl ?_
  refine r_ist3 F (by decide) rfl dX3_knownFrom_1 rfl ?_
  have loop : ∀ (d : Nat) (y : Int), y + d = 1000 → x ≤ y → F_fr mem s f y d = F_fr mem s f x (1000 - x).toNat → ja_W C 0 0 lay mem n 2 [some (.ref f), some (.ref s), some (.int (ja_I x)), some (.int (ja_I y))] [] := by
    intro d
    induction d with
    | zero =>
      intro y hk hy hx2
      refine r_iload_n F rfl rfl dX3_knownFrom_2 rfl ?_
      refine r_sipush F (by decide) dX3_knownFrom_3 rfl ?_
      refine r_icmp_gt F (tgt := 27) ⟨by omega, by omega⟩ ⟨by omega, by omega⟩ dX3_knownFrom_6 rfl (by decide) (fun h_6 => ?_) (fun h_6 => ?_)
      ·
        refine r_iload_n F rfl rfl dX3_knownFrom_27 rfl ?_
        refine r_iload_n F rfl rfl dX3_knownFrom_28 rfl ?_
        refine r_isub F dX3_knownFrom_29 rfl ?_
        exact r_iret F Rt dX3_knownFrom_30 (by decide) ⟨by rw [← hx2]; rfl, rfl, rfl, rfl⟩
      ·
        exfalso; omega
    | succ d ih =>
      intro y hk hy hx2
      refine r_iload_n F rfl rfl dX3_knownFrom_2 rfl ?_
      refine r_sipush F (by decide) dX3_knownFrom_3 rfl ?_
      refine r_icmp_gt F (tgt := 27) ⟨by omega, by omega⟩ ⟨by omega, by omega⟩ dX3_knownFrom_6 rfl (by decide) (fun h_6 => ?_) (fun h_6 => ?_)
      ·
        exfalso; omega
      ·
        refine r_aload_n F rfl rfl dX3_knownFrom_9 rfl ?_
        refine r_aload_n F rfl rfl dX3_knownFrom_10 rfl ?_
        refine r_iload_n F rfl rfl dX3_knownFrom_11 rfl ?_
        refine r_callV F G (c_X3_stateOf _ _ _ _ hF hS hO ⟨by omega, by omega⟩) v_X3_58 rfl (hF.1) rfl (by decide) (by decide) (Nat.le_of_ble_eq_true rfl) rfl dX3_knownFrom_12 rfl (fun v lay' mem' n' hp => ?_)
        obtain ⟨q1, q2, q3, q4⟩ := hp
        subst q1; subst q2; subst q3; subst q4
        refine r_if_ne F (tgt := 21) ⟨by have := (F_st_in (mem := mem) (s := s) (f := f) (x := y)).1; omega, by have := (F_st_in (mem := mem) (s := s) (f := f) (x := y)).2; omega⟩ dX3_knownFrom_15 rfl (by decide) (fun h_15 => ?_) (fun h_15 => ?_)
        ·
          refine r_inc3 F (by decide) rfl dX3_knownFrom_21 rfl ?_
          refine r_goto F (tgt := 2) dX3_knownFrom_24 (by decide) ?_
          exact ih (y + 1) (by omega) (by omega) (by rw [← hx2]; simp only [F_fr]; rw [if_neg h_15])
        ·
          refine r_goto F (tgt := 27) dX3_knownFrom_18 (by decide) ?_
          refine r_iload_n F rfl rfl dX3_knownFrom_27 rfl ?_
          refine r_iload_n F rfl rfl dX3_knownFrom_28 rfl ?_
          refine r_isub F dX3_knownFrom_29 rfl ?_
          exact r_iret F Rt dX3_knownFrom_30 (by decide) ⟨by rw [← hx2]; simp only [F_fr]; rw [if_pos h_15], rfl, rfl, rfl⟩
  exact loop (1000 - x).toNat x (by omega) (by omega) rfl
abbrev rm_X3_copyFrom : Room := { frames := 1, cells := 0, slots := 0, locals := 40 }
set_option maxRecDepth 100000 in
set_option maxHeartbeats 4000000 in
theorem c_X3_copyFrom (l : Launch) (D : va_G) (cA : Nat → ClassId) (B : Nat) {lay : ja_Y} {mem : ja_M} {n : Nat} {f o : Nat} (hF : ja_LF lay f) (hFo : ja_LF lay o) : ja_Mt l D cA B yX3_copyFrom cX3_copyFrom 2 none rm_X3_copyFrom [.ref f, .ref o] lay mem n (ja_rd lay (ja_cp (ja_cp (ja_cp mem (o + 1) (f + 1) 0 0 250) (o + 2) (f + 2) 0 0 250) (o + 3) (f + 3) 0 0 250) n (none)) := by
  refine ja_enter [some (.ref f), some (.ref o)] (by decide) (Nat.le_of_ble_eq_true rfl) (fun q hq => hq) (fun C F Rt G hnm => ?_)
  refine r_aload_n F rfl rfl dX3_copyFrom_0 rfl ?_
  refine r_getR F f_X3_13 (hFo.1) rfl dX3_copyFrom_1 rfl ?_
  refine r_iconst F dX3_copyFrom_4 rfl ?_
  refine r_aload_n F rfl rfl dX3_copyFrom_5 rfl ?_
  refine r_getR F f_X3_13 (hF.1) rfl dX3_copyFrom_6 rfl ?_
  refine r_iconst F dX3_copyFrom_9 rfl ?_
  refine r_sipush F (by decide) dX3_copyFrom_10 rfl ?_
  refine r_copy1 F s_X3_24 (ja_LF_1 hFo) (ja_LF_1 hF) (by decide) (by decide) (by decide) (by decide) (Nat.le_of_ble_eq_true rfl) (by decide) (by decide) dX3_copyFrom_13 rfl ?_
  refine r_aload_n F rfl rfl dX3_copyFrom_16 rfl ?_
  refine r_getR F f_X3_17 (hFo.1) rfl dX3_copyFrom_17 rfl ?_
  refine r_iconst F dX3_copyFrom_20 rfl ?_
  refine r_aload_n F rfl rfl dX3_copyFrom_21 rfl ?_
  refine r_getR F f_X3_17 (hF.1) rfl dX3_copyFrom_22 rfl ?_
  refine r_iconst F dX3_copyFrom_25 rfl ?_
  refine r_sipush F (by decide) dX3_copyFrom_26 rfl ?_
  refine r_copy1 F s_X3_24 (ja_LF_2 hFo) (ja_LF_2 hF) (by decide) (by decide) (by decide) (by decide) (Nat.le_of_ble_eq_true rfl) (by decide) (by decide) dX3_copyFrom_29 rfl ?_
  refine r_aload_n F rfl rfl dX3_copyFrom_32 rfl ?_
  refine r_getR F f_X3_20 (hFo.1) rfl dX3_copyFrom_33 rfl ?_
  refine r_iconst F dX3_copyFrom_36 rfl ?_
  refine r_aload_n F rfl rfl dX3_copyFrom_37 rfl ?_
  refine r_getR F f_X3_20 (hF.1) rfl dX3_copyFrom_38 rfl ?_
  refine r_iconst F dX3_copyFrom_41 rfl ?_
  refine r_sipush F (by decide) dX3_copyFrom_42 rfl ?_
  refine r_copy0 F s_X3_24 (ja_LF_3 hFo) (ja_LF_3 hF) (by decide) (by decide) (by decide) (by decide) (Nat.le_of_ble_eq_true rfl) (by decide) (by decide) dX3_copyFrom_45 rfl ?_
  exact r_vret F Rt dX3_copyFrom_48 (by decide) ⟨rfl, rfl, rfl, rfl⟩
end
section
abbrev rm_X4_remaining : Room := { frames := 0, cells := 0, slots := 0, locals := 0 }
set_option maxRecDepth 100000 in
set_option maxHeartbeats 4000000 in
theorem c_X4_remaining (l : Launch) (D : va_G) (cA : Nat → ClassId) (B : Nat) {lay : ja_Y} {mem : ja_M} {n : Nat} {a : Nat} (hP : ja_LP lay a)  : ja_Mt l D cA B yX4_remaining cX4_remaining 1 (some .int) rm_X4_remaining [.ref a] lay mem n (ja_rd lay mem n (some (.int (ja_I (mem a 1 - mem a 2))))) := by
  refine ja_enter [some (.ref a)] (by decide) (Nat.le_of_ble_eq_true rfl) (fun q hq => hq) (fun C F Rt G hnm => ?_)
  refine r_aload_n F rfl rfl dX4_remaining_0 rfl ?_
  refine r_getI F f_X4_30 (hP.1) rfl dX4_remaining_1 rfl ?_
  refine r_aload_n F rfl rfl dX4_remaining_4 rfl ?_
  refine r_getI F f_X4_34 (hP.1) rfl dX4_remaining_5 rfl ?_
  refine r_isub F dX4_remaining_8 rfl ?_
  exact r_iret F Rt dX4_remaining_9 (by decide) ⟨rfl, rfl, rfl, rfl⟩
abbrev rm_X4_outputAt : Room := { frames := 0, cells := 0, slots := 0, locals := 0 }
set_option maxRecDepth 100000 in
set_option maxHeartbeats 4000000 in
theorem c_X4_outputAt (l : Launch) (D : va_G) (cA : Nat → ClassId) (B : Nat) {lay : ja_Y} {mem : ja_M} {n : Nat} {a : Nat} {b : Int} (hP : ja_LP lay a) (h4 : 0 ≤ mem a 4 ∧ mem a 4 ≤ 1000000) (hb : 1 ≤ b ∧ b ≤ mem a 4) : ja_Mt l D cA B yX4_outputAt cX4_outputAt 2 (some .int) rm_X4_outputAt [.ref a, .int (ja_I b)] lay mem n (ja_rd lay mem n (some (.int (ja_I (mem (a + 2) ((mem a 4 - b) % 256).toNat))))) := by
  refine ja_enter [some (.ref a), some (.int (ja_I b))] (by decide) (Nat.le_of_ble_eq_true rfl) (fun q hq => hq) (fun C F Rt G hnm => ?_)
  refine r_aload_n F rfl rfl dX4_outputAt_0 rfl ?_
  refine r_getR F f_X4_15 (hP.1) rfl dX4_outputAt_1 rfl ?_
  refine r_aload_n F rfl rfl dX4_outputAt_4 rfl ?_
  refine r_getI F f_X4_37 (hP.1) rfl dX4_outputAt_5 rfl ?_
  refine r_iload_n F rfl rfl dX4_outputAt_8 rfl ?_
  refine r_isub F dX4_outputAt_9 rfl ?_
  refine r_sipush F (by decide) dX4_outputAt_10 rfl ?_
  refine r_iremP F ⟨by omega, by omega⟩ ⟨by omega, by omega⟩ (by omega) (by omega) dX4_outputAt_13 rfl ?_
  refine r_iald F (ja_LP_2 hP) (by omega) (by omega) (by decide) dX4_outputAt_14 rfl ?_
  exact r_iret F Rt dX4_outputAt_15 (by decide) ⟨rfl, rfl, rfl, rfl⟩
abbrev rm_X4_kindAt : Room := { frames := 0, cells := 0, slots := 0, locals := 0 }
set_option maxRecDepth 100000 in
set_option maxHeartbeats 4000000 in
theorem c_X4_kindAt (l : Launch) (D : va_G) (cA : Nat → ClassId) (B : Nat) {lay : ja_Y} {mem : ja_M} {n : Nat} {a : Nat} {b : Int} (hP : ja_LP lay a) (h6 : 0 ≤ mem a 6 ∧ mem a 6 ≤ 1000) (hb : 1 ≤ b ∧ b ≤ mem a 6) : ja_Mt l D cA B yX4_kindAt cX4_kindAt 2 (some .int) rm_X4_kindAt [.ref a, .int (ja_I b)] lay mem n (ja_rd lay mem n (some (.int (ja_I (mem (a + 3) ((mem a 6 - b) % 32).toNat))))) := by
  refine ja_enter [some (.ref a), some (.int (ja_I b))] (by decide) (Nat.le_of_ble_eq_true rfl) (fun q hq => hq) (fun C F Rt G hnm => ?_)
  refine r_aload_n F rfl rfl dX4_kindAt_0 rfl ?_
  refine r_getR F f_X4_18 (hP.1) rfl dX4_kindAt_1 rfl ?_
  refine r_aload_n F rfl rfl dX4_kindAt_4 rfl ?_
  refine r_getI F f_X4_40 (hP.1) rfl dX4_kindAt_5 rfl ?_
  refine r_iload_n F rfl rfl dX4_kindAt_8 rfl ?_
  refine r_isub F dX4_kindAt_9 rfl ?_
  refine r_bipush F (by decide) dX4_kindAt_10 rfl ?_
  refine r_iremP F ⟨by omega, by omega⟩ ⟨by omega, by omega⟩ (by omega) (by omega) dX4_kindAt_12 rfl ?_
  refine r_iald F (ja_LP_3 hP) (by omega) (by omega) (by decide) dX4_kindAt_13 rfl ?_
  exact r_iret F Rt dX4_kindAt_14 (by decide) ⟨rfl, rfl, rfl, rfl⟩
abbrev rm_X4_put : Room := { frames := 0, cells := 0, slots := 0, locals := 0 }
set_option maxRecDepth 100000 in
set_option maxHeartbeats 4000000 in
theorem c_X4_put (l : Launch) (D : va_G) (cA : Nat → ClassId) (B : Nat) {lay : ja_Y} {mem : ja_M} {n : Nat} {a : Nat} {v : Int} (hP : ja_LP lay a) (h1 : 0 ≤ mem a 1 ∧ mem a 1 ≤ 24) : ja_Mt l D cA B yX4_put cX4_put 2 none rm_X4_put [.ref a, .int (ja_I v)] lay mem n (ja_rd lay (P_put mem a v) n (none)) := by
  refine ja_enter [some (.ref a), some (.int (ja_I v))] (by decide) (Nat.le_of_ble_eq_true rfl) (fun q hq => hq) (fun C F Rt G hnm => ?_)
  refine r_aload_n F rfl rfl dX4_put_0 rfl ?_
  refine r_getI F f_X4_30 (hP.1) rfl dX4_put_1 rfl ?_
  refine r_bipush F (by decide) dX4_put_4 rfl ?_
  refine r_icmp_ge F (tgt := 29) ⟨by omega, by omega⟩ ⟨by omega, by omega⟩ dX4_put_6 rfl (by decide) (fun h_6 => ?_) (fun h_6 => ?_)
  ·
    exact r_vret F Rt dX4_put_29 (by decide) ⟨rfl, rfl, by unfold P_put; first | rw [if_pos (by omega)] | rw [if_neg (by omega)], rfl⟩
  ·
    refine r_aload_n F rfl rfl dX4_put_9 rfl ?_
    refine r_getR F f_X4_11 (hP.1) rfl dX4_put_10 rfl ?_
    refine r_aload_n F rfl rfl dX4_put_13 rfl ?_
    refine r_getI F f_X4_30 (hP.1) rfl dX4_put_14 rfl ?_
    refine r_iload_n F rfl rfl dX4_put_17 rfl ?_
    refine r_iast F (ja_LP_1 hP) (by omega) (by omega) (by decide) dX4_put_18 rfl ?_
    refine r_aload_n F rfl rfl dX4_put_19 rfl ?_
    refine r_dup F rfl dX4_put_20 rfl ?_
    refine r_getI F f_X4_30 (hP.1) rfl dX4_put_21 rfl ?_
    refine r_eqz (z := mem a 1) (by simp [ja_up]) ?_
    refine r_iconst F dX4_put_24 rfl ?_
    refine r_iadd F dX4_put_25 rfl ?_
    refine r_putI F f_X4_30 (hP.1) rfl dX4_put_26 rfl ?_
    exact r_vret F Rt dX4_put_29 (by decide) ⟨rfl, rfl, by unfold P_put; first | rw [if_pos (by omega)] | rw [if_neg (by omega)], rfl⟩
abbrev rm_X4_putSource : Room := { frames := 1, cells := 0, slots := 0, locals := 21 }
set_option maxRecDepth 100000 in
set_option maxHeartbeats 4000000 in
theorem c_X4_putSource (l : Launch) (D : va_G) (cA : Nat → ClassId) (B : Nat) {lay : ja_Y} {mem : ja_M} {n : Nat} {a : Nat} {f t : Int} (hP : ja_LP lay a) (h1 : 0 ≤ mem a 1 ∧ mem a 1 ≤ 24) (hf : 0 ≤ f ∧ f ≤ 32) (ht : t ≤ 32 ∧ 0 ≤ t) : ja_Mt l D cA B yX4_putSource cX4_putSource 4 none rm_X4_putSource [.ref a, .int (ja_I f), .int (ja_I t)] lay mem n (ja_rd lay (P_pts mem a (fun i => mem (a + 4) (f.toNat + i)) (t - f).toNat) n (none)) := by
  refine ja_enter [some (.ref a), some (.int (ja_I f)), some (.int (ja_I t)), none] (by decide) (Nat.le_of_ble_eq_true rfl) (fun q hq => hq) (fun C F Rt G hnm => ?_)
  refine r_iload_n F rfl rfl dX4_putSource_0 rfl ?_
  refine r_ist3 F (by decide) rfl dX4_putSource_1 rfl ?_
  have loop : ∀ (d k : Nat), k + d = (t - f).toNat → ja_W C 0 0 lay (P_pts mem a (fun i => mem (a + 4) (f.toNat + i)) k) n 2 [some (.ref a), some (.int (ja_I f)), some (.int (ja_I t)), some (.int (ja_I (f + (k : Int))))] [] := by
    intro d
    induction d with
    | zero =>
      intro k hk
      refine r_iload_n F rfl rfl dX4_putSource_2 rfl ?_
      refine r_iload_n F rfl rfl dX4_putSource_3 rfl ?_
      refine r_icmp_ge F (tgt := 23) ⟨by omega, by omega⟩ ⟨by omega, by omega⟩ dX4_putSource_4 rfl (by decide) (fun h_4 => ?_) (fun h_4 => ?_)
      ·
        exact r_vret F Rt dX4_putSource_23 (by decide) ⟨rfl, rfl, by rw [show (t - f).toNat = k by omega], rfl⟩
      ·
        exfalso; omega
    | succ d ih =>
      intro k hk
      refine r_iload_n F rfl rfl dX4_putSource_2 rfl ?_
      refine r_iload_n F rfl rfl dX4_putSource_3 rfl ?_
      refine r_icmp_ge F (tgt := 23) ⟨by omega, by omega⟩ ⟨by omega, by omega⟩ dX4_putSource_4 rfl (by decide) (fun h_4 => ?_) (fun h_4 => ?_)
      ·
        exfalso; omega
      ·
        refine r_aload_n F rfl rfl dX4_putSource_7 rfl ?_
        refine r_aload_n F rfl rfl dX4_putSource_8 rfl ?_
        refine r_getR F f_X4_21 (hP.1) rfl dX4_putSource_9 rfl ?_
        refine r_iload_n F rfl rfl dX4_putSource_12 rfl ?_
        refine r_iald F (ja_LP_4 hP) (by omega) (by omega) (by decide) dX4_putSource_13 rfl ?_
        refine r_eqz (z := mem (a + 4) (f.toNat + k)) (by rw [P_pts_o ⟨by omega, by omega⟩]; congr 1; omega) ?_
        refine r_callV F G (c_X4_put _ _ _ _ hP (P_pts_r h1 k)) v_X4_58 rfl (hP.1) rfl (by decide) (by decide) (Nat.le_of_ble_eq_true rfl) rfl dX4_putSource_14 rfl (fun v lay' mem' n' hp => ?_)
        obtain ⟨q1, q2, q3, q4⟩ := hp
        subst q1; subst q2; subst q3; subst q4
        refine r_inc3 F (by decide) rfl dX4_putSource_17 rfl ?_
        refine r_goto F (tgt := 2) dX4_putSource_20 (by decide) ?_
        rw [show f + (k : Int) + 1 = f + ((k + 1 : Nat) : Int) by omega]
        exact ih (k + 1) (by omega)
  have h0 := loop (t - f).toNat 0 (by omega)
  rw [show f + ((0 : Nat) : Int) = f by omega] at h0
  exact h0
abbrev rm_X4_putAsItIs : Room := { frames := 2, cells := 0, slots := 0, locals := 44 }
set_option maxRecDepth 100000 in
set_option maxHeartbeats 4000000 in
theorem c_X4_putAsItIs (l : Launch) (D : va_G) (cA : Nat → ClassId) (B : Nat) {lay : ja_Y} {mem : ja_M} {n : Nat} {a : Nat} {t : Int} (hP : ja_LP lay a) (h1 : 0 ≤ mem a 1 ∧ mem a 1 ≤ 24) (ht : t ≤ 32 ∧ 0 ≤ t) : ja_Mt l D cA B yX4_putAsItIs cX4_putAsItIs 2 none rm_X4_putAsItIs [.ref a, .int (ja_I t)] lay mem n (ja_rd lay (P_pts mem a (fun i => mem (a + 4) (0 + i)) t.toNat) n (none)) := by
  refine ja_enter [some (.ref a), some (.int (ja_I t))] (by decide) (Nat.le_of_ble_eq_true rfl) (fun q hq => hq) (fun C F Rt G hnm => ?_)
  refine r_aload_n F rfl rfl dX4_putAsItIs_0 rfl ?_
  refine r_iconst F dX4_putAsItIs_1 rfl ?_
  refine r_iload_n F rfl rfl dX4_putAsItIs_2 rfl ?_
  refine r_callV F G (c_X4_putSource _ _ _ _ hP ⟨by omega, by omega⟩ ⟨by omega, by omega⟩ ⟨by omega, by omega⟩) v_X4_50 rfl (hP.1) rfl (by decide) (by decide) (Nat.le_of_ble_eq_true rfl) rfl dX4_putAsItIs_3 rfl (fun v lay' mem' n' hp => ?_)
  obtain ⟨q1, q2, q3, q4⟩ := hp
  subst q1; subst q2; subst q3; subst q4
  exact r_vret F Rt dX4_putAsItIs_6 (by decide) ⟨rfl, rfl, by rw [show t.toNat = (t - 0).toNat by omega]; rfl, rfl⟩
abbrev rm_X4_differences : Room := { frames := 1, cells := 0, slots := 0, locals := 21 }
set_option maxRecDepth 100000 in
set_option maxHeartbeats 4000000 in
theorem c_X4_differences (l : Launch) (D : va_G) (cA : Nat → ClassId) (B : Nat) {lay : ja_Y} {mem : ja_M} {n : Nat} {a : Nat} {p : Int} (hP : ja_LP lay a) (hg : ∀ j, ja_sp (mem (a + 4) j)) (hp : 0 ≤ p ∧ p ≤ 16) : ja_Mt l D cA B yX4_differences cX4_differences 4 (some .int) rm_X4_differences [.ref a, .int (ja_I p)] lay mem n (ja_rd lay mem n (some (.int (ja_I (P_dif (mem (a + 4)) p.toNat p.toNat))))) := by
  refine ja_enter [some (.ref a), some (.int (ja_I p)), none, none] (by decide) (Nat.le_of_ble_eq_true rfl) (fun q hq => hq) (fun C F Rt G hnm => ?_)
  refine r_iconst F dX4_differences_0 rfl ?_
  refine r_ist2 F (by decide) rfl dX4_differences_1 rfl ?_
  refine r_iconst F dX4_differences_2 rfl ?_
  refine r_ist3 F (by decide) rfl dX4_differences_3 rfl ?_
  have loop : ∀ (d k : Nat), k + d = p.toNat → ja_W C 0 0 lay (mem) n 4 [some (.ref a), some (.int (ja_I p)), some (.int (ja_I (P_dif (mem (a + 4)) p.toNat k))), some (.int (ja_I (k : Int)))] [] := by
    intro d
    induction d with
    | zero =>
      intro k hk
      refine r_iload_n F rfl rfl dX4_differences_4 rfl ?_
      refine r_iload_n F rfl rfl dX4_differences_5 rfl ?_
      refine r_icmp_ge F (tgt := 36) ⟨by omega, by omega⟩ ⟨by omega, by omega⟩ dX4_differences_6 rfl (by decide) (fun h_6 => ?_) (fun h_6 => ?_)
      ·
        refine r_iload_n F rfl rfl dX4_differences_36 rfl ?_
        exact r_iret F Rt dX4_differences_37 (by decide) ⟨by rw [show P_dif (mem (a + 4)) p.toNat p.toNat = P_dif (mem (a + 4)) p.toNat k by congr 1; omega], rfl, rfl, rfl⟩
      ·
        exfalso; omega
    | succ d ih =>
      intro k hk
      refine r_iload_n F rfl rfl dX4_differences_4 rfl ?_
      refine r_iload_n F rfl rfl dX4_differences_5 rfl ?_
      refine r_icmp_ge F (tgt := 36) ⟨by omega, by omega⟩ ⟨by omega, by omega⟩ dX4_differences_6 rfl (by decide) (fun h_6 => ?_) (fun h_6 => ?_)
      ·
        exfalso; omega
      ·
        refine r_iload_n F rfl rfl dX4_differences_9 rfl ?_
        refine r_aload_n F rfl rfl dX4_differences_10 rfl ?_
        refine r_getR F f_X4_21 (hP.1) rfl dX4_differences_11 rfl ?_
        refine r_iload_n F rfl rfl dX4_differences_14 rfl ?_
        refine r_iald F (ja_LP_4 hP) (by omega) (by omega) (by decide) dX4_differences_15 rfl ?_
        refine r_eqz (z := mem (a + 4) k) (by rw [ja_nat]) ?_
        refine r_aload_n F rfl rfl dX4_differences_16 rfl ?_
        refine r_getR F f_X4_21 (hP.1) rfl dX4_differences_17 rfl ?_
        refine r_iload_n F rfl rfl dX4_differences_20 rfl ?_
        refine r_iload_n F rfl rfl dX4_differences_21 rfl ?_
        refine r_iadd F dX4_differences_22 rfl ?_
        refine r_iald F (ja_LP_4 hP) (by omega) (by omega) (by decide) dX4_differences_23 rfl ?_
        refine r_eqz (z := mem (a + 4) (k + p.toNat)) (by congr 1; omega) ?_
        refine r_isub F dX4_differences_24 rfl ?_
        refine r_mabs F ⟨by have := hg k; have h2 := hg (k + p.toNat); have := this.1; have := h2.2; omega, by have := hg k; have h2 := hg (k + p.toNat); have := this.2; have := h2.1; omega⟩ s_X4_77 (Nat.le_of_ble_eq_true rfl) (by decide) (by decide) (by decide) dX4_differences_25 rfl ?_
        refine r_iadd F dX4_differences_28 rfl ?_
        refine r_ist2 F (by decide) rfl dX4_differences_29 rfl ?_
        refine r_inc3 F (by decide) rfl dX4_differences_30 rfl ?_
        refine r_goto F (tgt := 4) dX4_differences_33 (by decide) ?_
        exact ih (k + 1) (by omega)
  exact loop p.toNat 0 (by omega)
abbrev rm_X4_bestLag : Room := { frames := 2, cells := 0, slots := 0, locals := 44 }
set_option maxRecDepth 100000 in
set_option maxHeartbeats 4000000 in
theorem c_X4_bestLag (l : Launch) (D : va_G) (cA : Nat → ClassId) (B : Nat) {lay : ja_Y} {mem : ja_M} {n : Nat} {a : Nat} {m x : Int} (hP : ja_LP lay a) (hg : ∀ j, ja_sp (mem (a + 4) j)) (hm : 2 ≤ m ∧ m ≤ 16) (hx : 0 ≤ x ∧ x ≤ 1) : ja_Mt l D cA B yX4_bestLag cX4_bestLag 7 (some .int) rm_X4_bestLag [.ref a, .int (ja_I m), .int (ja_I x)] lay mem n (ja_rd lay mem n (some (.int (ja_I (P_lg (mem (a + 4)) x (m - 2).toNat).1)))) := by
  refine ja_enter [some (.ref a), some (.int (ja_I m)), some (.int (ja_I x)), none, none, none, none] (by decide) (Nat.le_of_ble_eq_true rfl) (fun q hq => hq) (fun C F Rt G hnm => ?_)
  refine r_iconst F dX4_bestLag_0 rfl ?_
  refine r_ist3 F (by decide) rfl dX4_bestLag_1 rfl ?_
  refine r_aload_n F rfl rfl dX4_bestLag_2 rfl ?_
  refine r_iload_n F rfl rfl dX4_bestLag_3 rfl ?_
  refine r_callV F G (c_X4_differences _ _ _ _ hP hg ⟨by omega, by omega⟩) v_X4_74 rfl (hP.1) rfl (by decide) (by decide) (Nat.le_of_ble_eq_true rfl) rfl dX4_bestLag_4 rfl (fun v lay' mem' n' hp => ?_)
  obtain ⟨q1, q2, q3, q4⟩ := hp
  subst q1; subst q2; subst q3; subst q4
  refine r_ist4 F (by decide) rfl dX4_bestLag_7 rfl ?_
  refine r_iconst F dX4_bestLag_9 rfl ?_
  refine r_ist5 F (by decide) rfl dX4_bestLag_10 rfl ?_
  have loop : ∀ (d k : Nat), k + d = (m - 2).toNat → ja_W C 0 0 lay (mem) n 12 [some (.ref a), some (.int (ja_I m)), some (.int (ja_I x)), some (.int (ja_I (P_lg (mem (a + 4)) x k).1)), some (.int (ja_I (P_lg (mem (a + 4)) x k).2)), some (.int (ja_I ((k : Int) + 3))), none] [] := by
    intro d
    induction d with
    | zero =>
      intro k hk
      have b1 := P_lg_in (ex := x) hg k (by omega)
      have b2 := P_dif_in hg (k + 3) (k + 3)
      have b3 := ja_mulb b2.1 (by omega : P_dif (mem (a + 4)) (k + 3) (k + 3) ≤ 3400) (by omega : 0 ≤ (P_lg (mem (a + 4)) x k).1) (by omega : (P_lg (mem (a + 4)) x k).1 ≤ 16)
      have b4 := ja_mulb b1.2.1 b1.2.2 (by omega : 0 ≤ (k : Int) + 3) (by omega : (k : Int) + 3 ≤ 17)
      refine r_iload F rfl dX4_bestLag_12 rfl ?_
      refine r_iload_n F rfl rfl dX4_bestLag_14 rfl ?_
      refine r_icmp_gt F (tgt := 70) ⟨by omega, by omega⟩ ⟨by omega, by omega⟩ dX4_bestLag_15 rfl (by decide) (fun h_15 => ?_) (fun h_15 => ?_)
      ·
        refine r_iload_n F rfl rfl dX4_bestLag_70 rfl ?_
        exact r_iret F Rt dX4_bestLag_71 (by decide) ⟨by rw [show (m - 2).toNat = k by omega], rfl, rfl, rfl⟩
      ·
        exfalso; omega
    | succ d ih =>
      intro k hk
      have b1 := P_lg_in (ex := x) hg k (by omega)
      have b2 := P_dif_in hg (k + 3) (k + 3)
      have b3 := ja_mulb b2.1 (by omega : P_dif (mem (a + 4)) (k + 3) (k + 3) ≤ 3400) (by omega : 0 ≤ (P_lg (mem (a + 4)) x k).1) (by omega : (P_lg (mem (a + 4)) x k).1 ≤ 16)
      have b4 := ja_mulb b1.2.1 b1.2.2 (by omega : 0 ≤ (k : Int) + 3) (by omega : (k : Int) + 3 ≤ 17)
      refine r_iload F rfl dX4_bestLag_12 rfl ?_
      refine r_iload_n F rfl rfl dX4_bestLag_14 rfl ?_
      refine r_icmp_gt F (tgt := 70) ⟨by omega, by omega⟩ ⟨by omega, by omega⟩ dX4_bestLag_15 rfl (by decide) (fun h_15 => ?_) (fun h_15 => ?_)
      ·
        exfalso; omega
      ·
        refine r_aload_n F rfl rfl dX4_bestLag_18 rfl ?_
        refine r_iload F rfl dX4_bestLag_19 rfl ?_
        refine r_callV F G (c_X4_differences _ _ _ _ hP hg ⟨by omega, by omega⟩) v_X4_74 rfl (hP.1) rfl (by decide) (by decide) (Nat.le_of_ble_eq_true rfl) rfl dX4_bestLag_21 rfl (fun v lay' mem' n' hp => ?_)
        obtain ⟨q1, q2, q3, q4⟩ := hp
        subst q1; subst q2; subst q3; subst q4
        rw [show ((k : Int) + 3).toNat = k + 3 by omega]
        refine r_ist6 F (by decide) rfl dX4_bestLag_24 rfl ?_
        refine r_iload_n F rfl rfl dX4_bestLag_26 rfl ?_
        refine r_if_eq F (tgt := 45) ⟨by omega, by omega⟩ dX4_bestLag_27 rfl (by decide) (fun h_27 => ?_) (fun h_27 => ?_)
        ·
          refine r_iload F rfl dX4_bestLag_45 rfl ?_
          refine r_iload F rfl dX4_bestLag_47 rfl ?_
          have b5 := ja_tdiv_in (a := P_dif (mem (a + 4)) (k + 3) (k + 3)) (b := (k : Int) + 3) ⟨by omega, by omega⟩ (by omega)
          rw [Int.tdiv_eq_ediv_of_nonneg b2.1] at b5
          refine r_idivP F ⟨by omega, by omega⟩ ⟨by omega, by omega⟩ (by omega) (by omega) dX4_bestLag_49 rfl ?_
          refine r_iload F rfl dX4_bestLag_50 rfl ?_
          refine r_iload_n F rfl rfl dX4_bestLag_52 rfl ?_
          have b6 := ja_tdiv_in (a := (P_lg (mem (a + 4)) x k).2) (b := (P_lg (mem (a + 4)) x k).1) ⟨by omega, by omega⟩ (by omega)
          rw [Int.tdiv_eq_ediv_of_nonneg b1.2.1] at b6
          refine r_idivP F ⟨by omega, by omega⟩ ⟨by omega, by omega⟩ (by omega) (by omega) dX4_bestLag_53 rfl ?_
          refine r_icmp_ge F (tgt := 64) b5 b6 dX4_bestLag_54 rfl (by decide) (fun h_54 => ?_) (fun h_54 => ?_)
          ·
            refine r_inc5 F (by decide) rfl dX4_bestLag_64 rfl ?_
            refine r_goto F (tgt := 12) dX4_bestLag_67 (by decide) ?_
            rw [show (k : Int) + 3 + 1 = ((k + 1 : Nat) : Int) + 3 by omega]
            refine r_msk [true, true, true, true, true, true, false] rfl ?_
            have h0 := ih (k + 1) (by omega)
            first
              | (rw [P_lg_a h_27 h_39] at h0; exact h0)
              | (rw [P_lg_b h_27 h_39] at h0; exact h0)
              | (rw [P_lg_c h_27 h_54] at h0; exact h0)
              | (rw [P_lg_d h_27 h_54] at h0; exact h0)
          ·
            refine r_iload F rfl dX4_bestLag_57 rfl ?_
            refine r_ist3 F (by decide) rfl dX4_bestLag_59 rfl ?_
            refine r_iload F rfl dX4_bestLag_60 rfl ?_
            refine r_ist4 F (by decide) rfl dX4_bestLag_62 rfl ?_
            refine r_inc5 F (by decide) rfl dX4_bestLag_64 rfl ?_
            refine r_goto F (tgt := 12) dX4_bestLag_67 (by decide) ?_
            rw [show (k : Int) + 3 + 1 = ((k + 1 : Nat) : Int) + 3 by omega]
            refine r_msk [true, true, true, true, true, true, false] rfl ?_
            have h0 := ih (k + 1) (by omega)
            first
              | (rw [P_lg_a h_27 h_39] at h0; exact h0)
              | (rw [P_lg_b h_27 h_39] at h0; exact h0)
              | (rw [P_lg_c h_27 h_54] at h0; exact h0)
              | (rw [P_lg_d h_27 h_54] at h0; exact h0)
        ·
          refine r_iload F rfl dX4_bestLag_30 rfl ?_
          refine r_iload_n F rfl rfl dX4_bestLag_32 rfl ?_
          refine r_imul F dX4_bestLag_33 rfl ?_
          refine r_iload F rfl dX4_bestLag_34 rfl ?_
          refine r_iload F rfl dX4_bestLag_36 rfl ?_
          refine r_imul F dX4_bestLag_38 rfl ?_
          refine r_icmp_ge F (tgt := 64) ⟨by omega, by omega⟩ ⟨by omega, by omega⟩ dX4_bestLag_39 rfl (by decide) (fun h_39 => ?_) (fun h_39 => ?_)
          ·
            refine r_inc5 F (by decide) rfl dX4_bestLag_64 rfl ?_
            refine r_goto F (tgt := 12) dX4_bestLag_67 (by decide) ?_
            rw [show (k : Int) + 3 + 1 = ((k + 1 : Nat) : Int) + 3 by omega]
            refine r_msk [true, true, true, true, true, true, false] rfl ?_
            have h0 := ih (k + 1) (by omega)
            first
              | (rw [P_lg_a h_27 h_39] at h0; exact h0)
              | (rw [P_lg_b h_27 h_39] at h0; exact h0)
              | (rw [P_lg_c h_27 h_54] at h0; exact h0)
              | (rw [P_lg_d h_27 h_54] at h0; exact h0)
          ·
            refine r_goto F (tgt := 57) dX4_bestLag_42 (by decide) ?_
            refine r_iload F rfl dX4_bestLag_57 rfl ?_
            refine r_ist3 F (by decide) rfl dX4_bestLag_59 rfl ?_
            refine r_iload F rfl dX4_bestLag_60 rfl ?_
            refine r_ist4 F (by decide) rfl dX4_bestLag_62 rfl ?_
            refine r_inc5 F (by decide) rfl dX4_bestLag_64 rfl ?_
            refine r_goto F (tgt := 12) dX4_bestLag_67 (by decide) ?_
            rw [show (k : Int) + 3 + 1 = ((k + 1 : Nat) : Int) + 3 by omega]
            refine r_msk [true, true, true, true, true, true, false] rfl ?_
            have h0 := ih (k + 1) (by omega)
            first
              | (rw [P_lg_a h_27 h_39] at h0; exact h0)
              | (rw [P_lg_b h_27 h_39] at h0; exact h0)
              | (rw [P_lg_c h_27 h_54] at h0; exact h0)
              | (rw [P_lg_d h_27 h_54] at h0; exact h0)
  exact loop (m - 2).toNat 0 (by omega)
abbrev rm_X4_faded : Room := { frames := 0, cells := 0, slots := 0, locals := 0 }
set_option maxRecDepth 100000 in
set_option maxHeartbeats 4000000 in
theorem c_X4_faded (l : Launch) (D : va_G) (cA : Nat → ClassId) (B : Nat) {lay : ja_Y} {mem : ja_M} {n : Nat} {x g : Int} (hx : ja_sp x) (hg : 0 ≤ g ∧ g ≤ 100000) : ja_Mt l D cA B yX4_faded cX4_faded 4 (some .int) rm_X4_faded [.int (ja_I x), .int (ja_I g)] lay mem n (ja_rd lay mem n (some (.int (ja_I (P_fd g.toNat x))))) := by
  refine ja_enter [some (.int (ja_I x)), some (.int (ja_I g)), none, none] (by decide) (Nat.le_of_ble_eq_true rfl) (fun q hq => hq) (fun C F Rt G hnm => ?_)
  refine r_iload_n F rfl rfl dX4_faded_0 rfl ?_
  refine r_ist2 F (by decide) rfl dX4_faded_1 rfl ?_
  refine r_iconst F dX4_faded_2 rfl ?_
  refine r_ist3 F (by decide) rfl dX4_faded_3 rfl ?_
  have loop : ∀ (d k : Nat), k + d = g.toNat → ∀ y : Int, ja_sp y → P_fd d y = P_fd g.toNat x → ja_W C 0 0 lay mem n 4 [some (.int (ja_I x)), some (.int (ja_I g)), some (.int (ja_I y)), some (.int (ja_I (k : Int)))] [] := by
    intro d
    induction d with
    | zero =>
      intro k hk y hy hy2
      obtain ⟨u1, u2⟩ := id hy
      refine r_iload_n F rfl rfl dX4_faded_4 rfl ?_
      refine r_iload_n F rfl rfl dX4_faded_5 rfl ?_
      refine r_icmp_ge F (tgt := 25) ⟨by omega, by omega⟩ ⟨by omega, by omega⟩ dX4_faded_6 rfl (by decide) (fun h_6 => ?_) (fun h_6 => ?_)
      ·
        refine r_iload_n F rfl rfl dX4_faded_25 rfl ?_
        exact r_iret F Rt dX4_faded_26 (by decide) ⟨by rw [← hy2]; rfl, rfl, rfl, rfl⟩
      ·
        exfalso; omega
    | succ d ih =>
      intro k hk y hy hy2
      obtain ⟨u1, u2⟩ := id hy
      refine r_iload_n F rfl rfl dX4_faded_4 rfl ?_
      refine r_iload_n F rfl rfl dX4_faded_5 rfl ?_
      refine r_icmp_ge F (tgt := 25) ⟨by omega, by omega⟩ ⟨by omega, by omega⟩ dX4_faded_6 rfl (by decide) (fun h_6 => ?_) (fun h_6 => ?_)
      ·
        exfalso; omega
      ·
        refine r_iload_n F rfl rfl dX4_faded_9 rfl ?_
        refine r_if_eq F (tgt := 25) ⟨by omega, by omega⟩ dX4_faded_10 rfl (by decide) (fun h_10 => ?_) (fun h_10 => ?_)
        ·
          refine r_iload_n F rfl rfl dX4_faded_25 rfl ?_
          exact r_iret F Rt dX4_faded_26 (by decide) ⟨by rw [← hy2]; simp only [P_fd]; rw [if_pos h_10], rfl, rfl, rfl⟩
        ·
          refine r_iload_n F rfl rfl dX4_faded_13 rfl ?_
          refine r_iconst F dX4_faded_14 rfl ?_
          refine r_imul F dX4_faded_15 rfl ?_
          refine r_iconst F dX4_faded_16 rfl ?_
          refine r_idiv F ⟨by omega, by omega⟩ ⟨by omega, by omega⟩ (by omega) dX4_faded_17 rfl ?_
          refine r_ist2 F (by decide) rfl dX4_faded_18 rfl ?_
          refine r_inc3 F (by decide) rfl dX4_faded_19 rfl ?_
          refine r_goto F (tgt := 4) dX4_faded_22 (by decide) ?_
          exact ih (k + 1) (by omega) _ (P_fd1 hy) (by rw [← hy2]; simp only [P_fd]; rw [if_neg h_10])
  exact loop g.toNat 0 (by omega) x hx rfl
abbrev rm_X4_loadWave : Room := { frames := 1, cells := 0, slots := 0, locals := 23 }
set_option maxRecDepth 100000 in
set_option maxHeartbeats 4000000 in
theorem c_X4_loadWave (l : Launch) (D : va_G) (cA : Nat → ClassId) (B : Nat) {lay : ja_Y} {mem : ja_M} {n : Nat} {a s : Nat} {f : Int} (hP : ja_LP lay a) (hS : ja_LS lay s) (hO : ja_SO mem s) (hf : 0 ≤ f ∧ f ≤ 1000) (hsa : s + 1 ≤ a) : ja_Mt l D cA B yX4_loadWave cX4_loadWave 4 none rm_X4_loadWave [.ref a, .ref s, .int (ja_I f)] lay mem n (ja_rd lay (ja_rw mem (a + 4) (P_ldr mem s f (mem (a + 4)) (mem s 0).toNat)) n (none)) := by
  refine ja_enter [some (.ref a), some (.ref s), some (.int (ja_I f)), none] (by decide) (Nat.le_of_ble_eq_true rfl) (fun q hq => hq) (fun C F Rt G hnm => ?_)
  have hO0 := hO.1
  refine r_iconst F dX4_loadWave_0 rfl ?_
  refine r_ist3 F (by decide) rfl dX4_loadWave_1 rfl ?_
  have loop : ∀ (d k : Nat), k + d = (mem s 0).toNat → ja_W C 0 0 lay (ja_rw mem (a + 4) (P_ldr mem s f (mem (a + 4)) k)) n 2 [some (.ref a), some (.ref s), some (.int (ja_I f)), some (.int (ja_I (k : Int)))] [] := by
    intro d
    induction d with
    | zero =>
      intro k hk
      refine r_iload_n F rfl rfl dX4_loadWave_2 rfl ?_
      refine r_aload_n F rfl rfl dX4_loadWave_3 rfl ?_
      refine r_getI F f_X4_43 hS rfl dX4_loadWave_4 rfl ?_
      refine r_eqz (z := mem s 0) (by rw [ja_rw_n (by omega)]) ?_
      refine r_icmp_ge F (tgt := 28) ⟨by omega, by omega⟩ ⟨by omega, by omega⟩ dX4_loadWave_7 rfl (by decide) (fun h_7 => ?_) (fun h_7 => ?_)
      ·
        exact r_vret F Rt dX4_loadWave_28 (by decide) ⟨rfl, rfl, by rw [show (mem s 0).toNat = k by omega], rfl⟩
      ·
        exfalso; omega
    | succ d ih =>
      intro k hk
      refine r_iload_n F rfl rfl dX4_loadWave_2 rfl ?_
      refine r_aload_n F rfl rfl dX4_loadWave_3 rfl ?_
      refine r_getI F f_X4_43 hS rfl dX4_loadWave_4 rfl ?_
      refine r_eqz (z := mem s 0) (by rw [ja_rw_n (by omega)]) ?_
      refine r_icmp_ge F (tgt := 28) ⟨by omega, by omega⟩ ⟨by omega, by omega⟩ dX4_loadWave_7 rfl (by decide) (fun h_7 => ?_) (fun h_7 => ?_)
      ·
        exfalso; omega
      ·
        refine r_aload_n F rfl rfl dX4_loadWave_10 rfl ?_
        refine r_getR F f_X4_21 (hP.1) rfl dX4_loadWave_11 rfl ?_
        refine r_iload_n F rfl rfl dX4_loadWave_14 rfl ?_
        refine r_aload_n F rfl rfl dX4_loadWave_15 rfl ?_
        refine r_iload_n F rfl rfl dX4_loadWave_16 rfl ?_
        refine r_iload_n F rfl rfl dX4_loadWave_17 rfl ?_
        refine r_callV F G (c_X6_waveAt _ _ _ _ hS (ja_SO_c (ja_rw_n (by omega)) hO) ⟨by omega, by omega⟩ ⟨by omega, by omega⟩) v_X4_46 rfl hS rfl (by decide) (by decide) (Nat.le_of_ble_eq_true rfl) rfl dX4_loadWave_18 rfl (fun v lay' mem' n' hp => ?_)
        obtain ⟨q1, q2, q3, q4⟩ := hp
        subst q1; subst q2; subst q3; subst q4
        rw [show ja_wave (ja_rw mem (a + 4) (P_ldr mem s f (mem (a + 4)) k)) s f (k : Int) = ja_wave mem s f (k : Int) by unfold ja_wave; rw [ja_rw_n (by omega)]]
        refine r_iast F (ja_LP_4 hP) (by omega) (by omega) (by decide) dX4_loadWave_21 rfl ?_
        refine r_inc3 F (by decide) rfl dX4_loadWave_22 rfl ?_
        refine r_goto F (tgt := 2) dX4_loadWave_25 (by decide) ?_
        refine r_mem (mem' := ja_rw mem (a + 4) (P_ldr mem s f (mem (a + 4)) (k + 1))) (by rw [ja_rw_up]; rfl) ?_
        exact ih (k + 1) (by omega)
  have h0 := loop (mem s 0).toNat 0 (by omega)
  rw [show ja_rw mem (a + 4) (P_ldr mem s f (mem (a + 4)) 0) = mem from ja_rw_self mem (a + 4)] at h0
  exact h0
abbrev rm_X4_begin : Room := { frames := 0, cells := 0, slots := 0, locals := 0 }
set_option maxRecDepth 100000 in
set_option maxHeartbeats 4000000 in
theorem c_X4_begin (l : Launch) (D : va_G) (cA : Nat → ClassId) (B : Nat) {lay : ja_Y} {mem : ja_M} {n : Nat} {a : Nat} {k : Int} (hP : ja_LP lay a) (h6 : 0 ≤ mem a 6 ∧ mem a 6 ≤ 1000) : ja_Mt l D cA B yX4_begin cX4_begin 2 none rm_X4_begin [.ref a, .int (ja_I k)] lay mem n (ja_rd lay (P_beg mem a k) n (none)) := by
  refine ja_enter [some (.ref a), some (.int (ja_I k))] (by decide) (Nat.le_of_ble_eq_true rfl) (fun q hq => hq) (fun C F Rt G hnm => ?_)
  refine r_aload_n F rfl rfl dX4_begin_0 rfl ?_
  refine r_getR F f_X4_18 (hP.1) rfl dX4_begin_1 rfl ?_
  refine r_aload_n F rfl rfl dX4_begin_4 rfl ?_
  refine r_getI F f_X4_40 (hP.1) rfl dX4_begin_5 rfl ?_
  refine r_bipush F (by decide) dX4_begin_8 rfl ?_
  refine r_iremP F ⟨by omega, by omega⟩ ⟨by omega, by omega⟩ (by omega) (by omega) dX4_begin_10 rfl ?_
  refine r_iload_n F rfl rfl dX4_begin_11 rfl ?_
  refine r_iast F (ja_LP_3 hP) (by omega) (by omega) (by decide) dX4_begin_12 rfl ?_
  refine r_aload_n F rfl rfl dX4_begin_13 rfl ?_
  refine r_dup F rfl dX4_begin_14 rfl ?_
  refine r_getI F f_X4_40 (hP.1) rfl dX4_begin_15 rfl ?_
  refine r_eqz (z := mem a 6) (by simp [ja_up]) ?_
  refine r_iconst F dX4_begin_18 rfl ?_
  refine r_iadd F dX4_begin_19 rfl ?_
  refine r_putI F f_X4_40 (hP.1) rfl dX4_begin_20 rfl ?_
  refine r_aload_n F rfl rfl dX4_begin_23 rfl ?_
  refine r_iconst F dX4_begin_24 rfl ?_
  refine r_putI F f_X4_30 (hP.1) rfl dX4_begin_25 rfl ?_
  refine r_aload_n F rfl rfl dX4_begin_28 rfl ?_
  refine r_iconst F dX4_begin_29 rfl ?_
  refine r_putI F f_X4_34 (hP.1) rfl dX4_begin_30 rfl ?_
  exact r_vret F Rt dX4_begin_33 (by decide) ⟨rfl, rfl, rfl, rfl⟩
abbrev rm_X4_putOut : Room := { frames := 0, cells := 0, slots := 0, locals := 0 }
set_option maxRecDepth 100000 in
set_option maxHeartbeats 4000000 in
theorem c_X4_putOut (l : Launch) (D : va_G) (cA : Nat → ClassId) (B : Nat) {lay : ja_Y} {mem : ja_M} {n : Nat} {a : Nat} (hP : ja_LP lay a) (hO : ja_PO mem a) : ja_Mt l D cA B yX4_putOut cX4_putOut 1 none rm_X4_putOut [.ref a] lay mem n (ja_rd lay (P_out mem a) n (none)) := by
  refine ja_enter [some (.ref a)] (by decide) (Nat.le_of_ble_eq_true rfl) (fun q hq => hq) (fun C F Rt G hnm => ?_)
  obtain ⟨h12, h4, h6, -⟩ := hO
  refine r_aload_n F rfl rfl dX4_putOut_0 rfl ?_
  refine r_getI F f_X4_34 (hP.1) rfl dX4_putOut_1 rfl ?_
  refine r_aload_n F rfl rfl dX4_putOut_4 rfl ?_
  refine r_getI F f_X4_30 (hP.1) rfl dX4_putOut_5 rfl ?_
  refine r_icmp_ge F (tgt := 53) ⟨by omega, by omega⟩ ⟨by omega, by omega⟩ dX4_putOut_8 rfl (by decide) (fun h_8 => ?_) (fun h_8 => ?_)
  ·
    exact r_vret F Rt dX4_putOut_53 (by decide) ⟨rfl, rfl, by unfold P_out; first | rw [if_pos (by omega)] | rw [if_neg (by omega)], rfl⟩
  ·
    refine r_aload_n F rfl rfl dX4_putOut_11 rfl ?_
    refine r_getR F f_X4_15 (hP.1) rfl dX4_putOut_12 rfl ?_
    refine r_aload_n F rfl rfl dX4_putOut_15 rfl ?_
    refine r_getI F f_X4_37 (hP.1) rfl dX4_putOut_16 rfl ?_
    refine r_sipush F (by decide) dX4_putOut_19 rfl ?_
    refine r_iremP F ⟨by omega, by omega⟩ ⟨by omega, by omega⟩ (by omega) (by omega) dX4_putOut_22 rfl ?_
    refine r_aload_n F rfl rfl dX4_putOut_23 rfl ?_
    refine r_getR F f_X4_11 (hP.1) rfl dX4_putOut_24 rfl ?_
    refine r_aload_n F rfl rfl dX4_putOut_27 rfl ?_
    refine r_getI F f_X4_34 (hP.1) rfl dX4_putOut_28 rfl ?_
    refine r_iald F (ja_LP_1 hP) (by omega) (by omega) (by decide) dX4_putOut_31 rfl ?_
    refine r_iast F (ja_LP_2 hP) (by omega) (by omega) (by decide) dX4_putOut_32 rfl ?_
    refine r_aload_n F rfl rfl dX4_putOut_33 rfl ?_
    refine r_dup F rfl dX4_putOut_34 rfl ?_
    refine r_getI F f_X4_37 (hP.1) rfl dX4_putOut_35 rfl ?_
    refine r_eqz (z := mem a 4) (by simp [ja_up]) ?_
    refine r_iconst F dX4_putOut_38 rfl ?_
    refine r_iadd F dX4_putOut_39 rfl ?_
    refine r_putI F f_X4_37 (hP.1) rfl dX4_putOut_40 rfl ?_
    refine r_aload_n F rfl rfl dX4_putOut_43 rfl ?_
    refine r_dup F rfl dX4_putOut_44 rfl ?_
    refine r_getI F f_X4_34 (hP.1) rfl dX4_putOut_45 rfl ?_
    refine r_eqz (z := mem a 2) (by simp [ja_up]) ?_
    refine r_iconst F dX4_putOut_48 rfl ?_
    refine r_iadd F dX4_putOut_49 rfl ?_
    refine r_putI F f_X4_34 (hP.1) rfl dX4_putOut_50 rfl ?_
    exact r_vret F Rt dX4_putOut_53 (by decide) ⟨rfl, rfl, by unfold P_out; first | rw [if_pos (by omega)] | rw [if_neg (by omega)], rfl⟩
abbrev rm_X4_putCompressed : Room := { frames := 3, cells := 0, slots := 0, locals := 70 }
set_option maxRecDepth 100000 in
set_option maxHeartbeats 4000000 in
theorem c_X4_putCompressed (l : Launch) (D : va_G) (cA : Nat → ClassId) (B : Nat) {lay : ja_Y} {mem : ja_M} {n : Nat} {a : Nat} {m : Int} (hP : ja_LP lay a) (hO : ja_PO mem a) (hm : 4 ≤ m ∧ m ≤ 16) : ja_Mt l D cA B yX4_putCompressed cX4_putCompressed 4 none rm_X4_putCompressed [.ref a, .int (ja_I m)] lay mem n (ja_rd lay (P_cpr mem a m) n (none)) := by
  refine ja_enter [some (.ref a), some (.int (ja_I m)), none, none] (by decide) (Nat.le_of_ble_eq_true rfl) (fun q hq => hq) (fun C F Rt G hnm => ?_)
  have hO2 := hO
  obtain ⟨h12, h4, h6, b1, b2, b4⟩ := hO2
  have c1 := P_lg_in (ex := 1) b4 (m / 2 - 2).toNat (by omega)
  have e4 : ∀ (M : ja_M) (h : Nat → Int) (k : Nat), P_pts M a h k (a + 4) = M (a + 4) := fun M h k => P_pts_o ⟨by omega, by omega⟩ k
  refine r_aload_n F rfl rfl dX4_putCompressed_0 rfl ?_
  refine r_iload_n F rfl rfl dX4_putCompressed_1 rfl ?_
  refine r_iconst F dX4_putCompressed_2 rfl ?_
  refine r_idivP F ⟨by omega, by omega⟩ ⟨by omega, by omega⟩ (by omega) (by omega) dX4_putCompressed_3 rfl ?_
  refine r_iconst F dX4_putCompressed_4 rfl ?_
  refine r_callV F G (c_X4_bestLag _ _ _ _ hP b4 ⟨by omega, by omega⟩ ⟨by omega, by omega⟩) v_X4_54 rfl (hP.1) rfl (by decide) (by decide) (Nat.le_of_ble_eq_true rfl) rfl dX4_putCompressed_5 rfl (fun v lay' mem' n' hp => ?_)
  obtain ⟨q1, q2, q3, q4⟩ := hp
  subst q1; subst q2; subst q3; subst q4
  refine r_ist2 F (by decide) rfl dX4_putCompressed_8 rfl ?_
  generalize hlg : (P_lg (mem (a + 4)) 1 (m / 2 - 2).toNat).1 = lg at *
  refine r_iconst F dX4_putCompressed_9 rfl ?_
  refine r_ist3 F (by decide) rfl dX4_putCompressed_10 rfl ?_
  have loop : ∀ (d k : Nat), k + d = lg.toNat → ja_W C 0 0 lay (P_pts mem a (fun i => P_mx (mem (a + 4) i) (mem (a + 4) (i + lg.toNat)) lg i) k) n 11 [some (.ref a), some (.int (ja_I m)), some (.int (ja_I lg)), some (.int (ja_I (k : Int)))] [] := by
    intro d
    induction d with
    | zero =>
      intro k hk
      refine r_iload_n F rfl rfl dX4_putCompressed_11 rfl ?_
      refine r_iload_n F rfl rfl dX4_putCompressed_12 rfl ?_
      refine r_icmp_ge F (tgt := 49) ⟨by omega, by omega⟩ ⟨by omega, by omega⟩ dX4_putCompressed_13 rfl (by decide) (fun h_13 => ?_) (fun h_13 => ?_)
      ·
        refine r_aload_n F rfl rfl dX4_putCompressed_49 rfl ?_
        refine r_iconst F dX4_putCompressed_50 rfl ?_
        refine r_iload_n F rfl rfl dX4_putCompressed_51 rfl ?_
        refine r_imul F dX4_putCompressed_52 rfl ?_
        refine r_iload_n F rfl rfl dX4_putCompressed_53 rfl ?_
        refine r_callV F G (c_X4_putSource _ _ _ _ hP (P_pts_r (by omega) _) ⟨by omega, by omega⟩ ⟨by omega, by omega⟩) v_X4_50 rfl (hP.1) rfl (by decide) (by decide) (Nat.le_of_ble_eq_true rfl) rfl dX4_putCompressed_54 rfl (fun v lay' mem' n' hp => ?_)
        obtain ⟨q1, q2, q3, q4⟩ := hp
        subst q1; subst q2; subst q3; subst q4
        exact r_vret F Rt dX4_putCompressed_57 (by decide) ⟨rfl, rfl, by simp only [P_cpr, hlg, show lg.toNat = k by omega, e4], rfl⟩
      ·
        exfalso; omega
    | succ d ih =>
      intro k hk
      refine r_iload_n F rfl rfl dX4_putCompressed_11 rfl ?_
      refine r_iload_n F rfl rfl dX4_putCompressed_12 rfl ?_
      refine r_icmp_ge F (tgt := 49) ⟨by omega, by omega⟩ ⟨by omega, by omega⟩ dX4_putCompressed_13 rfl (by decide) (fun h_13 => ?_) (fun h_13 => ?_)
      ·
        exfalso; omega
      ·
        refine r_aload_n F rfl rfl dX4_putCompressed_16 rfl ?_
        refine r_aload_n F rfl rfl dX4_putCompressed_17 rfl ?_
        refine r_getR F f_X4_21 (hP.1) rfl dX4_putCompressed_18 rfl ?_
        refine r_iload_n F rfl rfl dX4_putCompressed_21 rfl ?_
        refine r_iald F (ja_LP_4 hP) (by omega) (by omega) (by decide) dX4_putCompressed_22 rfl ?_
        refine r_eqz (z := mem (a + 4) k) (by rw [P_pts_o ⟨by omega, by omega⟩, ja_nat]) ?_
        refine r_iload_n F rfl rfl dX4_putCompressed_23 rfl ?_
        refine r_iload_n F rfl rfl dX4_putCompressed_24 rfl ?_
        refine r_isub F dX4_putCompressed_25 rfl ?_
        refine r_imul F dX4_putCompressed_26 rfl ?_
        refine r_aload_n F rfl rfl dX4_putCompressed_27 rfl ?_
        refine r_getR F f_X4_21 (hP.1) rfl dX4_putCompressed_28 rfl ?_
        refine r_iload_n F rfl rfl dX4_putCompressed_31 rfl ?_
        refine r_iload_n F rfl rfl dX4_putCompressed_32 rfl ?_
        refine r_iadd F dX4_putCompressed_33 rfl ?_
        refine r_iald F (ja_LP_4 hP) (by omega) (by omega) (by decide) dX4_putCompressed_34 rfl ?_
        refine r_eqz (z := mem (a + 4) (k + lg.toNat)) (by rw [P_pts_o ⟨by omega, by omega⟩]; congr 1; omega) ?_
        refine r_iload_n F rfl rfl dX4_putCompressed_35 rfl ?_
        refine r_imul F dX4_putCompressed_36 rfl ?_
        refine r_iadd F dX4_putCompressed_37 rfl ?_
        refine r_iload_n F rfl rfl dX4_putCompressed_38 rfl ?_
        have q1 := b4 k
        have q2 := b4 (k + lg.toNat)
        refine r_idiv F ⟨by have := P_mxr q1 q2 (i := (k : Int)) (p := lg) (by omega) (by omega); omega, by have := P_mxr q1 q2 (i := (k : Int)) (p := lg) (by omega) (by omega); omega⟩ ⟨by omega, by omega⟩ (by omega) dX4_putCompressed_39 rfl ?_
        refine r_callV F G (c_X4_put _ _ _ _ hP (P_pts_r (by omega) k)) v_X4_58 rfl (hP.1) rfl (by decide) (by decide) (Nat.le_of_ble_eq_true rfl) rfl dX4_putCompressed_40 rfl (fun v lay' mem' n' hp => ?_)
        obtain ⟨q1, q2, q3, q4⟩ := hp
        subst q1; subst q2; subst q3; subst q4
        refine r_inc3 F (by decide) rfl dX4_putCompressed_43 rfl ?_
        refine r_goto F (tgt := 11) dX4_putCompressed_46 (by decide) ?_
        exact ih (k + 1) (by omega)
  exact loop lg.toNat 0 (by omega)
abbrev rm_X4_putStretched : Room := { frames := 3, cells := 0, slots := 0, locals := 70 }
set_option maxRecDepth 100000 in
set_option maxHeartbeats 4000000 in
theorem c_X4_putStretched (l : Launch) (D : va_G) (cA : Nat → ClassId) (B : Nat) {lay : ja_Y} {mem : ja_M} {n : Nat} {a : Nat} {m : Int} (hP : ja_LP lay a) (hO : ja_PO mem a) (hm : 4 ≤ m ∧ m ≤ 16) : ja_Mt l D cA B yX4_putStretched cX4_putStretched 4 none rm_X4_putStretched [.ref a, .int (ja_I m)] lay mem n (ja_rd lay (P_str mem a m) n (none)) := by
  refine ja_enter [some (.ref a), some (.int (ja_I m)), none, none] (by decide) (Nat.le_of_ble_eq_true rfl) (fun q hq => hq) (fun C F Rt G hnm => ?_)
  have hO2 := hO
  obtain ⟨h12, h4, h6, b1, b2, b4⟩ := hO2
  have c1 := P_lg_in (ex := 1) b4 (m / 2 - 2).toNat (by omega)
  have e4 : ∀ (M : ja_M) (h : Nat → Int) (k : Nat), P_pts M a h k (a + 4) = M (a + 4) := fun M h k => P_pts_o ⟨by omega, by omega⟩ k
  refine r_aload_n F rfl rfl dX4_putStretched_0 rfl ?_
  refine r_iload_n F rfl rfl dX4_putStretched_1 rfl ?_
  refine r_iconst F dX4_putStretched_2 rfl ?_
  refine r_idivP F ⟨by omega, by omega⟩ ⟨by omega, by omega⟩ (by omega) (by omega) dX4_putStretched_3 rfl ?_
  refine r_iconst F dX4_putStretched_4 rfl ?_
  refine r_callV F G (c_X4_bestLag _ _ _ _ hP b4 ⟨by omega, by omega⟩ ⟨by omega, by omega⟩) v_X4_54 rfl (hP.1) rfl (by decide) (by decide) (Nat.le_of_ble_eq_true rfl) rfl dX4_putStretched_5 rfl (fun v lay' mem' n' hp => ?_)
  obtain ⟨q1, q2, q3, q4⟩ := hp
  subst q1; subst q2; subst q3; subst q4
  refine r_ist2 F (by decide) rfl dX4_putStretched_8 rfl ?_
  generalize hlg : (P_lg (mem (a + 4)) 1 (m / 2 - 2).toNat).1 = lg at *
  refine r_aload_n F rfl rfl dX4_putStretched_9 rfl ?_
  refine r_iconst F dX4_putStretched_10 rfl ?_
  refine r_iload_n F rfl rfl dX4_putStretched_11 rfl ?_
  refine r_callV F G (c_X4_putSource _ _ _ _ hP ⟨by omega, by omega⟩ ⟨by omega, by omega⟩ ⟨by omega, by omega⟩) v_X4_50 rfl (hP.1) rfl (by decide) (by decide) (Nat.le_of_ble_eq_true rfl) rfl dX4_putStretched_12 rfl (fun v lay' mem' n' hp => ?_)
  obtain ⟨q1, q2, q3, q4⟩ := hp
  subst q1; subst q2; subst q3; subst q4
  refine r_mem (mem' := P_pts mem a (fun i => mem (a + 4) (0 + i)) lg.toNat) (by rw [show (lg - 0).toNat = lg.toNat by omega]; rfl) ?_
  refine r_iconst F dX4_putStretched_15 rfl ?_
  refine r_ist3 F (by decide) rfl dX4_putStretched_16 rfl ?_
  have loop : ∀ (d k : Nat), k + d = lg.toNat → ja_W C 0 0 lay (P_pts (P_pts mem a (fun i => mem (a + 4) (0 + i)) lg.toNat) a (fun i => P_mx (mem (a + 4) (i + lg.toNat)) (mem (a + 4) i) lg i) k) n 17 [some (.ref a), some (.int (ja_I m)), some (.int (ja_I lg)), some (.int (ja_I (k : Int)))] [] := by
    intro d
    induction d with
    | zero =>
      intro k hk
      refine r_iload_n F rfl rfl dX4_putStretched_17 rfl ?_
      refine r_iload_n F rfl rfl dX4_putStretched_18 rfl ?_
      refine r_icmp_ge F (tgt := 55) ⟨by omega, by omega⟩ ⟨by omega, by omega⟩ dX4_putStretched_19 rfl (by decide) (fun h_19 => ?_) (fun h_19 => ?_)
      ·
        refine r_aload_n F rfl rfl dX4_putStretched_55 rfl ?_
        refine r_iload_n F rfl rfl dX4_putStretched_56 rfl ?_
        refine r_iload_n F rfl rfl dX4_putStretched_57 rfl ?_
        refine r_callV F G (c_X4_putSource _ _ _ _ hP (P_pts_r (P_pts_r (by omega) _) _) ⟨by omega, by omega⟩ ⟨by omega, by omega⟩) v_X4_50 rfl (hP.1) rfl (by decide) (by decide) (Nat.le_of_ble_eq_true rfl) rfl dX4_putStretched_58 rfl (fun v lay' mem' n' hp => ?_)
        obtain ⟨q1, q2, q3, q4⟩ := hp
        subst q1; subst q2; subst q3; subst q4
        exact r_vret F Rt dX4_putStretched_61 (by decide) ⟨rfl, rfl, by simp only [P_str, hlg, show lg.toNat = k by omega, e4], rfl⟩
      ·
        exfalso; omega
    | succ d ih =>
      intro k hk
      refine r_iload_n F rfl rfl dX4_putStretched_17 rfl ?_
      refine r_iload_n F rfl rfl dX4_putStretched_18 rfl ?_
      refine r_icmp_ge F (tgt := 55) ⟨by omega, by omega⟩ ⟨by omega, by omega⟩ dX4_putStretched_19 rfl (by decide) (fun h_19 => ?_) (fun h_19 => ?_)
      ·
        exfalso; omega
      ·
        refine r_aload_n F rfl rfl dX4_putStretched_22 rfl ?_
        refine r_aload_n F rfl rfl dX4_putStretched_23 rfl ?_
        refine r_getR F f_X4_21 (hP.1) rfl dX4_putStretched_24 rfl ?_
        refine r_iload_n F rfl rfl dX4_putStretched_27 rfl ?_
        refine r_iload_n F rfl rfl dX4_putStretched_28 rfl ?_
        refine r_iadd F dX4_putStretched_29 rfl ?_
        refine r_iald F (ja_LP_4 hP) (by omega) (by omega) (by decide) dX4_putStretched_30 rfl ?_
        refine r_eqz (z := mem (a + 4) (k + lg.toNat)) (by rw [P_pts_o ⟨by omega, by omega⟩, P_pts_o ⟨by omega, by omega⟩]; congr 1; omega) ?_
        refine r_iload_n F rfl rfl dX4_putStretched_31 rfl ?_
        refine r_iload_n F rfl rfl dX4_putStretched_32 rfl ?_
        refine r_isub F dX4_putStretched_33 rfl ?_
        refine r_imul F dX4_putStretched_34 rfl ?_
        refine r_aload_n F rfl rfl dX4_putStretched_35 rfl ?_
        refine r_getR F f_X4_21 (hP.1) rfl dX4_putStretched_36 rfl ?_
        refine r_iload_n F rfl rfl dX4_putStretched_39 rfl ?_
        refine r_iald F (ja_LP_4 hP) (by omega) (by omega) (by decide) dX4_putStretched_40 rfl ?_
        refine r_eqz (z := mem (a + 4) k) (by rw [P_pts_o ⟨by omega, by omega⟩, P_pts_o ⟨by omega, by omega⟩, ja_nat]) ?_
        refine r_iload_n F rfl rfl dX4_putStretched_41 rfl ?_
        refine r_imul F dX4_putStretched_42 rfl ?_
        refine r_iadd F dX4_putStretched_43 rfl ?_
        refine r_iload_n F rfl rfl dX4_putStretched_44 rfl ?_
        have q2 := b4 k
        have q1 := b4 (k + lg.toNat)
        refine r_idiv F ⟨by have := P_mxr q1 q2 (i := (k : Int)) (p := lg) (by omega) (by omega); omega, by have := P_mxr q1 q2 (i := (k : Int)) (p := lg) (by omega) (by omega); omega⟩ ⟨by omega, by omega⟩ (by omega) dX4_putStretched_45 rfl ?_
        refine r_callV F G (c_X4_put _ _ _ _ hP (P_pts_r (P_pts_r (by omega) _) k)) v_X4_58 rfl (hP.1) rfl (by decide) (by decide) (Nat.le_of_ble_eq_true rfl) rfl dX4_putStretched_46 rfl (fun v lay' mem' n' hp => ?_)
        obtain ⟨q1, q2, q3, q4⟩ := hp
        subst q1; subst q2; subst q3; subst q4
        refine r_inc3 F (by decide) rfl dX4_putStretched_49 rfl ?_
        refine r_goto F (tgt := 17) dX4_putStretched_52 (by decide) ?_
        exact ih (k + 1) (by omega)
  exact loop lg.toNat 0 (by omega)
abbrev rm_X4_putConcealed : Room := { frames := 3, cells := 0, slots := 0, locals := 70 }
set_option maxRecDepth 100000 in
set_option maxHeartbeats 4000000 in
theorem c_X4_putConcealed (l : Launch) (D : va_G) (cA : Nat → ClassId) (B : Nat) {lay : ja_Y} {mem : ja_M} {n : Nat} {a : Nat} {m g : Int} (hP : ja_LP lay a) (hO : ja_PO mem a) (hm : 4 ≤ m ∧ m ≤ 16) (hg : 0 ≤ g ∧ g ≤ 100000) : ja_Mt l D cA B yX4_putConcealed cX4_putConcealed 6 none rm_X4_putConcealed [.ref a, .int (ja_I m), .int (ja_I g)] lay mem n (ja_rd lay (P_con mem a m g) n (none)) := by
  refine ja_enter [some (.ref a), some (.int (ja_I m)), some (.int (ja_I g)), none, none, none] (by decide) (Nat.le_of_ble_eq_true rfl) (fun q hq => hq) (fun C F Rt G hnm => ?_)
  have hO2 := hO
  obtain ⟨h12, h4, h6, b1, b2, b4⟩ := hO2
  have c0 : 0 ≤ P_pst mem a ∧ P_pst mem a ≤ 32 ∧ P_pst mem a ≤ mem a 4 := by unfold P_pst; split <;> omega
  have c1 := P_clg_in h4.1 b2 b4
  have c2 := P_srr_in b2 b4 (P_pst mem a).toNat
  refine r_aload_n F rfl rfl dX4_putConcealed_0 rfl ?_
  refine r_getI F f_X4_37 (hP.1) rfl dX4_putConcealed_1 rfl ?_
  refine r_bipush F (by decide) dX4_putConcealed_4 rfl ?_
  refine r_mmin F ⟨by omega, by omega⟩ ⟨by omega, by omega⟩ s_X4_62 (Nat.le_of_ble_eq_true rfl) (by decide) (by decide) (by decide) dX4_putConcealed_6 rfl ?_
  refine r_eqz (z := P_pst mem a) (by unfold P_pst; rfl) ?_
  refine r_ist3 F (by decide) rfl dX4_putConcealed_9 rfl ?_
  refine r_iconst F dX4_putConcealed_10 rfl ?_
  refine r_ist4 F (by decide) rfl dX4_putConcealed_11 rfl ?_
  have loop : ∀ (d k : Nat), k + d = (P_pst mem a).toNat → ja_W C 0 0 lay (ja_rw mem (a + 4) (P_srr mem a k)) n 13 [some (.ref a), some (.int (ja_I m)), some (.int (ja_I g)), some (.int (ja_I (P_pst mem a))), some (.int (ja_I (k : Int))), none] [] := by
    intro d
    induction d with
    | zero =>
      intro k hk
      refine r_iload F rfl dX4_putConcealed_13 rfl ?_
      refine r_iload_n F rfl rfl dX4_putConcealed_15 rfl ?_
      refine r_icmp_ge F (tgt := 40) ⟨by omega, by omega⟩ ⟨by omega, by omega⟩ dX4_putConcealed_16 rfl (by decide) (fun h_16 => ?_) (fun h_16 => ?_)
      ·
        rw [show k = (P_pst mem a).toNat by omega]
        refine r_iload_n F rfl rfl dX4_putConcealed_40 rfl ?_
        refine r_iconst F dX4_putConcealed_41 rfl ?_
        refine r_icmp_ge F (tgt := 49) ⟨by omega, by omega⟩ ⟨by omega, by omega⟩ dX4_putConcealed_42 rfl (by decide) (fun h_42 => ?_) (fun h_42 => ?_)
        ·
          refine r_aload_n F rfl rfl dX4_putConcealed_49 rfl ?_
          refine r_iload_n F rfl rfl dX4_putConcealed_50 rfl ?_
          refine r_iconst F dX4_putConcealed_51 rfl ?_
          refine r_idivP F ⟨by omega, by omega⟩ ⟨by omega, by omega⟩ (by omega) (by omega) dX4_putConcealed_52 rfl ?_
          refine r_iconst F dX4_putConcealed_53 rfl ?_
          refine r_callV F G (c_X4_bestLag _ _ _ _ hP (fun j => by rw [ja_rw_s]; exact c2 j) ⟨by omega, by omega⟩ ⟨by omega, by omega⟩) v_X4_54 rfl (hP.1) rfl (by decide) (by decide) (Nat.le_of_ble_eq_true rfl) rfl dX4_putConcealed_54 rfl (fun v lay' mem' n' hp => ?_)
          obtain ⟨q1, q2, q3, q4⟩ := hp
          subst q1; subst q2; subst q3; subst q4
          refine r_eqz (z := P_clg mem a) (by unfold P_clg; first | rw [if_pos (by omega)] | (rw [if_neg (by omega), ja_rw_s])) ?_
          refine r_ist4 F (by decide) rfl dX4_putConcealed_57 rfl ?_
          refine r_msk [true, true, true, false, true, false] rfl ?_
          refine r_iconst F dX4_putConcealed_59 rfl ?_
          refine r_ist5 F (by decide) rfl dX4_putConcealed_60 rfl ?_
          have loop2 : ∀ (d k : Nat), k + d = m.toNat → ja_W C 0 0 lay (P_pts (ja_rw mem (a + 4) (P_srr mem a (P_pst mem a).toNat)) a (P_csm mem a g) k) n 62 [some (.ref a), some (.int (ja_I m)), some (.int (ja_I g)), none, some (.int (ja_I (P_clg mem a))), some (.int (ja_I (k : Int)))] [] := by
            intro d
            induction d with
            | zero =>
              intro k hk
              refine r_iload F rfl dX4_putConcealed_62 rfl ?_
              refine r_iload_n F rfl rfl dX4_putConcealed_64 rfl ?_
              refine r_icmp_ge F (tgt := 106) ⟨by omega, by omega⟩ ⟨by omega, by omega⟩ dX4_putConcealed_65 rfl (by decide) (fun h_65 => ?_) (fun h_65 => ?_)
              ·
                exact r_vret F Rt dX4_putConcealed_106 (by decide) ⟨rfl, rfl, by rw [show k = m.toNat by omega]; rfl, rfl⟩
              ·
                exfalso; omega
            | succ d ih =>
              intro k hk
              refine r_iload F rfl dX4_putConcealed_62 rfl ?_
              refine r_iload_n F rfl rfl dX4_putConcealed_64 rfl ?_
              refine r_icmp_ge F (tgt := 106) ⟨by omega, by omega⟩ ⟨by omega, by omega⟩ dX4_putConcealed_65 rfl (by decide) (fun h_65 => ?_) (fun h_65 => ?_)
              ·
                exfalso; omega
              ·
                refine r_aload_n F rfl rfl dX4_putConcealed_68 rfl ?_
                refine r_iload F rfl dX4_putConcealed_69 rfl ?_
                refine r_if_ne F (tgt := 78) ⟨by omega, by omega⟩ dX4_putConcealed_71 rfl (by decide) (fun h_71 => ?_) (fun h_71 => ?_)
                ·
                  refine r_aload_n F rfl rfl dX4_putConcealed_78 rfl ?_
                  refine r_getR F f_X4_21 (hP.1) rfl dX4_putConcealed_79 rfl ?_
                  refine r_iload F rfl dX4_putConcealed_82 rfl ?_
                  refine r_iconst F dX4_putConcealed_84 rfl ?_
                  refine r_isub F dX4_putConcealed_85 rfl ?_
                  refine r_iload F rfl dX4_putConcealed_86 rfl ?_
                  refine r_iload F rfl dX4_putConcealed_88 rfl ?_
                  refine r_iremP F ⟨by omega, by omega⟩ ⟨by omega, by omega⟩ (by omega) (by omega) dX4_putConcealed_90 rfl ?_
                  have e0 := Int.emod_nonneg (k : Int) (by omega : P_clg mem a ≠ 0)
                  have e1 := Int.emod_lt_of_pos (k : Int) (by omega : 0 < P_clg mem a)
                  refine r_isub F dX4_putConcealed_91 rfl ?_
                  refine r_iald F (ja_LP_4 hP) (by omega) (by omega) (by decide) dX4_putConcealed_92 rfl ?_
                  refine r_eqz (z := P_srr mem a (P_pst mem a).toNat (P_clg mem a - 1 - (k : Int) % P_clg mem a).toNat) (by rw [P_pts_o ⟨by omega, by omega⟩, ja_rw_s]) ?_
                  refine r_iload_n F rfl rfl dX4_putConcealed_93 rfl ?_
                  refine r_callS F G (c_X4_faded _ _ _ _ (c2 _) ⟨by omega, by omega⟩) s_X4_71 rfl (by decide) (by decide) (Nat.le_of_ble_eq_true rfl) rfl dX4_putConcealed_94 rfl (fun v lay' mem' n' hp => ?_)
                  obtain ⟨q1, q2, q3, q4⟩ := hp
                  subst q1; subst q2; subst q3; subst q4
                  refine r_eqz (z := P_csm mem a g k) (by unfold P_csm; first | rw [if_pos h_71] | rw [if_neg h_71]) ?_
                  refine r_callV F G (c_X4_put _ _ _ _ hP (P_pts_r (by rw [ja_rw_n (by omega)]; omega) k)) v_X4_58 rfl (hP.1) rfl (by decide) (by decide) (Nat.le_of_ble_eq_true rfl) rfl dX4_putConcealed_97 rfl (fun v lay' mem' n' hp => ?_)
                  obtain ⟨q1, q2, q3, q4⟩ := hp
                  subst q1; subst q2; subst q3; subst q4
                  refine r_inc5 F (by decide) rfl dX4_putConcealed_100 rfl ?_
                  refine r_goto F (tgt := 62) dX4_putConcealed_103 (by decide) ?_
                  exact ih (k + 1) (by omega)
                ·
                  refine r_iconst F dX4_putConcealed_74 rfl ?_
                  refine r_goto F (tgt := 97) dX4_putConcealed_75 (by decide) ?_
                  refine r_eqz (z := P_csm mem a g k) (by unfold P_csm; first | rw [if_pos h_71] | rw [if_neg h_71]) ?_
                  refine r_callV F G (c_X4_put _ _ _ _ hP (P_pts_r (by rw [ja_rw_n (by omega)]; omega) k)) v_X4_58 rfl (hP.1) rfl (by decide) (by decide) (Nat.le_of_ble_eq_true rfl) rfl dX4_putConcealed_97 rfl (fun v lay' mem' n' hp => ?_)
                  obtain ⟨q1, q2, q3, q4⟩ := hp
                  subst q1; subst q2; subst q3; subst q4
                  refine r_inc5 F (by decide) rfl dX4_putConcealed_100 rfl ?_
                  refine r_goto F (tgt := 62) dX4_putConcealed_103 (by decide) ?_
                  exact ih (k + 1) (by omega)
          exact loop2 m.toNat 0 (by omega)
        ·
          refine r_iconst F dX4_putConcealed_45 rfl ?_
          refine r_goto F (tgt := 57) dX4_putConcealed_46 (by decide) ?_
          refine r_eqz (z := P_clg mem a) (by unfold P_clg; first | rw [if_pos (by omega)] | (rw [if_neg (by omega), ja_rw_s])) ?_
          refine r_ist4 F (by decide) rfl dX4_putConcealed_57 rfl ?_
          refine r_msk [true, true, true, false, true, false] rfl ?_
          refine r_iconst F dX4_putConcealed_59 rfl ?_
          refine r_ist5 F (by decide) rfl dX4_putConcealed_60 rfl ?_
          have loop2 : ∀ (d k : Nat), k + d = m.toNat → ja_W C 0 0 lay (P_pts (ja_rw mem (a + 4) (P_srr mem a (P_pst mem a).toNat)) a (P_csm mem a g) k) n 62 [some (.ref a), some (.int (ja_I m)), some (.int (ja_I g)), none, some (.int (ja_I (P_clg mem a))), some (.int (ja_I (k : Int)))] [] := by
            intro d
            induction d with
            | zero =>
              intro k hk
              refine r_iload F rfl dX4_putConcealed_62 rfl ?_
              refine r_iload_n F rfl rfl dX4_putConcealed_64 rfl ?_
              refine r_icmp_ge F (tgt := 106) ⟨by omega, by omega⟩ ⟨by omega, by omega⟩ dX4_putConcealed_65 rfl (by decide) (fun h_65 => ?_) (fun h_65 => ?_)
              ·
                exact r_vret F Rt dX4_putConcealed_106 (by decide) ⟨rfl, rfl, by rw [show k = m.toNat by omega]; rfl, rfl⟩
              ·
                exfalso; omega
            | succ d ih =>
              intro k hk
              refine r_iload F rfl dX4_putConcealed_62 rfl ?_
              refine r_iload_n F rfl rfl dX4_putConcealed_64 rfl ?_
              refine r_icmp_ge F (tgt := 106) ⟨by omega, by omega⟩ ⟨by omega, by omega⟩ dX4_putConcealed_65 rfl (by decide) (fun h_65 => ?_) (fun h_65 => ?_)
              ·
                exfalso; omega
              ·
                refine r_aload_n F rfl rfl dX4_putConcealed_68 rfl ?_
                refine r_iload F rfl dX4_putConcealed_69 rfl ?_
                refine r_if_ne F (tgt := 78) ⟨by omega, by omega⟩ dX4_putConcealed_71 rfl (by decide) (fun h_71 => ?_) (fun h_71 => ?_)
                ·
                  refine r_aload_n F rfl rfl dX4_putConcealed_78 rfl ?_
                  refine r_getR F f_X4_21 (hP.1) rfl dX4_putConcealed_79 rfl ?_
                  refine r_iload F rfl dX4_putConcealed_82 rfl ?_
                  refine r_iconst F dX4_putConcealed_84 rfl ?_
                  refine r_isub F dX4_putConcealed_85 rfl ?_
                  refine r_iload F rfl dX4_putConcealed_86 rfl ?_
                  refine r_iload F rfl dX4_putConcealed_88 rfl ?_
                  refine r_iremP F ⟨by omega, by omega⟩ ⟨by omega, by omega⟩ (by omega) (by omega) dX4_putConcealed_90 rfl ?_
                  have e0 := Int.emod_nonneg (k : Int) (by omega : P_clg mem a ≠ 0)
                  have e1 := Int.emod_lt_of_pos (k : Int) (by omega : 0 < P_clg mem a)
                  refine r_isub F dX4_putConcealed_91 rfl ?_
                  refine r_iald F (ja_LP_4 hP) (by omega) (by omega) (by decide) dX4_putConcealed_92 rfl ?_
                  refine r_eqz (z := P_srr mem a (P_pst mem a).toNat (P_clg mem a - 1 - (k : Int) % P_clg mem a).toNat) (by rw [P_pts_o ⟨by omega, by omega⟩, ja_rw_s]) ?_
                  refine r_iload_n F rfl rfl dX4_putConcealed_93 rfl ?_
                  refine r_callS F G (c_X4_faded _ _ _ _ (c2 _) ⟨by omega, by omega⟩) s_X4_71 rfl (by decide) (by decide) (Nat.le_of_ble_eq_true rfl) rfl dX4_putConcealed_94 rfl (fun v lay' mem' n' hp => ?_)
                  obtain ⟨q1, q2, q3, q4⟩ := hp
                  subst q1; subst q2; subst q3; subst q4
                  refine r_eqz (z := P_csm mem a g k) (by unfold P_csm; first | rw [if_pos h_71] | rw [if_neg h_71]) ?_
                  refine r_callV F G (c_X4_put _ _ _ _ hP (P_pts_r (by rw [ja_rw_n (by omega)]; omega) k)) v_X4_58 rfl (hP.1) rfl (by decide) (by decide) (Nat.le_of_ble_eq_true rfl) rfl dX4_putConcealed_97 rfl (fun v lay' mem' n' hp => ?_)
                  obtain ⟨q1, q2, q3, q4⟩ := hp
                  subst q1; subst q2; subst q3; subst q4
                  refine r_inc5 F (by decide) rfl dX4_putConcealed_100 rfl ?_
                  refine r_goto F (tgt := 62) dX4_putConcealed_103 (by decide) ?_
                  exact ih (k + 1) (by omega)
                ·
                  refine r_iconst F dX4_putConcealed_74 rfl ?_
                  refine r_goto F (tgt := 97) dX4_putConcealed_75 (by decide) ?_
                  refine r_eqz (z := P_csm mem a g k) (by unfold P_csm; first | rw [if_pos h_71] | rw [if_neg h_71]) ?_
                  refine r_callV F G (c_X4_put _ _ _ _ hP (P_pts_r (by rw [ja_rw_n (by omega)]; omega) k)) v_X4_58 rfl (hP.1) rfl (by decide) (by decide) (Nat.le_of_ble_eq_true rfl) rfl dX4_putConcealed_97 rfl (fun v lay' mem' n' hp => ?_)
                  obtain ⟨q1, q2, q3, q4⟩ := hp
                  subst q1; subst q2; subst q3; subst q4
                  refine r_inc5 F (by decide) rfl dX4_putConcealed_100 rfl ?_
                  refine r_goto F (tgt := 62) dX4_putConcealed_103 (by decide) ?_
                  exact ih (k + 1) (by omega)
          exact loop2 m.toNat 0 (by omega)
      ·
        exfalso; omega
    | succ d ih =>
      intro k hk
      refine r_iload F rfl dX4_putConcealed_13 rfl ?_
      refine r_iload_n F rfl rfl dX4_putConcealed_15 rfl ?_
      refine r_icmp_ge F (tgt := 40) ⟨by omega, by omega⟩ ⟨by omega, by omega⟩ dX4_putConcealed_16 rfl (by decide) (fun h_16 => ?_) (fun h_16 => ?_)
      ·
        exfalso; omega
      ·
        refine r_aload_n F rfl rfl dX4_putConcealed_19 rfl ?_
        refine r_getR F f_X4_21 (hP.1) rfl dX4_putConcealed_20 rfl ?_
        refine r_iload F rfl dX4_putConcealed_23 rfl ?_
        refine r_aload_n F rfl rfl dX4_putConcealed_25 rfl ?_
        refine r_iload F rfl dX4_putConcealed_26 rfl ?_
        refine r_iconst F dX4_putConcealed_28 rfl ?_
        refine r_iadd F dX4_putConcealed_29 rfl ?_
        refine r_callV F G (c_X4_outputAt _ _ _ _ hP (by rw [ja_rw_n (by omega)]; omega) (by rw [ja_rw_n (by omega)]; omega)) v_X4_67 rfl (hP.1) rfl (by decide) (by decide) (Nat.le_of_ble_eq_true rfl) rfl dX4_putConcealed_30 rfl (fun v lay' mem' n' hp => ?_)
        obtain ⟨q1, q2, q3, q4⟩ := hp
        subst q1; subst q2; subst q3; subst q4
        refine r_eqz (z := mem (a + 2) ((mem a 4 - ((k : Int) + 1)) % 256).toNat) (by rw [ja_rw_n (by omega), ja_rw_n (by omega)]) ?_
        refine r_iast F (ja_LP_4 hP) (by omega) (by omega) (by decide) dX4_putConcealed_33 rfl ?_
        refine r_inc4 F (by decide) rfl dX4_putConcealed_34 rfl ?_
        refine r_goto F (tgt := 13) dX4_putConcealed_37 (by decide) ?_
        refine r_mem (mem' := ja_rw mem (a + 4) (P_srr mem a (k + 1))) (by rw [ja_rw_up]; rfl) ?_
        exact ih (k + 1) (by omega)
  have h0 := loop (P_pst mem a).toNat 0 (by omega)
  rw [show ja_rw mem (a + 4) (P_srr mem a 0) = mem from ja_rw_self mem (a + 4)] at h0
  exact h0
abbrev rm_X4_copyFrom : Room := { frames := 1, cells := 0, slots := 0, locals := 40 }
set_option maxRecDepth 100000 in
set_option maxHeartbeats 4000000 in
theorem c_X4_copyFrom (l : Launch) (D : va_G) (cA : Nat → ClassId) (B : Nat) {lay : ja_Y} {mem : ja_M} {n : Nat} {a o : Nat} (hP : ja_LP lay a) (hPo : ja_LP lay o) (hao : a + 5 ≤ o ∨ o + 5 ≤ a) : ja_Mt l D cA B yX4_copyFrom cX4_copyFrom 2 none rm_X4_copyFrom [.ref a, .ref o] lay mem n (ja_rd lay (P_cp2 mem a o) n (none)) := by
  refine ja_enter [some (.ref a), some (.ref o)] (by decide) (Nat.le_of_ble_eq_true rfl) (fun q hq => hq) (fun C F Rt G hnm => ?_)
  refine r_aload_n F rfl rfl dX4_copyFrom_0 rfl ?_
  refine r_getR F f_X4_11 (hPo.1) rfl dX4_copyFrom_1 rfl ?_
  refine r_iconst F dX4_copyFrom_4 rfl ?_
  refine r_aload_n F rfl rfl dX4_copyFrom_5 rfl ?_
  refine r_getR F f_X4_11 (hP.1) rfl dX4_copyFrom_6 rfl ?_
  refine r_iconst F dX4_copyFrom_9 rfl ?_
  refine r_bipush F (by decide) dX4_copyFrom_10 rfl ?_
  refine r_copy0 F s_X4_24 (ja_LP_1 hPo) (ja_LP_1 hP) (by decide) (by decide) (by decide) (by decide) (Nat.le_of_ble_eq_true rfl) (by decide) (by decide) dX4_copyFrom_12 rfl ?_
  refine r_aload_n F rfl rfl dX4_copyFrom_15 rfl ?_
  refine r_aload_n F rfl rfl dX4_copyFrom_16 rfl ?_
  refine r_getI F f_X4_30 (hPo.1) rfl dX4_copyFrom_17 rfl ?_
  refine r_eqz (z := mem o 1) (by rw [ja_cp_o _ (by omega)]) ?_
  refine r_putI F f_X4_30 (hP.1) rfl dX4_copyFrom_20 rfl ?_
  refine r_aload_n F rfl rfl dX4_copyFrom_23 rfl ?_
  refine r_aload_n F rfl rfl dX4_copyFrom_24 rfl ?_
  refine r_getI F f_X4_34 (hPo.1) rfl dX4_copyFrom_25 rfl ?_
  refine r_eqz (z := mem o 2) (by rw [ja_up_a (by omega), ja_cp_o _ (by omega)]) ?_
  refine r_putI F f_X4_34 (hP.1) rfl dX4_copyFrom_28 rfl ?_
  refine r_aload_n F rfl rfl dX4_copyFrom_31 rfl ?_
  refine r_getR F f_X4_15 (hPo.1) rfl dX4_copyFrom_32 rfl ?_
  refine r_iconst F dX4_copyFrom_35 rfl ?_
  refine r_aload_n F rfl rfl dX4_copyFrom_36 rfl ?_
  refine r_getR F f_X4_15 (hP.1) rfl dX4_copyFrom_37 rfl ?_
  refine r_iconst F dX4_copyFrom_40 rfl ?_
  refine r_sipush F (by decide) dX4_copyFrom_41 rfl ?_
  refine r_copy0 F s_X4_24 (ja_LP_2 hPo) (ja_LP_2 hP) (by decide) (by decide) (by decide) (by decide) (Nat.le_of_ble_eq_true rfl) (by decide) (by decide) dX4_copyFrom_44 rfl ?_
  refine r_aload_n F rfl rfl dX4_copyFrom_47 rfl ?_
  refine r_aload_n F rfl rfl dX4_copyFrom_48 rfl ?_
  refine r_getI F f_X4_37 (hPo.1) rfl dX4_copyFrom_49 rfl ?_
  refine r_eqz (z := mem o 4) (by rw [ja_cp_o _ (by omega), ja_up_a (by omega), ja_up_a (by omega), ja_cp_o _ (by omega)]) ?_
  refine r_putI F f_X4_37 (hP.1) rfl dX4_copyFrom_52 rfl ?_
  refine r_aload_n F rfl rfl dX4_copyFrom_55 rfl ?_
  refine r_getR F f_X4_18 (hPo.1) rfl dX4_copyFrom_56 rfl ?_
  refine r_iconst F dX4_copyFrom_59 rfl ?_
  refine r_aload_n F rfl rfl dX4_copyFrom_60 rfl ?_
  refine r_getR F f_X4_18 (hP.1) rfl dX4_copyFrom_61 rfl ?_
  refine r_iconst F dX4_copyFrom_64 rfl ?_
  refine r_bipush F (by decide) dX4_copyFrom_65 rfl ?_
  refine r_copy0 F s_X4_24 (ja_LP_3 hPo) (ja_LP_3 hP) (by decide) (by decide) (by decide) (by decide) (Nat.le_of_ble_eq_true rfl) (by decide) (by decide) dX4_copyFrom_67 rfl ?_
  refine r_aload_n F rfl rfl dX4_copyFrom_70 rfl ?_
  refine r_aload_n F rfl rfl dX4_copyFrom_71 rfl ?_
  refine r_getI F f_X4_40 (hPo.1) rfl dX4_copyFrom_72 rfl ?_
  refine r_eqz (z := mem o 6) (by rw [ja_cp_o _ (by omega), ja_up_a (by omega), ja_cp_o _ (by omega), ja_up_a (by omega), ja_up_a (by omega), ja_cp_o _ (by omega)]) ?_
  refine r_putI F f_X4_40 (hP.1) rfl dX4_copyFrom_75 rfl ?_
  exact r_vret F Rt dX4_copyFrom_78 (by decide) ⟨rfl, rfl, rfl, rfl⟩
end
section
abbrev rm_X7_add : Room := { frames := 1, cells := 0, slots := 0, locals := 23 }
set_option maxRecDepth 100000 in
set_option maxHeartbeats 4000000 in
theorem c_X7_add (l : Launch) (D : va_G) (cA : Nat → ClassId) (B : Nat) {lay : ja_Y} {mem : ja_M} {n : Nat} {a : Nat} {v : Int} (hT : ja_LT lay a) (hO : ja_TO mem a) (hv : ja_sm v) : ja_Mt l D cA B yX7_add cX7_add 3 none rm_X7_add [.ref a, .int (ja_I v)] lay mem n (ja_rd lay (T_add mem a v) n (none)) := by
  refine ja_enter [some (.ref a), some (.int (ja_I v)), none] (by decide) (Nat.le_of_ble_eq_true rfl) (fun q hq => hq) (fun C F Rt G hnm => ?_)
  have hO2 := hO
  obtain ⟨h2, h3, b1, b2⟩ := hO2
  have hct : 1 ≤ T_ct mem a ∧ T_ct mem a ≤ 16 := by unfold T_ct; split <;> omega
  have hb1 : ∀ j, ja_sm (ja_rs (mem (a + 1)) (mem a 3).toNat v j) := fun j => by unfold ja_rs; split; exact hv; exact b1 j
  have hb2 := T_srt_in (P := ja_sm) hb1 b2
  refine r_aload_n F rfl rfl dX7_add_0 rfl ?_
  refine r_getR F f_X7_9 (hT.1) rfl dX7_add_1 rfl ?_
  refine r_aload_n F rfl rfl dX7_add_4 rfl ?_
  refine r_getI F f_X7_26 (hT.1) rfl dX7_add_5 rfl ?_
  refine r_iload_n F rfl rfl dX7_add_8 rfl ?_
  refine r_iast F (ja_LT_1 hT) (by omega) (by omega) (by decide) dX7_add_9 rfl ?_
  refine r_aload_n F rfl rfl dX7_add_10 rfl ?_
  refine r_aload_n F rfl rfl dX7_add_11 rfl ?_
  refine r_getI F f_X7_26 (hT.1) rfl dX7_add_12 rfl ?_
  refine r_eqz (z := mem a 3) (by simp [ja_up]) ?_
  refine r_iconst F dX7_add_15 rfl ?_
  refine r_iadd F dX7_add_16 rfl ?_
  refine r_bipush F (by decide) dX7_add_17 rfl ?_
  refine r_iremP F ⟨by omega, by omega⟩ ⟨by omega, by omega⟩ (by omega) (by omega) dX7_add_19 rfl ?_
  refine r_putI F f_X7_26 (hT.1) rfl dX7_add_20 rfl ?_
  refine r_aload_n F rfl rfl dX7_add_23 rfl ?_
  refine r_bipush F (by decide) dX7_add_24 rfl ?_
  refine r_aload_n F rfl rfl dX7_add_26 rfl ?_
  refine r_getI F f_X7_22 (hT.1) rfl dX7_add_27 rfl ?_
  refine r_eqz (z := mem a 2) (by simp [ja_up]) ?_
  refine r_iconst F dX7_add_30 rfl ?_
  refine r_iadd F dX7_add_31 rfl ?_
  refine r_mmin F ⟨by omega, by omega⟩ ⟨by omega, by omega⟩ s_X7_29 (Nat.le_of_ble_eq_true rfl) (by decide) (by decide) (by decide) dX7_add_32 rfl ?_
  refine r_eqz (z := T_ct mem a) (by unfold T_ct; first | rfl | skip) ?_
  refine r_putI F f_X7_22 (hT.1) rfl dX7_add_35 rfl ?_
  generalize hm0 : ja_up (ja_up (ja_up mem (a + 1) (mem a 3).toNat v) a 3 ((mem a 3 + 1) % 16)) a 2 (T_ct mem a) = m0
  have e2 : m0 a 2 = T_ct mem a := by rw [← hm0, ja_up_s]
  have e3 : m0 a 3 = (mem a 3 + 1) % 16 := by rw [← hm0, ja_up_j (by omega), ja_up_s]
  have e1 : m0 (a + 1) = ja_rs (mem (a + 1)) (mem a 3).toNat v := by rw [← hm0]; funext j; rw [ja_up_a (by omega), ja_up_a (by omega)]; simp [ja_up, ja_rs]
  have e4 : m0 (a + 2) = mem (a + 2) := by rw [← hm0]; funext j; rw [ja_up_a (by omega), ja_up_a (by omega), ja_up_a (by omega)]
  refine r_iconst F dX7_add_38 rfl ?_
  refine r_ist2 F (by decide) rfl dX7_add_39 rfl ?_
  have loop : ∀ (d k : Nat), k + d = (T_ct mem a).toNat → ja_W C 0 0 lay (ja_rw m0 (a + 2) (T_srt (ja_rs (mem (a + 1)) (mem a 3).toNat v) (mem (a + 2)) k)) n 40 [some (.ref a), some (.int (ja_I v)), some (.int (ja_I (k : Int)))] [] := by
    intro d
    induction d with
    | zero =>
      intro k hk
      refine r_iload_n F rfl rfl dX7_add_40 rfl ?_
      refine r_aload_n F rfl rfl dX7_add_41 rfl ?_
      refine r_getI F f_X7_22 (hT.1) rfl dX7_add_42 rfl ?_
      refine r_eqz (z := (T_ct mem a)) (by rw [ja_rw_n (by omega), e2]) ?_
      refine r_icmp_ge F (tgt := 65) ⟨by omega, by omega⟩ ⟨by omega, by omega⟩ dX7_add_45 rfl (by decide) (fun h_45 => ?_) (fun h_45 => ?_)
      ·
        exact r_vret F Rt dX7_add_65 (by decide) ⟨rfl, rfl, by rw [T_add, hm0, show (T_ct mem a).toNat = k by omega], rfl⟩
      ·
        exfalso; omega
    | succ d ih =>
      intro k hk
      refine r_iload_n F rfl rfl dX7_add_40 rfl ?_
      refine r_aload_n F rfl rfl dX7_add_41 rfl ?_
      refine r_getI F f_X7_22 (hT.1) rfl dX7_add_42 rfl ?_
      refine r_eqz (z := (T_ct mem a)) (by rw [ja_rw_n (by omega), e2]) ?_
      refine r_icmp_ge F (tgt := 65) ⟨by omega, by omega⟩ ⟨by omega, by omega⟩ dX7_add_45 rfl (by decide) (fun h_45 => ?_) (fun h_45 => ?_)
      ·
        exfalso; omega
      ·
        refine r_aload_n F rfl rfl dX7_add_48 rfl ?_
        refine r_aload_n F rfl rfl dX7_add_49 rfl ?_
        refine r_getR F f_X7_9 (hT.1) rfl dX7_add_50 rfl ?_
        refine r_iload_n F rfl rfl dX7_add_53 rfl ?_
        refine r_iald F (ja_LT_1 hT) (by omega) (by omega) (by decide) dX7_add_54 rfl ?_
        refine r_eqz (z := ja_rs (mem (a + 1)) (mem a 3).toNat v k) (by rw [ja_rw_n (by omega), e1, ja_nat]) ?_
        refine r_iload_n F rfl rfl dX7_add_55 rfl ?_
        refine r_callV F G (c_X7_insert _ _ _ _ hT ⟨by rw [ja_rw_n (by omega), e2]; omega, by rw [ja_rw_n (by omega), e3]; omega, fun j => by rw [ja_rw_n (by omega), e1]; exact hb1 j, fun j => by rw [ja_rw_s]; exact hb2 k j⟩ (hb1 k) ⟨by omega, by omega⟩) v_X7_35 rfl (hT.1) rfl (by decide) (by decide) (Nat.le_of_ble_eq_true rfl) rfl dX7_add_56 rfl (fun v lay' mem' n' hp => ?_)
        obtain ⟨q1, q2, q3, q4⟩ := hp
        subst q1; subst q2; subst q3; subst q4
        refine r_inc2 F (by decide) rfl dX7_add_59 rfl ?_
        refine r_goto F (tgt := 40) dX7_add_62 (by decide) ?_
        refine r_mem (mem' := ja_rw m0 (a + 2) (T_srt (ja_rs (mem (a + 1)) (mem a 3).toNat v) (mem (a + 2)) (k + 1))) (by rw [ja_rw_rw, ja_rw_s]; simp only [T_srt, ja_nat]) ?_
        exact ih (k + 1) (by omega)
  have h0 := loop (T_ct mem a).toNat 0 (by omega)
  rw [show ja_rw m0 (a + 2) (T_srt (ja_rs (mem (a + 1)) (mem a 3).toNat v) (mem (a + 2)) 0) = m0 by rw [show T_srt (ja_rs (mem (a + 1)) (mem a 3).toNat v) (mem (a + 2)) 0 = m0 (a + 2) from e4.symm]; exact ja_rw_self m0 (a + 2)] at h0
  exact h0
abbrev rm_X0_write : Room := { frames := 0, cells := 0, slots := 0, locals := 0 }
set_option maxRecDepth 100000 in
set_option maxHeartbeats 4000000 in
theorem c_X0_write (l : Launch) (D : va_G) (cA : Nat → ClassId) (B : Nat) {lay : ja_Y} {mem : ja_M} {n : Nat} {x : Nat} {c : Int} (hX : ja_LX lay x) (h1 : 0 ≤ mem x 1 ∧ mem x 1 ≤ 120) : ja_Mt l D cA B yX0_write cX0_write 2 none rm_X0_write [.ref x, .int (ja_I c)] lay mem n (ja_rd lay (if mem x 1 < 120 then ja_up (ja_up mem (x + 1) (mem x 1).toNat c) x 1 (mem x 1 + 1) else mem) n (none)) := by
  refine ja_enter [some (.ref x), some (.int (ja_I c))] (by decide) (Nat.le_of_ble_eq_true rfl) (fun q hq => hq) (fun C F Rt G hnm => ?_)
  refine r_aload_n F rfl rfl dX0_write_0 rfl ?_
  refine r_getI F f_X0_15 (hX.1) rfl dX0_write_1 rfl ?_
  refine r_bipush F (by decide) dX0_write_4 rfl ?_
  refine r_icmp_ge F (tgt := 29) ⟨by omega, by omega⟩ ⟨by omega, by omega⟩ dX0_write_6 rfl (by decide) (fun h_6 => ?_) (fun h_6 => ?_)
  ·
    exact r_vret F Rt dX0_write_29 (by decide) ⟨rfl, rfl, by first | rw [if_pos (by omega)] | rw [if_neg (by omega)], rfl⟩
  ·
    refine r_aload_n F rfl rfl dX0_write_9 rfl ?_
    refine r_getR F f_X0_11 (hX.1) rfl dX0_write_10 rfl ?_
    refine r_aload_n F rfl rfl dX0_write_13 rfl ?_
    refine r_getI F f_X0_15 (hX.1) rfl dX0_write_14 rfl ?_
    refine r_iload_n F rfl rfl dX0_write_17 rfl ?_
    refine r_iast F (ja_LX_1 hX) (by omega) (by omega) (by decide) dX0_write_18 rfl ?_
    refine r_aload_n F rfl rfl dX0_write_19 rfl ?_
    refine r_dup F rfl dX0_write_20 rfl ?_
    refine r_getI F f_X0_15 (hX.1) rfl dX0_write_21 rfl ?_
    refine r_eqz (z := mem x 1) (by simp [ja_up]) ?_
    refine r_iconst F dX0_write_24 rfl ?_
    refine r_iadd F dX0_write_25 rfl ?_
    refine r_putI F f_X0_15 (hX.1) rfl dX0_write_26 rfl ?_
    exact r_vret F Rt dX0_write_29 (by decide) ⟨rfl, rfl, by first | rw [if_pos (by omega)] | rw [if_neg (by omega)], rfl⟩
abbrev rm_X0_expect : Room := { frames := 0, cells := 0, slots := 0, locals := 0 }
set_option maxRecDepth 100000 in
set_option maxHeartbeats 4000000 in
theorem c_X0_expect (l : Launch) (D : va_G) (cA : Nat → ClassId) (B : Nat) {lay : ja_Y} {mem : ja_M} {n : Nat} {x : Nat} {p : Int} (hX : ja_LX lay x)  : ja_Mt l D cA B yX0_expect cX0_expect 2 none rm_X0_expect [.ref x, .int (ja_I p)] lay mem n (ja_rd lay (X_ex mem x p) n (none)) := by
  refine ja_enter [some (.ref x), some (.int (ja_I p))] (by decide) (Nat.le_of_ble_eq_true rfl) (fun q hq => hq) (fun C F Rt G hnm => ?_)
  refine r_aload_n F rfl rfl dX0_expect_0 rfl ?_
  refine r_iload_n F rfl rfl dX0_expect_1 rfl ?_
  refine r_putI F f_X0_24 (hX.1) rfl dX0_expect_2 rfl ?_
  refine r_aload_n F rfl rfl dX0_expect_5 rfl ?_
  refine r_iconst F dX0_expect_6 rfl ?_
  refine r_putI F f_X0_38 (hX.1) rfl dX0_expect_7 rfl ?_
  refine r_aload_n F rfl rfl dX0_expect_10 rfl ?_
  refine r_iconst F dX0_expect_11 rfl ?_
  refine r_putI F f_X0_35 (hX.1) rfl dX0_expect_12 rfl ?_
  exact r_vret F Rt dX0_expect_15 (by decide) ⟨rfl, rfl, rfl, rfl⟩
abbrev rm_X0_beginsEntry : Room := { frames := 1, cells := 0, slots := 0, locals := 21 }
set_option maxRecDepth 100000 in
set_option maxHeartbeats 4000000 in
theorem c_X0_beginsEntry (l : Launch) (D : va_G) (cA : Nat → ClassId) (B : Nat) {lay : ja_Y} {mem : ja_M} {n : Nat} {x : Nat} {c : Int} (hX : ja_LX lay x) (hc : ja_in c) : ja_Mt l D cA B yX0_beginsEntry cX0_beginsEntry 2 (some .boolean) rm_X0_beginsEntry [.ref x, .int (ja_I c)] lay mem n (ja_rd lay (X_be mem x c) n (some (.int (ja_I (ja_b (c = 100 ∨ c = 114 ∨ c = 99)))))) := by
  refine ja_enter [some (.ref x), some (.int (ja_I c))] (by decide) (Nat.le_of_ble_eq_true rfl) (fun q hq => hq) (fun C F Rt G hnm => ?_)
  refine r_iload_n F rfl rfl dX0_beginsEntry_0 rfl ?_
  rcases (show c = 99 ∨ c = 100 ∨ c = 114 ∨ (¬ c = 99 ∧ ¬ c = 100 ∧ ¬ c = 114) by omega) with h_1 | h_1 | h_1 | h_1
  ·
    refine r_lookup F (off := 59) (tgt := 60) hc dX0_beginsEntry_1 (by decide) (by rw [h_1] <;> decide) (by decide) ?_
    refine r_aload_n F rfl rfl dX0_beginsEntry_60 rfl ?_
    refine r_iconst F dX0_beginsEntry_61 rfl ?_
    refine r_putI F f_X0_49 (hX.1) rfl dX0_beginsEntry_62 rfl ?_
    refine r_aload_n F rfl rfl dX0_beginsEntry_65 rfl ?_
    refine r_iconst F dX0_beginsEntry_66 rfl ?_
    refine r_callV F G (c_X0_expect _ _ _ _ hX) v_X0_52 rfl (hX.1) rfl (by decide) (by decide) (Nat.le_of_ble_eq_true rfl) rfl dX0_beginsEntry_67 rfl (fun v lay' mem' n' hp => ?_)
    obtain ⟨q1, q2, q3, q4⟩ := hp
    subst q1; subst q2; subst q3; subst q4
    refine r_iconst F dX0_beginsEntry_70 rfl ?_
    exact r_zret F Rt (by omega) dX0_beginsEntry_71 (by decide) ⟨by unfold ja_b; first | rw [if_pos (by omega)] | rw [if_neg (by omega)], rfl, by unfold X_be; first | rw [if_pos (by omega)] | rw [if_neg (by omega), if_pos (by omega)] | rw [if_neg (by omega), if_neg (by omega), if_pos (by omega)] | rw [if_neg (by omega), if_neg (by omega), if_neg (by omega)], rfl⟩
  ·
    refine r_lookup F (off := 35) (tgt := 36) hc dX0_beginsEntry_1 (by decide) (by rw [h_1] <;> decide) (by decide) ?_
    refine r_aload_n F rfl rfl dX0_beginsEntry_36 rfl ?_
    refine r_iconst F dX0_beginsEntry_37 rfl ?_
    refine r_putI F f_X0_49 (hX.1) rfl dX0_beginsEntry_38 rfl ?_
    refine r_aload_n F rfl rfl dX0_beginsEntry_41 rfl ?_
    refine r_iconst F dX0_beginsEntry_42 rfl ?_
    refine r_callV F G (c_X0_expect _ _ _ _ hX) v_X0_52 rfl (hX.1) rfl (by decide) (by decide) (Nat.le_of_ble_eq_true rfl) rfl dX0_beginsEntry_43 rfl (fun v lay' mem' n' hp => ?_)
    obtain ⟨q1, q2, q3, q4⟩ := hp
    subst q1; subst q2; subst q3; subst q4
    refine r_iconst F dX0_beginsEntry_46 rfl ?_
    exact r_zret F Rt (by omega) dX0_beginsEntry_47 (by decide) ⟨by unfold ja_b; first | rw [if_pos (by omega)] | rw [if_neg (by omega)], rfl, by unfold X_be; first | rw [if_pos (by omega)] | rw [if_neg (by omega), if_pos (by omega)] | rw [if_neg (by omega), if_neg (by omega), if_pos (by omega)] | rw [if_neg (by omega), if_neg (by omega), if_neg (by omega)], rfl⟩
  ·
    refine r_lookup F (off := 47) (tgt := 48) hc dX0_beginsEntry_1 (by decide) (by rw [h_1] <;> decide) (by decide) ?_
    refine r_aload_n F rfl rfl dX0_beginsEntry_48 rfl ?_
    refine r_iconst F dX0_beginsEntry_49 rfl ?_
    refine r_putI F f_X0_49 (hX.1) rfl dX0_beginsEntry_50 rfl ?_
    refine r_aload_n F rfl rfl dX0_beginsEntry_53 rfl ?_
    refine r_iconst F dX0_beginsEntry_54 rfl ?_
    refine r_callV F G (c_X0_expect _ _ _ _ hX) v_X0_52 rfl (hX.1) rfl (by decide) (by decide) (Nat.le_of_ble_eq_true rfl) rfl dX0_beginsEntry_55 rfl (fun v lay' mem' n' hp => ?_)
    obtain ⟨q1, q2, q3, q4⟩ := hp
    subst q1; subst q2; subst q3; subst q4
    refine r_iconst F dX0_beginsEntry_58 rfl ?_
    exact r_zret F Rt (by omega) dX0_beginsEntry_59 (by decide) ⟨by unfold ja_b; first | rw [if_pos (by omega)] | rw [if_neg (by omega)], rfl, by unfold X_be; first | rw [if_pos (by omega)] | rw [if_neg (by omega), if_pos (by omega)] | rw [if_neg (by omega), if_neg (by omega), if_pos (by omega)] | rw [if_neg (by omega), if_neg (by omega), if_neg (by omega)], rfl⟩
  ·
    refine r_lookup F (off := 71) (tgt := 72) hc dX0_beginsEntry_1 (by decide) (by simp [Op.lookupswitch.offset]; rw [if_neg (by omega), if_neg (by omega), if_neg (by omega)]) (by decide) ?_
    refine r_iconst F dX0_beginsEntry_72 rfl ?_
    exact r_zret F Rt (by omega) dX0_beginsEntry_73 (by decide) ⟨by unfold ja_b; first | rw [if_pos (by omega)] | rw [if_neg (by omega)], rfl, by unfold X_be; first | rw [if_pos (by omega)] | rw [if_neg (by omega), if_pos (by omega)] | rw [if_neg (by omega), if_neg (by omega), if_pos (by omega)] | rw [if_neg (by omega), if_neg (by omega), if_neg (by omega)], rfl⟩
abbrev rm_X0_endOfNumber : Room := { frames := 0, cells := 0, slots := 0, locals := 0 }
set_option maxRecDepth 100000 in
set_option maxHeartbeats 4000000 in
theorem c_X0_endOfNumber (l : Launch) (D : va_G) (cA : Nat → ClassId) (B : Nat) {lay : ja_Y} {mem : ja_M} {n : Nat} {x : Nat} (hX : ja_LX lay x) (h2 : 0 ≤ mem x 2 ∧ mem x 2 ≤ 4) : ja_Mt l D cA B yX0_endOfNumber cX0_endOfNumber 1 (some .int) rm_X0_endOfNumber [.ref x] lay mem n (ja_rd lay mem n (some (.int (ja_I (X_eon mem x))))) := by
  refine ja_enter [some (.ref x)] (by decide) (Nat.le_of_ble_eq_true rfl) (fun q hq => hq) (fun C F Rt G hnm => ?_)
  refine r_aload_n F rfl rfl dX0_endOfNumber_0 rfl ?_
  refine r_getI F f_X0_24 (hX.1) rfl dX0_endOfNumber_1 rfl ?_
  rcases (show mem x 2 = 2 ∨ mem x 2 = 4 ∨ (¬ mem x 2 = 2 ∧ ¬ mem x 2 = 4) by omega) with h_4 | h_4 | h_4
  ·
    refine r_lookup F (off := 28) (tgt := 32) ⟨by omega, by omega⟩ dX0_endOfNumber_4 (by decide) (by rw [h_4] <;> decide) (by decide) ?_
    refine r_bipush F (by decide) dX0_endOfNumber_32 rfl ?_
    exact r_iret F Rt dX0_endOfNumber_34 (by decide) ⟨by unfold X_eon; first | rw [if_pos (by omega)] | rw [if_neg (by omega), if_pos (by omega)] | rw [if_neg (by omega), if_neg (by omega)], rfl, rfl, rfl⟩
  ·
    refine r_lookup F (off := 31) (tgt := 35) ⟨by omega, by omega⟩ dX0_endOfNumber_4 (by decide) (by rw [h_4] <;> decide) (by decide) ?_
    refine r_bipush F (by decide) dX0_endOfNumber_35 rfl ?_
    exact r_iret F Rt dX0_endOfNumber_37 (by decide) ⟨by unfold X_eon; first | rw [if_pos (by omega)] | rw [if_neg (by omega), if_pos (by omega)] | rw [if_neg (by omega), if_neg (by omega)], rfl, rfl, rfl⟩
  ·
    refine r_lookup F (off := 34) (tgt := 38) ⟨by omega, by omega⟩ dX0_endOfNumber_4 (by decide) (by simp [Op.lookupswitch.offset]; rw [if_neg (by omega), if_neg (by omega)]) (by decide) ?_
    refine r_bipush F (by decide) dX0_endOfNumber_38 rfl ?_
    exact r_iret F Rt dX0_endOfNumber_40 (by decide) ⟨by unfold X_eon; first | rw [if_pos (by omega)] | rw [if_neg (by omega), if_pos (by omega)] | rw [if_neg (by omega), if_neg (by omega)], rfl, rfl, rfl⟩
abbrev rm_X0_endNumber : Room := { frames := 1, cells := 0, slots := 0, locals := 24 }
set_option maxRecDepth 100000 in
set_option maxHeartbeats 4000000 in
theorem c_X0_endNumber (l : Launch) (D : va_G) (cA : Nat → ClassId) (B : Nat) {lay : ja_Y} {mem : ja_M} {n : Nat} {x o : Nat} (hX : ja_LX lay x) (hA : ja_LA lay o) (h2 : 0 ≤ mem x 2 ∧ mem x 2 ≤ 4) (hs : 0 ≤ mem o 4 ∧ mem o 4 ≤ 24) : ja_Mt l D cA B yX0_endNumber cX0_endNumber 2 none rm_X0_endNumber [.ref x, .ref o] lay mem n (ja_rd lay (X_en mem x o) n (none)) := by
  refine ja_enter [some (.ref x), some (.ref o)] (by decide) (Nat.le_of_ble_eq_true rfl) (fun q hq => hq) (fun C F Rt G hnm => ?_)
  refine r_aload_n F rfl rfl dX0_endNumber_0 rfl ?_
  refine r_getI F f_X0_24 (hX.1) rfl dX0_endNumber_1 rfl ?_
  rcases (show mem x 2 = 2 ∨ mem x 2 = 3 ∨ mem x 2 = 4 ∨ (¬ mem x 2 = 2 ∧ ¬ mem x 2 = 3 ∧ ¬ mem x 2 = 4) by omega) with h_4 | h_4 | h_4 | h_4
  ·
    refine r_tableIn F (tgt := 32) ⟨by omega, by omega⟩ dX0_endNumber_4 (by omega) (by omega) (by rw [h_4] <;> rfl) (by decide) ?_
    refine r_aload_n F rfl rfl dX0_endNumber_32 rfl ?_
    refine r_aload_n F rfl rfl dX0_endNumber_33 rfl ?_
    refine r_getI F f_X0_35 (hX.1) rfl dX0_endNumber_34 rfl ?_
    refine r_putI F f_X0_56 (hX.1) rfl dX0_endNumber_37 rfl ?_
    refine r_aload_n F rfl rfl dX0_endNumber_40 rfl ?_
    refine r_iconst F dX0_endNumber_41 rfl ?_
    refine r_callV F G (c_X0_expect _ _ _ _ hX) v_X0_52 rfl (hX.1) rfl (by decide) (by decide) (Nat.le_of_ble_eq_true rfl) rfl dX0_endNumber_42 rfl (fun v lay' mem' n' hp => ?_)
    obtain ⟨q1, q2, q3, q4⟩ := hp
    subst q1; subst q2; subst q3; subst q4
    refine r_goto F (tgt := 105) dX0_endNumber_45 (by decide) ?_
    exact r_vret F Rt dX0_endNumber_105 (by decide) ⟨rfl, rfl, by unfold X_en; first | rw [if_pos (by omega)] | rw [if_neg (by omega), if_pos (by omega)] | rw [if_neg (by omega), if_neg (by omega), if_pos (by omega)] | rw [if_neg (by omega), if_neg (by omega), if_neg (by omega)], rfl⟩
  ·
    refine r_tableIn F (tgt := 48) ⟨by omega, by omega⟩ dX0_endNumber_4 (by omega) (by omega) (by rw [h_4] <;> rfl) (by decide) ?_
    refine r_aload_n F rfl rfl dX0_endNumber_48 rfl ?_
    refine r_aload_n F rfl rfl dX0_endNumber_49 rfl ?_
    refine r_getI F f_X0_35 (hX.1) rfl dX0_endNumber_50 rfl ?_
    refine r_putI F f_X0_59 (hX.1) rfl dX0_endNumber_53 rfl ?_
    refine r_aload_n F rfl rfl dX0_endNumber_56 rfl ?_
    refine r_iconst F dX0_endNumber_57 rfl ?_
    refine r_callV F G (c_X0_expect _ _ _ _ hX) v_X0_52 rfl (hX.1) rfl (by decide) (by decide) (Nat.le_of_ble_eq_true rfl) rfl dX0_endNumber_58 rfl (fun v lay' mem' n' hp => ?_)
    obtain ⟨q1, q2, q3, q4⟩ := hp
    subst q1; subst q2; subst q3; subst q4
    refine r_goto F (tgt := 105) dX0_endNumber_61 (by decide) ?_
    exact r_vret F Rt dX0_endNumber_105 (by decide) ⟨rfl, rfl, by unfold X_en; first | rw [if_pos (by omega)] | rw [if_neg (by omega), if_pos (by omega)] | rw [if_neg (by omega), if_neg (by omega), if_pos (by omega)] | rw [if_neg (by omega), if_neg (by omega), if_neg (by omega)], rfl⟩
  ·
    refine r_tableIn F (tgt := 64) ⟨by omega, by omega⟩ dX0_endNumber_4 (by omega) (by omega) (by rw [h_4] <;> rfl) (by decide) ?_
    refine r_aload_n F rfl rfl dX0_endNumber_64 rfl ?_
    refine r_aload_n F rfl rfl dX0_endNumber_65 rfl ?_
    refine r_getI F f_X0_49 (hX.1) rfl dX0_endNumber_66 rfl ?_
    refine r_aload_n F rfl rfl dX0_endNumber_69 rfl ?_
    refine r_getI F f_X0_56 (hX.1) rfl dX0_endNumber_70 rfl ?_
    refine r_aload_n F rfl rfl dX0_endNumber_73 rfl ?_
    refine r_getI F f_X0_59 (hX.1) rfl dX0_endNumber_74 rfl ?_
    refine r_aload_n F rfl rfl dX0_endNumber_77 rfl ?_
    refine r_getI F f_X0_35 (hX.1) rfl dX0_endNumber_78 rfl ?_
    refine r_callV F G (c_X1_add _ _ _ _ hA ⟨by omega, by omega⟩) v_X0_62 rfl (hA.1) rfl (by decide) (by decide) (Nat.le_of_ble_eq_true rfl) rfl dX0_endNumber_81 rfl (fun v lay' mem' n' hp => ?_)
    obtain ⟨q1, q2, q3, q4⟩ := hp
    subst q1; subst q2; subst q3; subst q4
    refine r_aload_n F rfl rfl dX0_endNumber_84 rfl ?_
    refine r_iconst F dX0_endNumber_85 rfl ?_
    refine r_callV F G (c_X0_expect _ _ _ _ hX) v_X0_52 rfl (hX.1) rfl (by decide) (by decide) (Nat.le_of_ble_eq_true rfl) rfl dX0_endNumber_86 rfl (fun v lay' mem' n' hp => ?_)
    obtain ⟨q1, q2, q3, q4⟩ := hp
    subst q1; subst q2; subst q3; subst q4
    refine r_goto F (tgt := 105) dX0_endNumber_89 (by decide) ?_
    exact r_vret F Rt dX0_endNumber_105 (by decide) ⟨rfl, rfl, by unfold X_en; first | rw [if_pos (by omega)] | rw [if_neg (by omega), if_pos (by omega)] | rw [if_neg (by omega), if_neg (by omega), if_pos (by omega)] | rw [if_neg (by omega), if_neg (by omega), if_neg (by omega)], rfl⟩
  ·
    refine r_tableOut F (tgt := 92) ⟨by omega, by omega⟩ dX0_endNumber_4 (by omega) (by decide) ?_
    refine r_aload_n F rfl rfl dX0_endNumber_92 rfl ?_
    refine r_aload_n F rfl rfl dX0_endNumber_93 rfl ?_
    refine r_getI F f_X0_35 (hX.1) rfl dX0_endNumber_94 rfl ?_
    refine r_putI F f_X0_56 (hX.1) rfl dX0_endNumber_97 rfl ?_
    refine r_aload_n F rfl rfl dX0_endNumber_100 rfl ?_
    refine r_iconst F dX0_endNumber_101 rfl ?_
    refine r_callV F G (c_X0_expect _ _ _ _ hX) v_X0_52 rfl (hX.1) rfl (by decide) (by decide) (Nat.le_of_ble_eq_true rfl) rfl dX0_endNumber_102 rfl (fun v lay' mem' n' hp => ?_)
    obtain ⟨q1, q2, q3, q4⟩ := hp
    subst q1; subst q2; subst q3; subst q4
    exact r_vret F Rt dX0_endNumber_105 (by decide) ⟨rfl, rfl, by unfold X_en; first | rw [if_pos (by omega)] | rw [if_neg (by omega), if_pos (by omega)] | rw [if_neg (by omega), if_neg (by omega), if_pos (by omega)] | rw [if_neg (by omega), if_neg (by omega), if_neg (by omega)], rfl⟩
abbrev rm_X0_follows : Room := { frames := 2, cells := 0, slots := 0, locals := 45 }
set_option maxRecDepth 100000 in
set_option maxHeartbeats 4000000 in
theorem c_X0_follows (l : Launch) (D : va_G) (cA : Nat → ClassId) (B : Nat) {lay : ja_Y} {mem : ja_M} {n : Nat} {x o : Nat} {c : Int} (hX : ja_LX lay x) (hA : ja_LA lay o) (hX2 : ja_XO mem x) (hs : 0 ≤ mem o 4 ∧ mem o 4 ≤ 24) (hc : 0 ≤ c ∧ c ≤ 1000) : ja_Mt l D cA B yX0_follows cX0_follows 3 (some .boolean) rm_X0_follows [.ref x, .int (ja_I c), .ref o] lay mem n (ja_rd lay (X_fm mem x o c) n (some (.int (ja_I (X_fb mem x c))))) := by
  refine ja_enter [some (.ref x), some (.int (ja_I c)), some (.ref o)] (by decide) (Nat.le_of_ble_eq_true rfl) (fun q hq => hq) (fun C F Rt G hnm => ?_)
  obtain ⟨h2, h4, h5, h6, h7⟩ := hX2
  have he : 46 ≤ X_eon mem x ∧ X_eon mem x ≤ 64 := by unfold X_eon; (split; omega; split <;> omega)
  refine r_aload_n F rfl rfl dX0_follows_0 rfl ?_
  refine r_getI F f_X0_24 (hX.1) rfl dX0_follows_1 rfl ?_
  refine r_if_ne F (tgt := 13) ⟨by omega, by omega⟩ dX0_follows_4 rfl (by decide) (fun h_4 => ?_) (fun h_4 => ?_)
  ·
    refine r_iload_n F rfl rfl dX0_follows_13 rfl ?_
    refine r_bipush F (by decide) dX0_follows_14 rfl ?_
    refine r_icmp_lt F (tgt := 65) ⟨by omega, by omega⟩ ⟨by omega, by omega⟩ dX0_follows_16 rfl (by decide) (fun h_16 => ?_) (fun h_16 => ?_)
    ·
      refine r_aload_n F rfl rfl dX0_follows_65 rfl ?_
      refine r_getI F f_X0_38 (hX.1) rfl dX0_follows_66 rfl ?_
      refine r_if_eq F (tgt := 80) ⟨by omega, by omega⟩ dX0_follows_69 rfl (by decide) (fun h_69 => ?_) (fun h_69 => ?_)
      ·
        refine r_iconst F dX0_follows_80 rfl ?_
        exact r_zret F Rt (by omega) dX0_follows_81 (by decide) ⟨by rw [X_fb, if_neg (by omega), if_neg (by omega), if_pos (by omega)], rfl, by rw [X_fm, if_neg (by omega), if_neg (by omega), if_pos (by omega)], rfl⟩
      ·
        refine r_iload_n F rfl rfl dX0_follows_72 rfl ?_
        refine r_aload_n F rfl rfl dX0_follows_73 rfl ?_
        refine r_callV F G (c_X0_endOfNumber _ _ _ _ hX ⟨by omega, by omega⟩) v_X0_41 rfl (hX.1) rfl (by decide) (by decide) (Nat.le_of_ble_eq_true rfl) rfl dX0_follows_74 rfl (fun v lay' mem' n' hp => ?_)
        obtain ⟨q1, q2, q3, q4⟩ := hp
        subst q1; subst q2; subst q3; subst q4
        refine r_icmp_eq F (tgt := 82) ⟨by omega, by omega⟩ ⟨by omega, by omega⟩ dX0_follows_77 rfl (by decide) (fun h_77 => ?_) (fun h_77 => ?_)
        ·
          refine r_aload_n F rfl rfl dX0_follows_82 rfl ?_
          refine r_aload_n F rfl rfl dX0_follows_83 rfl ?_
          refine r_callV F G (c_X0_endNumber _ _ _ _ hX hA ⟨by omega, by omega⟩ ⟨by omega, by omega⟩) v_X0_45 rfl (hX.1) rfl (by decide) (by decide) (Nat.le_of_ble_eq_true rfl) rfl dX0_follows_84 rfl (fun v lay' mem' n' hp => ?_)
          obtain ⟨q1, q2, q3, q4⟩ := hp
          subst q1; subst q2; subst q3; subst q4
          refine r_iconst F dX0_follows_87 rfl ?_
          exact r_zret F Rt (by omega) dX0_follows_88 (by decide) ⟨by rw [X_fb, if_neg (by omega), if_neg (by omega), if_neg (by omega)], rfl, by rw [X_fm, if_neg (by omega), if_neg (by omega), if_neg (by omega)], rfl⟩
        ·
          refine r_iconst F dX0_follows_80 rfl ?_
          exact r_zret F Rt (by omega) dX0_follows_81 (by decide) ⟨by rw [X_fb, if_neg (by omega), if_neg (by omega), if_pos (by omega)], rfl, by rw [X_fm, if_neg (by omega), if_neg (by omega), if_pos (by omega)], rfl⟩
    ·
      refine r_iload_n F rfl rfl dX0_follows_19 rfl ?_
      refine r_bipush F (by decide) dX0_follows_20 rfl ?_
      refine r_icmp_gt F (tgt := 65) ⟨by omega, by omega⟩ ⟨by omega, by omega⟩ dX0_follows_22 rfl (by decide) (fun h_22 => ?_) (fun h_22 => ?_)
      ·
        refine r_aload_n F rfl rfl dX0_follows_65 rfl ?_
        refine r_getI F f_X0_38 (hX.1) rfl dX0_follows_66 rfl ?_
        refine r_if_eq F (tgt := 80) ⟨by omega, by omega⟩ dX0_follows_69 rfl (by decide) (fun h_69 => ?_) (fun h_69 => ?_)
        ·
          refine r_iconst F dX0_follows_80 rfl ?_
          exact r_zret F Rt (by omega) dX0_follows_81 (by decide) ⟨by rw [X_fb, if_neg (by omega), if_neg (by omega), if_pos (by omega)], rfl, by rw [X_fm, if_neg (by omega), if_neg (by omega), if_pos (by omega)], rfl⟩
        ·
          refine r_iload_n F rfl rfl dX0_follows_72 rfl ?_
          refine r_aload_n F rfl rfl dX0_follows_73 rfl ?_
          refine r_callV F G (c_X0_endOfNumber _ _ _ _ hX ⟨by omega, by omega⟩) v_X0_41 rfl (hX.1) rfl (by decide) (by decide) (Nat.le_of_ble_eq_true rfl) rfl dX0_follows_74 rfl (fun v lay' mem' n' hp => ?_)
          obtain ⟨q1, q2, q3, q4⟩ := hp
          subst q1; subst q2; subst q3; subst q4
          refine r_icmp_eq F (tgt := 82) ⟨by omega, by omega⟩ ⟨by omega, by omega⟩ dX0_follows_77 rfl (by decide) (fun h_77 => ?_) (fun h_77 => ?_)
          ·
            refine r_aload_n F rfl rfl dX0_follows_82 rfl ?_
            refine r_aload_n F rfl rfl dX0_follows_83 rfl ?_
            refine r_callV F G (c_X0_endNumber _ _ _ _ hX hA ⟨by omega, by omega⟩ ⟨by omega, by omega⟩) v_X0_45 rfl (hX.1) rfl (by decide) (by decide) (Nat.le_of_ble_eq_true rfl) rfl dX0_follows_84 rfl (fun v lay' mem' n' hp => ?_)
            obtain ⟨q1, q2, q3, q4⟩ := hp
            subst q1; subst q2; subst q3; subst q4
            refine r_iconst F dX0_follows_87 rfl ?_
            exact r_zret F Rt (by omega) dX0_follows_88 (by decide) ⟨by rw [X_fb, if_neg (by omega), if_neg (by omega), if_neg (by omega)], rfl, by rw [X_fm, if_neg (by omega), if_neg (by omega), if_neg (by omega)], rfl⟩
          ·
            refine r_iconst F dX0_follows_80 rfl ?_
            exact r_zret F Rt (by omega) dX0_follows_81 (by decide) ⟨by rw [X_fb, if_neg (by omega), if_neg (by omega), if_pos (by omega)], rfl, by rw [X_fm, if_neg (by omega), if_neg (by omega), if_pos (by omega)], rfl⟩
      ·
        refine r_aload_n F rfl rfl dX0_follows_25 rfl ?_
        refine r_bipush F (by decide) dX0_follows_26 rfl ?_
        refine r_aload_n F rfl rfl dX0_follows_28 rfl ?_
        refine r_getI F f_X0_35 (hX.1) rfl dX0_follows_29 rfl ?_
        refine r_imul F dX0_follows_32 rfl ?_
        refine r_iload_n F rfl rfl dX0_follows_33 rfl ?_
        refine r_iadd F dX0_follows_34 rfl ?_
        refine r_bipush F (by decide) dX0_follows_35 rfl ?_
        refine r_isub F dX0_follows_37 rfl ?_
        refine r_putI F f_X0_35 (hX.1) rfl dX0_follows_38 rfl ?_
        refine r_aload_n F rfl rfl dX0_follows_41 rfl ?_
        refine r_dup F rfl dX0_follows_42 rfl ?_
        refine r_getI F f_X0_38 (hX.1) rfl dX0_follows_43 rfl ?_
        refine r_eqz (z := mem x 3) (by simp [ja_up]) ?_
        refine r_iconst F dX0_follows_46 rfl ?_
        refine r_iadd F dX0_follows_47 rfl ?_
        refine r_putI F f_X0_38 (hX.1) rfl dX0_follows_48 rfl ?_
        refine r_aload_n F rfl rfl dX0_follows_51 rfl ?_
        refine r_getI F f_X0_38 (hX.1) rfl dX0_follows_52 rfl ?_
        refine r_eqz (z := (mem x 3 + 1)) (by simp [ja_up]) ?_
        refine r_iconst F dX0_follows_55 rfl ?_
        refine r_icmp_gt F (tgt := 63) ⟨by omega, by omega⟩ ⟨by omega, by omega⟩ dX0_follows_56 rfl (by decide) (fun h_56 => ?_) (fun h_56 => ?_)
        ·
          refine r_iconst F dX0_follows_63 rfl ?_
          exact r_zret F Rt (by omega) dX0_follows_64 (by decide) ⟨by rw [X_fb, if_neg (by omega), if_pos (by omega)]; unfold ja_b; first | rw [if_pos (by omega)] | rw [if_neg (by omega)], rfl, by rw [X_fm, if_neg (by omega), if_pos (by omega)], rfl⟩
        ·
          refine r_iconst F dX0_follows_59 rfl ?_
          refine r_goto F (tgt := 64) dX0_follows_60 (by decide) ?_
          exact r_zret F Rt (by omega) dX0_follows_64 (by decide) ⟨by rw [X_fb, if_neg (by omega), if_pos (by omega)]; unfold ja_b; first | rw [if_pos (by omega)] | rw [if_neg (by omega)], rfl, by rw [X_fm, if_neg (by omega), if_pos (by omega)], rfl⟩
  ·
    refine r_aload_n F rfl rfl dX0_follows_7 rfl ?_
    refine r_iload_n F rfl rfl dX0_follows_8 rfl ?_
    refine r_callV F G (c_X0_beginsEntry _ _ _ _ hX ⟨by omega, by omega⟩) v_X0_31 rfl (hX.1) rfl (by decide) (by decide) (Nat.le_of_ble_eq_true rfl) rfl dX0_follows_9 rfl (fun v lay' mem' n' hp => ?_)
    obtain ⟨q1, q2, q3, q4⟩ := hp
    subst q1; subst q2; subst q3; subst q4
    exact r_zret F Rt (by unfold ja_b; split <;> omega) dX0_follows_12 (by decide) ⟨by rw [X_fb, if_pos (by omega)], rfl, by rw [X_fm, if_pos (by omega)], rfl⟩
abbrev rm_X0_readInto : Room := { frames := 3, cells := 0, slots := 0, locals := 67 }
set_option maxRecDepth 100000 in
set_option maxHeartbeats 4000000 in
theorem c_X0_readInto (l : Launch) (D : va_G) (cA : Nat → ClassId) (B : Nat) {lay : ja_Y} {mem : ja_M} {n : Nat} {x o : Nat} (hX : ja_LX lay x) (hA : ja_LA lay o) (h1 : 0 ≤ mem x 1 ∧ mem x 1 ≤ 120) (hch : ∀ k : Nat, (k : Int) < mem x 1 → 0 ≤ mem (x + 1) k ∧ mem (x + 1) k ≤ 1000) (hX0 : ja_XO (ja_up (ja_up mem o 4 0) x 2 0) x) (hA0 : ja_AO (ja_up (ja_up mem o 4 0) x 2 0) o) (hxo : x + 1 < o ∨ o + 5 ≤ x) : ja_Mt l D cA B yX0_readInto cX0_readInto 3 (some .int) rm_X0_readInto [.ref x, .ref o] lay mem n (ja_rd lay ((X_lp (mem (x + 1)) x o (mem x 1) (mem x 1).toNat 0 (ja_up (ja_up mem o 4 0) x 2 0)).2) n (some (.int (ja_I (X_lp (mem (x + 1)) x o (mem x 1) (mem x 1).toNat 0 (ja_up (ja_up mem o 4 0) x 2 0)).1)))) := by
  refine ja_enter [some (.ref x), some (.ref o), none] (by decide) (Nat.le_of_ble_eq_true rfl) (fun q hq => hq) (fun C F Rt G hnm => ?_)
  have hxo : x < o ∨ o + 5 ≤ x := by omega
  have e1 : (ja_up (ja_up mem o 4 0) x 2 0) x 1 = mem x 1 := by rw [ja_up_j (by omega), ja_up_a (by omega)]
  have ex : (ja_up (ja_up mem o 4 0) x 2 0) (x + 1) = mem (x + 1) := by rw [ja_up_row (by omega), ja_up_row (by omega)]
  refine r_aload_n F rfl rfl dX0_readInto_0 rfl ?_
  refine r_iconst F dX0_readInto_1 rfl ?_
  refine r_putI F f_X0_19 (hA.1) rfl dX0_readInto_2 rfl ?_
  refine r_aload_n F rfl rfl dX0_readInto_5 rfl ?_
  refine r_iconst F dX0_readInto_6 rfl ?_
  refine r_putI F f_X0_24 (hX.1) rfl dX0_readInto_7 rfl ?_
  generalize hm0 : ja_up (ja_up mem o 4 0) x 2 0 = m0 at *
  refine r_iconst F dX0_readInto_10 rfl ?_
  refine r_ist2 F (by decide) rfl dX0_readInto_11 rfl ?_
  have loop : ∀ (d k : Nat) (m : ja_M), k + d = (mem x 1).toNat → X_lp (mem (x + 1)) x o (mem x 1) d k m = X_lp (mem (x + 1)) x o (mem x 1) (mem x 1).toNat 0 m0 → ja_XO m x → ja_AO m o → m x 1 = mem x 1 → m (x + 1) = mem (x + 1) → ja_W C 0 0 lay m n 12 [some (.ref x), some (.ref o), some (.int (ja_I (k : Int)))] [] := by
    intro d
    induction d with
    | zero =>
      intro k m hk hl hXm hAm e1 ex
      obtain ⟨u2, -⟩ := id hXm
      refine r_iload_n F rfl rfl dX0_readInto_12 rfl ?_
      refine r_aload_n F rfl rfl dX0_readInto_13 rfl ?_
      refine r_getI F f_X0_15 (hX.1) rfl dX0_readInto_14 rfl ?_
      refine r_eqz (z := mem x 1) (by exact e1) ?_
      refine r_icmp_ge F (tgt := 42) ⟨by omega, by omega⟩ ⟨by omega, by omega⟩ dX0_readInto_17 rfl (by decide) (fun h_17 => ?_) (fun h_17 => ?_)
      ·
        refine r_aload_n F rfl rfl dX0_readInto_42 rfl ?_
        refine r_getI F f_X0_24 (hX.1) rfl dX0_readInto_43 rfl ?_
        refine r_eqz (z := m x 2) (by rfl) ?_
        refine r_if_ne F (tgt := 55) ⟨by omega, by omega⟩ dX0_readInto_46 rfl (by decide) (fun h_46 => ?_) (fun h_46 => ?_)
        ·
          refine r_aload_n F rfl rfl dX0_readInto_55 rfl ?_
          refine r_getI F f_X0_15 (hX.1) rfl dX0_readInto_56 rfl ?_
          refine r_eqz (z := mem x 1) (by exact e1) ?_
          exact r_iret F Rt dX0_readInto_59 (by decide) ⟨by rw [← hl]; simp only [X_lp]; first | rw [if_pos (by omega)] | (rw [if_neg (by omega)]), rfl, by rw [← hl]; rfl, rfl⟩
        ·
          refine r_sipush F (by decide) dX0_readInto_49 rfl ?_
          refine r_goto F (tgt := 59) dX0_readInto_52 (by decide) ?_
          exact r_iret F Rt dX0_readInto_59 (by decide) ⟨by rw [← hl]; simp only [X_lp]; first | rw [if_pos (by omega)] | (rw [if_neg (by omega)]), rfl, by rw [← hl]; rfl, rfl⟩
      ·
        exfalso; omega
    | succ d ih =>
      intro k m hk hl hXm hAm e1 ex
      have hck := hch k (by omega)
      refine r_iload_n F rfl rfl dX0_readInto_12 rfl ?_
      refine r_aload_n F rfl rfl dX0_readInto_13 rfl ?_
      refine r_getI F f_X0_15 (hX.1) rfl dX0_readInto_14 rfl ?_
      refine r_eqz (z := mem x 1) (by exact e1) ?_
      refine r_icmp_ge F (tgt := 42) ⟨by omega, by omega⟩ ⟨by omega, by omega⟩ dX0_readInto_17 rfl (by decide) (fun h_17 => ?_) (fun h_17 => ?_)
      ·
        exfalso; omega
      ·
        refine r_aload_n F rfl rfl dX0_readInto_20 rfl ?_
        refine r_aload_n F rfl rfl dX0_readInto_21 rfl ?_
        refine r_getR F f_X0_11 (hX.1) rfl dX0_readInto_22 rfl ?_
        refine r_iload_n F rfl rfl dX0_readInto_25 rfl ?_
        refine r_iald F (ja_LX_1 hX) (by omega) (by omega) (by decide) dX0_readInto_26 rfl ?_
        refine r_eqz (z := mem (x + 1) k) (by rw [ex, ja_nat]) ?_
        refine r_aload_n F rfl rfl dX0_readInto_27 rfl ?_
        refine r_callV F G (c_X0_follows _ _ _ _ hX hA hXm hAm.1 hck) v_X0_27 rfl (hX.1) rfl (by decide) (by decide) (Nat.le_of_ble_eq_true rfl) rfl dX0_readInto_28 rfl (fun v lay' mem' n' hp => ?_)
        obtain ⟨q1, q2, q3, q4⟩ := hp
        subst q1; subst q2; subst q3; subst q4
        refine r_if_ne F (tgt := 36) ⟨by rcases X_fb_01 (mem := m) (x := x) (c := mem (x + 1) k) with q | q <;> rw [q] <;> omega, by rcases X_fb_01 (mem := m) (x := x) (c := mem (x + 1) k) with q | q <;> rw [q] <;> omega⟩ dX0_readInto_31 rfl (by decide) (fun h_31 => ?_) (fun h_31 => ?_)
        ·
          refine r_inc2 F (by decide) rfl dX0_readInto_36 rfl ?_
          refine r_goto F (tgt := 12) dX0_readInto_39 (by decide) ?_
          exact ih (k + 1) _ (by omega) (by rw [← hl]; simp only [X_lp]; rw [if_neg h_31]) (X_fm_XO hXm hxo h_31) (X_fm_AO hXm hAm hxo) ((X_fm_1 hxo).trans e1) ((X_fm_o ⟨by omega, by omega⟩).trans ex)
        ·
          refine r_iload_n F rfl rfl dX0_readInto_34 rfl ?_
          exact r_iret F Rt dX0_readInto_35 (by decide) ⟨by rw [← hl]; simp only [X_lp]; rw [if_pos h_31], rfl, by rw [← hl]; simp only [X_lp]; rw [if_pos h_31], rfl⟩
  exact loop (mem x 1).toNat 0 m0 (by omega) rfl hX0 hA0 e1 ex
end
section
abbrev rm_X5_hasBegun : Room := { frames := 0, cells := 0, slots := 0, locals := 0 }
set_option maxRecDepth 100000 in
set_option maxHeartbeats 4000000 in
theorem c_X5_hasBegun (l : Launch) (D : va_G) (cA : Nat → ClassId) (B : Nat) {lay : ja_Y} {mem : ja_M} {n : Nat} {b : Nat} {t : Int} (hR : ja_LR lay b) (hO : ja_RO mem b t)  : ja_Mt l D cA B yX5_hasBegun cX5_hasBegun 1 (some .boolean) rm_X5_hasBegun [.ref b] lay mem n (ja_rd lay mem n (some (.int (ja_I (ja_b (¬ mem b 7 = 0 ∨ 0 < mem (b + 15) 4)))))) := by
  refine ja_enter [some (.ref b)] (by decide) (Nat.le_of_ble_eq_true rfl) (fun q hq => hq) (fun C F Rt G hnm => ?_)
  have hO2 := hO
  obtain ⟨g1, g2, g3, g4, g5, g6, g7, g8, g9, g10, g11, g12⟩ := hO2
  have s0 := g1
  obtain ⟨s0, s1, s2, s3, s4, s5, s6, s7, s8⟩ := s0
  have p0 := g3
  obtain ⟨p1, p2, p3, p4, p5, p6⟩ := p0
  have a0 := g4.1
  refine r_aload_n F rfl rfl dX5_hasBegun_0 rfl ?_
  refine r_getI F f_X5_76 (hR.1) rfl dX5_hasBegun_1 rfl ?_
  refine r_if_ne F (tgt := 17) ⟨by omega, by omega⟩ dX5_hasBegun_4 rfl (by decide) (fun h_4 => ?_) (fun h_4 => ?_)
  ·
    refine r_iconst F dX5_hasBegun_17 rfl ?_
    refine r_goto F (tgt := 22) dX5_hasBegun_18 (by decide) ?_
    exact r_zret F Rt (by omega) dX5_hasBegun_22 (by decide) ⟨by unfold ja_b; first | rw [if_pos (by omega)] | rw [if_neg (by omega)], rfl, rfl, rfl⟩
  ·
    refine r_aload_n F rfl rfl dX5_hasBegun_7 rfl ?_
    refine r_getR F f_X5_49 (hR.1) rfl dX5_hasBegun_8 rfl ?_
    refine r_getI F f_X5_83 ((ja_LR_15 hR).1) rfl dX5_hasBegun_11 rfl ?_
    refine r_if_le F (tgt := 21) ⟨by omega, by omega⟩ dX5_hasBegun_14 rfl (by decide) (fun h_14 => ?_) (fun h_14 => ?_)
    ·
      refine r_iconst F dX5_hasBegun_21 rfl ?_
      exact r_zret F Rt (by omega) dX5_hasBegun_22 (by decide) ⟨by unfold ja_b; first | rw [if_pos (by omega)] | rw [if_neg (by omega)], rfl, rfl, rfl⟩
    ·
      refine r_iconst F dX5_hasBegun_17 rfl ?_
      refine r_goto F (tgt := 22) dX5_hasBegun_18 (by decide) ?_
      exact r_zret F Rt (by omega) dX5_hasBegun_22 (by decide) ⟨by unfold ja_b; first | rw [if_pos (by omega)] | rw [if_neg (by omega)], rfl, rfl, rfl⟩
abbrev rm_X5_targetNow : Room := { frames := 1, cells := 0, slots := 0, locals := 21 }
set_option maxRecDepth 100000 in
set_option maxHeartbeats 4000000 in
theorem c_X5_targetNow (l : Launch) (D : va_G) (cA : Nat → ClassId) (B : Nat) {lay : ja_Y} {mem : ja_M} {n : Nat} {b : Nat} (hR : ja_LR lay b) (hS : ja_SO mem (b + 1)) (hT : ja_TO mem (b + 6)) : ja_Mt l D cA B yX5_targetNow cX5_targetNow 1 (some .int) rm_X5_targetNow [.ref b] lay mem n (ja_rd lay mem n (some (.int (ja_I (R_tg mem b))))) := by
  refine ja_enter [some (.ref b)] (by decide) (Nat.le_of_ble_eq_true rfl) (fun q hq => hq) (fun C F Rt G hnm => ?_)
  have hq := hS.2.2.2.2.2.2.1
  refine r_aload_n F rfl rfl dX5_targetNow_0 rfl ?_
  refine r_getR F f_X5_28 (hR.1) rfl dX5_targetNow_1 rfl ?_
  refine r_aload_n F rfl rfl dX5_targetNow_4 rfl ?_
  refine r_getR F f_X5_12 (hR.1) rfl dX5_targetNow_5 rfl ?_
  refine r_getI F f_X5_86 (ja_LR_1 hR) rfl dX5_targetNow_8 rfl ?_
  refine r_callV F G (c_X7_spread _ _ _ _ (ja_LR_6 hR) hT hq) v_X5_89 rfl ((ja_LR_6 hR).1) rfl (by decide) (by decide) (Nat.le_of_ble_eq_true rfl) rfl dX5_targetNow_11 rfl (fun v lay' mem' n' hp => ?_)
  obtain ⟨q1, q2, q3, q4⟩ := hp
  subst q1; subst q2; subst q3; subst q4
  refine r_aload_n F rfl rfl dX5_targetNow_14 rfl ?_
  refine r_getR F f_X5_12 (hR.1) rfl dX5_targetNow_15 rfl ?_
  refine r_getI F f_X5_93 (ja_LR_1 hR) rfl dX5_targetNow_18 rfl ?_
  refine r_iadd F dX5_targetNow_21 rfl ?_
  exact r_iret F Rt dX5_targetNow_22 (by decide) ⟨rfl, rfl, rfl, rfl⟩
abbrev rm_X5_levelFrom : Room := { frames := 3, cells := 0, slots := 0, locals := 67 }
set_option maxRecDepth 100000 in
set_option maxHeartbeats 4000000 in
theorem c_X5_levelFrom (l : Launch) (D : va_G) (cA : Nat → ClassId) (B : Nat) {lay : ja_Y} {mem : ja_M} {n : Nat} {b : Nat} {x : Int} (hR : ja_LR lay b) (hS : ja_SO mem (b + 1)) (hx : 0 ≤ x ∧ x ≤ 1000) : ja_Mt l D cA B yX5_levelFrom cX5_levelFrom 2 (some .int) rm_X5_levelFrom [.ref b, .int (ja_I x)] lay mem n (ja_rd lay mem n (some (.int (ja_I (R_lv mem b x))))) := by
  refine ja_enter [some (.ref b), some (.int (ja_I x))] (by decide) (Nat.le_of_ble_eq_true rfl) (fun q hq => hq) (fun C F Rt G hnm => ?_)
  refine r_aload_n F rfl rfl dX5_levelFrom_0 rfl ?_
  refine r_getR F f_X5_12 (hR.1) rfl dX5_levelFrom_1 rfl ?_
  refine r_getI F f_X5_96 (ja_LR_1 hR) rfl dX5_levelFrom_4 rfl ?_
  refine r_aload_n F rfl rfl dX5_levelFrom_7 rfl ?_
  refine r_getR F f_X5_21 (hR.1) rfl dX5_levelFrom_8 rfl ?_
  refine r_aload_n F rfl rfl dX5_levelFrom_11 rfl ?_
  refine r_getR F f_X5_12 (hR.1) rfl dX5_levelFrom_12 rfl ?_
  refine r_iload_n F rfl rfl dX5_levelFrom_15 rfl ?_
  refine r_callV F G (c_X3_knownFrom _ _ _ _ (ja_LR_2 hR) (ja_LR_1 hR) hS hx) v_X5_99 rfl ((ja_LR_2 hR).1) rfl (by decide) (by decide) (Nat.le_of_ble_eq_true rfl) rfl dX5_levelFrom_16 rfl (fun v lay' mem' n' hp => ?_)
  obtain ⟨q1, q2, q3, q4⟩ := hp
  subst q1; subst q2; subst q3; subst q4
  refine r_imul F dX5_levelFrom_19 rfl ?_
  exact r_iret F Rt dX5_levelFrom_20 (by decide) ⟨rfl, rfl, rfl, rfl⟩
abbrev rm_X5_startOnce : Room := { frames := 0, cells := 0, slots := 0, locals := 0 }
set_option maxRecDepth 100000 in
set_option maxHeartbeats 4000000 in
theorem c_X5_startOnce (l : Launch) (D : va_G) (cA : Nat → ClassId) (B : Nat) {lay : ja_Y} {mem : ja_M} {n : Nat} {b : Nat} {t : Int} (hR : ja_LR lay b) (hO : ja_RO mem b t)  : ja_Mt l D cA B yX5_startOnce cX5_startOnce 1 none rm_X5_startOnce [.ref b] lay mem n (ja_rd lay (R_so mem b) n (none)) := by
  refine ja_enter [some (.ref b)] (by decide) (Nat.le_of_ble_eq_true rfl) (fun q hq => hq) (fun C F Rt G hnm => ?_)
  have hO2 := hO
  obtain ⟨g1, g2, g3, g4, g5, g6, g7, g8, g9, g10, g11, g12⟩ := hO2
  have s0 := g1
  obtain ⟨s0, s1, s2, s3, s4, s5, s6, s7, s8⟩ := s0
  have p0 := g3
  obtain ⟨p1, p2, p3, p4, p5, p6⟩ := p0
  have a0 := g4.1
  refine r_aload_n F rfl rfl dX5_startOnce_0 rfl ?_
  refine r_getI F f_X5_76 (hR.1) rfl dX5_startOnce_1 rfl ?_
  refine r_if_ne F (tgt := 28) ⟨by omega, by omega⟩ dX5_startOnce_4 rfl (by decide) (fun h_4 => ?_) (fun h_4 => ?_)
  ·
    exact r_vret F Rt dX5_startOnce_28 (by decide) ⟨rfl, rfl, by unfold R_so; first | rw [if_pos (by omega)] | rw [if_neg (by omega)], rfl⟩
  ·
    refine r_aload_n F rfl rfl dX5_startOnce_7 rfl ?_
    refine r_iconst F dX5_startOnce_8 rfl ?_
    refine r_putZ F (by omega) f_X5_76 (hR.1) rfl dX5_startOnce_9 rfl ?_
    refine r_aload_n F rfl rfl dX5_startOnce_12 rfl ?_
    refine r_aload_n F rfl rfl dX5_startOnce_13 rfl ?_
    refine r_getI F f_X5_72 (hR.1) rfl dX5_startOnce_14 rfl ?_
    refine r_eqz (z := mem b 6) (by simp [ja_up]) ?_
    refine r_aload_n F rfl rfl dX5_startOnce_17 rfl ?_
    refine r_getR F f_X5_12 (hR.1) rfl dX5_startOnce_18 rfl ?_
    refine r_getI F f_X5_153 (ja_LR_1 hR) rfl dX5_startOnce_21 rfl ?_
    refine r_eqz (z := mem (b + 1) 5) (by simp [ja_up]) ?_
    refine r_iadd F dX5_startOnce_24 rfl ?_
    refine r_putI F f_X5_80 (hR.1) rfl dX5_startOnce_25 rfl ?_
    exact r_vret F Rt dX5_startOnce_28 (by decide) ⟨rfl, rfl, by unfold R_so; first | rw [if_pos (by omega)] | rw [if_neg (by omega)], rfl⟩
abbrev rm_X5_acceptFrame : Room := { frames := 4, cells := 0, slots := 0, locals := 107 }
set_option maxRecDepth 100000 in
set_option maxHeartbeats 4000000 in
theorem c_X5_acceptFrame (l : Launch) (D : va_G) (cA : Nat → ClassId) (B : Nat) {lay : ja_Y} {mem : ja_M} {n : Nat} {b : Nat} {t : Int} {x : Int} (hR : ja_LR lay b) (hO : ja_RO mem b t) (ht : t ≤ 900000) (hx : 0 ≤ x ∧ x ≤ 999) : ja_Mt l D cA B yX5_acceptFrame cX5_acceptFrame 2 (some .int) rm_X5_acceptFrame [.ref b, .int (ja_I x)] lay mem n (ja_rd lay (R_af mem b x) n (some (.int (ja_I (R_an mem b x))))) := by
  refine ja_enter [some (.ref b), some (.int (ja_I x))] (by decide) (Nat.le_of_ble_eq_true rfl) (fun q hq => hq) (fun C F Rt G hnm => ?_)
  have hO2 := hO
  obtain ⟨g1, g2, g3, g4, g5, g6, g7, g8, g9, g10, g11, g12⟩ := hO2
  have s0 := g1
  obtain ⟨s0, s1, s2, s3, s4, s5, s6, s7, s8⟩ := s0
  have p0 := g3
  obtain ⟨p1, p2, p3, p4, p5, p6⟩ := p0
  have a0 := g4.1
  have hsO := R_so_RO hO
  have hAO := R_ad_RO hO ht hx
  have hLO := R_lt_RO (x := x) hAO
  have hKO := R_kn_RO hO ht hx
  have hfr := ja_frame hsO hx
  have hs6 := hsO.2.2.2.2.2.1
  have hA6 := hAO.2.2.1.2.2.1
  have hKc := hKO.1.cells
  have hKb := ja_blk hKO.1 hx
  have hst := @F_st_in mem (b + 1) (b + 2) x
  refine r_aload_n F rfl rfl dX5_acceptFrame_0 rfl ?_
  refine r_getR F f_X5_21 (hR.1) rfl dX5_acceptFrame_1 rfl ?_
  refine r_aload_n F rfl rfl dX5_acceptFrame_4 rfl ?_
  refine r_getR F f_X5_12 (hR.1) rfl dX5_acceptFrame_5 rfl ?_
  refine r_iload_n F rfl rfl dX5_acceptFrame_8 rfl ?_
  refine r_callV F G (c_X3_stateOf _ _ _ _ (ja_LR_2 hR) (ja_LR_1 hR) g1 hx) v_X5_103 rfl ((ja_LR_2 hR).1) rfl (by decide) (by decide) (Nat.le_of_ble_eq_true rfl) rfl dX5_acceptFrame_9 rfl (fun v lay' mem' n' hp => ?_)
  obtain ⟨q1, q2, q3, q4⟩ := hp
  subst q1; subst q2; subst q3; subst q4
  refine r_if_eq F (tgt := 30) ⟨by omega, by omega⟩ dX5_acceptFrame_12 rfl (by decide) (fun h_12 => ?_) (fun h_12 => ?_)
  ·
    refine r_aload_n F rfl rfl dX5_acceptFrame_30 rfl ?_
    refine r_callV F G (c_X5_startOnce _ _ _ _ hR hO) v_X5_109 rfl (hR.1) rfl (by decide) (by decide) (Nat.le_of_ble_eq_true rfl) rfl dX5_acceptFrame_31 rfl (fun v lay' mem' n' hp => ?_)
    obtain ⟨q1, q2, q3, q4⟩ := hp
    subst q1; subst q2; subst q3; subst q4
    refine r_aload_n F rfl rfl dX5_acceptFrame_34 rfl ?_
    refine r_getR F f_X5_28 (hR.1) rfl dX5_acceptFrame_35 rfl ?_
    refine r_aload_n F rfl rfl dX5_acceptFrame_38 rfl ?_
    refine r_getI F f_X5_72 (hR.1) rfl dX5_acceptFrame_39 rfl ?_
    refine r_iload_n F rfl rfl dX5_acceptFrame_42 rfl ?_
    refine r_aload_n F rfl rfl dX5_acceptFrame_43 rfl ?_
    refine r_getR F f_X5_12 (hR.1) rfl dX5_acceptFrame_44 rfl ?_
    refine r_getI F f_X5_96 (ja_LR_1 hR) rfl dX5_acceptFrame_47 rfl ?_
    refine r_imul F dX5_acceptFrame_50 rfl ?_
    refine r_isub F dX5_acceptFrame_51 rfl ?_
    refine r_callV F G (c_X7_add _ _ _ _ (ja_LR_6 hR) hsO.2.1 ⟨by omega, by omega⟩) v_X5_112 rfl ((ja_LR_6 hR).1) rfl (by decide) (by decide) (Nat.le_of_ble_eq_true rfl) rfl dX5_acceptFrame_52 rfl (fun v lay' mem' n' hp => ?_)
    obtain ⟨q1, q2, q3, q4⟩ := hp
    subst q1; subst q2; subst q3; subst q4
    refine r_mem (mem' := R_ad mem b x) rfl ?_
    refine r_iload_n F rfl rfl dX5_acceptFrame_55 rfl ?_
    refine r_aload_n F rfl rfl dX5_acceptFrame_56 rfl ?_
    refine r_getR F f_X5_35 (hR.1) rfl dX5_acceptFrame_57 rfl ?_
    refine r_getI F f_X5_116 ((ja_LR_9 hR).1) rfl dX5_acceptFrame_60 rfl ?_
    refine r_icmp_ge F (tgt := 79) ⟨by omega, by omega⟩ ⟨by omega, by omega⟩ dX5_acceptFrame_63 rfl (by decide) (fun h_63 => ?_) (fun h_63 => ?_)
    ·
      refine r_mem (mem' := R_lt (R_ad mem b x) b x) (by unfold R_lt; first | rw [if_pos (by omega)] | rw [if_neg (by omega)]) ?_
      refine r_aload_n F rfl rfl dX5_acceptFrame_79 rfl ?_
      refine r_getR F f_X5_21 (hR.1) rfl dX5_acceptFrame_80 rfl ?_
      refine r_aload_n F rfl rfl dX5_acceptFrame_83 rfl ?_
      refine r_getR F f_X5_12 (hR.1) rfl dX5_acceptFrame_84 rfl ?_
      refine r_iload_n F rfl rfl dX5_acceptFrame_87 rfl ?_
      refine r_callV F G (c_X3_addFrame _ _ _ _ (ja_LR_2 hR) (ja_LR_1 hR) hLO.1 hx (by omega)) v_X5_122 rfl ((ja_LR_2 hR).1) rfl (by decide) (by decide) (Nat.le_of_ble_eq_true rfl) rfl dX5_acceptFrame_88 rfl (fun v lay' mem' n' hp => ?_)
      obtain ⟨q1, q2, q3, q4⟩ := hp
      subst q1; subst q2; subst q3; subst q4
      refine r_mem (mem' := R_kn mem b x) rfl ?_
      refine r_iconst F dX5_acceptFrame_91 rfl ?_
      refine r_aload_n F rfl rfl dX5_acceptFrame_92 rfl ?_
      refine r_getR F f_X5_21 (hR.1) rfl dX5_acceptFrame_93 rfl ?_
      refine r_aload_n F rfl rfl dX5_acceptFrame_96 rfl ?_
      refine r_getR F f_X5_12 (hR.1) rfl dX5_acceptFrame_97 rfl ?_
      refine r_iload_n F rfl rfl dX5_acceptFrame_100 rfl ?_
      refine r_aload_n F rfl rfl dX5_acceptFrame_101 rfl ?_
      refine r_getR F f_X5_12 (hR.1) rfl dX5_acceptFrame_102 rfl ?_
      refine r_callV F G (c_X6_cells _ _ _ _ (ja_LR_1 hR)) v_X5_126 rfl (ja_LR_1 hR) rfl (by decide) (by decide) (Nat.le_of_ble_eq_true rfl) rfl dX5_acceptFrame_105 rfl (fun v lay' mem' n' hp => ?_)
      obtain ⟨q1, q2, q3, q4⟩ := hp
      subst q1; subst q2; subst q3; subst q4
      refine r_idivP F ⟨by omega, by omega⟩ ⟨by omega, by omega⟩ (by omega) (by omega) dX5_acceptFrame_108 rfl ?_
      refine r_callV F G (c_X3_restoreIn _ _ _ _ (ja_LR_2 hR) (ja_LR_1 hR) hKO.1 ⟨hKb.1.1, Int.ediv_le_ediv (by omega) hx.2⟩) v_X5_130 rfl ((ja_LR_2 hR).1) rfl (by decide) (by decide) (Nat.le_of_ble_eq_true rfl) rfl dX5_acceptFrame_109 rfl (fun v lay' mem' n' hp => ?_)
      obtain ⟨q1, q2, q3, q4⟩ := hp
      subst q1; subst q2; subst q3; subst q4
      refine r_iadd F dX5_acceptFrame_112 rfl ?_
      exact r_iret F Rt dX5_acceptFrame_113 (by decide) ⟨by rw [R_an, if_pos h_12]; rfl, rfl, by rw [R_af, if_pos h_12]; rfl, rfl⟩
    ·
      refine r_aload_n F rfl rfl dX5_acceptFrame_66 rfl ?_
      refine r_getR F f_X5_42 (hR.1) rfl dX5_acceptFrame_67 rfl ?_
      refine r_dup F rfl dX5_acceptFrame_70 rfl ?_
      refine r_getI F f_X5_119 (ja_LR_14 hR) rfl dX5_acceptFrame_71 rfl ?_
      refine r_iconst F dX5_acceptFrame_74 rfl ?_
      refine r_iadd F dX5_acceptFrame_75 rfl ?_
      refine r_putI F f_X5_119 (ja_LR_14 hR) rfl dX5_acceptFrame_76 rfl ?_
      refine r_mem (mem' := R_lt (R_ad mem b x) b x) (by unfold R_lt; first | rw [if_pos (by omega)] | rw [if_neg (by omega)]) ?_
      refine r_aload_n F rfl rfl dX5_acceptFrame_79 rfl ?_
      refine r_getR F f_X5_21 (hR.1) rfl dX5_acceptFrame_80 rfl ?_
      refine r_aload_n F rfl rfl dX5_acceptFrame_83 rfl ?_
      refine r_getR F f_X5_12 (hR.1) rfl dX5_acceptFrame_84 rfl ?_
      refine r_iload_n F rfl rfl dX5_acceptFrame_87 rfl ?_
      refine r_callV F G (c_X3_addFrame _ _ _ _ (ja_LR_2 hR) (ja_LR_1 hR) hLO.1 hx (by omega)) v_X5_122 rfl ((ja_LR_2 hR).1) rfl (by decide) (by decide) (Nat.le_of_ble_eq_true rfl) rfl dX5_acceptFrame_88 rfl (fun v lay' mem' n' hp => ?_)
      obtain ⟨q1, q2, q3, q4⟩ := hp
      subst q1; subst q2; subst q3; subst q4
      refine r_mem (mem' := R_kn mem b x) rfl ?_
      refine r_iconst F dX5_acceptFrame_91 rfl ?_
      refine r_aload_n F rfl rfl dX5_acceptFrame_92 rfl ?_
      refine r_getR F f_X5_21 (hR.1) rfl dX5_acceptFrame_93 rfl ?_
      refine r_aload_n F rfl rfl dX5_acceptFrame_96 rfl ?_
      refine r_getR F f_X5_12 (hR.1) rfl dX5_acceptFrame_97 rfl ?_
      refine r_iload_n F rfl rfl dX5_acceptFrame_100 rfl ?_
      refine r_aload_n F rfl rfl dX5_acceptFrame_101 rfl ?_
      refine r_getR F f_X5_12 (hR.1) rfl dX5_acceptFrame_102 rfl ?_
      refine r_callV F G (c_X6_cells _ _ _ _ (ja_LR_1 hR)) v_X5_126 rfl (ja_LR_1 hR) rfl (by decide) (by decide) (Nat.le_of_ble_eq_true rfl) rfl dX5_acceptFrame_105 rfl (fun v lay' mem' n' hp => ?_)
      obtain ⟨q1, q2, q3, q4⟩ := hp
      subst q1; subst q2; subst q3; subst q4
      refine r_idivP F ⟨by omega, by omega⟩ ⟨by omega, by omega⟩ (by omega) (by omega) dX5_acceptFrame_108 rfl ?_
      refine r_callV F G (c_X3_restoreIn _ _ _ _ (ja_LR_2 hR) (ja_LR_1 hR) hKO.1 ⟨hKb.1.1, Int.ediv_le_ediv (by omega) hx.2⟩) v_X5_130 rfl ((ja_LR_2 hR).1) rfl (by decide) (by decide) (Nat.le_of_ble_eq_true rfl) rfl dX5_acceptFrame_109 rfl (fun v lay' mem' n' hp => ?_)
      obtain ⟨q1, q2, q3, q4⟩ := hp
      subst q1; subst q2; subst q3; subst q4
      refine r_iadd F dX5_acceptFrame_112 rfl ?_
      exact r_iret F Rt dX5_acceptFrame_113 (by decide) ⟨by rw [R_an, if_pos h_12]; rfl, rfl, by rw [R_af, if_pos h_12]; rfl, rfl⟩
  ·
    refine r_aload_n F rfl rfl dX5_acceptFrame_15 rfl ?_
    refine r_getR F f_X5_42 (hR.1) rfl dX5_acceptFrame_16 rfl ?_
    refine r_dup F rfl dX5_acceptFrame_19 rfl ?_
    refine r_getI F f_X5_106 (ja_LR_14 hR) rfl dX5_acceptFrame_20 rfl ?_
    refine r_iconst F dX5_acceptFrame_23 rfl ?_
    refine r_iadd F dX5_acceptFrame_24 rfl ?_
    refine r_putI F f_X5_106 (ja_LR_14 hR) rfl dX5_acceptFrame_25 rfl ?_
    refine r_iconst F dX5_acceptFrame_28 rfl ?_
    exact r_iret F Rt dX5_acceptFrame_29 (by decide) ⟨by rw [R_an, if_neg h_12], rfl, by rw [R_af, if_neg h_12]; rfl, rfl⟩
abbrev rm_X5_acceptPacket : Room := { frames := 4, cells := 0, slots := 0, locals := 107 }
set_option maxRecDepth 100000 in
set_option maxHeartbeats 4000000 in
theorem c_X5_acceptPacket (l : Launch) (D : va_G) (cA : Nat → ClassId) (B : Nat) {lay : ja_Y} {mem : ja_M} {n : Nat} {b : Nat} {t : Int} {r k i : Int} (hR : ja_LR lay b) (hO : ja_RO mem b t) (hr : 0 ≤ r ∧ r ≤ 1) (hk : ja_hasB mem (b + 1) k) : ja_Mt l D cA B yX5_acceptPacket cX5_acceptPacket 4 (some .int) rm_X5_acceptPacket [.ref b, .int (ja_I r), .int (ja_I k), .int (ja_I i)] lay mem n (ja_rd lay (R_ap mem b r k i) n (some (.int (ja_I (R_pn mem b r k i))))) := by
  refine ja_enter [some (.ref b), some (.int (ja_I r)), some (.int (ja_I k)), some (.int (ja_I i))] (by decide) (Nat.le_of_ble_eq_true rfl) (fun q hq => hq) (fun C F Rt G hnm => ?_)
  have hO2 := hO
  obtain ⟨g1, g2, g3, g4, g5, g6, g7, g8, g9, g10, g11, g12⟩ := hO2
  have s0 := g1
  obtain ⟨s0, s1, s2, s3, s4, s5, s6, s7, s8⟩ := s0
  have p0 := g3
  obtain ⟨p1, p2, p3, p4, p5, p6⟩ := p0
  have a0 := g4.1
  have hsO := R_so_RO hO
  have hK := ja_blk2 g1 hk
  have hkO := @R_pk_RO mem b t r k i hO
  have hbb : ja_b (¬ F_and (mem (b + 2 + 3) k.toNat) (F_pb r i) = 0) = 0 ↔ F_and (mem (b + 2 + 3) k.toNat) (F_pb r i) = 0 := by unfold ja_b; split <;> simp_all
  have hbr : 0 ≤ ja_b (¬ F_and (mem (b + 2 + 3) k.toNat) (F_pb r i) = 0) ∧ ja_b (¬ F_and (mem (b + 2 + 3) k.toNat) (F_pb r i) = 0) ≤ 1 := by unfold ja_b; split <;> omega
  refine r_aload_n F rfl rfl dX5_acceptPacket_0 rfl ?_
  refine r_getR F f_X5_21 (hR.1) rfl dX5_acceptPacket_1 rfl ?_
  refine r_iload_n F rfl rfl dX5_acceptPacket_4 rfl ?_
  refine r_iload_n F rfl rfl dX5_acceptPacket_5 rfl ?_
  refine r_iload_n F rfl rfl dX5_acceptPacket_6 rfl ?_
  refine r_callV F G (c_X3_hasPacket _ _ _ _ (ja_LR_2 hR) hr hK.1) v_X5_133 rfl ((ja_LR_2 hR).1) rfl (by decide) (by decide) (Nat.le_of_ble_eq_true rfl) rfl dX5_acceptPacket_7 rfl (fun v lay' mem' n' hp => ?_)
  obtain ⟨q1, q2, q3, q4⟩ := hp
  subst q1; subst q2; subst q3; subst q4
  refine r_if_eq F (tgt := 28) ⟨by omega, by omega⟩ dX5_acceptPacket_10 rfl (by decide) (fun h_10 => ?_) (fun h_10 => ?_)
  ·
    refine r_aload_n F rfl rfl dX5_acceptPacket_28 rfl ?_
    refine r_callV F G (c_X5_startOnce _ _ _ _ hR hO) v_X5_109 rfl (hR.1) rfl (by decide) (by decide) (Nat.le_of_ble_eq_true rfl) rfl dX5_acceptPacket_29 rfl (fun v lay' mem' n' hp => ?_)
    obtain ⟨q1, q2, q3, q4⟩ := hp
    subst q1; subst q2; subst q3; subst q4
    refine r_aload_n F rfl rfl dX5_acceptPacket_32 rfl ?_
    refine r_getR F f_X5_21 (hR.1) rfl dX5_acceptPacket_33 rfl ?_
    refine r_iload_n F rfl rfl dX5_acceptPacket_36 rfl ?_
    refine r_iload_n F rfl rfl dX5_acceptPacket_37 rfl ?_
    refine r_iload_n F rfl rfl dX5_acceptPacket_38 rfl ?_
    refine r_callV F G (c_X3_addPacket _ _ _ _ (ja_LR_2 hR) hr hK.1) v_X5_137 rfl ((ja_LR_2 hR).1) rfl (by decide) (by decide) (Nat.le_of_ble_eq_true rfl) rfl dX5_acceptPacket_39 rfl (fun v lay' mem' n' hp => ?_)
    obtain ⟨q1, q2, q3, q4⟩ := hp
    subst q1; subst q2; subst q3; subst q4
    refine r_mem (mem' := R_pk mem b r k i) rfl ?_
    refine r_aload_n F rfl rfl dX5_acceptPacket_42 rfl ?_
    refine r_getR F f_X5_21 (hR.1) rfl dX5_acceptPacket_43 rfl ?_
    refine r_aload_n F rfl rfl dX5_acceptPacket_46 rfl ?_
    refine r_getR F f_X5_12 (hR.1) rfl dX5_acceptPacket_47 rfl ?_
    refine r_iload_n F rfl rfl dX5_acceptPacket_50 rfl ?_
    refine r_callV F G (c_X3_restoreIn _ _ _ _ (ja_LR_2 hR) (ja_LR_1 hR) hkO.1 (by have e : R_pk mem b r k i (b + 1) = mem (b + 1) := by { unfold R_pk; rw [F_ap_o (by omega), R_so_o (by omega)] }; simp only [ja_hasB, ja_cells, e]; exact hk)) v_X5_130 rfl ((ja_LR_2 hR).1) rfl (by decide) (by decide) (Nat.le_of_ble_eq_true rfl) rfl dX5_acceptPacket_51 rfl (fun v lay' mem' n' hp => ?_)
    obtain ⟨q1, q2, q3, q4⟩ := hp
    subst q1; subst q2; subst q3; subst q4
    exact r_iret F Rt dX5_acceptPacket_54 (by decide) ⟨by rw [R_pn, if_pos (hbb.mp h_10)]; rfl, rfl, by rw [R_ap, if_pos (hbb.mp h_10)]; rfl, rfl⟩
  ·
    refine r_aload_n F rfl rfl dX5_acceptPacket_13 rfl ?_
    refine r_getR F f_X5_42 (hR.1) rfl dX5_acceptPacket_14 rfl ?_
    refine r_dup F rfl dX5_acceptPacket_17 rfl ?_
    refine r_getI F f_X5_106 (ja_LR_14 hR) rfl dX5_acceptPacket_18 rfl ?_
    refine r_iconst F dX5_acceptPacket_21 rfl ?_
    refine r_iadd F dX5_acceptPacket_22 rfl ?_
    refine r_putI F f_X5_106 (ja_LR_14 hR) rfl dX5_acceptPacket_23 rfl ?_
    refine r_iconst F dX5_acceptPacket_26 rfl ?_
    exact r_iret F Rt dX5_acceptPacket_27 (by decide) ⟨by rw [R_pn, if_neg (fun q => h_10 (hbb.mpr q))], rfl, by rw [R_ap, if_neg (fun q => h_10 (hbb.mpr q))]; rfl, rfl⟩
end
section
abbrev rm_X5_putKnown : Room := { frames := 4, cells := 0, slots := 0, locals := 93 }
set_option maxRecDepth 100000 in
set_option maxHeartbeats 4000000 in
theorem c_X5_putKnown (l : Launch) (D : va_G) (cA : Nat → ClassId) (B : Nat) {lay : ja_Y} {mem : ja_M} {n : Nat} {b : Nat} {x : Int} (hR : ja_LR lay b) (hS : ja_SO mem (b + 1)) (hT : ja_TO mem (b + 6)) (hP : ja_PO mem (b + 9)) (hx : 0 ≤ x ∧ x ≤ 999) : ja_Mt l D cA B yX5_putKnown cX5_putKnown 4 none rm_X5_putKnown [.ref b, .int (ja_I x)] lay mem n (ja_rd lay (R_pkn mem b x) n (none)) := by
  refine ja_enter [some (.ref b), some (.int (ja_I x)), none, none] (by decide) (Nat.le_of_ble_eq_true rfl) (fun q hq => hq) (fun C F Rt G hnm => ?_)
  have t0 := R_tg_in hS hT
  have l0 := R_lv_in (b := b) (x := x + 1) hS ⟨by omega, by omega⟩
  have n0 := hS.1
  have d0 := hS.2.2.2.2.2.2.2.2
  have l1 := hP.1
  have hLP : ∀ (c : Nat) (z : Int), ja_PO (ja_up (R_lw mem b x) (b + 14) c z) (b + 9) := fun c z => ja_PO_c (ja_up_row (by omega)) (ja_up_row (by omega)) (ja_up_row (by omega)) (ja_up_row (by omega)) (R_lw_PO hP)
  have e0 : (R_lw mem b x) (b + 1) = mem (b + 1) := by unfold R_lw; exact ja_rw_n (by omega)
  refine r_aload_n F rfl rfl dX5_putKnown_0 rfl ?_
  refine r_iload_n F rfl rfl dX5_putKnown_1 rfl ?_
  refine r_iconst F dX5_putKnown_2 rfl ?_
  refine r_iadd F dX5_putKnown_3 rfl ?_
  refine r_callV F G (c_X5_levelFrom _ _ _ _ hR hS ⟨by omega, by omega⟩) v_X5_198 rfl (hR.1) rfl (by decide) (by decide) (Nat.le_of_ble_eq_true rfl) rfl dX5_putKnown_4 rfl (fun v lay' mem' n' hp => ?_)
  obtain ⟨q1, q2, q3, q4⟩ := hp
  subst q1; subst q2; subst q3; subst q4
  refine r_ist2 F (by decide) rfl dX5_putKnown_7 rfl ?_
  refine r_aload_n F rfl rfl dX5_putKnown_8 rfl ?_
  refine r_callV F G (c_X5_targetNow _ _ _ _ hR hS hT) v_X5_201 rfl (hR.1) rfl (by decide) (by decide) (Nat.le_of_ble_eq_true rfl) rfl dX5_putKnown_9 rfl (fun v lay' mem' n' hp => ?_)
  obtain ⟨q1, q2, q3, q4⟩ := hp
  subst q1; subst q2; subst q3; subst q4
  refine r_ist3 F (by decide) rfl dX5_putKnown_12 rfl ?_
  refine r_aload_n F rfl rfl dX5_putKnown_13 rfl ?_
  refine r_getR F f_X5_35 (hR.1) rfl dX5_putKnown_14 rfl ?_
  refine r_aload_n F rfl rfl dX5_putKnown_17 rfl ?_
  refine r_getR F f_X5_12 (hR.1) rfl dX5_putKnown_18 rfl ?_
  refine r_iload_n F rfl rfl dX5_putKnown_21 rfl ?_
  refine r_callV F G (c_X4_loadWave _ _ _ _ (ja_LR_9 hR) (ja_LR_1 hR) hS ⟨by omega, by omega⟩ (by omega)) v_X5_204 rfl ((ja_LR_9 hR).1) rfl (by decide) (by decide) (Nat.le_of_ble_eq_true rfl) rfl dX5_putKnown_22 rfl (fun v lay' mem' n' hp => ?_)
  obtain ⟨q1, q2, q3, q4⟩ := hp
  subst q1; subst q2; subst q3; subst q4
  refine r_mem (mem' := R_lw mem b x) rfl ?_
  refine r_aload_n F rfl rfl dX5_putKnown_25 rfl ?_
  refine r_getR F f_X5_12 (hR.1) rfl dX5_putKnown_26 rfl ?_
  refine r_getI F f_X5_207 (ja_LR_1 hR) rfl dX5_putKnown_29 rfl ?_
  refine r_eqz (z := mem (b + 1) 8) (by rw [e0]) ?_
  refine r_if_eq F (tgt := 78) ⟨by omega, by omega⟩ dX5_putKnown_32 rfl (by decide) (fun h_32 => ?_) (fun h_32 => ?_)
  ·
    refine r_aload_n F rfl rfl dX5_putKnown_78 rfl ?_
    refine r_getR F f_X5_12 (hR.1) rfl dX5_putKnown_79 rfl ?_
    refine r_getI F f_X5_207 (ja_LR_1 hR) rfl dX5_putKnown_82 rfl ?_
    refine r_eqz (z := mem (b + 1) 8) (by rw [e0]) ?_
    refine r_if_eq F (tgt := 131) ⟨by omega, by omega⟩ dX5_putKnown_85 rfl (by decide) (fun h_85 => ?_) (fun h_85 => ?_)
    ·
      refine r_aload_n F rfl rfl dX5_putKnown_131 rfl ?_
      refine r_getR F f_X5_35 (hR.1) rfl dX5_putKnown_132 rfl ?_
      refine r_aload_n F rfl rfl dX5_putKnown_135 rfl ?_
      refine r_getR F f_X5_12 (hR.1) rfl dX5_putKnown_136 rfl ?_
      refine r_getI F f_X5_96 (ja_LR_1 hR) rfl dX5_putKnown_139 rfl ?_
      refine r_eqz (z := mem (b + 1) 0) (by rw [e0]) ?_
      refine r_callV F G (c_X4_putAsItIs _ _ _ _ (ja_LR_9 hR) (by have := (R_lw_PO (x := x) hP).1; omega) ⟨by omega, by omega⟩) v_X5_222 rfl ((ja_LR_9 hR).1) rfl (by decide) (by decide) (Nat.le_of_ble_eq_true rfl) rfl dX5_putKnown_142 rfl (fun v lay' mem' n' hp => ?_)
      obtain ⟨q1, q2, q3, q4⟩ := hp
      subst q1; subst q2; subst q3; subst q4
      exact r_vret F Rt dX5_putKnown_145 (by decide) ⟨rfl, rfl, by simp only [R_pkn, e0]; first | (exfalso; omega) | rw [if_pos ⟨by omega, by omega⟩] | rw [if_neg (by omega), if_pos ⟨by omega, by omega⟩] | rw [if_neg (by omega), if_neg (by omega)], rfl⟩
    ·
      refine r_iload_n F rfl rfl dX5_putKnown_88 rfl ?_
      refine r_aload_n F rfl rfl dX5_putKnown_89 rfl ?_
      refine r_getR F f_X5_12 (hR.1) rfl dX5_putKnown_90 rfl ?_
      refine r_getI F f_X5_96 (ja_LR_1 hR) rfl dX5_putKnown_93 rfl ?_
      refine r_eqz (z := mem (b + 1) 0) (by rw [e0]) ?_
      refine r_iadd F dX5_putKnown_96 rfl ?_
      refine r_iload_n F rfl rfl dX5_putKnown_97 rfl ?_
      refine r_icmp_ge F (tgt := 131) ⟨by omega, by omega⟩ ⟨by omega, by omega⟩ dX5_putKnown_98 rfl (by decide) (fun h_98 => ?_) (fun h_98 => ?_)
      ·
        refine r_aload_n F rfl rfl dX5_putKnown_131 rfl ?_
        refine r_getR F f_X5_35 (hR.1) rfl dX5_putKnown_132 rfl ?_
        refine r_aload_n F rfl rfl dX5_putKnown_135 rfl ?_
        refine r_getR F f_X5_12 (hR.1) rfl dX5_putKnown_136 rfl ?_
        refine r_getI F f_X5_96 (ja_LR_1 hR) rfl dX5_putKnown_139 rfl ?_
        refine r_eqz (z := mem (b + 1) 0) (by rw [e0]) ?_
        refine r_callV F G (c_X4_putAsItIs _ _ _ _ (ja_LR_9 hR) (by have := (R_lw_PO (x := x) hP).1; omega) ⟨by omega, by omega⟩) v_X5_222 rfl ((ja_LR_9 hR).1) rfl (by decide) (by decide) (Nat.le_of_ble_eq_true rfl) rfl dX5_putKnown_142 rfl (fun v lay' mem' n' hp => ?_)
        obtain ⟨q1, q2, q3, q4⟩ := hp
        subst q1; subst q2; subst q3; subst q4
        exact r_vret F Rt dX5_putKnown_145 (by decide) ⟨rfl, rfl, by simp only [R_pkn, e0]; first | (exfalso; omega) | rw [if_pos ⟨by omega, by omega⟩] | rw [if_neg (by omega), if_pos ⟨by omega, by omega⟩] | rw [if_neg (by omega), if_neg (by omega)], rfl⟩
      ·
        refine r_aload_n F rfl rfl dX5_putKnown_101 rfl ?_
        refine r_getR F f_X5_42 (hR.1) rfl dX5_putKnown_102 rfl ?_
        refine r_dup F rfl dX5_putKnown_105 rfl ?_
        refine r_getI F f_X5_216 (ja_LR_14 hR) rfl dX5_putKnown_106 rfl ?_
        refine r_eqz (z := (R_lw mem b x) (b + 14) 3) (by rfl) ?_
        refine r_iconst F dX5_putKnown_109 rfl ?_
        refine r_iadd F dX5_putKnown_110 rfl ?_
        refine r_putI F f_X5_216 (ja_LR_14 hR) rfl dX5_putKnown_111 rfl ?_
        refine r_aload_n F rfl rfl dX5_putKnown_114 rfl ?_
        refine r_getR F f_X5_35 (hR.1) rfl dX5_putKnown_115 rfl ?_
        refine r_aload_n F rfl rfl dX5_putKnown_118 rfl ?_
        refine r_getR F f_X5_12 (hR.1) rfl dX5_putKnown_119 rfl ?_
        refine r_getI F f_X5_96 (ja_LR_1 hR) rfl dX5_putKnown_122 rfl ?_
        refine r_eqz (z := mem (b + 1) 0) (by rw [ja_up_a (by omega), e0]) ?_
        refine r_callV F G (c_X4_putStretched _ _ _ _ (ja_LR_9 hR) (hLP 3 _) ⟨by omega, by omega⟩) v_X5_219 rfl ((ja_LR_9 hR).1) rfl (by decide) (by decide) (Nat.le_of_ble_eq_true rfl) rfl dX5_putKnown_125 rfl (fun v lay' mem' n' hp => ?_)
        obtain ⟨q1, q2, q3, q4⟩ := hp
        subst q1; subst q2; subst q3; subst q4
        refine r_goto F (tgt := 145) dX5_putKnown_128 (by decide) ?_
        exact r_vret F Rt dX5_putKnown_145 (by decide) ⟨rfl, rfl, by simp only [R_pkn, e0]; first | (exfalso; omega) | rw [if_pos ⟨by omega, by omega⟩] | rw [if_neg (by omega), if_pos ⟨by omega, by omega⟩] | rw [if_neg (by omega), if_neg (by omega)], rfl⟩
  ·
    refine r_iload_n F rfl rfl dX5_putKnown_35 rfl ?_
    refine r_iload_n F rfl rfl dX5_putKnown_36 rfl ?_
    refine r_aload_n F rfl rfl dX5_putKnown_37 rfl ?_
    refine r_getR F f_X5_12 (hR.1) rfl dX5_putKnown_38 rfl ?_
    refine r_getI F f_X5_96 (ja_LR_1 hR) rfl dX5_putKnown_41 rfl ?_
    refine r_eqz (z := mem (b + 1) 0) (by rw [e0]) ?_
    refine r_iadd F dX5_putKnown_44 rfl ?_
    refine r_icmp_le F (tgt := 78) ⟨by omega, by omega⟩ ⟨by omega, by omega⟩ dX5_putKnown_45 rfl (by decide) (fun h_45 => ?_) (fun h_45 => ?_)
    ·
      refine r_aload_n F rfl rfl dX5_putKnown_78 rfl ?_
      refine r_getR F f_X5_12 (hR.1) rfl dX5_putKnown_79 rfl ?_
      refine r_getI F f_X5_207 (ja_LR_1 hR) rfl dX5_putKnown_82 rfl ?_
      refine r_eqz (z := mem (b + 1) 8) (by rw [e0]) ?_
      refine r_if_eq F (tgt := 131) ⟨by omega, by omega⟩ dX5_putKnown_85 rfl (by decide) (fun h_85 => ?_) (fun h_85 => ?_)
      ·
        refine r_aload_n F rfl rfl dX5_putKnown_131 rfl ?_
        refine r_getR F f_X5_35 (hR.1) rfl dX5_putKnown_132 rfl ?_
        refine r_aload_n F rfl rfl dX5_putKnown_135 rfl ?_
        refine r_getR F f_X5_12 (hR.1) rfl dX5_putKnown_136 rfl ?_
        refine r_getI F f_X5_96 (ja_LR_1 hR) rfl dX5_putKnown_139 rfl ?_
        refine r_eqz (z := mem (b + 1) 0) (by rw [e0]) ?_
        refine r_callV F G (c_X4_putAsItIs _ _ _ _ (ja_LR_9 hR) (by have := (R_lw_PO (x := x) hP).1; omega) ⟨by omega, by omega⟩) v_X5_222 rfl ((ja_LR_9 hR).1) rfl (by decide) (by decide) (Nat.le_of_ble_eq_true rfl) rfl dX5_putKnown_142 rfl (fun v lay' mem' n' hp => ?_)
        obtain ⟨q1, q2, q3, q4⟩ := hp
        subst q1; subst q2; subst q3; subst q4
        exact r_vret F Rt dX5_putKnown_145 (by decide) ⟨rfl, rfl, by simp only [R_pkn, e0]; first | (exfalso; omega) | rw [if_pos ⟨by omega, by omega⟩] | rw [if_neg (by omega), if_pos ⟨by omega, by omega⟩] | rw [if_neg (by omega), if_neg (by omega)], rfl⟩
      ·
        refine r_iload_n F rfl rfl dX5_putKnown_88 rfl ?_
        refine r_aload_n F rfl rfl dX5_putKnown_89 rfl ?_
        refine r_getR F f_X5_12 (hR.1) rfl dX5_putKnown_90 rfl ?_
        refine r_getI F f_X5_96 (ja_LR_1 hR) rfl dX5_putKnown_93 rfl ?_
        refine r_eqz (z := mem (b + 1) 0) (by rw [e0]) ?_
        refine r_iadd F dX5_putKnown_96 rfl ?_
        refine r_iload_n F rfl rfl dX5_putKnown_97 rfl ?_
        refine r_icmp_ge F (tgt := 131) ⟨by omega, by omega⟩ ⟨by omega, by omega⟩ dX5_putKnown_98 rfl (by decide) (fun h_98 => ?_) (fun h_98 => ?_)
        ·
          refine r_aload_n F rfl rfl dX5_putKnown_131 rfl ?_
          refine r_getR F f_X5_35 (hR.1) rfl dX5_putKnown_132 rfl ?_
          refine r_aload_n F rfl rfl dX5_putKnown_135 rfl ?_
          refine r_getR F f_X5_12 (hR.1) rfl dX5_putKnown_136 rfl ?_
          refine r_getI F f_X5_96 (ja_LR_1 hR) rfl dX5_putKnown_139 rfl ?_
          refine r_eqz (z := mem (b + 1) 0) (by rw [e0]) ?_
          refine r_callV F G (c_X4_putAsItIs _ _ _ _ (ja_LR_9 hR) (by have := (R_lw_PO (x := x) hP).1; omega) ⟨by omega, by omega⟩) v_X5_222 rfl ((ja_LR_9 hR).1) rfl (by decide) (by decide) (Nat.le_of_ble_eq_true rfl) rfl dX5_putKnown_142 rfl (fun v lay' mem' n' hp => ?_)
          obtain ⟨q1, q2, q3, q4⟩ := hp
          subst q1; subst q2; subst q3; subst q4
          exact r_vret F Rt dX5_putKnown_145 (by decide) ⟨rfl, rfl, by simp only [R_pkn, e0]; first | (exfalso; omega) | rw [if_pos ⟨by omega, by omega⟩] | rw [if_neg (by omega), if_pos ⟨by omega, by omega⟩] | rw [if_neg (by omega), if_neg (by omega)], rfl⟩
        ·
          refine r_aload_n F rfl rfl dX5_putKnown_101 rfl ?_
          refine r_getR F f_X5_42 (hR.1) rfl dX5_putKnown_102 rfl ?_
          refine r_dup F rfl dX5_putKnown_105 rfl ?_
          refine r_getI F f_X5_216 (ja_LR_14 hR) rfl dX5_putKnown_106 rfl ?_
          refine r_eqz (z := (R_lw mem b x) (b + 14) 3) (by rfl) ?_
          refine r_iconst F dX5_putKnown_109 rfl ?_
          refine r_iadd F dX5_putKnown_110 rfl ?_
          refine r_putI F f_X5_216 (ja_LR_14 hR) rfl dX5_putKnown_111 rfl ?_
          refine r_aload_n F rfl rfl dX5_putKnown_114 rfl ?_
          refine r_getR F f_X5_35 (hR.1) rfl dX5_putKnown_115 rfl ?_
          refine r_aload_n F rfl rfl dX5_putKnown_118 rfl ?_
          refine r_getR F f_X5_12 (hR.1) rfl dX5_putKnown_119 rfl ?_
          refine r_getI F f_X5_96 (ja_LR_1 hR) rfl dX5_putKnown_122 rfl ?_
          refine r_eqz (z := mem (b + 1) 0) (by rw [ja_up_a (by omega), e0]) ?_
          refine r_callV F G (c_X4_putStretched _ _ _ _ (ja_LR_9 hR) (hLP 3 _) ⟨by omega, by omega⟩) v_X5_219 rfl ((ja_LR_9 hR).1) rfl (by decide) (by decide) (Nat.le_of_ble_eq_true rfl) rfl dX5_putKnown_125 rfl (fun v lay' mem' n' hp => ?_)
          obtain ⟨q1, q2, q3, q4⟩ := hp
          subst q1; subst q2; subst q3; subst q4
          refine r_goto F (tgt := 145) dX5_putKnown_128 (by decide) ?_
          exact r_vret F Rt dX5_putKnown_145 (by decide) ⟨rfl, rfl, by simp only [R_pkn, e0]; first | (exfalso; omega) | rw [if_pos ⟨by omega, by omega⟩] | rw [if_neg (by omega), if_pos ⟨by omega, by omega⟩] | rw [if_neg (by omega), if_neg (by omega)], rfl⟩
    ·
      refine r_aload_n F rfl rfl dX5_putKnown_48 rfl ?_
      refine r_getR F f_X5_42 (hR.1) rfl dX5_putKnown_49 rfl ?_
      refine r_dup F rfl dX5_putKnown_52 rfl ?_
      refine r_getI F f_X5_210 (ja_LR_14 hR) rfl dX5_putKnown_53 rfl ?_
      refine r_eqz (z := (R_lw mem b x) (b + 14) 4) (by rfl) ?_
      refine r_iconst F dX5_putKnown_56 rfl ?_
      refine r_iadd F dX5_putKnown_57 rfl ?_
      refine r_putI F f_X5_210 (ja_LR_14 hR) rfl dX5_putKnown_58 rfl ?_
      refine r_aload_n F rfl rfl dX5_putKnown_61 rfl ?_
      refine r_getR F f_X5_35 (hR.1) rfl dX5_putKnown_62 rfl ?_
      refine r_aload_n F rfl rfl dX5_putKnown_65 rfl ?_
      refine r_getR F f_X5_12 (hR.1) rfl dX5_putKnown_66 rfl ?_
      refine r_getI F f_X5_96 (ja_LR_1 hR) rfl dX5_putKnown_69 rfl ?_
      refine r_eqz (z := mem (b + 1) 0) (by rw [ja_up_a (by omega), e0]) ?_
      refine r_callV F G (c_X4_putCompressed _ _ _ _ (ja_LR_9 hR) (hLP 4 _) ⟨by omega, by omega⟩) v_X5_213 rfl ((ja_LR_9 hR).1) rfl (by decide) (by decide) (Nat.le_of_ble_eq_true rfl) rfl dX5_putKnown_72 rfl (fun v lay' mem' n' hp => ?_)
      obtain ⟨q1, q2, q3, q4⟩ := hp
      subst q1; subst q2; subst q3; subst q4
      refine r_goto F (tgt := 145) dX5_putKnown_75 (by decide) ?_
      exact r_vret F Rt dX5_putKnown_145 (by decide) ⟨rfl, rfl, by simp only [R_pkn, e0]; first | (exfalso; omega) | rw [if_pos ⟨by omega, by omega⟩] | rw [if_neg (by omega), if_pos ⟨by omega, by omega⟩] | rw [if_neg (by omega), if_neg (by omega)], rfl⟩
abbrev rm_X5_takeFrame : Room := { frames := 5, cells := 0, slots := 0, locals := 116 }
set_option maxRecDepth 100000 in
set_option maxHeartbeats 4000000 in
theorem c_X5_takeFrame (l : Launch) (D : va_G) (cA : Nat → ClassId) (B : Nat) {lay : ja_Y} {mem : ja_M} {n : Nat} {b : Nat} {t : Int} {x : Int} (hR : ja_LR lay b) (hO : ja_RO mem b t) (hn : mem (b + 9) 6 ≤ 999) (hx : x = mem (b + 9) 6) : ja_Mt l D cA B yX5_takeFrame cX5_takeFrame 4 none rm_X5_takeFrame [.ref b, .int (ja_I x)] lay mem n (ja_rd lay (R_tf mem b x) n (none)) := by
  refine ja_enter [some (.ref b), some (.int (ja_I x)), none, none] (by decide) (Nat.le_of_ble_eq_true rfl) (fun q hq => hq) (fun C F Rt G hnm => ?_)
  have hO2 := hO
  obtain ⟨g1, g2, g3, g4, g5, g6, g7, g8, g9, g10, g11, g12⟩ := hO2
  have s0 := g1
  obtain ⟨s0, s1, s2, s3, s4, s5, s6, s7, s8⟩ := s0
  have p0 := g3
  obtain ⟨p1, p2, p3, p4, p5, p6⟩ := p0
  have a0 := g4.1
  have hst := @F_st_in mem (b + 1) (b + 2) x
  have hPc : ja_PO (C_co mem (b + 14)) (b + 9) := ja_PO_c (C_co_o (by omega)) (C_co_o (by omega)) (C_co_o (by omega)) (C_co_o (by omega)) g3
  have hPk : ∀ k, ja_PO (C_kn mem (b + 14) k) (b + 9) := fun k => ja_PO_c (C_kn_o (by omega)) (C_kn_o (by omega)) (C_kn_o (by omega)) (C_kn_o (by omega)) g3
  have n6 : (C_co mem (b + 14)) (b + 9) 6 = mem (b + 9) 6 := by rw [C_co_o (by omega)]
  have k6 : ∀ k, (C_kn mem (b + 14) k) (b + 9) 6 = mem (b + 9) 6 := fun k => by rw [C_kn_o (by omega)]
  have hB : ∀ k : Int, (P_beg (C_kn mem (b + 14) k) (b + 9) k) (b + 1) = mem (b + 1) ∧ (P_beg (C_kn mem (b + 14) k) (b + 9) k) (b + 6) = mem (b + 6) ∧ (P_beg (C_kn mem (b + 14) k) (b + 9) k) (b + 6 + 1) = mem (b + 6 + 1) ∧ (P_beg (C_kn mem (b + 14) k) (b + 9) k) (b + 6 + 2) = mem (b + 6 + 2) := fun k => ⟨by rw [P_beg_o ⟨by omega, by omega⟩, C_kn_o (by omega)], by rw [P_beg_o ⟨by omega, by omega⟩, C_kn_o (by omega)], by rw [P_beg_o ⟨by omega, by omega⟩, C_kn_o (by omega)], by rw [P_beg_o ⟨by omega, by omega⟩, C_kn_o (by omega)]⟩
  refine r_aload_n F rfl rfl dX5_takeFrame_0 rfl ?_
  refine r_getR F f_X5_21 (hR.1) rfl dX5_takeFrame_1 rfl ?_
  refine r_aload_n F rfl rfl dX5_takeFrame_4 rfl ?_
  refine r_getR F f_X5_12 (hR.1) rfl dX5_takeFrame_5 rfl ?_
  refine r_iload_n F rfl rfl dX5_takeFrame_8 rfl ?_
  refine r_callV F G (c_X3_stateOf _ _ _ _ (ja_LR_2 hR) (ja_LR_1 hR) g1 ⟨by omega, by omega⟩) v_X5_103 rfl ((ja_LR_2 hR).1) rfl (by decide) (by decide) (Nat.le_of_ble_eq_true rfl) rfl dX5_takeFrame_9 rfl (fun v lay' mem' n' hp => ?_)
  obtain ⟨q1, q2, q3, q4⟩ := hp
  subst q1; subst q2; subst q3; subst q4
  refine r_ist2 F (by decide) rfl dX5_takeFrame_12 rfl ?_
  refine r_iload_n F rfl rfl dX5_takeFrame_13 rfl ?_
  refine r_if_ne F (tgt := 54) ⟨by omega, by omega⟩ dX5_takeFrame_14 rfl (by decide) (fun h_14 => ?_) (fun h_14 => ?_)
  ·
    refine r_iload_n F rfl rfl dX5_takeFrame_54 rfl ?_
    refine r_iconst F dX5_takeFrame_55 rfl ?_
    refine r_icmp_ne F (tgt := 63) ⟨by omega, by omega⟩ ⟨by omega, by omega⟩ dX5_takeFrame_56 rfl (by decide) (fun h_56 => ?_) (fun h_56 => ?_)
    ·
      refine r_iconst F dX5_takeFrame_63 rfl ?_
      refine r_eqz (z := if F_st mem (b + 1) (b + 2) x = 2 then 1 else 2) (by first | rw [if_pos (by omega)] | rw [if_neg (by omega)]) ?_
      generalize hkd : (if F_st mem (b + 1) (b + 2) x = 2 then (1 : Int) else 2) = kd
      have hkk : 1 ≤ kd ∧ kd ≤ 2 := by rw [← hkd]; split <;> omega
      refine r_ist3 F (by decide) rfl dX5_takeFrame_64 rfl ?_
      refine r_aload_n F rfl rfl dX5_takeFrame_65 rfl ?_
      refine r_getR F f_X5_42 (hR.1) rfl dX5_takeFrame_66 rfl ?_
      refine r_iload_n F rfl rfl dX5_takeFrame_69 rfl ?_
      refine r_callV F G (c_X2_countKnown _ _ _ _ (ja_LR_14 hR) ⟨by omega, by omega⟩) v_X5_192 rfl (ja_LR_14 hR) rfl (by decide) (by decide) (Nat.le_of_ble_eq_true rfl) rfl dX5_takeFrame_70 rfl (fun v lay' mem' n' hp => ?_)
      obtain ⟨q1, q2, q3, q4⟩ := hp
      subst q1; subst q2; subst q3; subst q4
      refine r_aload_n F rfl rfl dX5_takeFrame_73 rfl ?_
      refine r_getR F f_X5_35 (hR.1) rfl dX5_takeFrame_74 rfl ?_
      refine r_iload_n F rfl rfl dX5_takeFrame_77 rfl ?_
      refine r_callV F G (c_X4_begin _ _ _ _ (ja_LR_9 hR) (by rw [k6]; omega)) v_X5_182 rfl ((ja_LR_9 hR).1) rfl (by decide) (by decide) (Nat.le_of_ble_eq_true rfl) rfl dX5_takeFrame_78 rfl (fun v lay' mem' n' hp => ?_)
      obtain ⟨q1, q2, q3, q4⟩ := hp
      subst q1; subst q2; subst q3; subst q4
      refine r_aload_n F rfl rfl dX5_takeFrame_81 rfl ?_
      refine r_iload_n F rfl rfl dX5_takeFrame_82 rfl ?_
      refine r_callV F G (c_X5_putKnown _ _ _ _ hR (ja_SO_c (hB _).1 g1) (ja_TO_c (hB _).2.1 (hB _).2.2.1 (hB _).2.2.2 g2) (P_beg_PO (hPk _) (by rw [k6]; omega)) ⟨by omega, by omega⟩) v_X5_195 rfl (hR.1) rfl (by decide) (by decide) (Nat.le_of_ble_eq_true rfl) rfl dX5_takeFrame_83 rfl (fun v lay' mem' n' hp => ?_)
      obtain ⟨q1, q2, q3, q4⟩ := hp
      subst q1; subst q2; subst q3; subst q4
      exact r_vret F Rt dX5_takeFrame_86 (by decide) ⟨rfl, rfl, by rw [R_tf, if_neg h_14, hkd], rfl⟩
    ·
      refine r_iconst F dX5_takeFrame_59 rfl ?_
      refine r_goto F (tgt := 64) dX5_takeFrame_60 (by decide) ?_
      refine r_eqz (z := if F_st mem (b + 1) (b + 2) x = 2 then 1 else 2) (by first | rw [if_pos (by omega)] | rw [if_neg (by omega)]) ?_
      generalize hkd : (if F_st mem (b + 1) (b + 2) x = 2 then (1 : Int) else 2) = kd
      have hkk : 1 ≤ kd ∧ kd ≤ 2 := by rw [← hkd]; split <;> omega
      refine r_ist3 F (by decide) rfl dX5_takeFrame_64 rfl ?_
      refine r_aload_n F rfl rfl dX5_takeFrame_65 rfl ?_
      refine r_getR F f_X5_42 (hR.1) rfl dX5_takeFrame_66 rfl ?_
      refine r_iload_n F rfl rfl dX5_takeFrame_69 rfl ?_
      refine r_callV F G (c_X2_countKnown _ _ _ _ (ja_LR_14 hR) ⟨by omega, by omega⟩) v_X5_192 rfl (ja_LR_14 hR) rfl (by decide) (by decide) (Nat.le_of_ble_eq_true rfl) rfl dX5_takeFrame_70 rfl (fun v lay' mem' n' hp => ?_)
      obtain ⟨q1, q2, q3, q4⟩ := hp
      subst q1; subst q2; subst q3; subst q4
      refine r_aload_n F rfl rfl dX5_takeFrame_73 rfl ?_
      refine r_getR F f_X5_35 (hR.1) rfl dX5_takeFrame_74 rfl ?_
      refine r_iload_n F rfl rfl dX5_takeFrame_77 rfl ?_
      refine r_callV F G (c_X4_begin _ _ _ _ (ja_LR_9 hR) (by rw [k6]; omega)) v_X5_182 rfl ((ja_LR_9 hR).1) rfl (by decide) (by decide) (Nat.le_of_ble_eq_true rfl) rfl dX5_takeFrame_78 rfl (fun v lay' mem' n' hp => ?_)
      obtain ⟨q1, q2, q3, q4⟩ := hp
      subst q1; subst q2; subst q3; subst q4
      refine r_aload_n F rfl rfl dX5_takeFrame_81 rfl ?_
      refine r_iload_n F rfl rfl dX5_takeFrame_82 rfl ?_
      refine r_callV F G (c_X5_putKnown _ _ _ _ hR (ja_SO_c (hB _).1 g1) (ja_TO_c (hB _).2.1 (hB _).2.2.1 (hB _).2.2.2 g2) (P_beg_PO (hPk _) (by rw [k6]; omega)) ⟨by omega, by omega⟩) v_X5_195 rfl (hR.1) rfl (by decide) (by decide) (Nat.le_of_ble_eq_true rfl) rfl dX5_takeFrame_83 rfl (fun v lay' mem' n' hp => ?_)
      obtain ⟨q1, q2, q3, q4⟩ := hp
      subst q1; subst q2; subst q3; subst q4
      exact r_vret F Rt dX5_takeFrame_86 (by decide) ⟨rfl, rfl, by rw [R_tf, if_neg h_14, hkd], rfl⟩
  ·
    refine r_aload_n F rfl rfl dX5_takeFrame_17 rfl ?_
    refine r_getR F f_X5_42 (hR.1) rfl dX5_takeFrame_18 rfl ?_
    refine r_callV F G (c_X2_countConcealed _ _ _ _ (ja_LR_14 hR) ⟨by omega, by omega⟩ ⟨by omega, by omega⟩) v_X5_179 rfl (ja_LR_14 hR) rfl (by decide) (by decide) (Nat.le_of_ble_eq_true rfl) rfl dX5_takeFrame_21 rfl (fun v lay' mem' n' hp => ?_)
    obtain ⟨q1, q2, q3, q4⟩ := hp
    subst q1; subst q2; subst q3; subst q4
    refine r_aload_n F rfl rfl dX5_takeFrame_24 rfl ?_
    refine r_getR F f_X5_35 (hR.1) rfl dX5_takeFrame_25 rfl ?_
    refine r_iconst F dX5_takeFrame_28 rfl ?_
    refine r_callV F G (c_X4_begin _ _ _ _ (ja_LR_9 hR) (by omega)) v_X5_182 rfl ((ja_LR_9 hR).1) rfl (by decide) (by decide) (Nat.le_of_ble_eq_true rfl) rfl dX5_takeFrame_29 rfl (fun v lay' mem' n' hp => ?_)
    obtain ⟨q1, q2, q3, q4⟩ := hp
    subst q1; subst q2; subst q3; subst q4
    refine r_aload_n F rfl rfl dX5_takeFrame_32 rfl ?_
    refine r_getR F f_X5_35 (hR.1) rfl dX5_takeFrame_33 rfl ?_
    refine r_aload_n F rfl rfl dX5_takeFrame_36 rfl ?_
    refine r_getR F f_X5_12 (hR.1) rfl dX5_takeFrame_37 rfl ?_
    refine r_getI F f_X5_96 (ja_LR_1 hR) rfl dX5_takeFrame_40 rfl ?_
    refine r_eqz (z := mem (b + 1) 0) (by rw [P_beg_o ⟨by omega, by omega⟩, C_co_o (by omega)]) ?_
    refine r_aload_n F rfl rfl dX5_takeFrame_43 rfl ?_
    refine r_getR F f_X5_42 (hR.1) rfl dX5_takeFrame_44 rfl ?_
    refine r_getI F f_X5_185 (ja_LR_14 hR) rfl dX5_takeFrame_47 rfl ?_
    refine r_eqz (z := mem (b + 14) 7 + 1) (by rw [P_beg_o ⟨by omega, by omega⟩, C_co_s.1]) ?_
    refine r_callV F G (c_X4_putConcealed _ _ _ _ (ja_LR_9 hR) (P_beg_PO hPc (by omega)) ⟨by omega, by omega⟩ ⟨by omega, by omega⟩) v_X5_188 rfl ((ja_LR_9 hR).1) rfl (by decide) (by decide) (Nat.le_of_ble_eq_true rfl) rfl dX5_takeFrame_50 rfl (fun v lay' mem' n' hp => ?_)
    obtain ⟨q1, q2, q3, q4⟩ := hp
    subst q1; subst q2; subst q3; subst q4
    exact r_vret F Rt dX5_takeFrame_53 (by decide) ⟨rfl, rfl, by rw [R_tf, if_pos h_14], rfl⟩
abbrev rm_X5_acceptDue : Room := { frames := 5, cells := 0, slots := 0, locals := 130 }
set_option maxRecDepth 100000 in
set_option maxHeartbeats 4000000 in
theorem c_X5_acceptDue (l : Launch) (D : va_G) (cA : Nat → ClassId) (B : Nat) {lay : ja_Y} {mem : ja_M} {n : Nat} {b : Nat} {t : Int} (hR : ja_LR lay b) (hO : ja_RO mem b t) (ht : t ≤ 900000) : ja_Mt l D cA B yX5_acceptDue cX5_acceptDue 2 none rm_X5_acceptDue [.ref b] lay mem n (ja_rd lay (R_due mem b) n (none)) := by
  refine ja_enter [some (.ref b), none] (by decide) (Nat.le_of_ble_eq_true rfl) (fun q hq => hq) (fun C F Rt G hnm => ?_)
  have hO2 := hO
  obtain ⟨g1, g2, g3, g4, g5, g6, g7, g8, g9, g10, g11, g12⟩ := hO2
  have s0 := g1
  obtain ⟨s0, s1, s2, s3, s4, s5, s6, s7, s8⟩ := s0
  have p0 := g3
  obtain ⟨p1, p2, p3, p4, p5, p6⟩ := p0
  have a0 := g4.1
  have hDO := R_du_RO hO ht
  refine r_iconst F dX5_acceptDue_0 rfl ?_
  refine r_ist1 F (by decide) rfl dX5_acceptDue_1 rfl ?_
  have loop : ∀ (d k : Nat), k + d = (mem (b + 15) 4).toNat → ja_W C 0 0 lay (R_du mem b k) n 2 [some (.ref b), some (.int (ja_I (k : Int)))] [] := by
    intro d
    induction d with
    | zero =>
      intro k hk
      refine r_iload_n F rfl rfl dX5_acceptDue_2 rfl ?_
      refine r_aload_n F rfl rfl dX5_acceptDue_3 rfl ?_
      refine r_getR F f_X5_49 (hR.1) rfl dX5_acceptDue_4 rfl ?_
      refine r_getI F f_X5_83 ((ja_LR_15 hR).1) rfl dX5_acceptDue_7 rfl ?_
      refine r_eqz (z := mem (b + 15) 4) (by rw [R_du_o (by omega) k]) ?_
      refine r_icmp_ge F (tgt := 108) ⟨by omega, by omega⟩ ⟨by omega, by omega⟩ dX5_acceptDue_10 rfl (by decide) (fun h_10 => ?_) (fun h_10 => ?_)
      ·
        refine r_aload_n F rfl rfl dX5_acceptDue_108 rfl ?_
        refine r_getR F f_X5_49 (hR.1) rfl dX5_acceptDue_109 rfl ?_
        refine r_aload_n F rfl rfl dX5_acceptDue_112 rfl ?_
        refine r_getI F f_X5_72 (hR.1) rfl dX5_acceptDue_113 rfl ?_
        refine r_eqz (z := mem b 6) (by rw [R_du_6 k]) ?_
        refine r_callV F G (c_X1_removeAllAt _ _ _ _ (ja_LR_15 hR) (by rw [R_du_o (by omega) k]; omega) ⟨by omega, by omega⟩ (fun j => by rw [R_du_o (by omega) k]; have := g4.2.2.2.2 j; exact ⟨by have := this.1; omega, by have := this.2; omega⟩)) v_X5_176 rfl ((ja_LR_15 hR).1) rfl (by decide) (by decide) (Nat.le_of_ble_eq_true rfl) rfl dX5_acceptDue_116 rfl (fun v lay' mem' n' hp => ?_)
        obtain ⟨q1, q2, q3, q4⟩ := hp
        subst q1; subst q2; subst q3; subst q4
        exact r_vret F Rt dX5_acceptDue_119 (by decide) ⟨rfl, rfl, by rw [R_due, show (mem (b + 15) 4).toNat = k by omega]; congr 1; rw [R_du_o (by omega) k]; omega, rfl⟩
      ·
        exfalso; omega
    | succ d ih =>
      intro k hk
      refine r_iload_n F rfl rfl dX5_acceptDue_2 rfl ?_
      refine r_aload_n F rfl rfl dX5_acceptDue_3 rfl ?_
      refine r_getR F f_X5_49 (hR.1) rfl dX5_acceptDue_4 rfl ?_
      refine r_getI F f_X5_83 ((ja_LR_15 hR).1) rfl dX5_acceptDue_7 rfl ?_
      refine r_eqz (z := mem (b + 15) 4) (by rw [R_du_o (by omega) k]) ?_
      refine r_icmp_ge F (tgt := 108) ⟨by omega, by omega⟩ ⟨by omega, by omega⟩ dX5_acceptDue_10 rfl (by decide) (fun h_10 => ?_) (fun h_10 => ?_)
      ·
        exfalso; omega
      ·
        have hv := g5 k (by omega)
        have n1 := g4.2.1 k
        have n2 := g4.2.2.1 k
        have n3 := g4.2.2.2.2 k
        have n4 := g4.2.2.2.1 k
        obtain ⟨m1, m2⟩ := id n3
        refine r_aload_n F rfl rfl dX5_acceptDue_13 rfl ?_
        refine r_getR F f_X5_49 (hR.1) rfl dX5_acceptDue_14 rfl ?_
        refine r_getRN F f_X5_156 ((ja_LR_15 hR).1) rfl dX5_acceptDue_17 rfl ?_
        refine r_iload_n F rfl rfl dX5_acceptDue_20 rfl ?_
        refine r_iald F (ja_LA_4 (ja_LR_15 hR)) (by omega) (by omega) (by decide) dX5_acceptDue_21 rfl ?_
        refine r_eqz (z := mem (b + 15 + 4) k) (by rw [R_du_o (by omega) k, ja_nat]) ?_
        refine r_aload_n F rfl rfl dX5_acceptDue_22 rfl ?_
        refine r_getI F f_X5_72 (hR.1) rfl dX5_acceptDue_23 rfl ?_
        refine r_eqz (z := mem b 6) (by rw [R_du_6 k]) ?_
        refine r_icmp_eq F (tgt := 32) ⟨by omega, by omega⟩ ⟨by omega, by omega⟩ dX5_acceptDue_26 rfl (by decide) (fun h_26 => ?_) (fun h_26 => ?_)
        ·
          refine r_aload_n F rfl rfl dX5_acceptDue_32 rfl ?_
          refine r_getR F f_X5_49 (hR.1) rfl dX5_acceptDue_33 rfl ?_
          refine r_getRN F f_X5_160 ((ja_LR_15 hR).1) rfl dX5_acceptDue_36 rfl ?_
          refine r_iload_n F rfl rfl dX5_acceptDue_39 rfl ?_
          refine r_iald F (ja_LA_1 (ja_LR_15 hR)) (by omega) (by omega) (by decide) dX5_acceptDue_40 rfl ?_
          refine r_eqz (z := mem (b + 15 + 1) k) (by rw [R_du_o (by omega) k, ja_nat]) ?_
          refine r_if_ne F (tgt := 61) ⟨by omega, by omega⟩ dX5_acceptDue_41 rfl (by decide) (fun h_41 => ?_) (fun h_41 => ?_)
          ·
            refine r_aload_n F rfl rfl dX5_acceptDue_61 rfl ?_
            refine r_aload_n F rfl rfl dX5_acceptDue_62 rfl ?_
            refine r_getR F f_X5_49 (hR.1) rfl dX5_acceptDue_63 rfl ?_
            refine r_getRN F f_X5_160 ((ja_LR_15 hR).1) rfl dX5_acceptDue_66 rfl ?_
            refine r_iload_n F rfl rfl dX5_acceptDue_69 rfl ?_
            refine r_iald F (ja_LA_1 (ja_LR_15 hR)) (by omega) (by omega) (by decide) dX5_acceptDue_70 rfl ?_
            refine r_eqz (z := mem (b + 15 + 1) k) (by rw [R_du_o (by omega) k, ja_nat]) ?_
            refine r_iconst F dX5_acceptDue_71 rfl ?_
            refine r_icmp_ne F (tgt := 79) ⟨by omega, by omega⟩ ⟨by omega, by omega⟩ dX5_acceptDue_72 rfl (by decide) (fun h_72 => ?_) (fun h_72 => ?_)
            ·
              refine r_iconst F dX5_acceptDue_79 rfl ?_
              refine r_eqz (z := ja_b (mem (b + 15 + 1) k = 1)) (by unfold ja_b; first | rw [if_pos (by omega)] | rw [if_neg (by omega)]) ?_
              have hbb : 0 ≤ ja_b (mem (b + 15 + 1) k = 1) ∧ ja_b (mem (b + 15 + 1) k = 1) ≤ 1 := by unfold ja_b; split <;> omega
              refine r_aload_n F rfl rfl dX5_acceptDue_80 rfl ?_
              refine r_getR F f_X5_49 (hR.1) rfl dX5_acceptDue_81 rfl ?_
              refine r_getRN F f_X5_163 ((ja_LR_15 hR).1) rfl dX5_acceptDue_84 rfl ?_
              refine r_iload_n F rfl rfl dX5_acceptDue_87 rfl ?_
              refine r_iald F (ja_LA_2 (ja_LR_15 hR)) (by omega) (by omega) (by decide) dX5_acceptDue_88 rfl ?_
              refine r_eqz (z := mem (b + 15 + 2) k) (by rw [R_du_o (by omega) k, ja_nat]) ?_
              refine r_aload_n F rfl rfl dX5_acceptDue_89 rfl ?_
              refine r_getR F f_X5_49 (hR.1) rfl dX5_acceptDue_90 rfl ?_
              refine r_getRN F f_X5_169 ((ja_LR_15 hR).1) rfl dX5_acceptDue_93 rfl ?_
              refine r_iload_n F rfl rfl dX5_acceptDue_96 rfl ?_
              refine r_iald F (ja_LA_3 (ja_LR_15 hR)) (by omega) (by omega) (by decide) dX5_acceptDue_97 rfl ?_
              refine r_eqz (z := mem (b + 15 + 3) k) (by rw [R_du_o (by omega) k, ja_nat]) ?_
              refine r_callV F G (c_X5_acceptPacket _ _ _ _ hR (hDO k (by omega)) ⟨by omega, by omega⟩ (by have := (hv.2 h_41).1; simp only [ja_hasB, ja_cells, R_du_o (show b + 15 ≤ b + 1 ∨ b + 1 = b + 1 by omega)]; exact this)) v_X5_172 rfl (hR.1) rfl (by decide) (by decide) (Nat.le_of_ble_eq_true rfl) rfl dX5_acceptDue_98 rfl (fun v lay' mem' n' hp => ?_)
              obtain ⟨q1, q2, q3, q4⟩ := hp
              subst q1; subst q2; subst q3; subst q4
              refine r_pop F rfl dX5_acceptDue_101 rfl ?_
              refine r_inc1 F (by decide) rfl dX5_acceptDue_102 rfl ?_
              refine r_goto F (tgt := 2) dX5_acceptDue_105 (by decide) ?_
              refine r_mem (mem' := R_du mem b (k + 1)) (by simp only [R_du]; first | rw [if_neg h_26] | rw [if_pos h_26, if_pos h_41] | rw [if_pos h_26, if_neg h_41]) ?_
              exact ih (k + 1) (by omega)
            ·
              refine r_iconst F dX5_acceptDue_75 rfl ?_
              refine r_goto F (tgt := 80) dX5_acceptDue_76 (by decide) ?_
              refine r_eqz (z := ja_b (mem (b + 15 + 1) k = 1)) (by unfold ja_b; first | rw [if_pos (by omega)] | rw [if_neg (by omega)]) ?_
              have hbb : 0 ≤ ja_b (mem (b + 15 + 1) k = 1) ∧ ja_b (mem (b + 15 + 1) k = 1) ≤ 1 := by unfold ja_b; split <;> omega
              refine r_aload_n F rfl rfl dX5_acceptDue_80 rfl ?_
              refine r_getR F f_X5_49 (hR.1) rfl dX5_acceptDue_81 rfl ?_
              refine r_getRN F f_X5_163 ((ja_LR_15 hR).1) rfl dX5_acceptDue_84 rfl ?_
              refine r_iload_n F rfl rfl dX5_acceptDue_87 rfl ?_
              refine r_iald F (ja_LA_2 (ja_LR_15 hR)) (by omega) (by omega) (by decide) dX5_acceptDue_88 rfl ?_
              refine r_eqz (z := mem (b + 15 + 2) k) (by rw [R_du_o (by omega) k, ja_nat]) ?_
              refine r_aload_n F rfl rfl dX5_acceptDue_89 rfl ?_
              refine r_getR F f_X5_49 (hR.1) rfl dX5_acceptDue_90 rfl ?_
              refine r_getRN F f_X5_169 ((ja_LR_15 hR).1) rfl dX5_acceptDue_93 rfl ?_
              refine r_iload_n F rfl rfl dX5_acceptDue_96 rfl ?_
              refine r_iald F (ja_LA_3 (ja_LR_15 hR)) (by omega) (by omega) (by decide) dX5_acceptDue_97 rfl ?_
              refine r_eqz (z := mem (b + 15 + 3) k) (by rw [R_du_o (by omega) k, ja_nat]) ?_
              refine r_callV F G (c_X5_acceptPacket _ _ _ _ hR (hDO k (by omega)) ⟨by omega, by omega⟩ (by have := (hv.2 h_41).1; simp only [ja_hasB, ja_cells, R_du_o (show b + 15 ≤ b + 1 ∨ b + 1 = b + 1 by omega)]; exact this)) v_X5_172 rfl (hR.1) rfl (by decide) (by decide) (Nat.le_of_ble_eq_true rfl) rfl dX5_acceptDue_98 rfl (fun v lay' mem' n' hp => ?_)
              obtain ⟨q1, q2, q3, q4⟩ := hp
              subst q1; subst q2; subst q3; subst q4
              refine r_pop F rfl dX5_acceptDue_101 rfl ?_
              refine r_inc1 F (by decide) rfl dX5_acceptDue_102 rfl ?_
              refine r_goto F (tgt := 2) dX5_acceptDue_105 (by decide) ?_
              refine r_mem (mem' := R_du mem b (k + 1)) (by simp only [R_du]; first | rw [if_neg h_26] | rw [if_pos h_26, if_pos h_41] | rw [if_pos h_26, if_neg h_41]) ?_
              exact ih (k + 1) (by omega)
          ·
            refine r_aload_n F rfl rfl dX5_acceptDue_44 rfl ?_
            refine r_aload_n F rfl rfl dX5_acceptDue_45 rfl ?_
            refine r_getR F f_X5_49 (hR.1) rfl dX5_acceptDue_46 rfl ?_
            refine r_getRN F f_X5_163 ((ja_LR_15 hR).1) rfl dX5_acceptDue_49 rfl ?_
            refine r_iload_n F rfl rfl dX5_acceptDue_52 rfl ?_
            refine r_iald F (ja_LA_2 (ja_LR_15 hR)) (by omega) (by omega) (by decide) dX5_acceptDue_53 rfl ?_
            refine r_eqz (z := mem (b + 15 + 2) k) (by rw [R_du_o (by omega) k, ja_nat]) ?_
            refine r_callV F G (c_X5_acceptFrame _ _ _ _ hR (hDO k (by omega)) (by omega) ⟨n2.1, hv.1 h_41⟩) v_X5_166 rfl (hR.1) rfl (by decide) (by decide) (Nat.le_of_ble_eq_true rfl) rfl dX5_acceptDue_54 rfl (fun v lay' mem' n' hp => ?_)
            obtain ⟨q1, q2, q3, q4⟩ := hp
            subst q1; subst q2; subst q3; subst q4
            refine r_pop F rfl dX5_acceptDue_57 rfl ?_
            refine r_goto F (tgt := 102) dX5_acceptDue_58 (by decide) ?_
            refine r_inc1 F (by decide) rfl dX5_acceptDue_102 rfl ?_
            refine r_goto F (tgt := 2) dX5_acceptDue_105 (by decide) ?_
            refine r_mem (mem' := R_du mem b (k + 1)) (by simp only [R_du]; first | rw [if_neg h_26] | rw [if_pos h_26, if_pos h_41] | rw [if_pos h_26, if_neg h_41]) ?_
            exact ih (k + 1) (by omega)
        ·
          refine r_goto F (tgt := 102) dX5_acceptDue_29 (by decide) ?_
          refine r_inc1 F (by decide) rfl dX5_acceptDue_102 rfl ?_
          refine r_goto F (tgt := 2) dX5_acceptDue_105 (by decide) ?_
          refine r_mem (mem' := R_du mem b (k + 1)) (by simp only [R_du]; first | rw [if_neg h_26] | rw [if_pos h_26, if_pos h_41] | rw [if_pos h_26, if_neg h_41]) ?_
          exact ih (k + 1) (by omega)
  exact loop (mem (b + 15) 4).toNat 0 (by omega)
abbrev rm_X5_passTick : Room := { frames := 6, cells := 0, slots := 0, locals := 151 }
set_option maxRecDepth 100000 in
set_option maxHeartbeats 4000000 in
theorem c_X5_passTick (l : Launch) (D : va_G) (cA : Nat → ClassId) (B : Nat) {lay : ja_Y} {mem : ja_M} {n : Nat} {b : Nat} {t : Int} (hR : ja_LR lay b) (hO : ja_RO mem b t) (ht : t ≤ 900000) : ja_Mt l D cA B yX5_passTick cX5_passTick 1 none rm_X5_passTick [.ref b] lay mem n (ja_rd lay (R_tk mem b) n (none)) := by
  refine ja_enter [some (.ref b)] (by decide) (Nat.le_of_ble_eq_true rfl) (fun q hq => hq) (fun C F Rt G hnm => ?_)
  have hD := R_due_RO hO ht
  obtain ⟨g1, g2, g3, g4, g5, g6, g7, g8, g9, g10, g11, g12⟩ := id hD
  have p1 := g3.1
  have p3 := g3.2.2.1
  refine r_aload_n F rfl rfl dX5_passTick_0 rfl ?_
  refine r_callV F G (c_X5_acceptDue _ _ _ _ hR hO (by omega)) v_X5_141 rfl (hR.1) rfl (by decide) (by decide) (Nat.le_of_ble_eq_true rfl) rfl dX5_passTick_1 rfl (fun v lay' mem' n' hp => ?_)
  obtain ⟨q1, q2, q3, q4⟩ := hp
  subst q1; subst q2; subst q3; subst q4
  refine r_mem (mem' := R_due mem b) rfl ?_
  refine r_aload_n F rfl rfl dX5_passTick_4 rfl ?_
  refine r_getI F f_X5_76 (hR.1) rfl dX5_passTick_5 rfl ?_
  refine r_if_eq F (tgt := 63) ⟨by omega, by omega⟩ dX5_passTick_8 rfl (by decide) (fun h_8 => ?_) (fun h_8 => ?_)
  ·
    refine r_mem (mem' := R_pl (R_due mem b) b) (by unfold R_pl; first | rw [if_pos ⟨by omega, by omega⟩, if_pos ⟨by omega, by omega⟩] | rw [if_pos ⟨by omega, by omega⟩, if_neg (by omega)] | rw [if_neg (by omega)]) ?_
    refine r_aload_n F rfl rfl dX5_passTick_63 rfl ?_
    refine r_dup F rfl dX5_passTick_64 rfl ?_
    refine r_getI F f_X5_72 (hR.1) rfl dX5_passTick_65 rfl ?_
    refine r_iconst F dX5_passTick_68 rfl ?_
    refine r_iadd F dX5_passTick_69 rfl ?_
    refine r_putI F f_X5_72 (hR.1) rfl dX5_passTick_70 rfl ?_
    exact r_vret F Rt dX5_passTick_73 (by decide) ⟨rfl, rfl, rfl, rfl⟩
  ·
    refine r_aload_n F rfl rfl dX5_passTick_11 rfl ?_
    refine r_getI F f_X5_72 (hR.1) rfl dX5_passTick_12 rfl ?_
    refine r_aload_n F rfl rfl dX5_passTick_15 rfl ?_
    refine r_getI F f_X5_80 (hR.1) rfl dX5_passTick_16 rfl ?_
    refine r_icmp_lt F (tgt := 63) ⟨by omega, by omega⟩ ⟨by omega, by omega⟩ dX5_passTick_19 rfl (by decide) (fun h_19 => ?_) (fun h_19 => ?_)
    ·
      refine r_mem (mem' := R_pl (R_due mem b) b) (by unfold R_pl; first | rw [if_pos ⟨by omega, by omega⟩, if_pos ⟨by omega, by omega⟩] | rw [if_pos ⟨by omega, by omega⟩, if_neg (by omega)] | rw [if_neg (by omega)]) ?_
      refine r_aload_n F rfl rfl dX5_passTick_63 rfl ?_
      refine r_dup F rfl dX5_passTick_64 rfl ?_
      refine r_getI F f_X5_72 (hR.1) rfl dX5_passTick_65 rfl ?_
      refine r_iconst F dX5_passTick_68 rfl ?_
      refine r_iadd F dX5_passTick_69 rfl ?_
      refine r_putI F f_X5_72 (hR.1) rfl dX5_passTick_70 rfl ?_
      exact r_vret F Rt dX5_passTick_73 (by decide) ⟨rfl, rfl, rfl, rfl⟩
    ·
      refine r_aload_n F rfl rfl dX5_passTick_22 rfl ?_
      refine r_getR F f_X5_35 (hR.1) rfl dX5_passTick_23 rfl ?_
      refine r_callV F G (c_X4_remaining _ _ _ _ (ja_LR_9 hR)) v_X5_144 rfl ((ja_LR_9 hR).1) rfl (by decide) (by decide) (Nat.le_of_ble_eq_true rfl) rfl dX5_passTick_26 rfl (fun v lay' mem' n' hp => ?_)
      obtain ⟨q1, q2, q3, q4⟩ := hp
      subst q1; subst q2; subst q3; subst q4
      refine r_if_ne F (tgt := 56) ⟨by omega, by omega⟩ dX5_passTick_29 rfl (by decide) (fun h_29 => ?_) (fun h_29 => ?_)
      ·
        have hPO := g3
        
        refine r_aload_n F rfl rfl dX5_passTick_56 rfl ?_
        refine r_getR F f_X5_35 (hR.1) rfl dX5_passTick_57 rfl ?_
        refine r_callV F G (c_X4_putOut _ _ _ _ (ja_LR_9 hR) hPO) v_X5_150 rfl ((ja_LR_9 hR).1) rfl (by decide) (by decide) (Nat.le_of_ble_eq_true rfl) rfl dX5_passTick_60 rfl (fun v lay' mem' n' hp => ?_)
        obtain ⟨q1, q2, q3, q4⟩ := hp
        subst q1; subst q2; subst q3; subst q4
        refine r_mem (mem' := R_pl (R_due mem b) b) (by unfold R_pl; first | rw [if_pos ⟨by omega, by omega⟩, if_pos ⟨by omega, by omega⟩] | rw [if_pos ⟨by omega, by omega⟩, if_neg (by omega)] | rw [if_neg (by omega)]) ?_
        refine r_aload_n F rfl rfl dX5_passTick_63 rfl ?_
        refine r_dup F rfl dX5_passTick_64 rfl ?_
        refine r_getI F f_X5_72 (hR.1) rfl dX5_passTick_65 rfl ?_
        refine r_iconst F dX5_passTick_68 rfl ?_
        refine r_iadd F dX5_passTick_69 rfl ?_
        refine r_putI F f_X5_72 (hR.1) rfl dX5_passTick_70 rfl ?_
        exact r_vret F Rt dX5_passTick_73 (by decide) ⟨rfl, rfl, rfl, rfl⟩
      ·
        refine r_aload_n F rfl rfl dX5_passTick_32 rfl ?_
        refine r_getR F f_X5_35 (hR.1) rfl dX5_passTick_33 rfl ?_
        refine r_getI F f_X5_116 ((ja_LR_9 hR).1) rfl dX5_passTick_36 rfl ?_
        refine r_sipush F (by decide) dX5_passTick_39 rfl ?_
        refine r_icmp_gt F (tgt := 56) ⟨by omega, by omega⟩ ⟨by omega, by omega⟩ dX5_passTick_42 rfl (by decide) (fun h_42 => ?_) (fun h_42 => ?_)
        ·
          have hPO := g3
          
          refine r_aload_n F rfl rfl dX5_passTick_56 rfl ?_
          refine r_getR F f_X5_35 (hR.1) rfl dX5_passTick_57 rfl ?_
          refine r_callV F G (c_X4_putOut _ _ _ _ (ja_LR_9 hR) hPO) v_X5_150 rfl ((ja_LR_9 hR).1) rfl (by decide) (by decide) (Nat.le_of_ble_eq_true rfl) rfl dX5_passTick_60 rfl (fun v lay' mem' n' hp => ?_)
          obtain ⟨q1, q2, q3, q4⟩ := hp
          subst q1; subst q2; subst q3; subst q4
          refine r_mem (mem' := R_pl (R_due mem b) b) (by unfold R_pl; first | rw [if_pos ⟨by omega, by omega⟩, if_pos ⟨by omega, by omega⟩] | rw [if_pos ⟨by omega, by omega⟩, if_neg (by omega)] | rw [if_neg (by omega)]) ?_
          refine r_aload_n F rfl rfl dX5_passTick_63 rfl ?_
          refine r_dup F rfl dX5_passTick_64 rfl ?_
          refine r_getI F f_X5_72 (hR.1) rfl dX5_passTick_65 rfl ?_
          refine r_iconst F dX5_passTick_68 rfl ?_
          refine r_iadd F dX5_passTick_69 rfl ?_
          refine r_putI F f_X5_72 (hR.1) rfl dX5_passTick_70 rfl ?_
          exact r_vret F Rt dX5_passTick_73 (by decide) ⟨rfl, rfl, rfl, rfl⟩
        ·
          refine r_aload_n F rfl rfl dX5_passTick_45 rfl ?_
          refine r_aload_n F rfl rfl dX5_passTick_46 rfl ?_
          refine r_getR F f_X5_35 (hR.1) rfl dX5_passTick_47 rfl ?_
          refine r_getI F f_X5_116 ((ja_LR_9 hR).1) rfl dX5_passTick_50 rfl ?_
          refine r_callV F G (c_X5_takeFrame _ _ _ _ hR hD (by omega) rfl) v_X5_147 rfl (hR.1) rfl (by decide) (by decide) (Nat.le_of_ble_eq_true rfl) rfl dX5_passTick_53 rfl (fun v lay' mem' n' hp => ?_)
          obtain ⟨q1, q2, q3, q4⟩ := hp
          subst q1; subst q2; subst q3; subst q4
          have hPO := (R_tf_RO hD (by omega)).2.2.1
          
          refine r_aload_n F rfl rfl dX5_passTick_56 rfl ?_
          refine r_getR F f_X5_35 (hR.1) rfl dX5_passTick_57 rfl ?_
          refine r_callV F G (c_X4_putOut _ _ _ _ (ja_LR_9 hR) hPO) v_X5_150 rfl ((ja_LR_9 hR).1) rfl (by decide) (by decide) (Nat.le_of_ble_eq_true rfl) rfl dX5_passTick_60 rfl (fun v lay' mem' n' hp => ?_)
          obtain ⟨q1, q2, q3, q4⟩ := hp
          subst q1; subst q2; subst q3; subst q4
          refine r_mem (mem' := R_pl (R_due mem b) b) (by unfold R_pl; first | rw [if_pos ⟨by omega, by omega⟩, if_pos ⟨by omega, by omega⟩] | rw [if_pos ⟨by omega, by omega⟩, if_neg (by omega)] | rw [if_neg (by omega)]) ?_
          refine r_aload_n F rfl rfl dX5_passTick_63 rfl ?_
          refine r_dup F rfl dX5_passTick_64 rfl ?_
          refine r_getI F f_X5_72 (hR.1) rfl dX5_passTick_65 rfl ?_
          refine r_iconst F dX5_passTick_68 rfl ?_
          refine r_iadd F dX5_passTick_69 rfl ?_
          refine r_putI F f_X5_72 (hR.1) rfl dX5_passTick_70 rfl ?_
          exact r_vret F Rt dX5_passTick_73 (by decide) ⟨rfl, rfl, rfl, rfl⟩
end
section
abbrev rm_X6_copyFrom : Room := { frames := 0, cells := 0, slots := 0, locals := 0 }
set_option maxRecDepth 100000 in
set_option maxHeartbeats 4000000 in
theorem c_X6_copyFrom (l : Launch) (D : va_G) (cA : Nat → ClassId) (B : Nat) {lay : ja_Y} {mem : ja_M} {n : Nat} {s o : Nat} (hS : ja_LS lay s) (hSo : ja_LS lay o) (hO : ja_SO mem o) (hso : s ≠ o) : ja_Mt l D cA B yX6_copyFrom cX6_copyFrom 2 none rm_X6_copyFrom [.ref s, .ref o] lay mem n (ja_rd lay (S_cp mem s o) n (none)) := by
  refine ja_enter [some (.ref s), some (.ref o)] (by decide) (Nat.le_of_ble_eq_true rfl) (fun q hq => hq) (fun C F Rt G hnm => ?_)
  have hos : ¬ o = s := fun q => hso q.symm
  have h8 := hO.2.2.2.2.2.2.2.2
  refine r_aload_n F rfl rfl dX6_copyFrom_0 rfl ?_
  refine r_aload_n F rfl rfl dX6_copyFrom_1 rfl ?_
  refine r_getI F f_X6_9 hSo rfl dX6_copyFrom_2 rfl ?_
  refine r_putI F f_X6_9 hS rfl dX6_copyFrom_5 rfl ?_
  refine r_aload_n F rfl rfl dX6_copyFrom_8 rfl ?_
  refine r_aload_n F rfl rfl dX6_copyFrom_9 rfl ?_
  refine r_getI F f_X6_15 hSo rfl dX6_copyFrom_10 rfl ?_
  refine r_eqz (z := mem o 1) (by simp [ja_up]) ?_
  refine r_putI F f_X6_15 hS rfl dX6_copyFrom_13 rfl ?_
  refine r_aload_n F rfl rfl dX6_copyFrom_16 rfl ?_
  refine r_aload_n F rfl rfl dX6_copyFrom_17 rfl ?_
  refine r_getI F f_X6_18 hSo rfl dX6_copyFrom_18 rfl ?_
  refine r_eqz (z := mem o 2) (by simp [ja_up]) ?_
  refine r_putI F f_X6_18 hS rfl dX6_copyFrom_21 rfl ?_
  refine r_aload_n F rfl rfl dX6_copyFrom_24 rfl ?_
  refine r_aload_n F rfl rfl dX6_copyFrom_25 rfl ?_
  refine r_getI F f_X6_21 hSo rfl dX6_copyFrom_26 rfl ?_
  refine r_eqz (z := mem o 3) (by simp [ja_up]) ?_
  refine r_putI F f_X6_21 hS rfl dX6_copyFrom_29 rfl ?_
  refine r_aload_n F rfl rfl dX6_copyFrom_32 rfl ?_
  refine r_aload_n F rfl rfl dX6_copyFrom_33 rfl ?_
  refine r_getI F f_X6_24 hSo rfl dX6_copyFrom_34 rfl ?_
  refine r_eqz (z := mem o 4) (by simp [ja_up]) ?_
  refine r_putI F f_X6_24 hS rfl dX6_copyFrom_37 rfl ?_
  refine r_aload_n F rfl rfl dX6_copyFrom_40 rfl ?_
  refine r_aload_n F rfl rfl dX6_copyFrom_41 rfl ?_
  refine r_getI F f_X6_27 hSo rfl dX6_copyFrom_42 rfl ?_
  refine r_eqz (z := mem o 5) (by simp [ja_up]) ?_
  refine r_putI F f_X6_27 hS rfl dX6_copyFrom_45 rfl ?_
  refine r_aload_n F rfl rfl dX6_copyFrom_48 rfl ?_
  refine r_aload_n F rfl rfl dX6_copyFrom_49 rfl ?_
  refine r_getI F f_X6_30 hSo rfl dX6_copyFrom_50 rfl ?_
  refine r_eqz (z := mem o 6) (by simp [ja_up]) ?_
  refine r_putI F f_X6_30 hS rfl dX6_copyFrom_53 rfl ?_
  refine r_aload_n F rfl rfl dX6_copyFrom_56 rfl ?_
  refine r_aload_n F rfl rfl dX6_copyFrom_57 rfl ?_
  refine r_getI F f_X6_33 hSo rfl dX6_copyFrom_58 rfl ?_
  refine r_eqz (z := mem o 7) (by simp [ja_up]) ?_
  refine r_putI F f_X6_33 hS rfl dX6_copyFrom_61 rfl ?_
  refine r_aload_n F rfl rfl dX6_copyFrom_64 rfl ?_
  refine r_aload_n F rfl rfl dX6_copyFrom_65 rfl ?_
  refine r_getI F f_X6_36 hSo rfl dX6_copyFrom_66 rfl ?_
  refine r_eqz (z := mem o 8) (by simp [ja_up]) ?_
  refine r_putZ F (by omega) f_X6_36 hS rfl dX6_copyFrom_69 rfl ?_
  exact r_vret F Rt dX6_copyFrom_72 (by decide) ⟨rfl, rfl, rfl, rfl⟩
abbrev rm_X5_copyFrom : Room := { frames := 3, cells := 0, slots := 0, locals := 67 }
set_option maxRecDepth 100000 in
set_option maxHeartbeats 4000000 in
theorem c_X5_copyFrom (l : Launch) (D : va_G) (cA : Nat → ClassId) (B : Nat) {lay : ja_Y} {mem : ja_M} {n : Nat} {b o : Nat} {t : Int} (hR : ja_LR lay b) (hRo : ja_LR lay o) (hO : ja_RO mem o t) (hbo : b + 20 ≤ o ∨ o + 20 ≤ b) : ja_Mt l D cA B yX5_copyFrom cX5_copyFrom 2 none rm_X5_copyFrom [.ref b, .ref o] lay mem n (ja_rd lay (R_cp mem b o) n (none)) := by
  refine ja_enter [some (.ref b), some (.ref o)] (by decide) (Nat.le_of_ble_eq_true rfl) (fun q hq => hq) (fun C F Rt G hnm => ?_)
  obtain ⟨g1, g2, g3, g4, g5, g6, g7, g8, g9, g10, g11, g12⟩ := id hO
  have a4 := g4.1
  have e5 : (R_c5 mem b o) (o + 15) 4 = mem (o + 15) 4 := by rw [R_c5_o (by omega)]
  refine r_aload_n F rfl rfl dX5_copyFrom_0 rfl ?_
  refine r_getR F f_X5_12 (hR.1) rfl dX5_copyFrom_1 rfl ?_
  refine r_aload_n F rfl rfl dX5_copyFrom_4 rfl ?_
  refine r_getR F f_X5_12 (hRo.1) rfl dX5_copyFrom_5 rfl ?_
  refine r_callV F G (c_X6_copyFrom _ _ _ _ (ja_LR_1 hR) (ja_LR_1 hRo) g1 (by omega)) v_X5_53 rfl (ja_LR_1 hR) rfl (by decide) (by decide) (Nat.le_of_ble_eq_true rfl) rfl dX5_copyFrom_8 rfl (fun v lay' mem' n' hp => ?_)
  obtain ⟨q1, q2, q3, q4⟩ := hp
  subst q1; subst q2; subst q3; subst q4
  refine r_mem (mem' := R_c1 mem b o) rfl ?_
  refine r_aload_n F rfl rfl dX5_copyFrom_11 rfl ?_
  refine r_getR F f_X5_21 (hR.1) rfl dX5_copyFrom_12 rfl ?_
  refine r_aload_n F rfl rfl dX5_copyFrom_15 rfl ?_
  refine r_getR F f_X5_21 (hRo.1) rfl dX5_copyFrom_16 rfl ?_
  refine r_callV F G (c_X3_copyFrom _ _ _ _ (ja_LR_2 hR) (ja_LR_2 hRo)) v_X5_57 rfl ((ja_LR_2 hR).1) rfl (by decide) (by decide) (Nat.le_of_ble_eq_true rfl) rfl dX5_copyFrom_19 rfl (fun v lay' mem' n' hp => ?_)
  obtain ⟨q1, q2, q3, q4⟩ := hp
  subst q1; subst q2; subst q3; subst q4
  refine r_mem (mem' := R_c2 mem b o) rfl ?_
  refine r_aload_n F rfl rfl dX5_copyFrom_22 rfl ?_
  refine r_getR F f_X5_28 (hR.1) rfl dX5_copyFrom_23 rfl ?_
  refine r_aload_n F rfl rfl dX5_copyFrom_26 rfl ?_
  refine r_getR F f_X5_28 (hRo.1) rfl dX5_copyFrom_27 rfl ?_
  refine r_callV F G (c_X7_copyFrom _ _ _ _ (ja_LR_6 hR) (ja_LR_6 hRo) (by omega)) v_X5_60 rfl ((ja_LR_6 hR).1) rfl (by decide) (by decide) (Nat.le_of_ble_eq_true rfl) rfl dX5_copyFrom_30 rfl (fun v lay' mem' n' hp => ?_)
  obtain ⟨q1, q2, q3, q4⟩ := hp
  subst q1; subst q2; subst q3; subst q4
  refine r_mem (mem' := R_c3 mem b o) rfl ?_
  refine r_aload_n F rfl rfl dX5_copyFrom_33 rfl ?_
  refine r_getR F f_X5_35 (hR.1) rfl dX5_copyFrom_34 rfl ?_
  refine r_aload_n F rfl rfl dX5_copyFrom_37 rfl ?_
  refine r_getR F f_X5_35 (hRo.1) rfl dX5_copyFrom_38 rfl ?_
  refine r_callV F G (c_X4_copyFrom _ _ _ _ (ja_LR_9 hR) (ja_LR_9 hRo) (by omega)) v_X5_63 rfl ((ja_LR_9 hR).1) rfl (by decide) (by decide) (Nat.le_of_ble_eq_true rfl) rfl dX5_copyFrom_41 rfl (fun v lay' mem' n' hp => ?_)
  obtain ⟨q1, q2, q3, q4⟩ := hp
  subst q1; subst q2; subst q3; subst q4
  refine r_mem (mem' := R_c4 mem b o) rfl ?_
  refine r_aload_n F rfl rfl dX5_copyFrom_44 rfl ?_
  refine r_getR F f_X5_42 (hR.1) rfl dX5_copyFrom_45 rfl ?_
  refine r_aload_n F rfl rfl dX5_copyFrom_48 rfl ?_
  refine r_getR F f_X5_42 (hRo.1) rfl dX5_copyFrom_49 rfl ?_
  refine r_callV F G (c_X2_copyFrom _ _ _ _ (ja_LR_14 hR) (ja_LR_14 hRo) (by omega)) v_X5_66 rfl (ja_LR_14 hR) rfl (by decide) (by decide) (Nat.le_of_ble_eq_true rfl) rfl dX5_copyFrom_52 rfl (fun v lay' mem' n' hp => ?_)
  obtain ⟨q1, q2, q3, q4⟩ := hp
  subst q1; subst q2; subst q3; subst q4
  refine r_mem (mem' := R_c5 mem b o) rfl ?_
  refine r_aload_n F rfl rfl dX5_copyFrom_55 rfl ?_
  refine r_getR F f_X5_49 (hR.1) rfl dX5_copyFrom_56 rfl ?_
  refine r_aload_n F rfl rfl dX5_copyFrom_59 rfl ?_
  refine r_getR F f_X5_49 (hRo.1) rfl dX5_copyFrom_60 rfl ?_
  refine r_callV F G (c_X1_copyFrom _ _ _ _ (ja_LR_15 hR) (ja_LR_15 hRo) (by rw [e5]; omega) (by omega)) v_X5_69 rfl ((ja_LR_15 hR).1) rfl (by decide) (by decide) (Nat.le_of_ble_eq_true rfl) rfl dX5_copyFrom_63 rfl (fun v lay' mem' n' hp => ?_)
  obtain ⟨q1, q2, q3, q4⟩ := hp
  subst q1; subst q2; subst q3; subst q4
  refine r_mem (mem' := R_c6 mem b o) rfl ?_
  refine r_aload_n F rfl rfl dX5_copyFrom_66 rfl ?_
  refine r_aload_n F rfl rfl dX5_copyFrom_67 rfl ?_
  refine r_getI F f_X5_72 (hRo.1) rfl dX5_copyFrom_68 rfl ?_
  refine r_eqz (z := (R_c6 mem b o) o 6) (by rfl) ?_
  refine r_putI F f_X5_72 (hR.1) rfl dX5_copyFrom_71 rfl ?_
  refine r_aload_n F rfl rfl dX5_copyFrom_74 rfl ?_
  refine r_aload_n F rfl rfl dX5_copyFrom_75 rfl ?_
  refine r_getI F f_X5_76 (hRo.1) rfl dX5_copyFrom_76 rfl ?_
  refine r_eqz (z := (R_c6 mem b o) o 7) (by rw [ja_up_a (by omega)]) ?_
  refine r_putZ F (by rw [R_c6_o (by omega)]; omega) f_X5_76 (hR.1) rfl dX5_copyFrom_79 rfl ?_
  refine r_aload_n F rfl rfl dX5_copyFrom_82 rfl ?_
  refine r_aload_n F rfl rfl dX5_copyFrom_83 rfl ?_
  refine r_getI F f_X5_80 (hRo.1) rfl dX5_copyFrom_84 rfl ?_
  refine r_eqz (z := (R_c6 mem b o) o 8) (by rw [ja_up_a (by omega), ja_up_a (by omega)]) ?_
  refine r_putI F f_X5_80 (hR.1) rfl dX5_copyFrom_87 rfl ?_
  exact r_vret F Rt dX5_copyFrom_90 (by decide) ⟨rfl, rfl, rfl, rfl⟩
end
