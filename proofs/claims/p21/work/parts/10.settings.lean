abbrev rm_X6_cells : Room := { frames := 0, cells := 0, slots := 0, locals := 0 }
set_option maxRecDepth 100000 in
set_option maxHeartbeats 4000000 in
theorem c_X6_cells (l : Launch) (D : va_G) (cA : Nat → ClassId) (B : Nat) {lay : ja_Y} {mem : ja_M} {n : Nat} {s : Nat} (hS : ja_LS lay s) : ja_Mt l D cA B yX6_cells cX6_cells 1 (some .int) rm_X6_cells [.ref s] lay mem n (ja_rd lay mem n (some (.int (ja_I (ja_cells mem s))))) := by
  refine ja_enter [some (.ref s)] (by decide) (Nat.le_of_ble_eq_true rfl) (fun q hq => hq) (fun C F Rt G hnm => ?_)
  refine r_aload_n F rfl rfl dX6_cells_0 rfl ?_
  refine r_getI F f_X6_21 hS rfl dX6_cells_1 rfl ?_
  refine r_aload_n F rfl rfl dX6_cells_4 rfl ?_
  refine r_getI F f_X6_24 hS rfl dX6_cells_5 rfl ?_
  refine r_imul F dX6_cells_8 rfl ?_
  exact r_iret F Rt dX6_cells_9 (by decide) ⟨rfl, rfl, rfl, rfl⟩
abbrev rm_X6_waveAt : Room := { frames := 0, cells := 0, slots := 0, locals := 0 }
set_option maxRecDepth 100000 in
set_option maxHeartbeats 4000000 in
theorem c_X6_waveAt (l : Launch) (D : va_G) (cA : Nat → ClassId) (B : Nat) {lay : ja_Y} {mem : ja_M} {n : Nat} {s : Nat} {f j : Int} (hS : ja_LS lay s) (hO : ja_SO mem s) (hf : 0 ≤ f ∧ f ≤ 1000) (hj : 0 ≤ j ∧ j ≤ 100) : ja_Mt l D cA B yX6_waveAt cX6_waveAt 4 (some .int) rm_X6_waveAt [.ref s, .int (ja_I f), .int (ja_I j)] lay mem n (ja_rd lay mem n (some (.int (ja_I (ja_wave mem s f j))))) := by
  refine ja_enter [some (.ref s), some (.int (ja_I f)), some (.int (ja_I j)), none] (by decide) (Nat.le_of_ble_eq_true rfl) (fun q hq => hq) (fun C F Rt G hnm => ?_)
  have hO2 := hO
  obtain ⟨h0, h1, h2, -⟩ := hO2
  have g1 := ja_mulb hf.1 hf.2 (by omega : 0 ≤ mem s 0) h0.2
  have g2 := Int.emod_nonneg (f * mem s 0 + j) (by omega : mem s 1 ≠ 0)
  have g3 := Int.emod_lt_of_pos (f * mem s 0 + j) (by omega : 0 < mem s 1)
  have g4 := ja_mulb (by omega : 0 ≤ mem s 2) h2.2 g2 (by omega : (f * mem s 0 + j) % mem s 1 ≤ 32)
  refine r_iload_n F rfl rfl dX6_waveAt_0 rfl ?_
  refine r_aload_n F rfl rfl dX6_waveAt_1 rfl ?_
  refine r_getI F f_X6_9 hS rfl dX6_waveAt_2 rfl ?_
  refine r_imul F dX6_waveAt_5 rfl ?_
  refine r_iload_n F rfl rfl dX6_waveAt_6 rfl ?_
  refine r_iadd F dX6_waveAt_7 rfl ?_
  refine r_aload_n F rfl rfl dX6_waveAt_8 rfl ?_
  refine r_getI F f_X6_15 hS rfl dX6_waveAt_9 rfl ?_
  refine r_iremP F ⟨by omega, by omega⟩ ⟨by omega, by omega⟩ (by omega) (by omega) dX6_waveAt_12 rfl ?_
  refine r_ist3 F (by decide) rfl dX6_waveAt_13 rfl ?_
  refine r_aload_n F rfl rfl dX6_waveAt_14 rfl ?_
  refine r_getI F f_X6_18 hS rfl dX6_waveAt_15 rfl ?_
  refine r_iload_n F rfl rfl dX6_waveAt_18 rfl ?_
  refine r_imul F dX6_waveAt_19 rfl ?_
  refine r_sipush F (by decide) dX6_waveAt_20 rfl ?_
  refine r_iremP F ⟨by omega, by omega⟩ ⟨by omega, by omega⟩ (by omega) (by omega) dX6_waveAt_23 rfl ?_
  refine r_bipush F (by decide) dX6_waveAt_24 rfl ?_
  refine r_isub F dX6_waveAt_26 rfl ?_
  exact r_iret F Rt dX6_waveAt_27 (by decide) ⟨rfl, rfl, rfl, rfl⟩
abbrev rm_X6_hasBlock : Room := { frames := 1, cells := 0, slots := 0, locals := 20 }
set_option maxRecDepth 100000 in
set_option maxHeartbeats 4000000 in
theorem c_X6_hasBlock (l : Launch) (D : va_G) (cA : Nat → ClassId) (B : Nat) {lay : ja_Y} {mem : ja_M} {n : Nat} {s : Nat} {k : Int} (hS : ja_LS lay s) (hO : ja_SO mem s) (hk : ja_in k) : ja_Mt l D cA B yX6_hasBlock cX6_hasBlock 2 (some .boolean) rm_X6_hasBlock [.ref s, .int (ja_I k)] lay mem n (ja_rd lay mem n (some (.int (ja_I (ja_b (ja_hasB mem s k)))))) := by
  refine ja_enter [some (.ref s), some (.int (ja_I k))] (by decide) (Nat.le_of_ble_eq_true rfl) (fun q hq => hq) (fun C F Rt G hnm => ?_)
  obtain ⟨hk1, hk2⟩ := hk
  have g0 := hO.cells
  have g1 : 0 ≤ 999 / ja_cells mem s := Int.ediv_nonneg (by omega) (by omega)
  have g2 := Int.ediv_le_self (ja_cells mem s) (by omega : (0 : Int) ≤ 999)
  refine r_iload_n F rfl rfl dX6_hasBlock_0 rfl ?_
  refine r_if_lt F (tgt := 20) ⟨by omega, by omega⟩ dX6_hasBlock_1 rfl (by decide) (fun h_1 => ?_) (fun h_1 => ?_)
  ·
    refine r_iconst F dX6_hasBlock_20 rfl ?_
    exact r_zret F Rt (by omega) dX6_hasBlock_21 (by decide) ⟨by simp only [ja_b]; split <;> first | rfl | (exfalso; omega), rfl, rfl, rfl⟩
  ·
    refine r_iload_n F rfl rfl dX6_hasBlock_4 rfl ?_
    refine r_sipush F (by decide) dX6_hasBlock_5 rfl ?_
    refine r_aload_n F rfl rfl dX6_hasBlock_8 rfl ?_
    refine r_callV F G (c_X6_cells _ _ _ _ hS) v_X6_40 rfl hS rfl (by decide) (by decide) (Nat.le_of_ble_eq_true rfl) rfl dX6_hasBlock_9 rfl (fun v lay' mem' n' hp => ?_)
    obtain ⟨q1, q2, q3, q4⟩ := hp
    subst q1; subst q2; subst q3; subst q4
    refine r_idivP F ⟨by omega, by omega⟩ ⟨by omega, by omega⟩ (by omega) (by omega) dX6_hasBlock_12 rfl ?_
    refine r_icmp_gt F (tgt := 20) ⟨by omega, by omega⟩ ⟨by omega, by omega⟩ dX6_hasBlock_13 rfl (by decide) (fun h_13 => ?_) (fun h_13 => ?_)
    ·
      refine r_iconst F dX6_hasBlock_20 rfl ?_
      exact r_zret F Rt (by omega) dX6_hasBlock_21 (by decide) ⟨by simp only [ja_b]; split <;> first | rfl | (exfalso; omega), rfl, rfl, rfl⟩
    ·
      refine r_iconst F dX6_hasBlock_16 rfl ?_
      refine r_goto F (tgt := 21) dX6_hasBlock_17 (by decide) ?_
      exact r_zret F Rt (by omega) dX6_hasBlock_21 (by decide) ⟨by simp only [ja_b]; split <;> first | rfl | (exfalso; omega), rfl, rfl, rfl⟩
abbrev rm_X6_hasPacket : Room := { frames := 2, cells := 0, slots := 0, locals := 41 }
set_option maxRecDepth 100000 in
set_option maxHeartbeats 4000000 in
theorem c_X6_hasPacket (l : Launch) (D : va_G) (cA : Nat → ClassId) (B : Nat) {lay : ja_Y} {mem : ja_M} {n : Nat} {s : Nat} {r k i : Int} (hS : ja_LS lay s) (hO : ja_SO mem s) (hr : 0 ≤ r ∧ r ≤ 1) (hk : ja_in k) (hi : ja_in i) : ja_Mt l D cA B yX6_hasPacket cX6_hasPacket 4 (some .boolean) rm_X6_hasPacket [.ref s, .int (ja_I r), .int (ja_I k), .int (ja_I i)] lay mem n (ja_rd lay mem n (some (.int (ja_I (ja_b (ja_hasP mem s r k i)))))) := by
  refine ja_enter [some (.ref s), some (.int (ja_I r)), some (.int (ja_I k)), some (.int (ja_I i))] (by decide) (Nat.le_of_ble_eq_true rfl) (fun q hq => hq) (fun C F Rt G hnm => ?_)
  have hO2 := hO
  obtain ⟨-, -, -, h3, h4, -⟩ := hO2
  obtain ⟨hi1, hi2⟩ := hi
  have hb : ∀ p : Prop, [Decidable p] → 0 ≤ ja_b p ∧ ja_b p ≤ 1 := fun p _ => by unfold ja_b; split <;> omega
  have hb1 := hb (ja_hasB mem s k)
  have hbt : ja_b (ja_hasB mem s k) = 0 ↔ ¬ ja_hasB mem s k := by unfold ja_b; split <;> simp_all
  refine r_aload_n F rfl rfl dX6_hasPacket_0 rfl ?_
  refine r_iload_n F rfl rfl dX6_hasPacket_1 rfl ?_
  refine r_callV F G (c_X6_hasBlock _ _ _ _ hS hO hk) v_X6_44 rfl hS rfl (by decide) (by decide) (Nat.le_of_ble_eq_true rfl) rfl dX6_hasPacket_2 rfl (fun v lay' mem' n' hp => ?_)
  obtain ⟨q1, q2, q3, q4⟩ := hp
  subst q1; subst q2; subst q3; subst q4
  refine r_if_eq F (tgt := 35) ⟨by omega, by omega⟩ dX6_hasPacket_5 rfl (by decide) (fun h_5 => ?_) (fun h_5 => ?_)
  ·
    refine r_iconst F dX6_hasPacket_35 rfl ?_
    exact r_zret F Rt (by omega) dX6_hasPacket_36 (by decide) ⟨by simp only [ja_b]; split <;> first | rfl | (exfalso; simp_all; omega) | (exfalso; simp_all), rfl, rfl, rfl⟩
  ·
    refine r_iload_n F rfl rfl dX6_hasPacket_8 rfl ?_
    refine r_if_lt F (tgt := 35) ⟨by omega, by omega⟩ dX6_hasPacket_9 rfl (by decide) (fun h_9 => ?_) (fun h_9 => ?_)
    ·
      refine r_iconst F dX6_hasPacket_35 rfl ?_
      exact r_zret F Rt (by omega) dX6_hasPacket_36 (by decide) ⟨by simp only [ja_b]; split <;> first | rfl | (exfalso; simp_all; omega) | (exfalso; simp_all), rfl, rfl, rfl⟩
    ·
      refine r_iload_n F rfl rfl dX6_hasPacket_12 rfl ?_
      refine r_iload_n F rfl rfl dX6_hasPacket_13 rfl ?_
      refine r_if_eq F (tgt := 24) ⟨by omega, by omega⟩ dX6_hasPacket_14 rfl (by decide) (fun h_14 => ?_) (fun h_14 => ?_)
      ·
        refine r_aload_n F rfl rfl dX6_hasPacket_24 rfl ?_
        refine r_getI F f_X6_21 hS rfl dX6_hasPacket_25 rfl ?_
        refine r_icmp_ge F (tgt := 35) ⟨by omega, by omega⟩ ⟨by omega, by omega⟩ dX6_hasPacket_28 rfl (by decide) (fun h_28 => ?_) (fun h_28 => ?_)
        ·
          refine r_iconst F dX6_hasPacket_35 rfl ?_
          exact r_zret F Rt (by omega) dX6_hasPacket_36 (by decide) ⟨by simp only [ja_b]; split <;> first | rfl | (exfalso; simp_all; omega) | (exfalso; simp_all), rfl, rfl, rfl⟩
        ·
          refine r_iconst F dX6_hasPacket_31 rfl ?_
          refine r_goto F (tgt := 36) dX6_hasPacket_32 (by decide) ?_
          exact r_zret F Rt (by omega) dX6_hasPacket_36 (by decide) ⟨by simp only [ja_b]; split <;> first | rfl | (exfalso; simp_all; omega) | (exfalso; simp_all), rfl, rfl, rfl⟩
      ·
        refine r_aload_n F rfl rfl dX6_hasPacket_17 rfl ?_
        refine r_getI F f_X6_24 hS rfl dX6_hasPacket_18 rfl ?_
        refine r_goto F (tgt := 28) dX6_hasPacket_21 (by decide) ?_
        refine r_icmp_ge F (tgt := 35) ⟨by omega, by omega⟩ ⟨by omega, by omega⟩ dX6_hasPacket_28 rfl (by decide) (fun h_28 => ?_) (fun h_28 => ?_)
        ·
          refine r_iconst F dX6_hasPacket_35 rfl ?_
          exact r_zret F Rt (by omega) dX6_hasPacket_36 (by decide) ⟨by simp only [ja_b]; split <;> first | rfl | (exfalso; simp_all; omega) | (exfalso; simp_all), rfl, rfl, rfl⟩
        ·
          refine r_iconst F dX6_hasPacket_31 rfl ?_
          refine r_goto F (tgt := 36) dX6_hasPacket_32 (by decide) ?_
          exact r_zret F Rt (by omega) dX6_hasPacket_36 (by decide) ⟨by simp only [ja_b]; split <;> first | rfl | (exfalso; simp_all; omega) | (exfalso; simp_all), rfl, rfl, rfl⟩
abbrev rm_X6_coveredFrame : Room := { frames := 1, cells := 0, slots := 0, locals := 20 }
set_option maxRecDepth 100000 in
set_option maxHeartbeats 4000000 in
theorem c_X6_coveredFrame (l : Launch) (D : va_G) (cA : Nat → ClassId) (B : Nat) {lay : ja_Y} {mem : ja_M} {n : Nat} {s : Nat} {r k i j : Int} (hS : ja_LS lay s) (hr : 0 ≤ r ∧ r ≤ 1) : ja_Mt l D cA B yX6_coveredFrame cX6_coveredFrame 6 (some .int) rm_X6_coveredFrame [.ref s, .int (ja_I r), .int (ja_I k), .int (ja_I i), .int (ja_I j)] lay mem n (ja_rd lay mem n (some (.int (ja_I (ja_cov mem s r k i j))))) := by
  refine ja_enter [some (.ref s), some (.int (ja_I r)), some (.int (ja_I k)), some (.int (ja_I i)), some (.int (ja_I j)), none] (by decide) (Nat.le_of_ble_eq_true rfl) (fun q hq => hq) (fun C F Rt G hnm => ?_)
  refine r_iload_n F rfl rfl dX6_coveredFrame_0 rfl ?_
  refine r_if_eq F (tgt := 16) ⟨by omega, by omega⟩ dX6_coveredFrame_1 rfl (by decide) (fun h_1 => ?_) (fun h_1 => ?_)
  ·
    refine r_iload F rfl dX6_coveredFrame_16 rfl ?_
    refine r_aload_n F rfl rfl dX6_coveredFrame_18 rfl ?_
    refine r_getI F f_X6_21 hS rfl dX6_coveredFrame_19 rfl ?_
    refine r_imul F dX6_coveredFrame_22 rfl ?_
    refine r_iload_n F rfl rfl dX6_coveredFrame_23 rfl ?_
    refine r_iadd F dX6_coveredFrame_24 rfl ?_
    refine r_ist5 F (by decide) rfl dX6_coveredFrame_25 rfl ?_
    refine r_iload_n F rfl rfl dX6_coveredFrame_27 rfl ?_
    refine r_aload_n F rfl rfl dX6_coveredFrame_28 rfl ?_
    refine r_callV F G (c_X6_cells _ _ _ _ hS) v_X6_40 rfl hS rfl (by decide) (by decide) (Nat.le_of_ble_eq_true rfl) rfl dX6_coveredFrame_29 rfl (fun v lay' mem' n' hp => ?_)
    obtain ⟨q1, q2, q3, q4⟩ := hp
    subst q1; subst q2; subst q3; subst q4
    refine r_imul F dX6_coveredFrame_32 rfl ?_
    refine r_iload F rfl dX6_coveredFrame_33 rfl ?_
    refine r_iadd F dX6_coveredFrame_35 rfl ?_
    exact r_iret F Rt dX6_coveredFrame_36 (by decide) ⟨by simp only [ja_cov]; split <;> first | rfl | (exfalso; omega), rfl, rfl, rfl⟩
  ·
    refine r_iload_n F rfl rfl dX6_coveredFrame_4 rfl ?_
    refine r_aload_n F rfl rfl dX6_coveredFrame_5 rfl ?_
    refine r_getI F f_X6_21 hS rfl dX6_coveredFrame_6 rfl ?_
    refine r_imul F dX6_coveredFrame_9 rfl ?_
    refine r_iload F rfl dX6_coveredFrame_10 rfl ?_
    refine r_iadd F dX6_coveredFrame_12 rfl ?_
    refine r_goto F (tgt := 25) dX6_coveredFrame_13 (by decide) ?_
    refine r_ist5 F (by decide) rfl dX6_coveredFrame_25 rfl ?_
    refine r_iload_n F rfl rfl dX6_coveredFrame_27 rfl ?_
    refine r_aload_n F rfl rfl dX6_coveredFrame_28 rfl ?_
    refine r_callV F G (c_X6_cells _ _ _ _ hS) v_X6_40 rfl hS rfl (by decide) (by decide) (Nat.le_of_ble_eq_true rfl) rfl dX6_coveredFrame_29 rfl (fun v lay' mem' n' hp => ?_)
    obtain ⟨q1, q2, q3, q4⟩ := hp
    subst q1; subst q2; subst q3; subst q4
    refine r_imul F dX6_coveredFrame_32 rfl ?_
    refine r_iload F rfl dX6_coveredFrame_33 rfl ?_
    refine r_iadd F dX6_coveredFrame_35 rfl ?_
    exact r_iret F Rt dX6_coveredFrame_36 (by decide) ⟨by simp only [ja_cov]; split <;> first | rfl | (exfalso; omega), rfl, rfl, rfl⟩
