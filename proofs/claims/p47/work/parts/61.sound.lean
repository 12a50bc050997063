abbrev rm_L_sound : Room := { frames := 5, cells := 0, slots := 0, locals := 108 }
set_option maxRecDepth 100000 in
set_option maxHeartbeats 4000000 in
theorem c_L_sound (l : Launch) (D : va_G) (cA : Nat → ClassId) (B : Nat) {lay : ja_Y} {mem : ja_M} {n : Nat} {y : Nat} {sl : Nat → Option Nat} {t : Int} {v : Nat → Int} {nn : Int} (h : I7 lay mem n y sl t v) (hn : mem (y + 1 + 1) 0 = nn) : ja_Mt l D cA B yL_sound cL_sound 7 (some .boolean) rm_L_sound [.ref y, .int (ja_I nn)] lay mem n (ja_rd lay mem n (some (.int (ja_I 1)))) := by
  refine ja_enter [some (.ref y), some (.int (ja_I nn)), none, none, none, none, none] (by decide) (Nat.le_of_ble_eq_true rfl) (fun q hq => hq) (fun C F Rt G hnm => ?_)
  obtain ⟨hB, hO, -⟩ := id h
  have hs := I7_s h
  have hlv := I7_lev h
  rw [hn] at hs hlv
  obtain ⟨⟨s1, s2, s3, s4, s5, s6⟩, ⟨s7, s8⟩, ⟨s9, s10, s11⟩, ⟨s12, s13, s14⟩, ⟨s15, s16⟩, ⟨s17, s18⟩, s19, s20⟩ := hs
  obtain ⟨⟨v1, v2⟩, v3⟩ := hlv
  obtain ⟨⟨w1, w2⟩, ⟨w3, w4⟩, w5⟩ := I7_los h
  obtain ⟨nx, hnx⟩ : ∃ z, z = (if 999 < mem (y + 1 + 9) 6 then -1004 else mem (y + 1 + 9) 6) := ⟨_, rfl⟩
  have nxf : (nx = -1004 ∧ mem (y + 1 + 9) 6 = 1000) ∨ (mem (y + 1 + 9) 6 ≤ 999 ∧ nx = mem (y + 1 + 9) 6) := by rw [hnx]; split <;> omega
  obtain ⟨tq, htq⟩ : ∃ z, z = (if mem (y + 1 + 9) 6 = 0 then 1 else mem (y + 1 + 9) 6) := ⟨_, rfl⟩
  have tqf : (mem (y + 1 + 9) 6 = 0 ∧ tq = 1) ∨ (¬ mem (y + 1 + 9) 6 = 0 ∧ tq = mem (y + 1 + 9) 6) := by rw [htq]; split <;> omega
  rw [← htq] at w5
  have m1 := ja_mulb (a := B_los mem y 0) (b := tq) (A := 1000) (B := 1000) w3 w4 (by omega) (by omega)
  clear htq
  have J20 : ja_W C 0 0 lay mem n 20 [some (.ref (y)), some (.int (ja_I (nn))), none, none, none, none, none] [.int (ja_I (mem (y + 1 + 9) 6))] := by
    refine r_ist2 F (by decide) rfl dL_sound_20 rfl ?_
    refine r_aload_n F rfl rfl dL_sound_21 rfl ?_
    refine r_iconst F dL_sound_22 rfl ?_
    refine r_callV F G (c_X8_taken _ _ _ _ hB hO ⟨by omega, by omega⟩) v_L_15 rfl (hB.1) rfl (by decide) (by decide) (Nat.le_of_ble_eq_true rfl) rfl dL_sound_23 rfl (fun v lay' mem' n' hp => ?_)
    obtain ⟨q1, q2, q3, q4⟩ := hp
    subst q1; subst q2; subst q3; subst q4
    refine r_eqz (z := mem (y + 1 + 14) 0) (e_t1) ?_
    refine r_aload_n F rfl rfl dL_sound_26 rfl ?_
    refine r_iconst F dL_sound_27 rfl ?_
    refine r_callV F G (c_X8_taken _ _ _ _ hB hO ⟨by omega, by omega⟩) v_L_15 rfl (hB.1) rfl (by decide) (by decide) (Nat.le_of_ble_eq_true rfl) rfl dL_sound_28 rfl (fun v lay' mem' n' hp => ?_)
    obtain ⟨q1, q2, q3, q4⟩ := hp
    subst q1; subst q2; subst q3; subst q4
    refine r_eqz (z := mem (y + 1 + 14) 1) (e_t2) ?_
    refine r_iadd F dL_sound_31 rfl ?_
    refine r_aload_n F rfl rfl dL_sound_32 rfl ?_
    refine r_iconst F dL_sound_33 rfl ?_
    refine r_callV F G (c_X8_taken _ _ _ _ hB hO ⟨by omega, by omega⟩) v_L_15 rfl (hB.1) rfl (by decide) (by decide) (Nat.le_of_ble_eq_true rfl) rfl dL_sound_34 rfl (fun v lay' mem' n' hp => ?_)
    obtain ⟨q1, q2, q3, q4⟩ := hp
    subst q1; subst q2; subst q3; subst q4
    refine r_eqz (z := mem (y + 1 + 14) 2) (e_t3) ?_
    refine r_iadd F dL_sound_37 rfl ?_
    refine r_iload_n F rfl rfl dL_sound_38 rfl ?_
    refine r_icmp_ne F (tgt := 88) ⟨by omega, by omega⟩ ⟨by omega, by omega⟩ dL_sound_39 rfl (by decide) (fun h_39 => ?_) (fun h_39 => ?_)
    ·
      exfalso; omega
    ·
      refine r_aload_n F rfl rfl dL_sound_42 rfl ?_
      refine r_callV F G (c_X8_left _ _ _ _ hB hO) v_L_19 rfl (hB.1) rfl (by decide) (by decide) (Nat.le_of_ble_eq_true rfl) rfl dL_sound_43 rfl (fun v lay' mem' n' hp => ?_)
      obtain ⟨q1, q2, q3, q4⟩ := hp
      subst q1; subst q2; subst q3; subst q4
      refine r_if_lt F (tgt := 88) ⟨by omega, by omega⟩ dL_sound_46 rfl (by decide) (fun h_46 => ?_) (fun h_46 => ?_)
      ·
        exfalso; omega
      ·
        refine r_aload_n F rfl rfl dL_sound_49 rfl ?_
        refine r_callV F G (c_X8_left _ _ _ _ hB hO) v_L_19 rfl (hB.1) rfl (by decide) (by decide) (Nat.le_of_ble_eq_true rfl) rfl dL_sound_50 rfl (fun v lay' mem' n' hp => ?_)
        obtain ⟨q1, q2, q3, q4⟩ := hp
        subst q1; subst q2; subst q3; subst q4
        refine r_iload_n F rfl rfl dL_sound_53 rfl ?_
        refine r_iload_n F rfl rfl dL_sound_54 rfl ?_
        refine r_iconst F dL_sound_55 rfl ?_
        refine r_idivP F ⟨by omega, by omega⟩ ⟨by omega, by omega⟩ (by omega) (by omega) dL_sound_56 rfl ?_
        refine r_iadd F dL_sound_57 rfl ?_
        refine r_icmp_gt F (tgt := 88) ⟨by omega, by omega⟩ ⟨by omega, by omega⟩ dL_sound_58 rfl (by decide) (fun h_58 => ?_) (fun h_58 => ?_)
        ·
          exfalso; omega
        ·
          refine r_aload_n F rfl rfl dL_sound_61 rfl ?_
          refine r_callV F G (c_X8_stretched _ _ _ _ hB hO) v_L_22 rfl (hB.1) rfl (by decide) (by decide) (Nat.le_of_ble_eq_true rfl) rfl dL_sound_62 rfl (fun v lay' mem' n' hp => ?_)
          obtain ⟨q1, q2, q3, q4⟩ := hp
          subst q1; subst q2; subst q3; subst q4
          refine r_aload_n F rfl rfl dL_sound_65 rfl ?_
          refine r_callV F G (c_X8_compressed _ _ _ _ hB hO) v_L_25 rfl (hB.1) rfl (by decide) (by decide) (Nat.le_of_ble_eq_true rfl) rfl dL_sound_66 rfl (fun v lay' mem' n' hp => ?_)
          obtain ⟨q1, q2, q3, q4⟩ := hp
          subst q1; subst q2; subst q3; subst q4
          refine r_iadd F dL_sound_69 rfl ?_
          refine r_aload_n F rfl rfl dL_sound_70 rfl ?_
          refine r_iconst F dL_sound_71 rfl ?_
          refine r_callV F G (c_X8_taken _ _ _ _ hB hO ⟨by omega, by omega⟩) v_L_15 rfl (hB.1) rfl (by decide) (by decide) (Nat.le_of_ble_eq_true rfl) rfl dL_sound_72 rfl (fun v lay' mem' n' hp => ?_)
          obtain ⟨q1, q2, q3, q4⟩ := hp
          subst q1; subst q2; subst q3; subst q4
          refine r_eqz (z := mem (y + 1 + 14) 0) (e_t1) ?_
          refine r_aload_n F rfl rfl dL_sound_75 rfl ?_
          refine r_iconst F dL_sound_76 rfl ?_
          refine r_callV F G (c_X8_taken _ _ _ _ hB hO ⟨by omega, by omega⟩) v_L_15 rfl (hB.1) rfl (by decide) (by decide) (Nat.le_of_ble_eq_true rfl) rfl dL_sound_77 rfl (fun v lay' mem' n' hp => ?_)
          obtain ⟨q1, q2, q3, q4⟩ := hp
          subst q1; subst q2; subst q3; subst q4
          refine r_eqz (z := mem (y + 1 + 14) 1) (e_t2) ?_
          refine r_iadd F dL_sound_80 rfl ?_
          refine r_icmp_gt F (tgt := 88) ⟨by omega, by omega⟩ ⟨by omega, by omega⟩ dL_sound_81 rfl (by decide) (fun h_81 => ?_) (fun h_81 => ?_)
          ·
            exfalso; omega
          ·
            refine r_iconst F dL_sound_84 rfl ?_
            refine r_goto F (tgt := 89) dL_sound_85 (by decide) ?_
            refine r_ist3 F (by decide) rfl dL_sound_89 rfl ?_
            refine r_iload_n F rfl rfl dL_sound_90 rfl ?_
            refine r_if_eq F (tgt := 157) ⟨by omega, by omega⟩ dL_sound_91 rfl (by decide) (fun h_91 => ?_) (fun h_91 => ?_)
            ·
              exfalso; omega
            ·
              refine r_aload_n F rfl rfl dL_sound_94 rfl ?_
              refine r_callV F G (c_X8_longestGap _ _ _ _ hB hO) v_L_28 rfl (hB.1) rfl (by decide) (by decide) (Nat.le_of_ble_eq_true rfl) rfl dL_sound_95 rfl (fun v lay' mem' n' hp => ?_)
              obtain ⟨q1, q2, q3, q4⟩ := hp
              subst q1; subst q2; subst q3; subst q4
              refine r_aload_n F rfl rfl dL_sound_98 rfl ?_
              refine r_iconst F dL_sound_99 rfl ?_
              refine r_callV F G (c_X8_taken _ _ _ _ hB hO ⟨by omega, by omega⟩) v_L_15 rfl (hB.1) rfl (by decide) (by decide) (Nat.le_of_ble_eq_true rfl) rfl dL_sound_100 rfl (fun v lay' mem' n' hp => ?_)
              obtain ⟨q1, q2, q3, q4⟩ := hp
              subst q1; subst q2; subst q3; subst q4
              refine r_eqz (z := mem (y + 1 + 14) 2) (e_t3) ?_
              refine r_icmp_gt F (tgt := 157) ⟨by omega, by omega⟩ ⟨by omega, by omega⟩ dL_sound_103 rfl (by decide) (fun h_103 => ?_) (fun h_103 => ?_)
              ·
                exfalso; omega
              ·
                have J121 : ja_W C 0 0 lay mem n 121 [some (.ref (y)), some (.int (ja_I (nn))), some (.int (ja_I (mem (y + 1 + 9) 6))), some (.int (ja_I (1))), none, none, none] [] := by
                  refine r_aload_n F rfl rfl dL_sound_121 rfl ?_
                  refine r_callV F G (c_X8_transits _ _ _ _ hB hO) v_L_31 rfl (hB.1) rfl (by decide) (by decide) (Nat.le_of_ble_eq_true rfl) rfl dL_sound_122 rfl (fun v lay' mem' n' hp => ?_)
                  obtain ⟨q1, q2, q3, q4⟩ := hp
                  subst q1; subst q2; subst q3; subst q4
                  refine r_if_lt F (tgt := 157) ⟨by omega, by omega⟩ dL_sound_125 rfl (by decide) (fun h_125 => ?_) (fun h_125 => ?_)
                  ·
                    exfalso; omega
                  ·
                    refine r_aload_n F rfl rfl dL_sound_128 rfl ?_
                    refine r_callV F G (c_X8_transits _ _ _ _ hB hO) v_L_31 rfl (hB.1) rfl (by decide) (by decide) (Nat.le_of_ble_eq_true rfl) rfl dL_sound_129 rfl (fun v lay' mem' n' hp => ?_)
                    obtain ⟨q1, q2, q3, q4⟩ := hp
                    subst q1; subst q2; subst q3; subst q4
                    refine r_bipush F (by decide) dL_sound_132 rfl ?_
                    refine r_icmp_gt F (tgt := 157) ⟨by omega, by omega⟩ ⟨by omega, by omega⟩ dL_sound_134 rfl (by decide) (fun h_134 => ?_) (fun h_134 => ?_)
                    ·
                      exfalso; omega
                    ·
                      refine r_aload_n F rfl rfl dL_sound_137 rfl ?_
                      refine r_callV F G (c_X8_level _ _ _ _ hB hO) v_L_34 rfl (hB.1) rfl (by decide) (by decide) (Nat.le_of_ble_eq_true rfl) rfl dL_sound_138 rfl (fun v lay' mem' n' hp => ?_)
                      obtain ⟨q1, q2, q3, q4⟩ := hp
                      subst q1; subst q2; subst q3; subst q4
                      refine r_if_lt F (tgt := 157) ⟨by omega, by omega⟩ dL_sound_141 rfl (by decide) (fun h_141 => ?_) (fun h_141 => ?_)
                      ·
                        exfalso; omega
                      ·
                        refine r_aload_n F rfl rfl dL_sound_144 rfl ?_
                        refine r_callV F G (c_X8_level _ _ _ _ hB hO) v_L_34 rfl (hB.1) rfl (by decide) (by decide) (Nat.le_of_ble_eq_true rfl) rfl dL_sound_145 rfl (fun v lay' mem' n' hp => ?_)
                        obtain ⟨q1, q2, q3, q4⟩ := hp
                        subst q1; subst q2; subst q3; subst q4
                        refine r_iload_n F rfl rfl dL_sound_148 rfl ?_
                        refine r_iremP F ⟨by omega, by omega⟩ ⟨by omega, by omega⟩ (by omega) (by omega) dL_sound_149 rfl ?_
                        refine r_if_ne F (tgt := 157) ⟨by omega, by omega⟩ dL_sound_150 rfl (by decide) (fun h_150 => ?_) (fun h_150 => ?_)
                        ·
                          exfalso; omega
                        ·
                          refine r_iconst F dL_sound_153 rfl ?_
                          refine r_goto F (tgt := 158) dL_sound_154 (by decide) ?_
                          refine r_ist3 F (by decide) rfl dL_sound_158 rfl ?_
                          refine r_iload_n F rfl rfl dL_sound_159 rfl ?_
                          refine r_if_eq F (tgt := 226) ⟨by omega, by omega⟩ dL_sound_160 rfl (by decide) (fun h_160 => ?_) (fun h_160 => ?_)
                          ·
                            exfalso; omega
                          ·
                            refine r_aload_n F rfl rfl dL_sound_163 rfl ?_
                            refine r_iconst F dL_sound_164 rfl ?_
                            refine r_callV F G (c_X8_loss _ _ _ _ hB hO ⟨by decide, by decide⟩) v_L_37 rfl (hB.1) rfl (by decide) (by decide) (Nat.le_of_ble_eq_true rfl) rfl dL_sound_165 rfl (fun v lay' mem' n' hp => ?_)
                            obtain ⟨q1, q2, q3, q4⟩ := hp
                            subst q1; subst q2; subst q3; subst q4
                            refine r_if_le F (tgt := 226) ⟨by omega, by omega⟩ dL_sound_168 rfl (by decide) (fun h_168 => ?_) (fun h_168 => ?_)
                            ·
                              exfalso; omega
                            ·
                              refine r_aload_n F rfl rfl dL_sound_171 rfl ?_
                              refine r_iconst F dL_sound_172 rfl ?_
                              refine r_callV F G (c_X8_loss _ _ _ _ hB hO ⟨by decide, by decide⟩) v_L_37 rfl (hB.1) rfl (by decide) (by decide) (Nat.le_of_ble_eq_true rfl) rfl dL_sound_173 rfl (fun v lay' mem' n' hp => ?_)
                              obtain ⟨q1, q2, q3, q4⟩ := hp
                              subst q1; subst q2; subst q3; subst q4
                              have J185 : ja_W C 0 0 lay mem n 185 [some (.ref (y)), some (.int (ja_I (nn))), some (.int (ja_I (mem (y + 1 + 9) 6))), some (.int (ja_I (1))), none, none, none] [.int (ja_I (tq)), .int (ja_I (B_los mem y 0))] := by
                                refine r_imul F dL_sound_185 rfl ?_
                                refine r_aload_n F rfl rfl dL_sound_186 rfl ?_
                                refine r_iconst F dL_sound_187 rfl ?_
                                refine r_callV F G (c_X8_taken _ _ _ _ hB hO ⟨by omega, by omega⟩) v_L_15 rfl (hB.1) rfl (by decide) (by decide) (Nat.le_of_ble_eq_true rfl) rfl dL_sound_188 rfl (fun v lay' mem' n' hp => ?_)
                                obtain ⟨q1, q2, q3, q4⟩ := hp
                                subst q1; subst q2; subst q3; subst q4
                                refine r_eqz (z := mem (y + 1 + 14) 2) (e_t3) ?_
                                refine r_aload_n F rfl rfl dL_sound_191 rfl ?_
                                refine r_iconst F dL_sound_192 rfl ?_
                                refine r_callV F G (c_X8_loss _ _ _ _ hB hO ⟨by decide, by decide⟩) v_L_37 rfl (hB.1) rfl (by decide) (by decide) (Nat.le_of_ble_eq_true rfl) rfl dL_sound_193 rfl (fun v lay' mem' n' hp => ?_)
                                obtain ⟨q1, q2, q3, q4⟩ := hp
                                subst q1; subst q2; subst q3; subst q4
                                refine r_imul F dL_sound_196 rfl ?_
                                refine r_icmp_ne F (tgt := 226) ⟨by omega, by omega⟩ ⟨by omega, by omega⟩ dL_sound_197 rfl (by decide) (fun h_197 => ?_) (fun h_197 => ?_)
                                ·
                                  exfalso; omega
                                ·
                                  refine r_aload_n F rfl rfl dL_sound_200 rfl ?_
                                  refine r_iconst F dL_sound_201 rfl ?_
                                  refine r_callV F G (c_X8_taken _ _ _ _ hB hO ⟨by omega, by omega⟩) v_L_15 rfl (hB.1) rfl (by decide) (by decide) (Nat.le_of_ble_eq_true rfl) rfl dL_sound_202 rfl (fun v lay' mem' n' hp => ?_)
                                  obtain ⟨q1, q2, q3, q4⟩ := hp
                                  subst q1; subst q2; subst q3; subst q4
                                  refine r_eqz (z := -1001) (if_neg (by decide)) ?_
                                  refine r_sipush F (by decide) dL_sound_205 rfl ?_
                                  refine r_icmp_ne F (tgt := 226) ⟨by omega, by omega⟩ ⟨by omega, by omega⟩ dL_sound_208 rfl (by decide) (fun h_208 => ?_) (fun h_208 => ?_)
                                  ·
                                    exfalso; omega
                                  ·
                                    refine r_aload_n F rfl rfl dL_sound_211 rfl ?_
                                    refine r_iconst F dL_sound_212 rfl ?_
                                    refine r_callV F G (c_X8_taken _ _ _ _ hB hO ⟨by omega, by omega⟩) v_L_15 rfl (hB.1) rfl (by decide) (by decide) (Nat.le_of_ble_eq_true rfl) rfl dL_sound_213 rfl (fun v lay' mem' n' hp => ?_)
                                    obtain ⟨q1, q2, q3, q4⟩ := hp
                                    subst q1; subst q2; subst q3; subst q4
                                    refine r_eqz (z := -1001) (if_neg (by decide)) ?_
                                    refine r_sipush F (by decide) dL_sound_216 rfl ?_
                                    refine r_icmp_ne F (tgt := 226) ⟨by omega, by omega⟩ ⟨by omega, by omega⟩ dL_sound_219 rfl (by decide) (fun h_219 => ?_) (fun h_219 => ?_)
                                    ·
                                      exfalso; omega
                                    ·
                                      refine r_iconst F dL_sound_222 rfl ?_
                                      refine r_goto F (tgt := 227) dL_sound_223 (by decide) ?_
                                      refine r_ist3 F (by decide) rfl dL_sound_227 rfl ?_
                                      refine r_iconst F dL_sound_228 rfl ?_
                                      refine r_ist4 F (by decide) rfl dL_sound_229 rfl ?_
                                      have loop : ∀ (d k : Nat), k + d = 20 → ja_W C 0 0 lay (mem) n 231 [some (.ref y), some (.int (ja_I nn)), some (.int (ja_I (mem (y + 1 + 9) 6))), some (.int (ja_I 1)), some (.int (ja_I ((k : Int) + 1))), none, none] [] := by
                                        intro d
                                        induction d with
                                        | zero =>
                                          intro k hk
                                          refine r_iload F rfl dL_sound_231 rfl ?_
                                          refine r_bipush F (by decide) dL_sound_233 rfl ?_
                                          refine r_icmp_gt F (tgt := 348) ⟨by omega, by omega⟩ ⟨by omega, by omega⟩ dL_sound_235 rfl (by decide) (fun h_235 => ?_) (fun h_235 => ?_)
                                          ·
                                            refine r_iconst F dL_sound_348 rfl ?_
                                            refine r_ist4 F (by decide) rfl dL_sound_349 rfl ?_
                                            have loop2 : ∀ (d k : Nat), k + d = (mem (y + 1 + 6) 2 - 1).toNat → ja_W C 0 0 lay (mem) n 351 [some (.ref y), some (.int (ja_I nn)), some (.int (ja_I (mem (y + 1 + 9) 6))), some (.int (ja_I 1)), some (.int (ja_I ((k : Int) + 1))), none, none] [] := by
                                              intro d
                                              induction d with
                                              | zero =>
                                                intro k hk
                                                refine r_iload F rfl dL_sound_351 rfl ?_
                                                refine r_aload_n F rfl rfl dL_sound_353 rfl ?_
                                                refine r_callV F G (c_X8_transits _ _ _ _ hB hO) v_L_31 rfl (hB.1) rfl (by decide) (by decide) (Nat.le_of_ble_eq_true rfl) rfl dL_sound_354 rfl (fun v lay' mem' n' hp => ?_)
                                                obtain ⟨q1, q2, q3, q4⟩ := hp
                                                subst q1; subst q2; subst q3; subst q4
                                                refine r_icmp_ge F (tgt := 393) ⟨by omega, by omega⟩ ⟨by omega, by omega⟩ dL_sound_357 rfl (by decide) (fun h_357 => ?_) (fun h_357 => ?_)
                                                ·
                                                  refine r_iload_n F rfl rfl dL_sound_393 rfl ?_
                                                  refine r_if_eq F (tgt := 437) ⟨by omega, by omega⟩ dL_sound_394 rfl (by decide) (fun h_394 => ?_) (fun h_394 => ?_)
                                                  ·
                                                    exfalso; omega
                                                  ·
                                                    refine r_aload_n F rfl rfl dL_sound_397 rfl ?_
                                                    refine r_iconst F dL_sound_398 rfl ?_
                                                    refine r_callV F G (c_X8_output _ _ _ _ hB hO ⟨by omega, by omega⟩) v_L_41 rfl (hB.1) rfl (by decide) (by decide) (Nat.le_of_ble_eq_true rfl) rfl dL_sound_399 rfl (fun v lay' mem' n' hp => ?_)
                                                    obtain ⟨q1, q2, q3, q4⟩ := hp
                                                    subst q1; subst q2; subst q3; subst q4
                                                    refine r_eqz (z := -1001) (if_neg (by decide)) ?_
                                                    refine r_sipush F (by decide) dL_sound_402 rfl ?_
                                                    refine r_icmp_ne F (tgt := 437) ⟨by omega, by omega⟩ ⟨by omega, by omega⟩ dL_sound_405 rfl (by decide) (fun h_405 => ?_) (fun h_405 => ?_)
                                                    ·
                                                      exfalso; omega
                                                    ·
                                                      refine r_aload_n F rfl rfl dL_sound_408 rfl ?_
                                                      refine r_sipush F (by decide) dL_sound_409 rfl ?_
                                                      refine r_callV F G (c_X8_output _ _ _ _ hB hO ⟨by omega, by omega⟩) v_L_41 rfl (hB.1) rfl (by decide) (by decide) (Nat.le_of_ble_eq_true rfl) rfl dL_sound_412 rfl (fun v lay' mem' n' hp => ?_)
                                                      obtain ⟨q1, q2, q3, q4⟩ := hp
                                                      subst q1; subst q2; subst q3; subst q4
                                                      refine r_eqz (z := -1001) (if_neg (by decide)) ?_
                                                      refine r_sipush F (by decide) dL_sound_415 rfl ?_
                                                      refine r_icmp_ne F (tgt := 437) ⟨by omega, by omega⟩ ⟨by omega, by omega⟩ dL_sound_418 rfl (by decide) (fun h_418 => ?_) (fun h_418 => ?_)
                                                      ·
                                                        exfalso; omega
                                                      ·
                                                        refine r_aload_n F rfl rfl dL_sound_421 rfl ?_
                                                        refine r_bipush F (by decide) dL_sound_422 rfl ?_
                                                        refine r_callV F G (c_X8_kind _ _ _ _ hB hO ⟨by omega, by omega⟩) v_L_47 rfl (hB.1) rfl (by decide) (by decide) (Nat.le_of_ble_eq_true rfl) rfl dL_sound_424 rfl (fun v lay' mem' n' hp => ?_)
                                                        obtain ⟨q1, q2, q3, q4⟩ := hp
                                                        subst q1; subst q2; subst q3; subst q4
                                                        refine r_eqz (z := -1001) (if_neg (by decide)) ?_
                                                        refine r_sipush F (by decide) dL_sound_427 rfl ?_
                                                        refine r_icmp_ne F (tgt := 437) ⟨by omega, by omega⟩ ⟨by omega, by omega⟩ dL_sound_430 rfl (by decide) (fun h_430 => ?_) (fun h_430 => ?_)
                                                        ·
                                                          exfalso; omega
                                                        ·
                                                          refine r_iconst F dL_sound_433 rfl ?_
                                                          refine r_goto F (tgt := 438) dL_sound_434 (by decide) ?_
                                                          exact r_zret F Rt (by omega) dL_sound_438 (by decide) ⟨rfl, rfl, rfl, rfl⟩
                                                ·
                                                  exfalso; omega
                                              | succ d ih =>
                                                intro k hk
                                                refine r_iload F rfl dL_sound_351 rfl ?_
                                                refine r_aload_n F rfl rfl dL_sound_353 rfl ?_
                                                refine r_callV F G (c_X8_transits _ _ _ _ hB hO) v_L_31 rfl (hB.1) rfl (by decide) (by decide) (Nat.le_of_ble_eq_true rfl) rfl dL_sound_354 rfl (fun v lay' mem' n' hp => ?_)
                                                obtain ⟨q1, q2, q3, q4⟩ := hp
                                                subst q1; subst q2; subst q3; subst q4
                                                refine r_icmp_ge F (tgt := 393) ⟨by omega, by omega⟩ ⟨by omega, by omega⟩ dL_sound_357 rfl (by decide) (fun h_357 => ?_) (fun h_357 => ?_)
                                                ·
                                                  exfalso; omega
                                                ·
                                                  refine r_iload_n F rfl rfl dL_sound_360 rfl ?_
                                                  refine r_if_eq F (tgt := 393) ⟨by omega, by omega⟩ dL_sound_361 rfl (by decide) (fun h_361 => ?_) (fun h_361 => ?_)
                                                  ·
                                                    exfalso; omega
                                                  ·
                                                    have htra := I7_tra h (k := ((k : Int) + 1)) ⟨by omega, by omega⟩
                                                    have ti1 := e_tra_in h ((k : Int) + 1)
                                                    have ti2 := e_tra_in h (((k : Int) + 1) - 1)
                                                    refine r_aload_n F rfl rfl dL_sound_364 rfl ?_
                                                    refine r_iload F rfl dL_sound_365 rfl ?_
                                                    refine r_iconst F dL_sound_367 rfl ?_
                                                    refine r_isub F dL_sound_368 rfl ?_
                                                    refine r_callV F G (c_X8_transit _ _ _ _ hB hO ⟨by omega, by omega⟩) v_L_50 rfl (hB.1) rfl (by decide) (by decide) (Nat.le_of_ble_eq_true rfl) rfl dL_sound_369 rfl (fun v lay' mem' n' hp => ?_)
                                                    obtain ⟨q1, q2, q3, q4⟩ := hp
                                                    subst q1; subst q2; subst q3; subst q4
                                                    refine r_eqz (z := e_tra mem y (((k : Int) + 1) - 1)) (rfl) ?_
                                                    refine r_aload_n F rfl rfl dL_sound_372 rfl ?_
                                                    refine r_iload F rfl dL_sound_373 rfl ?_
                                                    refine r_callV F G (c_X8_transit _ _ _ _ hB hO ⟨by omega, by omega⟩) v_L_50 rfl (hB.1) rfl (by decide) (by decide) (Nat.le_of_ble_eq_true rfl) rfl dL_sound_375 rfl (fun v lay' mem' n' hp => ?_)
                                                    obtain ⟨q1, q2, q3, q4⟩ := hp
                                                    subst q1; subst q2; subst q3; subst q4
                                                    refine r_eqz (z := e_tra mem y ((k : Int) + 1)) (rfl) ?_
                                                    refine r_icmp_gt F (tgt := 385) ⟨by omega, by omega⟩ ⟨by omega, by omega⟩ dL_sound_378 rfl (by decide) (fun h_378 => ?_) (fun h_378 => ?_)
                                                    ·
                                                      exfalso; omega
                                                    ·
                                                      refine r_iconst F dL_sound_381 rfl ?_
                                                      refine r_goto F (tgt := 386) dL_sound_382 (by decide) ?_
                                                      refine r_ist3 F (by decide) rfl dL_sound_386 rfl ?_
                                                      refine r_inc4 F (by decide) rfl dL_sound_387 rfl ?_
                                                      refine r_goto F (tgt := 351) dL_sound_390 (by decide) ?_
                                                      refine r_msk [true, true, true, true, true, false, false] rfl ?_
                                                      exact ih (k + 1) (by omega)
                                            exact loop2 (mem (y + 1 + 6) 2 - 1).toNat 0 (by omega)
                                          ·
                                            exfalso; omega
                                        | succ d ih =>
                                          intro k hk
                                          refine r_iload F rfl dL_sound_231 rfl ?_
                                          refine r_bipush F (by decide) dL_sound_233 rfl ?_
                                          refine r_icmp_gt F (tgt := 348) ⟨by omega, by omega⟩ ⟨by omega, by omega⟩ dL_sound_235 rfl (by decide) (fun h_235 => ?_) (fun h_235 => ?_)
                                          ·
                                            exfalso; omega
                                          ·
                                            refine r_iload_n F rfl rfl dL_sound_238 rfl ?_
                                            refine r_if_eq F (tgt := 348) ⟨by omega, by omega⟩ dL_sound_239 rfl (by decide) (fun h_239 => ?_) (fun h_239 => ?_)
                                            ·
                                              exfalso; omega
                                            ·
                                              have hout := I7_out h (k := ((k : Int) + 1)) ⟨by omega, by omega⟩
                                              have hknd := I7_knd h (k := ((k : Int) + 1)) ⟨by omega, by omega⟩
                                              refine r_aload_n F rfl rfl dL_sound_242 rfl ?_
                                              refine r_iload F rfl dL_sound_243 rfl ?_
                                              refine r_callV F G (c_X8_output _ _ _ _ hB hO ⟨by omega, by omega⟩) v_L_41 rfl (hB.1) rfl (by decide) (by decide) (Nat.le_of_ble_eq_true rfl) rfl dL_sound_245 rfl (fun v lay' mem' n' hp => ?_)
                                              obtain ⟨q1, q2, q3, q4⟩ := hp
                                              subst q1; subst q2; subst q3; subst q4
                                              refine r_eqz (z := e_out mem y ((k : Int) + 1)) (rfl) ?_
                                              refine r_ist5 F (by decide) rfl dL_sound_248 rfl ?_
                                              have J294 : ja_W C 0 0 lay mem n 294 [some (.ref (y)), some (.int (ja_I (nn))), some (.int (ja_I (mem (y + 1 + 9) 6))), some (.int (ja_I (1))), some (.int (ja_I (((k : Int) + 1)))), some (.int (ja_I (e_out mem y ((k : Int) + 1)))), none] [.int (ja_I (1))] := by
                                                refine r_ist3 F (by decide) rfl dL_sound_294 rfl ?_
                                                refine r_aload_n F rfl rfl dL_sound_295 rfl ?_
                                                refine r_iload F rfl dL_sound_296 rfl ?_
                                                refine r_callV F G (c_X8_kind _ _ _ _ hB hO ⟨by omega, by omega⟩) v_L_47 rfl (hB.1) rfl (by decide) (by decide) (Nat.le_of_ble_eq_true rfl) rfl dL_sound_298 rfl (fun v lay' mem' n' hp => ?_)
                                                obtain ⟨q1, q2, q3, q4⟩ := hp
                                                subst q1; subst q2; subst q3; subst q4
                                                refine r_eqz (z := e_knd mem y ((k : Int) + 1)) (rfl) ?_
                                                refine r_ist6 F (by decide) rfl dL_sound_301 rfl ?_
                                                have J336 : ja_W C 0 0 lay mem n 336 [some (.ref (y)), some (.int (ja_I (nn))), some (.int (ja_I (mem (y + 1 + 9) 6))), some (.int (ja_I (1))), some (.int (ja_I (((k : Int) + 1)))), some (.int (ja_I (e_out mem y ((k : Int) + 1)))), some (.int (ja_I (e_knd mem y ((k : Int) + 1))))] [] := by
                                                  refine r_iconst F dL_sound_336 rfl ?_
                                                  refine r_goto F (tgt := 341) dL_sound_337 (by decide) ?_
                                                  refine r_ist3 F (by decide) rfl dL_sound_341 rfl ?_
                                                  refine r_inc4 F (by decide) rfl dL_sound_342 rfl ?_
                                                  refine r_goto F (tgt := 231) dL_sound_345 (by decide) ?_
                                                  refine r_msk [true, true, true, true, true, false, false] rfl ?_
                                                  exact ih (k + 1) (by omega)
                                                refine r_iload_n F rfl rfl dL_sound_303 rfl ?_
                                                refine r_if_eq F (tgt := 340) ⟨by omega, by omega⟩ dL_sound_304 rfl (by decide) (fun h_304 => ?_) (fun h_304 => ?_)
                                                ·
                                                  exfalso; omega
                                                ·
                                                  refine r_iload F rfl dL_sound_307 rfl ?_
                                                  refine r_iload_n F rfl rfl dL_sound_309 rfl ?_
                                                  refine r_icmp_le F (tgt := 324) ⟨by omega, by omega⟩ ⟨by omega, by omega⟩ dL_sound_310 rfl (by decide) (fun h_310 => ?_) (fun h_310 => ?_)
                                                  ·
                                                    refine r_iload F rfl dL_sound_324 rfl ?_
                                                    refine r_iconst F dL_sound_326 rfl ?_
                                                    refine r_icmp_lt F (tgt := 340) ⟨by omega, by omega⟩ ⟨by omega, by omega⟩ dL_sound_327 rfl (by decide) (fun h_327 => ?_) (fun h_327 => ?_)
                                                    ·
                                                      exfalso; omega
                                                    ·
                                                      refine r_iload F rfl dL_sound_330 rfl ?_
                                                      refine r_iconst F dL_sound_332 rfl ?_
                                                      refine r_icmp_gt F (tgt := 340) ⟨by omega, by omega⟩ ⟨by omega, by omega⟩ dL_sound_333 rfl (by decide) (fun h_333 => ?_) (fun h_333 => ?_)
                                                      ·
                                                        exfalso; omega
                                                      ·
                                                        exact J336
                                                  ·
                                                    refine r_iload F rfl dL_sound_313 rfl ?_
                                                    refine r_sipush F (by decide) dL_sound_315 rfl ?_
                                                    refine r_icmp_ne F (tgt := 340) ⟨by omega, by omega⟩ ⟨by omega, by omega⟩ dL_sound_318 rfl (by decide) (fun h_318 => ?_) (fun h_318 => ?_)
                                                    ·
                                                      exfalso; omega
                                                    ·
                                                      refine r_goto F (tgt := 336) dL_sound_321 (by decide) ?_
                                                      exact J336
                                              refine r_iload F rfl dL_sound_250 rfl ?_
                                              refine r_aload_n F rfl rfl dL_sound_252 rfl ?_
                                              refine r_callV F G (c_X8_outputs _ _ _ _ hB hO) v_L_44 rfl (hB.1) rfl (by decide) (by decide) (Nat.le_of_ble_eq_true rfl) rfl dL_sound_253 rfl (fun v lay' mem' n' hp => ?_)
                                              obtain ⟨q1, q2, q3, q4⟩ := hp
                                              subst q1; subst q2; subst q3; subst q4
                                              refine r_icmp_le F (tgt := 275) ⟨by omega, by omega⟩ ⟨by omega, by omega⟩ dL_sound_256 rfl (by decide) (fun h_256 => ?_) (fun h_256 => ?_)
                                              ·
                                                refine r_iload F rfl dL_sound_275 rfl ?_
                                                refine r_bipush F (by decide) dL_sound_277 rfl ?_
                                                refine r_icmp_lt F (tgt := 293) ⟨by omega, by omega⟩ ⟨by omega, by omega⟩ dL_sound_279 rfl (by decide) (fun h_279 => ?_) (fun h_279 => ?_)
                                                ·
                                                  exfalso; omega
                                                ·
                                                  refine r_iload F rfl dL_sound_282 rfl ?_
                                                  refine r_bipush F (by decide) dL_sound_284 rfl ?_
                                                  refine r_icmp_gt F (tgt := 293) ⟨by omega, by omega⟩ ⟨by omega, by omega⟩ dL_sound_286 rfl (by decide) (fun h_286 => ?_) (fun h_286 => ?_)
                                                  ·
                                                    exfalso; omega
                                                  ·
                                                    refine r_iconst F dL_sound_289 rfl ?_
                                                    refine r_goto F (tgt := 294) dL_sound_290 (by decide) ?_
                                                    exact J294
                                              ·
                                                refine r_iload F rfl dL_sound_259 rfl ?_
                                                refine r_sipush F (by decide) dL_sound_261 rfl ?_
                                                refine r_icmp_ne F (tgt := 271) ⟨by omega, by omega⟩ ⟨by omega, by omega⟩ dL_sound_264 rfl (by decide) (fun h_264 => ?_) (fun h_264 => ?_)
                                                ·
                                                  exfalso; omega
                                                ·
                                                  refine r_iconst F dL_sound_267 rfl ?_
                                                  refine r_goto F (tgt := 294) dL_sound_268 (by decide) ?_
                                                  exact J294
                                      exact loop 20 0 (by omega)
                              refine r_iload_n F rfl rfl dL_sound_176 rfl ?_
                              refine r_if_ne F (tgt := 184) ⟨by omega, by omega⟩ dL_sound_177 rfl (by decide) (fun h_177 => ?_) (fun h_177 => ?_)
                              ·
                                refine r_iload_n F rfl rfl dL_sound_184 rfl ?_
                                refine r_eqz (z := tq) (by omega) ?_
                                exact J185
                              ·
                                refine r_iconst F dL_sound_180 rfl ?_
                                refine r_goto F (tgt := 185) dL_sound_181 (by decide) ?_
                                refine r_eqz (z := tq) (by omega) ?_
                                exact J185
                refine r_aload_n F rfl rfl dL_sound_106 rfl ?_
                refine r_iconst F dL_sound_107 rfl ?_
                refine r_callV F G (c_X8_taken _ _ _ _ hB hO ⟨by omega, by omega⟩) v_L_15 rfl (hB.1) rfl (by decide) (by decide) (Nat.le_of_ble_eq_true rfl) rfl dL_sound_108 rfl (fun v lay' mem' n' hp => ?_)
                obtain ⟨q1, q2, q3, q4⟩ := hp
                subst q1; subst q2; subst q3; subst q4
                refine r_eqz (z := mem (y + 1 + 14) 2) (e_t3) ?_
                refine r_if_eq F (tgt := 121) ⟨by omega, by omega⟩ dL_sound_111 rfl (by decide) (fun h_111 => ?_) (fun h_111 => ?_)
                ·
                  exact J121
                ·
                  refine r_aload_n F rfl rfl dL_sound_114 rfl ?_
                  refine r_callV F G (c_X8_longestGap _ _ _ _ hB hO) v_L_28 rfl (hB.1) rfl (by decide) (by decide) (Nat.le_of_ble_eq_true rfl) rfl dL_sound_115 rfl (fun v lay' mem' n' hp => ?_)
                  obtain ⟨q1, q2, q3, q4⟩ := hp
                  subst q1; subst q2; subst q3; subst q4
                  refine r_if_le F (tgt := 157) ⟨by omega, by omega⟩ dL_sound_118 rfl (by decide) (fun h_118 => ?_) (fun h_118 => ?_)
                  ·
                    exfalso; omega
                  ·
                    exact J121
  refine r_aload_n F rfl rfl dL_sound_0 rfl ?_
  refine r_callV F G (c_X8_next _ _ _ _ hB hO) v_L_9 rfl (hB.1) rfl (by decide) (by decide) (Nat.le_of_ble_eq_true rfl) rfl dL_sound_1 rfl (fun v lay' mem' n' hp => ?_)
  obtain ⟨q1, q2, q3, q4⟩ := hp
  subst q1; subst q2; subst q3; subst q4
  refine r_eqz (z := nx) (hnx.symm) ?_
  refine r_sipush F (by decide) dL_sound_4 rfl ?_
  refine r_icmp_ne F (tgt := 16) ⟨by omega, by omega⟩ ⟨by omega, by omega⟩ dL_sound_7 rfl (by decide) (fun h_7 => ?_) (fun h_7 => ?_)
  ·
    refine r_aload_n F rfl rfl dL_sound_16 rfl ?_
    refine r_callV F G (c_X8_next _ _ _ _ hB hO) v_L_9 rfl (hB.1) rfl (by decide) (by decide) (Nat.le_of_ble_eq_true rfl) rfl dL_sound_17 rfl (fun v lay' mem' n' hp => ?_)
    obtain ⟨q1, q2, q3, q4⟩ := hp
    subst q1; subst q2; subst q3; subst q4
    refine r_eqz (z := nx) (hnx.symm) ?_
    refine r_eqz (z := mem (y + 1 + 9) 6) (by omega) ?_
    exact J20
  ·
    refine r_sipush F (by decide) dL_sound_10 rfl ?_
    refine r_goto F (tgt := 20) dL_sound_13 (by decide) ?_
    refine r_eqz (z := mem (y + 1 + 9) 6) (by omega) ?_
    exact J20
