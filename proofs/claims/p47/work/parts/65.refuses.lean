abbrev rm_L_refuses : Room := { frames := 8, cells := 20, slots := 1269, locals := 194 }
set_option maxRecDepth 100000 in
set_option maxHeartbeats 4000000 in
theorem c_L_refuses (l : Launch) (D : va_G) (cA : Nat → ClassId) (B : Nat) {lay : ja_Y} {mem : ja_M} {n : Nat} {y : Nat} {sl : Nat → Option Nat} {t : Int} {v : Nat → Int} (h : I7 lay mem n y sl t v) (ht : t ≤ 1900) : ja_Mt l D cA B yL_refuses cL_refuses 4 (some .boolean) rm_L_refuses [.ref y] lay mem n (ja_rd lay mem n (some (.int (ja_I 1)))) := by
  refine ja_enter [some (.ref y), none, none, none] (by decide) (Nat.le_of_ble_eq_true rfl) (fun q hq => hq) (fun C F Rt G hnm => ?_)
  obtain ⟨hB, hO, -⟩ := id h
  have h6 := h.R.2.2.1.2.2.1
  have h8 := h.R.2.2.2.2.2.2.2.1
  obtain ⟨sx, hsx⟩ : ∃ z, z = (if mem (y + 1) 7 = 0 then -1004 else mem (y + 1) 8) := ⟨_, rfl⟩
  have hsr : -1004 ≤ sx ∧ sx ≤ 10000 := by rw [hsx]; split <;> omega
  have hbg : 0 ≤ sx → B_bg mem y := fun q => by
    rw [hsx] at q
    by_cases r : mem (y + 1) 7 = 0
    · rw [if_pos r] at q
      omega
    · exact Or.inl r
  obtain ⟨nx, hnx⟩ : ∃ z, z = (if 999 < mem (y + 1 + 9) 6 then -1004 else mem (y + 1 + 9) 6) := ⟨_, rfl⟩
  have nxf : (nx = -1004 ∧ 999 < mem (y + 1 + 9) 6) ∨ (mem (y + 1 + 9) 6 ≤ 999 ∧ nx = mem (y + 1 + 9) 6) := by rw [hnx]; split <;> omega
  refine r_aload_n F rfl rfl dL_refuses_0 rfl ?_
  refine r_callV F G (c_X8_checksum _ _ _ _ hB hO) v_L_78 rfl (hB.1) rfl (by decide) (by decide) (Nat.le_of_ble_eq_true rfl) rfl dL_refuses_1 rfl (fun rv lay' mem' n' hp => ?_)
  obtain ⟨q1, q2, q3, q4⟩ := hp
  subst q1; subst q2; subst q3; subst q4
  refine r_lst1 F (by decide) rfl dL_refuses_4 rfl ?_
  refine r_aload_n F rfl rfl dL_refuses_5 rfl ?_
  refine r_iconst F dL_refuses_6 rfl ?_
  refine r_callV F G (c_X8_arrive _ _ _ _ hB hO ⟨by omega, by omega⟩ (by omega)) v_L_62 rfl (hB.1) rfl (by decide) (by decide) (Nat.le_of_ble_eq_true rfl) rfl dL_refuses_7 rfl (fun rv lay' mem' n' hp => ?_)
  obtain ⟨q1, q2, q3, q4⟩ := hp
  subst q1; subst q2; subst q3; subst q4
  refine r_mem (mem' := mem) (if_neg (by decide)) ?_
  refine r_eqz (z := -1001) (if_neg (by decide)) ?_
  refine r_sipush F (by decide) dL_refuses_10 rfl ?_
  refine r_icmp_ne F (tgt := 80) ⟨by omega, by omega⟩ ⟨by omega, by omega⟩ dL_refuses_13 rfl (by decide) (fun h_13 => ?_) (fun h_13 => ?_)
  ·
    exfalso; omega
  ·
    refine r_aload_n F rfl rfl dL_refuses_16 rfl ?_
    refine r_sipush F (by decide) dL_refuses_17 rfl ?_
    refine r_callV F G (c_X8_arrive _ _ _ _ hB hO ⟨by omega, by omega⟩ (by omega)) v_L_62 rfl (hB.1) rfl (by decide) (by decide) (Nat.le_of_ble_eq_true rfl) rfl dL_refuses_20 rfl (fun rv lay' mem' n' hp => ?_)
    obtain ⟨q1, q2, q3, q4⟩ := hp
    subst q1; subst q2; subst q3; subst q4
    refine r_mem (mem' := mem) (if_neg (by decide)) ?_
    refine r_eqz (z := -1001) (if_neg (by decide)) ?_
    refine r_sipush F (by decide) dL_refuses_23 rfl ?_
    refine r_icmp_ne F (tgt := 80) ⟨by omega, by omega⟩ ⟨by omega, by omega⟩ dL_refuses_26 rfl (by decide) (fun h_26 => ?_) (fun h_26 => ?_)
    ·
      exfalso; omega
    ·
      refine r_aload_n F rfl rfl dL_refuses_29 rfl ?_
      refine r_iconst F dL_refuses_30 rfl ?_
      refine r_callV F G (c_X8_advance _ _ _ _ hB hO ⟨by omega, by omega⟩ (by omega)) v_L_97 rfl (hB.1) rfl (by decide) (by decide) (Nat.le_of_ble_eq_true rfl) rfl dL_refuses_31 rfl (fun rv lay' mem' n' hp => ?_)
      obtain ⟨q1, q2, q3, q4⟩ := hp
      subst q1; subst q2; subst q3; subst q4
      refine r_mem (mem' := mem) (if_neg (by decide)) ?_
      refine r_eqz (z := -1001) (if_neg (by decide)) ?_
      refine r_sipush F (by decide) dL_refuses_34 rfl ?_
      refine r_icmp_ne F (tgt := 80) ⟨by omega, by omega⟩ ⟨by omega, by omega⟩ dL_refuses_37 rfl (by decide) (fun h_37 => ?_) (fun h_37 => ?_)
      ·
        exfalso; omega
      ·
        refine r_aload_n F rfl rfl dL_refuses_40 rfl ?_
        refine r_sipush F (by decide) dL_refuses_41 rfl ?_
        refine r_callV F G (c_X8_advance _ _ _ _ hB hO ⟨by omega, by omega⟩ (by omega)) v_L_97 rfl (hB.1) rfl (by decide) (by decide) (Nat.le_of_ble_eq_true rfl) rfl dL_refuses_44 rfl (fun rv lay' mem' n' hp => ?_)
        obtain ⟨q1, q2, q3, q4⟩ := hp
        subst q1; subst q2; subst q3; subst q4
        refine r_mem (mem' := mem) (if_neg (by decide)) ?_
        refine r_eqz (z := -1001) (if_neg (by decide)) ?_
        refine r_sipush F (by decide) dL_refuses_47 rfl ?_
        refine r_icmp_ne F (tgt := 80) ⟨by omega, by omega⟩ ⟨by omega, by omega⟩ dL_refuses_50 rfl (by decide) (fun h_50 => ?_) (fun h_50 => ?_)
        ·
          exfalso; omega
        ·
          refine r_aload_n F rfl rfl dL_refuses_53 rfl ?_
          refine r_iconst F dL_refuses_54 rfl ?_
          refine r_callV F G (c_X8_setFrame _ _ _ _ hB hO ⟨by omega, by omega⟩) v_L_124 rfl (hB.1) rfl (by decide) (by decide) (Nat.le_of_ble_eq_true rfl) rfl dL_refuses_55 rfl (fun rv lay' mem' n' hp => ?_)
          obtain ⟨q1, q2, q3, q4⟩ := hp
          subst q1; subst q2; subst q3; subst q4
          refine r_mem (mem' := mem) (if_neg (fun q => absurd q.1 (by decide))) ?_
          refine r_eqz (z := -1001) (if_neg (by decide)) ?_
          refine r_sipush F (by decide) dL_refuses_58 rfl ?_
          refine r_icmp_ne F (tgt := 80) ⟨by omega, by omega⟩ ⟨by omega, by omega⟩ dL_refuses_61 rfl (by decide) (fun h_61 => ?_) (fun h_61 => ?_)
          ·
            exfalso; omega
          ·
            refine r_aload_n F rfl rfl dL_refuses_64 rfl ?_
            refine r_iconst F dL_refuses_65 rfl ?_
            refine r_iconst F dL_refuses_66 rfl ?_
            refine r_callV F G (c_X8_setWave _ _ _ _ hB hO ⟨by omega, by omega⟩ ⟨by omega, by omega⟩) v_L_127 rfl (hB.1) rfl (by decide) (by decide) (Nat.le_of_ble_eq_true rfl) rfl dL_refuses_67 rfl (fun rv lay' mem' n' hp => ?_)
            obtain ⟨q1, q2, q3, q4⟩ := hp
            subst q1; subst q2; subst q3; subst q4
            refine r_mem (mem' := mem) (if_neg (fun q => absurd q.1 (by decide))) ?_
            refine r_eqz (z := -1001) (if_neg (by decide)) ?_
            refine r_sipush F (by decide) dL_refuses_70 rfl ?_
            refine r_icmp_ne F (tgt := 80) ⟨by omega, by omega⟩ ⟨by omega, by omega⟩ dL_refuses_73 rfl (by decide) (fun h_73 => ?_) (fun h_73 => ?_)
            ·
              exfalso; omega
            ·
              refine r_iconst F dL_refuses_76 rfl ?_
              refine r_goto F (tgt := 81) dL_refuses_77 (by decide) ?_
              refine r_ist3 F (by decide) rfl dL_refuses_81 rfl ?_
              refine r_iload_n F rfl rfl dL_refuses_82 rfl ?_
              refine r_if_eq F (tgt := 161) ⟨by omega, by omega⟩ dL_refuses_83 rfl (by decide) (fun h_83 => ?_) (fun h_83 => ?_)
              ·
                exfalso; omega
              ·
                refine r_aload_n F rfl rfl dL_refuses_86 rfl ?_
                refine r_iconst F dL_refuses_87 rfl ?_
                refine r_callV F G (c_X8_setQuantile _ _ _ _ hB hO ⟨by omega, by omega⟩) v_L_131 rfl (hB.1) rfl (by decide) (by decide) (Nat.le_of_ble_eq_true rfl) rfl dL_refuses_88 rfl (fun rv lay' mem' n' hp => ?_)
                obtain ⟨q1, q2, q3, q4⟩ := hp
                subst q1; subst q2; subst q3; subst q4
                refine r_mem (mem' := mem) (if_neg (by decide)) ?_
                refine r_eqz (z := -1001) (if_neg (by decide)) ?_
                refine r_sipush F (by decide) dL_refuses_91 rfl ?_
                refine r_icmp_ne F (tgt := 161) ⟨by omega, by omega⟩ ⟨by omega, by omega⟩ dL_refuses_94 rfl (by decide) (fun h_94 => ?_) (fun h_94 => ?_)
                ·
                  exfalso; omega
                ·
                  refine r_aload_n F rfl rfl dL_refuses_97 rfl ?_
                  refine r_bipush F (by decide) dL_refuses_98 rfl ?_
                  refine r_callV F G (c_X8_setMargin _ _ _ _ hB hO ⟨by omega, by omega⟩) v_L_134 rfl (hB.1) rfl (by decide) (by decide) (Nat.le_of_ble_eq_true rfl) rfl dL_refuses_100 rfl (fun rv lay' mem' n' hp => ?_)
                  obtain ⟨q1, q2, q3, q4⟩ := hp
                  subst q1; subst q2; subst q3; subst q4
                  refine r_mem (mem' := mem) (if_neg (by decide)) ?_
                  refine r_eqz (z := -1001) (if_neg (by decide)) ?_
                  refine r_sipush F (by decide) dL_refuses_103 rfl ?_
                  refine r_icmp_ne F (tgt := 161) ⟨by omega, by omega⟩ ⟨by omega, by omega⟩ dL_refuses_106 rfl (by decide) (fun h_106 => ?_) (fun h_106 => ?_)
                  ·
                    exfalso; omega
                  ·
                    refine r_aload_n F rfl rfl dL_refuses_109 rfl ?_
                    refine r_iconst F dL_refuses_110 rfl ?_
                    refine r_callV F G (c_X8_keep _ _ _ _ hB hO ⟨by omega, by omega⟩ h.n49 (fun i o hi ho => (h.so i o hi ho).2)) v_L_91 rfl (hB.1) rfl (by decide) (by decide) (Nat.le_of_ble_eq_true rfl) rfl dL_refuses_111 rfl (fun rv lay' mem' n' hp => ?_)
                    obtain ⟨q1, q2, q3, q4⟩ : some (.int (ja_I (-1001))) = rv ∧ lay = lay' ∧ mem = mem' ∧ n = n' := by
                      rcases hp with ⟨-, hq⟩ | ⟨o, m0, hkk, -⟩
                      · exact hq
                      · exact absurd hkk (by decide)
                    subst q1; subst q2; subst q3; subst q4
                    refine r_sipush F (by decide) dL_refuses_114 rfl ?_
                    refine r_icmp_ne F (tgt := 161) ⟨by omega, by omega⟩ ⟨by omega, by omega⟩ dL_refuses_117 rfl (by decide) (fun h_117 => ?_) (fun h_117 => ?_)
                    ·
                      exfalso; omega
                    ·
                      refine r_aload_n F rfl rfl dL_refuses_120 rfl ?_
                      refine r_iconst F dL_refuses_121 rfl ?_
                      refine r_callV F G (c_X8_restore _ _ _ _ hB hO ⟨by omega, by omega⟩) v_L_100 rfl (hB.1) rfl (by decide) (by decide) (Nat.le_of_ble_eq_true rfl) rfl dL_refuses_122 rfl (fun rv lay' mem' n' hp => ?_)
                      obtain ⟨q1, q2, q3, q4⟩ : some (.int (ja_I (-1001))) = rv ∧ lay = lay' ∧ mem = mem' ∧ n = n' := by
                        obtain ⟨a1, a2, ⟨-, a3, a4⟩ | ⟨hkk, -⟩ | ⟨o, hkk, -⟩⟩ := hp
                        · exact ⟨a3, a1, a4, a2⟩
                        · exact absurd hkk (by decide)
                        · exact absurd hkk (by decide)
                      subst q1; subst q2; subst q3; subst q4
                      refine r_sipush F (by decide) dL_refuses_125 rfl ?_
                      refine r_icmp_ne F (tgt := 161) ⟨by omega, by omega⟩ ⟨by omega, by omega⟩ dL_refuses_128 rfl (by decide) (fun h_128 => ?_) (fun h_128 => ?_)
                      ·
                        exfalso; omega
                      ·
                        refine r_aload_n F rfl rfl dL_refuses_131 rfl ?_
                        refine r_sipush F (by decide) dL_refuses_132 rfl ?_
                        refine r_callV F G (c_X8_gapsIn _ _ _ _ hB hO ⟨by omega, by omega⟩ (by omega)) v_L_85 rfl (hB.1) rfl (by decide) (by decide) (Nat.le_of_ble_eq_true rfl) rfl dL_refuses_135 rfl (fun rv lay' mem' n' hp => ?_)
                        obtain ⟨q1, q2, q3, q4⟩ := hp
                        subst q1; subst q2; subst q3; subst q4
                        refine r_mem (mem' := mem) (if_neg (by decide)) ?_
                        refine r_eqz (z := -1001) (if_neg (by decide)) ?_
                        refine r_sipush F (by decide) dL_refuses_138 rfl ?_
                        refine r_icmp_ne F (tgt := 161) ⟨by omega, by omega⟩ ⟨by omega, by omega⟩ dL_refuses_141 rfl (by decide) (fun h_141 => ?_) (fun h_141 => ?_)
                        ·
                          exfalso; omega
                        ·
                          refine r_aload_n F rfl rfl dL_refuses_144 rfl ?_
                          refine r_sipush F (by decide) dL_refuses_145 rfl ?_
                          refine r_callV F G (c_X8_ticksToFrame _ _ _ _ hB hO ⟨by omega, by omega⟩ (by omega)) v_L_88 rfl (hB.1) rfl (by decide) (by decide) (Nat.le_of_ble_eq_true rfl) rfl dL_refuses_148 rfl (fun rv lay' mem' n' hp => ?_)
                          obtain ⟨q1, q2, q3, q4⟩ := hp
                          subst q1; subst q2; subst q3; subst q4
                          refine r_mem (mem' := mem) (if_neg (by decide)) ?_
                          refine r_eqz (z := -1001) (if_neg (by decide)) ?_
                          refine r_sipush F (by decide) dL_refuses_151 rfl ?_
                          refine r_icmp_ne F (tgt := 161) ⟨by omega, by omega⟩ ⟨by omega, by omega⟩ dL_refuses_154 rfl (by decide) (fun h_154 => ?_) (fun h_154 => ?_)
                          ·
                            exfalso; omega
                          ·
                            refine r_iconst F dL_refuses_157 rfl ?_
                            refine r_goto F (tgt := 162) dL_refuses_158 (by decide) ?_
                            refine r_ist3 F (by decide) rfl dL_refuses_162 rfl ?_
                            refine r_iload_n F rfl rfl dL_refuses_163 rfl ?_
                            refine r_if_eq F (tgt := 232) ⟨by omega, by omega⟩ dL_refuses_164 rfl (by decide) (fun h_164 => ?_) (fun h_164 => ?_)
                            ·
                              exfalso; omega
                            ·
                              have J209 : ja_W C 20 1269 lay mem n 209 [some (.ref (y)), some (.long (B_ck mem y)), none, some (.int (ja_I (1)))] [] := by
                                have J228 : ja_W C 20 1269 lay mem n 228 [some (.ref (y)), some (.long (B_ck mem y)), none, some (.int (ja_I (1)))] [] := by
                                  refine r_iconst F dL_refuses_228 rfl ?_
                                  refine r_goto F (tgt := 233) dL_refuses_229 (by decide) ?_
                                  refine r_ist3 F (by decide) rfl dL_refuses_233 rfl ?_
                                  refine r_iload_n F rfl rfl dL_refuses_234 rfl ?_
                                  refine r_if_eq F (tgt := 251) ⟨by omega, by omega⟩ dL_refuses_235 rfl (by decide) (fun h_235 => ?_) (fun h_235 => ?_)
                                  ·
                                    exfalso; omega
                                  ·
                                    refine r_aload_n F rfl rfl dL_refuses_238 rfl ?_
                                    refine r_callV F G (c_X8_checksum _ _ _ _ hB hO) v_L_78 rfl (hB.1) rfl (by decide) (by decide) (Nat.le_of_ble_eq_true rfl) rfl dL_refuses_239 rfl (fun rv lay' mem' n' hp => ?_)
                                    obtain ⟨q1, q2, q3, q4⟩ := hp
                                    subst q1; subst q2; subst q3; subst q4
                                    refine r_lload_n F rfl rfl dL_refuses_242 rfl ?_
                                    refine r_leq F rfl dL_refuses_243 rfl ?_
                                    refine r_if_ne F (tgt := 251) ⟨by omega, by omega⟩ dL_refuses_244 rfl (by decide) (fun h_244 => ?_) (fun h_244 => ?_)
                                    ·
                                      exfalso; omega
                                    ·
                                      refine r_iconst F dL_refuses_247 rfl ?_
                                      refine r_goto F (tgt := 252) dL_refuses_248 (by decide) ?_
                                      exact r_zret F Rt (by omega) dL_refuses_252 (by decide) ⟨rfl, rfl, rfl, rfl⟩
                                refine r_aload_n F rfl rfl dL_refuses_209 rfl ?_
                                refine r_callV F G (c_X8_next _ _ _ _ hB hO) v_L_9 rfl (hB.1) rfl (by decide) (by decide) (Nat.le_of_ble_eq_true rfl) rfl dL_refuses_210 rfl (fun rv lay' mem' n' hp => ?_)
                                obtain ⟨q1, q2, q3, q4⟩ := hp
                                subst q1; subst q2; subst q3; subst q4
                                refine r_eqz (z := nx) (hnx.symm) ?_
                                refine r_iconst F dL_refuses_213 rfl ?_
                                refine r_icmp_lt F (tgt := 228) ⟨by omega, by omega⟩ ⟨by omega, by omega⟩ dL_refuses_214 rfl (by decide) (fun h_214 => ?_) (fun h_214 => ?_)
                                ·
                                  exact J228
                                ·
                                  refine r_aload_n F rfl rfl dL_refuses_217 rfl ?_
                                  refine r_iconst F dL_refuses_218 rfl ?_
                                  refine r_callV F G (c_X8_ticksToFrame _ _ _ _ hB hO ⟨by omega, by omega⟩ (by omega)) v_L_88 rfl (hB.1) rfl (by decide) (by decide) (Nat.le_of_ble_eq_true rfl) rfl dL_refuses_219 rfl (fun rv lay' mem' n' hp => ?_)
                                  obtain ⟨q1, q2, q3, q4⟩ := hp
                                  subst q1; subst q2; subst q3; subst q4
                                  refine r_mem (mem' := mem) ((if_pos (by decide)).trans (if_pos (by omega))) ?_
                                  refine r_eqz (z := -1003) ((if_pos (by decide)).trans (if_pos (by omega))) ?_
                                  refine r_sipush F (by decide) dL_refuses_222 rfl ?_
                                  refine r_icmp_ne F (tgt := 232) ⟨by omega, by omega⟩ ⟨by omega, by omega⟩ dL_refuses_225 rfl (by decide) (fun h_225 => ?_) (fun h_225 => ?_)
                                  ·
                                    exfalso; omega
                                  ·
                                    exact J228
                              refine r_aload_n F rfl rfl dL_refuses_167 rfl ?_
                              refine r_callV F G (c_X8_start _ _ _ _ hB hO) v_L_65 rfl (hB.1) rfl (by decide) (by decide) (Nat.le_of_ble_eq_true rfl) rfl dL_refuses_168 rfl (fun rv lay' mem' n' hp => ?_)
                              obtain ⟨q1, q2, q3, q4⟩ := hp
                              subst q1; subst q2; subst q3; subst q4
                              refine r_eqz (z := sx) (hsx.symm) ?_
                              refine r_if_lt F (tgt := 209) ⟨by omega, by omega⟩ dL_refuses_171 rfl (by decide) (fun h_171 => ?_) (fun h_171 => ?_)
                              ·
                                exact J209
                              ·
                                have hbx := hbg (by omega)
                                refine r_aload_n F rfl rfl dL_refuses_174 rfl ?_
                                refine r_bipush F (by decide) dL_refuses_175 rfl ?_
                                refine r_callV F G (c_X8_setFrame _ _ _ _ hB hO ⟨by omega, by omega⟩) v_L_124 rfl (hB.1) rfl (by decide) (by decide) (Nat.le_of_ble_eq_true rfl) rfl dL_refuses_177 rfl (fun rv lay' mem' n' hp => ?_)
                                obtain ⟨q1, q2, q3, q4⟩ := hp
                                subst q1; subst q2; subst q3; subst q4
                                refine r_mem (mem' := mem) (if_neg (fun q => q.2 hbx)) ?_
                                refine r_eqz (z := -1003) ((if_pos (by decide)).trans (if_pos hbx)) ?_
                                refine r_sipush F (by decide) dL_refuses_180 rfl ?_
                                refine r_icmp_ne F (tgt := 232) ⟨by omega, by omega⟩ ⟨by omega, by omega⟩ dL_refuses_183 rfl (by decide) (fun h_183 => ?_) (fun h_183 => ?_)
                                ·
                                  exfalso; omega
                                ·
                                  refine r_aload_n F rfl rfl dL_refuses_186 rfl ?_
                                  refine r_iconst F dL_refuses_187 rfl ?_
                                  refine r_iconst F dL_refuses_188 rfl ?_
                                  refine r_callV F G (c_X8_setBlock _ _ _ _ hB hO ⟨by omega, by omega⟩ ⟨by omega, by omega⟩) v_L_137 rfl (hB.1) rfl (by decide) (by decide) (Nat.le_of_ble_eq_true rfl) rfl dL_refuses_189 rfl (fun rv lay' mem' n' hp => ?_)
                                  obtain ⟨q1, q2, q3, q4⟩ := hp
                                  subst q1; subst q2; subst q3; subst q4
                                  refine r_mem (mem' := mem) (if_neg (fun q => q.2 hbx)) ?_
                                  refine r_eqz (z := -1003) ((if_pos (by decide)).trans (if_pos hbx)) ?_
                                  refine r_sipush F (by decide) dL_refuses_192 rfl ?_
                                  refine r_icmp_ne F (tgt := 232) ⟨by omega, by omega⟩ ⟨by omega, by omega⟩ dL_refuses_195 rfl (by decide) (fun h_195 => ?_) (fun h_195 => ?_)
                                  ·
                                    exfalso; omega
                                  ·
                                    refine r_aload_n F rfl rfl dL_refuses_198 rfl ?_
                                    refine r_iconst F dL_refuses_199 rfl ?_
                                    refine r_callV F G (c_X8_setInitialDelay _ _ _ _ hB hO ⟨by omega, by omega⟩) v_L_140 rfl (hB.1) rfl (by decide) (by decide) (Nat.le_of_ble_eq_true rfl) rfl dL_refuses_200 rfl (fun rv lay' mem' n' hp => ?_)
                                    obtain ⟨q1, q2, q3, q4⟩ := hp
                                    subst q1; subst q2; subst q3; subst q4
                                    refine r_mem (mem' := mem) (if_neg (fun q => q.2 hbx)) ?_
                                    refine r_eqz (z := -1003) ((if_pos (by decide)).trans (if_pos hbx)) ?_
                                    refine r_sipush F (by decide) dL_refuses_203 rfl ?_
                                    refine r_icmp_ne F (tgt := 232) ⟨by omega, by omega⟩ ⟨by omega, by omega⟩ dL_refuses_206 rfl (by decide) (fun h_206 => ?_) (fun h_206 => ?_)
                                    ·
                                      exfalso; omega
                                    ·
                                      exact J209
