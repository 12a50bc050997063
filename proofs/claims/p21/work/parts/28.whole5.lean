abbrev rm_X8_checksum : Room := { frames := 5, cells := 0, slots := 0, locals := 108 }
set_option maxRecDepth 100000 in
set_option maxHeartbeats 4000000 in
theorem c_X8_checksum (l : Launch) (D : va_G) (cA : Nat → ClassId) (B : Nat) {lay : ja_Y} {mem : ja_M} {n : Nat} {y : Nat} {sl : Nat → Option Nat} {t : Int} (hB : ja_LB lay y sl) (hO : ja_BO mem y sl t)  : ja_Mt l D cA B yX8_checksum cX8_checksum 4 (some .long) rm_X8_checksum [.ref y] lay mem n (ja_rd lay mem n (some (.long (B_ck mem y)))) := by
  refine ja_enter [some (.ref y), none, none, none] (by decide) (Nat.le_of_ble_eq_true rfl) (fun q hq => hq) (fun C F Rt G hnm => ?_)
  obtain ⟨b1, b2, b3, b4, b5⟩ := id hO
  obtain ⟨g1, g2, g3, g4, g5, g6, g7, g8, g9, g10, g11, g12⟩ := id b1
  obtain ⟨p1, p2, p3, p4, p5, p6⟩ := id g3
  obtain ⟨s0, s1, s2, s3, s4, s5, s6, s7, s8⟩ := id g1
  have tt := g2.1
  have a0 := g4.1
  refine r_ldc2 F l_X8_235 dX8_checksum_0 rfl ?_
  refine r_lst1 F (by decide) rfl dX8_checksum_3 rfl ?_
  refine r_ldc2 F l_X8_237 dX8_checksum_4 rfl ?_
  refine r_lload_n F rfl rfl dX8_checksum_7 rfl ?_
  refine r_lmul F dX8_checksum_8 rfl ?_
  refine r_aload_n F rfl rfl dX8_checksum_9 rfl ?_
  refine r_callV F G (c_X8_time _ _ _ _ hB hO) v_X8_239 rfl (hB.1) rfl (by decide) (by decide) (Nat.le_of_ble_eq_true rfl) rfl dX8_checksum_10 rfl (fun v lay' mem' n' hp => ?_)
  obtain ⟨q1, q2, q3, q4⟩ := hp
  subst q1; subst q2; subst q3; subst q4
  refine r_i2l F dX8_checksum_13 rfl ?_
  refine r_ladd F dX8_checksum_14 rfl ?_
  refine r_lst1 F (by decide) rfl dX8_checksum_15 rfl ?_
  refine r_ldc2 F l_X8_237 dX8_checksum_16 rfl ?_
  refine r_lload_n F rfl rfl dX8_checksum_19 rfl ?_
  refine r_lmul F dX8_checksum_20 rfl ?_
  refine r_aload_n F rfl rfl dX8_checksum_21 rfl ?_
  refine r_callV F G (c_X8_start _ _ _ _ hB hO) v_X8_241 rfl (hB.1) rfl (by decide) (by decide) (Nat.le_of_ble_eq_true rfl) rfl dX8_checksum_22 rfl (fun v lay' mem' n' hp => ?_)
  obtain ⟨q1, q2, q3, q4⟩ := hp
  subst q1; subst q2; subst q3; subst q4
  refine r_i2l F dX8_checksum_25 rfl ?_
  refine r_ladd F dX8_checksum_26 rfl ?_
  refine r_lst1 F (by decide) rfl dX8_checksum_27 rfl ?_
  refine r_ldc2 F l_X8_237 dX8_checksum_28 rfl ?_
  refine r_lload_n F rfl rfl dX8_checksum_31 rfl ?_
  refine r_lmul F dX8_checksum_32 rfl ?_
  refine r_aload_n F rfl rfl dX8_checksum_33 rfl ?_
  refine r_callV F G (c_X8_outputs _ _ _ _ hB hO) v_X8_243 rfl (hB.1) rfl (by decide) (by decide) (Nat.le_of_ble_eq_true rfl) rfl dX8_checksum_34 rfl (fun v lay' mem' n' hp => ?_)
  obtain ⟨q1, q2, q3, q4⟩ := hp
  subst q1; subst q2; subst q3; subst q4
  refine r_i2l F dX8_checksum_37 rfl ?_
  refine r_ladd F dX8_checksum_38 rfl ?_
  refine r_lst1 F (by decide) rfl dX8_checksum_39 rfl ?_
  refine r_ldc2 F l_X8_237 dX8_checksum_40 rfl ?_
  refine r_lload_n F rfl rfl dX8_checksum_43 rfl ?_
  refine r_lmul F dX8_checksum_44 rfl ?_
  refine r_aload_n F rfl rfl dX8_checksum_45 rfl ?_
  refine r_callV F G (c_X8_left _ _ _ _ hB hO) v_X8_245 rfl (hB.1) rfl (by decide) (by decide) (Nat.le_of_ble_eq_true rfl) rfl dX8_checksum_46 rfl (fun v lay' mem' n' hp => ?_)
  obtain ⟨q1, q2, q3, q4⟩ := hp
  subst q1; subst q2; subst q3; subst q4
  refine r_i2l F dX8_checksum_49 rfl ?_
  refine r_ladd F dX8_checksum_50 rfl ?_
  refine r_lst1 F (by decide) rfl dX8_checksum_51 rfl ?_
  refine r_ldc2 F l_X8_237 dX8_checksum_52 rfl ?_
  refine r_lload_n F rfl rfl dX8_checksum_55 rfl ?_
  refine r_lmul F dX8_checksum_56 rfl ?_
  refine r_aload_n F rfl rfl dX8_checksum_57 rfl ?_
  refine r_callV F G (c_X8_next _ _ _ _ hB hO) v_X8_248 rfl (hB.1) rfl (by decide) (by decide) (Nat.le_of_ble_eq_true rfl) rfl dX8_checksum_58 rfl (fun v lay' mem' n' hp => ?_)
  obtain ⟨q1, q2, q3, q4⟩ := hp
  subst q1; subst q2; subst q3; subst q4
  refine r_i2l F dX8_checksum_61 rfl ?_
  refine r_ladd F dX8_checksum_62 rfl ?_
  refine r_lst1 F (by decide) rfl dX8_checksum_63 rfl ?_
  refine r_ldc2 F l_X8_237 dX8_checksum_64 rfl ?_
  refine r_lload_n F rfl rfl dX8_checksum_67 rfl ?_
  refine r_lmul F dX8_checksum_68 rfl ?_
  refine r_aload_n F rfl rfl dX8_checksum_69 rfl ?_
  refine r_callV F G (c_X8_target _ _ _ _ hB hO) v_X8_250 rfl (hB.1) rfl (by decide) (by decide) (Nat.le_of_ble_eq_true rfl) rfl dX8_checksum_70 rfl (fun v lay' mem' n' hp => ?_)
  obtain ⟨q1, q2, q3, q4⟩ := hp
  subst q1; subst q2; subst q3; subst q4
  refine r_i2l F dX8_checksum_73 rfl ?_
  refine r_ladd F dX8_checksum_74 rfl ?_
  refine r_lst1 F (by decide) rfl dX8_checksum_75 rfl ?_
  refine r_ldc2 F l_X8_237 dX8_checksum_76 rfl ?_
  refine r_lload_n F rfl rfl dX8_checksum_79 rfl ?_
  refine r_lmul F dX8_checksum_80 rfl ?_
  refine r_aload_n F rfl rfl dX8_checksum_81 rfl ?_
  refine r_callV F G (c_X8_level _ _ _ _ hB hO) v_X8_253 rfl (hB.1) rfl (by decide) (by decide) (Nat.le_of_ble_eq_true rfl) rfl dX8_checksum_82 rfl (fun v lay' mem' n' hp => ?_)
  obtain ⟨q1, q2, q3, q4⟩ := hp
  subst q1; subst q2; subst q3; subst q4
  refine r_i2l F dX8_checksum_85 rfl ?_
  refine r_ladd F dX8_checksum_86 rfl ?_
  refine r_lst1 F (by decide) rfl dX8_checksum_87 rfl ?_
  refine r_ldc2 F l_X8_237 dX8_checksum_88 rfl ?_
  refine r_lload_n F rfl rfl dX8_checksum_91 rfl ?_
  refine r_lmul F dX8_checksum_92 rfl ?_
  refine r_aload_n F rfl rfl dX8_checksum_93 rfl ?_
  refine r_callV F G (c_X8_transits _ _ _ _ hB hO) v_X8_256 rfl (hB.1) rfl (by decide) (by decide) (Nat.le_of_ble_eq_true rfl) rfl dX8_checksum_94 rfl (fun v lay' mem' n' hp => ?_)
  obtain ⟨q1, q2, q3, q4⟩ := hp
  subst q1; subst q2; subst q3; subst q4
  refine r_i2l F dX8_checksum_97 rfl ?_
  refine r_ladd F dX8_checksum_98 rfl ?_
  refine r_lst1 F (by decide) rfl dX8_checksum_99 rfl ?_
  refine r_iconst F dX8_checksum_100 rfl ?_
  refine r_ist3 F (by decide) rfl dX8_checksum_101 rfl ?_
  have lp1 : ∀ (d k : Nat), k + d = 3 → ja_W C 0 0 lay (mem) n 102 [some (.ref y), some (.long (B_cf (B_k1 mem y) (fun k => B_tk mem y ((k : Int) + 1)) k)), none, some (.int (ja_I (((k : Int) + 1))))] [] := by
    intro d
    induction d with
    | zero =>
      intro k hk
      refine r_iload_n F rfl rfl dX8_checksum_102 rfl ?_
      refine r_iconst F dX8_checksum_103 rfl ?_
      refine r_icmp_gt F (tgt := 126) ⟨by omega, by omega⟩ ⟨by omega, by omega⟩ dX8_checksum_104 rfl (by decide) (fun h_104 => ?_) (fun h_104 => ?_)
      ·
        obtain rfl : k = 3 := by omega
        refine r_ldc2 F l_X8_237 dX8_checksum_126 rfl ?_
        refine r_lload_n F rfl rfl dX8_checksum_129 rfl ?_
        refine r_lmul F dX8_checksum_130 rfl ?_
        refine r_aload_n F rfl rfl dX8_checksum_131 rfl ?_
        refine r_callV F G (c_X8_stretched _ _ _ _ hB hO) v_X8_261 rfl (hB.1) rfl (by decide) (by decide) (Nat.le_of_ble_eq_true rfl) rfl dX8_checksum_132 rfl (fun v lay' mem' n' hp => ?_)
        obtain ⟨q1, q2, q3, q4⟩ := hp
        subst q1; subst q2; subst q3; subst q4
        refine r_i2l F dX8_checksum_135 rfl ?_
        refine r_ladd F dX8_checksum_136 rfl ?_
        refine r_lst1 F (by decide) rfl dX8_checksum_137 rfl ?_
        refine r_ldc2 F l_X8_237 dX8_checksum_138 rfl ?_
        refine r_lload_n F rfl rfl dX8_checksum_141 rfl ?_
        refine r_lmul F dX8_checksum_142 rfl ?_
        refine r_aload_n F rfl rfl dX8_checksum_143 rfl ?_
        refine r_callV F G (c_X8_compressed _ _ _ _ hB hO) v_X8_263 rfl (hB.1) rfl (by decide) (by decide) (Nat.le_of_ble_eq_true rfl) rfl dX8_checksum_144 rfl (fun v lay' mem' n' hp => ?_)
        obtain ⟨q1, q2, q3, q4⟩ := hp
        subst q1; subst q2; subst q3; subst q4
        refine r_i2l F dX8_checksum_147 rfl ?_
        refine r_ladd F dX8_checksum_148 rfl ?_
        refine r_lst1 F (by decide) rfl dX8_checksum_149 rfl ?_
        refine r_ldc2 F l_X8_237 dX8_checksum_150 rfl ?_
        refine r_lload_n F rfl rfl dX8_checksum_153 rfl ?_
        refine r_lmul F dX8_checksum_154 rfl ?_
        refine r_aload_n F rfl rfl dX8_checksum_155 rfl ?_
        refine r_callV F G (c_X8_late _ _ _ _ hB hO) v_X8_265 rfl (hB.1) rfl (by decide) (by decide) (Nat.le_of_ble_eq_true rfl) rfl dX8_checksum_156 rfl (fun v lay' mem' n' hp => ?_)
        obtain ⟨q1, q2, q3, q4⟩ := hp
        subst q1; subst q2; subst q3; subst q4
        refine r_i2l F dX8_checksum_159 rfl ?_
        refine r_ladd F dX8_checksum_160 rfl ?_
        refine r_lst1 F (by decide) rfl dX8_checksum_161 rfl ?_
        refine r_ldc2 F l_X8_237 dX8_checksum_162 rfl ?_
        refine r_lload_n F rfl rfl dX8_checksum_165 rfl ?_
        refine r_lmul F dX8_checksum_166 rfl ?_
        refine r_aload_n F rfl rfl dX8_checksum_167 rfl ?_
        refine r_callV F G (c_X8_duplicates _ _ _ _ hB hO) v_X8_267 rfl (hB.1) rfl (by decide) (by decide) (Nat.le_of_ble_eq_true rfl) rfl dX8_checksum_168 rfl (fun v lay' mem' n' hp => ?_)
        obtain ⟨q1, q2, q3, q4⟩ := hp
        subst q1; subst q2; subst q3; subst q4
        refine r_i2l F dX8_checksum_171 rfl ?_
        refine r_ladd F dX8_checksum_172 rfl ?_
        refine r_lst1 F (by decide) rfl dX8_checksum_173 rfl ?_
        refine r_ldc2 F l_X8_237 dX8_checksum_174 rfl ?_
        refine r_lload_n F rfl rfl dX8_checksum_177 rfl ?_
        refine r_lmul F dX8_checksum_178 rfl ?_
        refine r_aload_n F rfl rfl dX8_checksum_179 rfl ?_
        refine r_callV F G (c_X8_longestGap _ _ _ _ hB hO) v_X8_269 rfl (hB.1) rfl (by decide) (by decide) (Nat.le_of_ble_eq_true rfl) rfl dX8_checksum_180 rfl (fun v lay' mem' n' hp => ?_)
        obtain ⟨q1, q2, q3, q4⟩ := hp
        subst q1; subst q2; subst q3; subst q4
        refine r_i2l F dX8_checksum_183 rfl ?_
        refine r_ladd F dX8_checksum_184 rfl ?_
        refine r_lst1 F (by decide) rfl dX8_checksum_185 rfl ?_
        refine r_ldc2 F l_X8_237 dX8_checksum_186 rfl ?_
        refine r_lload_n F rfl rfl dX8_checksum_189 rfl ?_
        refine r_lmul F dX8_checksum_190 rfl ?_
        refine r_aload_n F rfl rfl dX8_checksum_191 rfl ?_
        refine r_callV F G (c_X8_scheduled _ _ _ _ hB hO) v_X8_271 rfl (hB.1) rfl (by decide) (by decide) (Nat.le_of_ble_eq_true rfl) rfl dX8_checksum_192 rfl (fun v lay' mem' n' hp => ?_)
        obtain ⟨q1, q2, q3, q4⟩ := hp
        subst q1; subst q2; subst q3; subst q4
        refine r_i2l F dX8_checksum_195 rfl ?_
        refine r_ladd F dX8_checksum_196 rfl ?_
        refine r_lst1 F (by decide) rfl dX8_checksum_197 rfl ?_
        refine r_iconst F dX8_checksum_198 rfl ?_
        refine r_ist3 F (by decide) rfl dX8_checksum_199 rfl ?_
        have lp2 : ∀ (d k : Nat), k + d = 64 → ja_W C 0 0 lay (mem) n 200 [some (.ref y), some (.long (B_cf (B_k2 mem y) (fun k => B_ou mem y ((k : Int) + 1)) k)), none, some (.int (ja_I (((k : Int) + 1))))] [] := by
          intro d
          induction d with
          | zero =>
            intro k hk
            refine r_iload_n F rfl rfl dX8_checksum_200 rfl ?_
            refine r_bipush F (by decide) dX8_checksum_201 rfl ?_
            refine r_icmp_gt F (tgt := 225) ⟨by omega, by omega⟩ ⟨by omega, by omega⟩ dX8_checksum_203 rfl (by decide) (fun h_203 => ?_) (fun h_203 => ?_)
            ·
              obtain rfl : k = 64 := by omega
              refine r_iconst F dX8_checksum_225 rfl ?_
              refine r_ist3 F (by decide) rfl dX8_checksum_226 rfl ?_
              have lp3 : ∀ (d k : Nat), k + d = 16 → ja_W C 0 0 lay (mem) n 227 [some (.ref y), some (.long (B_cf (B_k3 mem y) (fun k => B_ki mem y ((k : Int) + 1)) k)), none, some (.int (ja_I (((k : Int) + 1))))] [] := by
                intro d
                induction d with
                | zero =>
                  intro k hk
                  refine r_iload_n F rfl rfl dX8_checksum_227 rfl ?_
                  refine r_bipush F (by decide) dX8_checksum_228 rfl ?_
                  refine r_icmp_gt F (tgt := 252) ⟨by omega, by omega⟩ ⟨by omega, by omega⟩ dX8_checksum_230 rfl (by decide) (fun h_230 => ?_) (fun h_230 => ?_)
                  ·
                    obtain rfl : k = 16 := by omega
                    refine r_iconst F dX8_checksum_252 rfl ?_
                    refine r_ist3 F (by decide) rfl dX8_checksum_253 rfl ?_
                    have lp4 : ∀ (d k : Nat), k + d = 100 → ja_W C 0 0 lay (mem) n 254 [some (.ref y), some (.long (B_cf (B_k4 mem y) (fun k => B_ss mem y (k : Int)) k)), none, some (.int (ja_I ((k : Int))))] [] := by
                      intro d
                      induction d with
                      | zero =>
                        intro k hk
                        refine r_iload_n F rfl rfl dX8_checksum_254 rfl ?_
                        refine r_bipush F (by decide) dX8_checksum_255 rfl ?_
                        refine r_icmp_gt F (tgt := 279) ⟨by omega, by omega⟩ ⟨by omega, by omega⟩ dX8_checksum_257 rfl (by decide) (fun h_257 => ?_) (fun h_257 => ?_)
                        ·
                          obtain rfl : k = 100 := by omega
                          refine r_lload_n F rfl rfl dX8_checksum_279 rfl ?_
                          exact r_lret F Rt dX8_checksum_280 (by decide) ⟨by simp only [B_ck], rfl, rfl, rfl⟩
                        ·
                          exfalso; omega
                      | succ d ih =>
                        intro k hk
                        refine r_iload_n F rfl rfl dX8_checksum_254 rfl ?_
                        refine r_bipush F (by decide) dX8_checksum_255 rfl ?_
                        refine r_icmp_gt F (tgt := 279) ⟨by omega, by omega⟩ ⟨by omega, by omega⟩ dX8_checksum_257 rfl (by decide) (fun h_257 => ?_) (fun h_257 => ?_)
                        ·
                          exfalso; omega
                        ·
                          refine r_ldc2 F l_X8_237 dX8_checksum_260 rfl ?_
                          refine r_lload_n F rfl rfl dX8_checksum_263 rfl ?_
                          refine r_lmul F dX8_checksum_264 rfl ?_
                          refine r_aload_n F rfl rfl dX8_checksum_265 rfl ?_
                          refine r_iload_n F rfl rfl dX8_checksum_266 rfl ?_
                          refine r_callV F G (c_X8_state _ _ _ _ hB hO ⟨by omega, by omega⟩) v_X8_280 rfl (hB.1) rfl (by decide) (by decide) (Nat.le_of_ble_eq_true rfl) rfl dX8_checksum_267 rfl (fun v lay' mem' n' hp => ?_)
                          obtain ⟨q1, q2, q3, q4⟩ := hp
                          subst q1; subst q2; subst q3; subst q4
                          refine r_eqz (z := B_ss mem y (k : Int)) rfl ?_
                          refine r_i2l F dX8_checksum_270 rfl ?_
                          refine r_ladd F dX8_checksum_271 rfl ?_
                          refine r_lst1 F (by decide) rfl dX8_checksum_272 rfl ?_
                          refine r_inc3 F (by decide) rfl dX8_checksum_273 rfl ?_
                          refine r_goto F (tgt := 254) dX8_checksum_276 (by decide) ?_
                          rw [show (k : Int) + 1 = ((k + 1 : Nat) : Int) by omega]
                          have h0 := ih (k + 1) (by omega)
                          rw [B_cf_s] at h0
                          exact h0
                    have h0 := lp4 100 0 (by omega)
                    rw [B_cf_0] at h0
                    simp only [B_k4, B_m] at h0
                    exact h0
                  ·
                    exfalso; omega
                | succ d ih =>
                  intro k hk
                  refine r_iload_n F rfl rfl dX8_checksum_227 rfl ?_
                  refine r_bipush F (by decide) dX8_checksum_228 rfl ?_
                  refine r_icmp_gt F (tgt := 252) ⟨by omega, by omega⟩ ⟨by omega, by omega⟩ dX8_checksum_230 rfl (by decide) (fun h_230 => ?_) (fun h_230 => ?_)
                  ·
                    exfalso; omega
                  ·
                    refine r_ldc2 F l_X8_237 dX8_checksum_233 rfl ?_
                    refine r_lload_n F rfl rfl dX8_checksum_236 rfl ?_
                    refine r_lmul F dX8_checksum_237 rfl ?_
                    refine r_aload_n F rfl rfl dX8_checksum_238 rfl ?_
                    refine r_iload_n F rfl rfl dX8_checksum_239 rfl ?_
                    refine r_callV F G (c_X8_kind _ _ _ _ hB hO ⟨by omega, by omega⟩) v_X8_277 rfl (hB.1) rfl (by decide) (by decide) (Nat.le_of_ble_eq_true rfl) rfl dX8_checksum_240 rfl (fun v lay' mem' n' hp => ?_)
                    obtain ⟨q1, q2, q3, q4⟩ := hp
                    subst q1; subst q2; subst q3; subst q4
                    refine r_eqz (z := B_ki mem y ((k : Int) + 1)) rfl ?_
                    refine r_i2l F dX8_checksum_243 rfl ?_
                    refine r_ladd F dX8_checksum_244 rfl ?_
                    refine r_lst1 F (by decide) rfl dX8_checksum_245 rfl ?_
                    refine r_inc3 F (by decide) rfl dX8_checksum_246 rfl ?_
                    refine r_goto F (tgt := 227) dX8_checksum_249 (by decide) ?_
                    rw [show (k : Int) + 1 + 1 = ((k + 1 : Nat) : Int) + 1 by omega]
                    have h0 := ih (k + 1) (by omega)
                    rw [B_cf_s] at h0
                    exact h0
              have h0 := lp3 16 0 (by omega)
              rw [B_cf_0] at h0
              simp only [B_k3, B_m] at h0
              exact h0
            ·
              exfalso; omega
          | succ d ih =>
            intro k hk
            refine r_iload_n F rfl rfl dX8_checksum_200 rfl ?_
            refine r_bipush F (by decide) dX8_checksum_201 rfl ?_
            refine r_icmp_gt F (tgt := 225) ⟨by omega, by omega⟩ ⟨by omega, by omega⟩ dX8_checksum_203 rfl (by decide) (fun h_203 => ?_) (fun h_203 => ?_)
            ·
              exfalso; omega
            ·
              refine r_ldc2 F l_X8_237 dX8_checksum_206 rfl ?_
              refine r_lload_n F rfl rfl dX8_checksum_209 rfl ?_
              refine r_lmul F dX8_checksum_210 rfl ?_
              refine r_aload_n F rfl rfl dX8_checksum_211 rfl ?_
              refine r_iload_n F rfl rfl dX8_checksum_212 rfl ?_
              refine r_callV F G (c_X8_output _ _ _ _ hB hO ⟨by omega, by omega⟩) v_X8_274 rfl (hB.1) rfl (by decide) (by decide) (Nat.le_of_ble_eq_true rfl) rfl dX8_checksum_213 rfl (fun v lay' mem' n' hp => ?_)
              obtain ⟨q1, q2, q3, q4⟩ := hp
              subst q1; subst q2; subst q3; subst q4
              refine r_eqz (z := B_ou mem y ((k : Int) + 1)) rfl ?_
              refine r_i2l F dX8_checksum_216 rfl ?_
              refine r_ladd F dX8_checksum_217 rfl ?_
              refine r_lst1 F (by decide) rfl dX8_checksum_218 rfl ?_
              refine r_inc3 F (by decide) rfl dX8_checksum_219 rfl ?_
              refine r_goto F (tgt := 200) dX8_checksum_222 (by decide) ?_
              rw [show (k : Int) + 1 + 1 = ((k + 1 : Nat) : Int) + 1 by omega]
              have h0 := ih (k + 1) (by omega)
              rw [B_cf_s] at h0
              exact h0
        have h0 := lp2 64 0 (by omega)
        rw [B_cf_0] at h0
        simp only [B_k2, B_m] at h0
        exact h0
      ·
        exfalso; omega
    | succ d ih =>
      intro k hk
      refine r_iload_n F rfl rfl dX8_checksum_102 rfl ?_
      refine r_iconst F dX8_checksum_103 rfl ?_
      refine r_icmp_gt F (tgt := 126) ⟨by omega, by omega⟩ ⟨by omega, by omega⟩ dX8_checksum_104 rfl (by decide) (fun h_104 => ?_) (fun h_104 => ?_)
      ·
        exfalso; omega
      ·
        refine r_ldc2 F l_X8_237 dX8_checksum_107 rfl ?_
        refine r_lload_n F rfl rfl dX8_checksum_110 rfl ?_
        refine r_lmul F dX8_checksum_111 rfl ?_
        refine r_aload_n F rfl rfl dX8_checksum_112 rfl ?_
        refine r_iload_n F rfl rfl dX8_checksum_113 rfl ?_
        refine r_callV F G (c_X8_taken _ _ _ _ hB hO ⟨by omega, by omega⟩) v_X8_258 rfl (hB.1) rfl (by decide) (by decide) (Nat.le_of_ble_eq_true rfl) rfl dX8_checksum_114 rfl (fun v lay' mem' n' hp => ?_)
        obtain ⟨q1, q2, q3, q4⟩ := hp
        subst q1; subst q2; subst q3; subst q4
        refine r_eqz (z := B_tk mem y ((k : Int) + 1)) rfl ?_
        refine r_i2l F dX8_checksum_117 rfl ?_
        refine r_ladd F dX8_checksum_118 rfl ?_
        refine r_lst1 F (by decide) rfl dX8_checksum_119 rfl ?_
        refine r_inc3 F (by decide) rfl dX8_checksum_120 rfl ?_
        refine r_goto F (tgt := 102) dX8_checksum_123 (by decide) ?_
        rw [show (k : Int) + 1 + 1 = ((k + 1 : Nat) : Int) + 1 by omega]
        have h0 := ih (k + 1) (by omega)
        rw [B_cf_s] at h0
        exact h0
  have h0 := lp1 3 0 (by omega)
  rw [B_cf_0] at h0
  simp only [B_k1, B_m] at h0
  exact h0
abbrev rm_X8_keep : Room := { frames := 4, cells := 20, slots := 1269, locals := 88 }
set_option maxRecDepth 100000 in
set_option maxHeartbeats 4000000 in
theorem c_X8_keep (l : Launch) (D : va_G) (cA : Nat → ClassId) (B : Nat) {lay : ja_Y} {mem : ja_M} {n : Nat} {k : Int} {y : Nat} {sl : Nat → Option Nat} {t : Int} (hB : ja_LB lay y sl) (hO : ja_BO mem y sl t) (hk : ja_in k) (hn : y + 49 ≤ n) (hs : ∀ i o, i < 2 → sl i = some o → o + 20 ≤ n) : ja_Mt l D cA B yX8_keep cX8_keep 2 (some .int) rm_X8_keep [.ref y, .int (ja_I k)] lay mem n (B_kp lay mem n y sl k) := by
  refine ja_enter [some (.ref y), some (.int (ja_I k))] (by decide) (Nat.le_of_ble_eq_true rfl) (fun q hq => hq) (fun C F Rt G hnm => ?_)
  obtain ⟨b1, b2, b3, b4, b5⟩ := id hO
  obtain ⟨g1, g2, g3, g4, g5, g6, g7, g8, g9, g10, g11, g12⟩ := id b1
  obtain ⟨p1, p2, p3, p4, p5, p6⟩ := id g3
  obtain ⟨s0, s1, s2, s3, s4, s5, s6, s7, s8⟩ := id g1
  have tt := g2.1
  have a0 := g4.1
  obtain ⟨k1_, k2_⟩ := id hk
  refine r_iload_n F rfl rfl dX8_keep_0 rfl ?_
  refine r_if_lt F (tgt := 9) ⟨by omega, by omega⟩ dX8_keep_1 rfl (by decide) (fun h_1 => ?_) (fun h_1 => ?_)
  ·
    refine r_sipush F (by decide) dX8_keep_9 rfl ?_
    exact r_iret F Rt dX8_keep_12 (by decide) (Or.inl ⟨by omega, rfl, rfl, rfl, rfl⟩)
  ·
    refine r_iload_n F rfl rfl dX8_keep_4 rfl ?_
    refine r_iconst F dX8_keep_5 rfl ?_
    refine r_icmp_lt F (tgt := 13) ⟨by omega, by omega⟩ ⟨by omega, by omega⟩ dX8_keep_6 rfl (by decide) (fun h_6 => ?_) (fun h_6 => ?_)
    ·
      refine r_aload_n F rfl rfl dX8_keep_13 rfl ?_
      refine r_getR F f_X8_19 (hB.1) rfl dX8_keep_14 rfl ?_
      refine r_iload_n F rfl rfl dX8_keep_17 rfl ?_
      refine r_aald F (ja_LB_41 hB) (by omega) (by omega) (by decide) dX8_keep_18 rfl ?_
      cases hsl : sl k.toNat with
      | none =>
        refine r_nonnullN F dX8_keep_19 rfl ?_
        refine r_aload_n F rfl rfl dX8_keep_22 rfl ?_
        refine r_getR F f_X8_19 (hB.1) rfl dX8_keep_23 rfl ?_
        refine r_iload_n F rfl rfl dX8_keep_26 rfl ?_
        refine r_new F n_X8_7 (by decide) (by decide) dX8_keep_27 rfl ?_
        refine r_dup F rfl dX8_keep_30 rfl ?_
        refine r_callIN F G (c_X5_init _ _ _ _ (a := n) (ja_ly_s _ _ _) (fun j => ja_zr_s _ _ j)) i_X8_9 rfl (by decide) (by decide) (Nat.le_of_ble_eq_true rfl) rfl dX8_keep_31 rfl (fun v L1 M1 n1 hp => ?_)
        obtain ⟨q1, q2, hL1, hK1, hM1, hS1, hZ1⟩ := hp
        subst q1; subst q2
        replace hK1 : ∀ q, q < n → L1 q = lay q := fun q hq => (hK1 q hq).trans (ja_ly_n (by omega))
        replace hM1 : ∀ q, q < n → M1 q = mem q := fun q hq => (hM1 q hq).trans (ja_zr_n (by omega))
        refine r_aast F (r := sl) ((hK1 (y + 41) (by omega)).trans hB.2.2.2.1) hL1.1 (by omega) (by omega) (by decide) dX8_keep_34 rfl ?_
        generalize hLg : ja_ly L1 (y + 41) (.inr (3, 2, va_up sl k.toNat (some n))) = L2
        have hL2 : L2 (y + 41) = some (.inr (3, 2, va_up sl k.toNat (some n))) := by rw [← hLg]; exact ja_ly_s _ _ _
        have hn2 : ∀ q, q ≠ y + 41 → L2 q = L1 q := fun q hq => by rw [← hLg]; exact ja_ly_n hq
        have hLRn : ja_LR L2 n := ja_LR_c (fun q a1 a2 => hn2 q (by omega)) hL1
        have hkq : ∀ q, q < n → q ≠ y + 41 → L2 q = lay q := fun q a1 a2 => (hn2 q a2).trans (hK1 q a1)
        have hB2 : ja_LB L2 y (va_up sl k.toNat (some n)) := ja_LB_c (fun q a1 a2 a3 => hkq q (by omega) a3) hL2 (fun i o hi ho => by
          unfold va_up at ho
          split at ho
          · cases ho
            exact ⟨by omega, hLRn⟩
          · obtain ⟨e1, e2⟩ := hB.2.2.2.2.2.2 i o hi ho
            have e3 := hs i o hi ho
            exact ⟨e1, ja_LR_c (fun q a1 a2 => hkq q (by omega) (by omega)) e2⟩) hB
        have hROy : ja_RO M1 (y + 1) t := ja_RO_all (fun q a1 a2 => hM1 q (by omega)) b1
        have hROn : ja_RO M1 n 0 := RO_0 hS1 (fun q j a1 a2 a3 => hZ1 q j a1 a2 a3)
        refine r_aload_n F rfl rfl dX8_keep_35 rfl ?_
        refine r_getR F f_X8_19 (hB2.1) rfl dX8_keep_36 rfl ?_
        refine r_iload_n F rfl rfl dX8_keep_39 rfl ?_
        refine r_aald F (ja_LB_41 hB2) (by omega) (by omega) (by decide) dX8_keep_40 rfl ?_
        rw [show va_up sl k.toNat (some n) k.toNat = some n by simp [va_up]]
        refine r_aload_n F rfl rfl dX8_keep_41 rfl ?_
        refine r_getR F f_X8_10 (hB2.1) rfl dX8_keep_42 rfl ?_
        refine r_callV F G (c_X5_copyFrom _ _ _ _ hLRn (ja_LB_1 hB2) hROy (by omega)) v_X8_207 rfl (hLRn.1) rfl (by decide) (by decide) (Nat.le_of_ble_eq_true rfl) rfl dX8_keep_45 rfl (fun v lay' mem' n' hp => ?_)
        obtain ⟨q1, q2, q3, q4⟩ := hp
        subst q1; subst q2; subst q3; subst q4
        refine r_aload_n F rfl rfl dX8_keep_48 rfl ?_
        refine r_getR F f_X8_10 (hB2.1) rfl dX8_keep_49 rfl ?_
        refine r_getI F f_X8_104 ((ja_LB_1 hB2).1) rfl dX8_keep_52 rfl ?_
        refine r_eqz (z := mem (y + 1) 6) (by rw [R_cp_o (by omega), hM1 (y + 1) (by omega)]) ?_
        exact r_iret F Rt dX8_keep_55 (by decide) (Or.inr ⟨n, M1, ⟨by omega, by omega⟩, rfl, rfl, hM1, Or.inr ⟨hsl, rfl, rfl, hLRn, hkq, hL2, hS1, hZ1⟩⟩)
      | some o =>
        obtain ⟨hyo, hLo⟩ := hB.2.2.2.2.2.2 k.toNat o (by omega) hsl
        have hRo := b5 k.toNat o (by omega) hsl
        refine r_nonnull F (tgt := 35) dX8_keep_19 (by decide) ?_
        refine r_aload_n F rfl rfl dX8_keep_35 rfl ?_
        refine r_getR F f_X8_19 (hB.1) rfl dX8_keep_36 rfl ?_
        refine r_iload_n F rfl rfl dX8_keep_39 rfl ?_
        refine r_aald F (ja_LB_41 hB) (by omega) (by omega) (by decide) dX8_keep_40 rfl ?_
        rw [hsl]
        refine r_aload_n F rfl rfl dX8_keep_41 rfl ?_
        refine r_getR F f_X8_10 (hB.1) rfl dX8_keep_42 rfl ?_
        refine r_callV F G (c_X5_copyFrom _ _ _ _ hLo (ja_LB_1 hB) b1 (by omega)) v_X8_207 rfl (hLo.1) rfl (by decide) (by decide) (Nat.le_of_ble_eq_true rfl) rfl dX8_keep_45 rfl (fun v lay' mem' n' hp => ?_)
        obtain ⟨q1, q2, q3, q4⟩ := hp
        subst q1; subst q2; subst q3; subst q4
        refine r_aload_n F rfl rfl dX8_keep_48 rfl ?_
        refine r_getR F f_X8_10 (hB.1) rfl dX8_keep_49 rfl ?_
        refine r_getI F f_X8_104 ((ja_LB_1 hB).1) rfl dX8_keep_52 rfl ?_
        refine r_eqz (z := mem (y + 1) 6) (by rw [R_cp_o (by omega)]) ?_
        exact r_iret F Rt dX8_keep_55 (by decide) (Or.inr ⟨o, mem, ⟨by omega, by omega⟩, rfl, rfl, fun q _ => rfl, Or.inl ⟨hsl, rfl, rfl, rfl⟩⟩)
    ·
      refine r_sipush F (by decide) dX8_keep_9 rfl ?_
      exact r_iret F Rt dX8_keep_12 (by decide) (Or.inl ⟨by omega, rfl, rfl, rfl, rfl⟩)
