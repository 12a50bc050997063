abbrev rm_X9_takes : Room := { frames := 3, cells := 0, slots := 0, locals := 73 }
set_option maxRecDepth 100000 in
set_option maxHeartbeats 800000 in
theorem c_X9_takes (l : Launch) (D : va_G) (cA : Nat → ClassId) (B : Nat) {lay : ja_Y} {n : Nat} {m : Nat} {G : ja_M} {v : Nat → Int} (hM : ja_LM lay m) {t : Int} (hO : N_O v t) (hn : v 11 ≤ 999) : ja_Mt l D cA B yX9_takes cX9_takes 4 none rm_X9_takes [.ref m] lay (ja_rw G (m + 1) v) n (N_pg lay m n G (N_tk v) (none)) := by
  refine ja_enter [some (.ref m), none, none, none] (by decide) (Nat.le_of_ble_eq_true rfl) (fun q hq => hq) (fun C F Rt GC hnm => ?_)
  have hR := hO.1
  have hS := hR.S
  have hC := hR.C
  obtain ⟨o1, o2, o3, o4, o5, o6, o7⟩ := id hO.2.1
  obtain ⟨hu1, hu2, -⟩ := N_tu_R hO hn
  have hkd := @N_kd_in v (v 11)
  have hfr := hR.F (j := (30 + v 11).toNat) (by omega) (by omega)
  have hR0 : N_R (N_t0 v) := (hR.rs (i := 22) (show (0 : Int) ≤ 0 ∧ (0 : Int) ≤ 24 by omega)).rs (i := 23) (show (0 : Int) ≤ 0 ∧ (0 : Int) ≤ 24 by omega)
  have e13 : N_t0 v 13 = v 13 := by unfold N_t0; rw [ja_rs_n (by omega), ja_rs_n (by omega)]
  have e14 : N_t0 v 14 = v 14 := by unfold N_t0; rw [ja_rs_n (by omega), ja_rs_n (by omega)]
  have e22 : N_t0 v 22 = 0 := by unfold N_t0; rw [ja_rs_n (by omega), ja_rs_s]
  have hRc : N_R (N_tc (N_t0 v)) := by unfold N_tc; exact (hR0.rs (i := 13) (show 0 ≤ N_t0 v 13 + 1 ∧ N_t0 v 13 + 1 ≤ 1000 by omega)).rs (i := 14) (show 0 ≤ _ ∧ _ ≤ (1000 : Int) by split <;> omega)
  have hRf : N_R (ja_rs (N_t0 v) 13 0) := hR0.rs (i := 13) (show (0 : Int) ≤ 0 ∧ (0 : Int) ≤ 1000 by omega)
  refine r_aload_n F rfl rfl dX9_takes_0 rfl ?_
  refine r_getR F f_X9_7 (hM.1) rfl dX9_takes_1 rfl ?_
  refine r_bipush F (by decide) dX9_takes_4 rfl ?_
  refine r_iald F (ja_LM_1 hM) (by omega) (by omega) (by decide) dX9_takes_6 rfl ?_
  refine r_eqz (z := (v 11)) (by rw [ja_rw_s, show Int.toNat 11 = 11 from rfl]) ?_
  refine r_ist1 F (by decide) rfl dX9_takes_7 rfl ?_
  have J43 : ja_W C 0 0 lay (ja_rw G (m + 1) v) n 43 [some (.ref (m)), some (.int (ja_I ((v 11)))), none, none] [.int (ja_I (N_kd v (v 11)))] := by
    refine r_ist2 F (by decide) rfl dX9_takes_43 rfl ?_
    refine r_aload_n F rfl rfl dX9_takes_44 rfl ?_
    refine r_getR F f_X9_7 (hM.1) rfl dX9_takes_45 rfl ?_
    refine r_bipush F (by decide) dX9_takes_48 rfl ?_
    refine r_iconst F dX9_takes_50 rfl ?_
    refine r_iast F (ja_LM_1 hM) (by omega) (by omega) (by decide) dX9_takes_51 rfl ?_
    refine r_mem (mem' := ja_rw G (m + 1) (ja_rs v 22 0)) (ja_rw_up _ _ _ _ _) ?_
    refine r_aload_n F rfl rfl dX9_takes_52 rfl ?_
    refine r_getR F f_X9_7 (hM.1) rfl dX9_takes_53 rfl ?_
    refine r_bipush F (by decide) dX9_takes_56 rfl ?_
    refine r_iconst F dX9_takes_58 rfl ?_
    refine r_iast F (ja_LM_1 hM) (by omega) (by omega) (by decide) dX9_takes_59 rfl ?_
    refine r_mem (mem' := ja_rw G (m + 1) (ja_rs (ja_rs v 22 0) 23 0)) (ja_rw_up _ _ _ _ _) ?_
    refine r_mem (mem' := ja_rw G (m + 1) (N_t0 v)) rfl ?_
    have J137 : ∀ G1 : ja_M, N_ge m G G1 → ja_W C 0 0 lay (ja_rw G1 (m + 1) (N_tu v)) n 137 [some (.ref m), some (.int (ja_I (v 11))), some (.int (ja_I (N_kd v (v 11)))), none] [] := by
      intro G1 hG1
      have uC := hu1.C
      refine r_aload_n F rfl rfl dX9_takes_137 rfl ?_
      refine r_getR F f_X9_7 (hM.1) rfl dX9_takes_138 rfl ?_
      refine r_bipush F (by decide) dX9_takes_141 rfl ?_
      refine r_iload_n F rfl rfl dX9_takes_143 rfl ?_
      refine r_iadd F dX9_takes_144 rfl ?_
      refine r_dup2 F rfl rfl dX9_takes_145 rfl ?_
      refine r_iald F (ja_LM_1 hM) (by omega) (by omega) (by decide) dX9_takes_146 rfl ?_
      refine r_eqz (z := ((N_tu v) (Int.toNat (18 + (N_kd v (v 11)))))) (by rw [ja_rw_s]) ?_
      refine r_iconst F dX9_takes_147 rfl ?_
      refine r_iadd F dX9_takes_148 rfl ?_
      refine r_iast F (ja_LM_1 hM) (by omega) (by omega) (by decide) dX9_takes_149 rfl ?_
      refine r_mem (mem' := ja_rw G1 (m + 1) (ja_rs (N_tu v) (Int.toNat (18 + (N_kd v (v 11)))) (((N_tu v) (Int.toNat (18 + (N_kd v (v 11))))) + 1))) (ja_rw_up _ _ _ _ _) ?_
      refine r_mem (mem' := ja_rw G1 (m + 1) (N_td (N_tu v) (N_kd v (v 11)))) rfl ?_
      refine r_sipush F (by decide) dX9_takes_150 rfl ?_
      refine r_ist3 F (by decide) rfl dX9_takes_153 rfl ?_
      have loop : ∀ (d c : Nat), c + d = 31 → ja_W C 0 0 lay (ja_rw G1 (m + 1) (N_sk (N_td (N_tu v) (N_kd v (v 11))) c)) n 154 [some (.ref (m)), some (.int (ja_I (v 11))), some (.int (ja_I ((N_kd v (v 11))))), some (.int (ja_I ((2341 - (c : Int)))))] [] := by
        intro d
        induction d with
        | zero =>
          intro c hc
          refine r_iload_n F rfl rfl dX9_takes_154 rfl ?_
          refine r_sipush F (by decide) dX9_takes_155 rfl ?_
          refine r_icmp_le F (tgt := 181) ⟨by omega, by omega⟩ ⟨by omega, by omega⟩ dX9_takes_158 rfl (by decide) (fun h_158 => ?_) (fun h_158 => ?_)
          ·
            obtain rfl : c = 31 := by omega
            refine r_aload_n F rfl rfl dX9_takes_181 rfl ?_
            refine r_getR F f_X9_7 (hM.1) rfl dX9_takes_182 rfl ?_
            refine r_sipush F (by decide) dX9_takes_185 rfl ?_
            refine r_iload_n F rfl rfl dX9_takes_188 rfl ?_
            refine r_iast F (ja_LM_1 hM) (by omega) (by omega) (by decide) dX9_takes_189 rfl ?_
            refine r_mem (mem' := ja_rw G1 (m + 1) (ja_rs (N_sk (N_td (N_tu v) (N_kd v (v 11))) 31) 2310 (N_kd v (v 11)))) (ja_rw_up _ _ _ _ _) ?_
            refine r_aload_n F rfl rfl dX9_takes_190 rfl ?_
            refine r_getR F f_X9_7 (hM.1) rfl dX9_takes_191 rfl ?_
            refine r_bipush F (by decide) dX9_takes_194 rfl ?_
            refine r_dup2 F rfl rfl dX9_takes_196 rfl ?_
            refine r_iald F (ja_LM_1 hM) (by omega) (by omega) (by decide) dX9_takes_197 rfl ?_
            refine r_eqz (z := ((N_td (N_tu v) (N_kd v (v 11))) 11)) (by rw [ja_rw_s, show Int.toNat 11 = 11 from rfl, ja_rs_n (by omega)]; exact N_sk_n 31 (by omega) (by omega)) ?_
            refine r_iconst F dX9_takes_198 rfl ?_
            refine r_iadd F dX9_takes_199 rfl ?_
            refine r_iast F (ja_LM_1 hM) (by omega) (by omega) (by decide) dX9_takes_200 rfl ?_
            refine r_mem (mem' := ja_rw G1 (m + 1) (ja_rs (ja_rs (N_sk (N_td (N_tu v) (N_kd v (v 11))) 31) 2310 (N_kd v (v 11))) 11 (((N_td (N_tu v) (N_kd v (v 11))) 11) + 1))) (ja_rw_up _ _ _ _ _) ?_
            exact r_vret F Rt dX9_takes_201 (by decide) ⟨rfl, rfl, rfl, G1, hG1, rfl⟩
          ·
            exfalso; omega
        | succ d ih =>
          intro c hc
          refine r_iload_n F rfl rfl dX9_takes_154 rfl ?_
          refine r_sipush F (by decide) dX9_takes_155 rfl ?_
          refine r_icmp_le F (tgt := 181) ⟨by omega, by omega⟩ ⟨by omega, by omega⟩ dX9_takes_158 rfl (by decide) (fun h_158 => ?_) (fun h_158 => ?_)
          ·
            exfalso; omega
          ·
            refine r_aload_n F rfl rfl dX9_takes_161 rfl ?_
            refine r_getR F f_X9_7 (hM.1) rfl dX9_takes_162 rfl ?_
            refine r_iload_n F rfl rfl dX9_takes_165 rfl ?_
            refine r_aload_n F rfl rfl dX9_takes_166 rfl ?_
            refine r_getR F f_X9_7 (hM.1) rfl dX9_takes_167 rfl ?_
            refine r_iload_n F rfl rfl dX9_takes_170 rfl ?_
            refine r_iconst F dX9_takes_171 rfl ?_
            refine r_isub F dX9_takes_172 rfl ?_
            refine r_iald F (ja_LM_1 hM) (by omega) (by omega) (by decide) dX9_takes_173 rfl ?_
            refine r_eqz (z := ((N_sk (N_td (N_tu v) (N_kd v (v 11))) c) (Int.toNat ((2341 - (c : Int)) - 1)))) (by rw [ja_rw_s]) ?_
            refine r_iast F (ja_LM_1 hM) (by omega) (by omega) (by decide) dX9_takes_174 rfl ?_
            refine r_mem (mem' := ja_rw G1 (m + 1) (ja_rs (N_sk (N_td (N_tu v) (N_kd v (v 11))) c) (Int.toNat (2341 - (c : Int))) ((N_sk (N_td (N_tu v) (N_kd v (v 11))) c) (Int.toNat ((2341 - (c : Int)) - 1))))) (ja_rw_up _ _ _ _ _) ?_
            refine r_inc3 F (by decide) rfl dX9_takes_175 rfl ?_
            refine r_goto F (tgt := 154) dX9_takes_178 (by decide) ?_
            have e1 : N_sk (N_td (N_tu v) (N_kd v (v 11))) c (Int.toNat ((2341 - (c : Int)) - 1)) = (N_td (N_tu v) (N_kd v (v 11))) (2340 - c) := by rw [show Int.toNat ((2341 - (c : Int)) - 1) = 2340 - c by omega]; exact N_sk_n c (by omega) (by omega)
            rw [e1, show (2341 - (c : Int)) + (-1) = 2341 - ((c + 1 : Nat) : Int) by omega, show Int.toNat (2341 - (c : Int)) = 2341 - c by omega]
            exact ih (c + 1) (by omega)
      exact loop (31) 0 (by omega)
    refine r_iload_n F rfl rfl dX9_takes_60 rfl ?_
    refine r_iconst F dX9_takes_61 rfl ?_
    refine r_icmp_ne F (tgt := 124) ⟨by omega, by omega⟩ ⟨by omega, by omega⟩ dX9_takes_62 rfl (by decide) (fun h_62 => ?_) (fun h_62 => ?_)
    ·
      have h62 : ¬ N_kd v (v 11) = 3 := h_62
      refine r_aload_n F rfl rfl dX9_takes_124 rfl ?_
      refine r_getR F f_X9_7 (hM.1) rfl dX9_takes_125 rfl ?_
      refine r_bipush F (by decide) dX9_takes_128 rfl ?_
      refine r_iconst F dX9_takes_130 rfl ?_
      refine r_iast F (ja_LM_1 hM) (by omega) (by omega) (by decide) dX9_takes_131 rfl ?_
      refine r_mem (mem' := ja_rw G (m + 1) (ja_rs (N_t0 v) 13 0)) (ja_rw_up _ _ _ _ _) ?_
      refine r_aload_n F rfl rfl dX9_takes_132 rfl ?_
      refine r_iload_n F rfl rfl dX9_takes_133 rfl ?_
      refine r_callV F GC (c_X9_fits _ _ _ _ hM hRf ⟨by omega, by omega⟩ (by rw [ja_rs_n (by omega)]; exact e22)) v_X9_132 rfl (hM.1) rfl (by decide) (by decide) (Nat.le_of_ble_eq_true rfl) rfl dX9_takes_134 rfl (fun v lay' mem' n' hp => ?_)
      obtain ⟨q1, q2, q3, G1, hG1, q4⟩ := hp
      subst q1; subst q2; subst q3; subst q4
      refine r_mem (mem' := ja_rw G1 (m + 1) (N_tu v)) (by rw [N_tu, if_neg h62]) ?_
      exact J137 _ hG1
    ·
      have h62 : N_kd v (v 11) = 3 := h_62
      refine r_aload_n F rfl rfl dX9_takes_65 rfl ?_
      refine r_getR F f_X9_7 (hM.1) rfl dX9_takes_66 rfl ?_
      refine r_bipush F (by decide) dX9_takes_69 rfl ?_
      refine r_dup2 F rfl rfl dX9_takes_71 rfl ?_
      refine r_iald F (ja_LM_1 hM) (by omega) (by omega) (by decide) dX9_takes_72 rfl ?_
      refine r_eqz (z := ((N_t0 v) 13)) (by rw [ja_rw_s, show Int.toNat 13 = 13 from rfl]) ?_
      refine r_iconst F dX9_takes_73 rfl ?_
      refine r_iadd F dX9_takes_74 rfl ?_
      refine r_iast F (ja_LM_1 hM) (by omega) (by omega) (by decide) dX9_takes_75 rfl ?_
      refine r_mem (mem' := ja_rw G (m + 1) (ja_rs (N_t0 v) 13 (((N_t0 v) 13) + 1))) (ja_rw_up _ _ _ _ _) ?_
      refine r_aload_n F rfl rfl dX9_takes_76 rfl ?_
      refine r_getR F f_X9_7 (hM.1) rfl dX9_takes_77 rfl ?_
      refine r_bipush F (by decide) dX9_takes_80 rfl ?_
      have J116 : ja_W C 0 0 lay (ja_rw G (m + 1) (ja_rs (N_t0 v) 13 (((N_t0 v) 13) + 1))) n 116 [some (.ref (m)), some (.int (ja_I ((v 11)))), some (.int (ja_I ((N_kd v (v 11))))), none] [.int (ja_I (if N_t0 v 14 < N_t0 v 13 + 1 then N_t0 v 13 + 1 else N_t0 v 14)), .int (ja_I (14)), .ref ((m + 1))] := by
        refine r_iast F (ja_LM_1 hM) (by omega) (by omega) (by decide) dX9_takes_116 rfl ?_
        refine r_mem (mem' := ja_rw G (m + 1) (ja_rs (ja_rs (N_t0 v) 13 (((N_t0 v) 13) + 1)) 14 (if N_t0 v 14 < N_t0 v 13 + 1 then N_t0 v 13 + 1 else N_t0 v 14))) (ja_rw_up _ _ _ _ _) ?_
        refine r_mem (mem' := ja_rw G (m + 1) (N_tc (N_t0 v))) rfl ?_
        refine r_aload_n F rfl rfl dX9_takes_117 rfl ?_
        refine r_callV F GC (c_X9_conceals _ _ _ _ hM hRc (by unfold N_tc; rw [ja_rs_n (by omega), ja_rs_n (by omega)]; exact e22)) v_X9_129 rfl (hM.1) rfl (by decide) (by decide) (Nat.le_of_ble_eq_true rfl) rfl dX9_takes_118 rfl (fun v lay' mem' n' hp => ?_)
        obtain ⟨q1, q2, q3, q4⟩ := hp
        subst q1; subst q2; subst q3; subst q4
        refine r_goto F (tgt := 137) dX9_takes_121 (by decide) ?_
        refine r_mem (mem' := ja_rw G (m + 1) (N_tu v)) (by rw [N_tu, if_pos h62]) ?_
        exact J137 G N_ge.rf
      refine r_aload_n F rfl rfl dX9_takes_82 rfl ?_
      refine r_getR F f_X9_7 (hM.1) rfl dX9_takes_83 rfl ?_
      refine r_bipush F (by decide) dX9_takes_86 rfl ?_
      refine r_iald F (ja_LM_1 hM) (by omega) (by omega) (by decide) dX9_takes_88 rfl ?_
      refine r_eqz (z := (((N_t0 v) 13) + 1)) (by rw [ja_rw_s, show Int.toNat 13 = 13 from rfl, ja_rs_s]) ?_
      refine r_aload_n F rfl rfl dX9_takes_89 rfl ?_
      refine r_getR F f_X9_7 (hM.1) rfl dX9_takes_90 rfl ?_
      refine r_bipush F (by decide) dX9_takes_93 rfl ?_
      refine r_iald F (ja_LM_1 hM) (by omega) (by omega) (by decide) dX9_takes_95 rfl ?_
      refine r_eqz (z := ((N_t0 v) 14)) (by rw [ja_rw_s, show Int.toNat 14 = 14 from rfl, ja_rs_n (by omega)]) ?_
      refine r_icmp_le F (tgt := 109) ⟨by omega, by omega⟩ ⟨by omega, by omega⟩ dX9_takes_96 rfl (by decide) (fun h_96 => ?_) (fun h_96 => ?_)
      ·
        refine r_aload_n F rfl rfl dX9_takes_109 rfl ?_
        refine r_getR F f_X9_7 (hM.1) rfl dX9_takes_110 rfl ?_
        refine r_bipush F (by decide) dX9_takes_113 rfl ?_
        refine r_iald F (ja_LM_1 hM) (by omega) (by omega) (by decide) dX9_takes_115 rfl ?_
        refine r_eqz (z := ((N_t0 v) 14)) (by rw [ja_rw_s, show Int.toNat 14 = 14 from rfl, ja_rs_n (by omega)]) ?_
        refine r_eqz (z := if N_t0 v 14 < N_t0 v 13 + 1 then N_t0 v 13 + 1 else N_t0 v 14) (by first | rw [if_pos (by omega)] | rw [if_neg (by omega)]) ?_
        exact J116
      ·
        refine r_aload_n F rfl rfl dX9_takes_99 rfl ?_
        refine r_getR F f_X9_7 (hM.1) rfl dX9_takes_100 rfl ?_
        refine r_bipush F (by decide) dX9_takes_103 rfl ?_
        refine r_iald F (ja_LM_1 hM) (by omega) (by omega) (by decide) dX9_takes_105 rfl ?_
        refine r_eqz (z := (((N_t0 v) 13) + 1)) (by rw [ja_rw_s, show Int.toNat 13 = 13 from rfl, ja_rs_s]) ?_
        refine r_goto F (tgt := 116) dX9_takes_106 (by decide) ?_
        refine r_eqz (z := if N_t0 v 14 < N_t0 v 13 + 1 then N_t0 v 13 + 1 else N_t0 v 14) (by first | rw [if_pos (by omega)] | rw [if_neg (by omega)]) ?_
        exact J116
  refine r_aload_n F rfl rfl dX9_takes_8 rfl ?_
  refine r_getR F f_X9_7 (hM.1) rfl dX9_takes_9 rfl ?_
  refine r_bipush F (by decide) dX9_takes_12 rfl ?_
  refine r_iload_n F rfl rfl dX9_takes_14 rfl ?_
  refine r_iadd F dX9_takes_15 rfl ?_
  refine r_iald F (ja_LM_1 hM) (by omega) (by omega) (by decide) dX9_takes_16 rfl ?_
  refine r_eqz (z := (v (Int.toNat (30 + (v 11))))) (by rw [ja_rw_s]) ?_
  refine r_iconst F dX9_takes_17 rfl ?_
  refine r_icmp_ne F (tgt := 25) ⟨by omega, by omega⟩ ⟨by omega, by omega⟩ dX9_takes_18 rfl (by decide) (fun h_18 => ?_) (fun h_18 => ?_)
  ·
    refine r_aload_n F rfl rfl dX9_takes_25 rfl ?_
    refine r_getR F f_X9_7 (hM.1) rfl dX9_takes_26 rfl ?_
    refine r_bipush F (by decide) dX9_takes_29 rfl ?_
    refine r_iload_n F rfl rfl dX9_takes_31 rfl ?_
    refine r_iadd F dX9_takes_32 rfl ?_
    refine r_iald F (ja_LM_1 hM) (by omega) (by omega) (by decide) dX9_takes_33 rfl ?_
    refine r_eqz (z := (v (Int.toNat (30 + (v 11))))) (by rw [ja_rw_s]) ?_
    refine r_iconst F dX9_takes_34 rfl ?_
    refine r_icmp_ne F (tgt := 42) ⟨by omega, by omega⟩ ⟨by omega, by omega⟩ dX9_takes_35 rfl (by decide) (fun h_35 => ?_) (fun h_35 => ?_)
    ·
      refine r_iconst F dX9_takes_42 rfl ?_
      refine r_eqz (z := N_kd v (v 11)) (by unfold N_kd; first | rw [if_pos h_18] | rw [if_neg h_18, if_pos h_35] | rw [if_neg h_18, if_neg h_35]) ?_
      exact J43
    ·
      refine r_iconst F dX9_takes_38 rfl ?_
      refine r_goto F (tgt := 43) dX9_takes_39 (by decide) ?_
      refine r_eqz (z := N_kd v (v 11)) (by unfold N_kd; first | rw [if_pos h_18] | rw [if_neg h_18, if_pos h_35] | rw [if_neg h_18, if_neg h_35]) ?_
      exact J43
  ·
    refine r_iconst F dX9_takes_21 rfl ?_
    refine r_goto F (tgt := 43) dX9_takes_22 (by decide) ?_
    refine r_eqz (z := N_kd v (v 11)) (by unfold N_kd; first | rw [if_pos h_18] | rw [if_neg h_18, if_pos h_35] | rw [if_neg h_18, if_neg h_35]) ?_
    exact J43
