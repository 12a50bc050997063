abbrev rm_X9_tick : Room := { frames := 7, cells := 0, slots := 0, locals := 168 }
set_option maxRecDepth 100000 in
set_option maxHeartbeats 800000 in
theorem c_X9_tick (l : Launch) (D : va_G) (cA : Nat → ClassId) (B : Nat) {lay : ja_Y} {n : Nat} {m : Nat} {G : ja_M} {v : Nat → Int} (hM : ja_LM lay m) {t : Int} (hO : N_O v t) (ht : t ≤ 900000)  : ja_Mt l D cA B yX9_tick cX9_tick 2 (some .int) rm_X9_tick [.ref m] lay (ja_rw G (m + 1) v) n (N_pg lay m n G (N_ti v) (some (.int (ja_I (N_to v))))) := by
  refine ja_enter [some (.ref m), none] (by decide) (Nat.le_of_ble_eq_true rfl) (fun q hq => hq) (fun C F Rt GC hnm => ?_)
  have hR := hO.1
  have hS := hR.S
  have hC := hR.C
  obtain ⟨o1, o2, o3, o4, o5, o6, o7⟩ := id hO.2.1
  have h1 := N_t1_O hO ht
  have h1C := h1.1.C
  obtain ⟨h2, -⟩ := N_t2_O h1
  have h2C := h2.1.C
  have h2g := h2.1.G (j := (2342 + N_t2 (N_t1 v) 23).toNat)
  refine r_aload_n F rfl rfl dX9_tick_0 rfl ?_
  refine r_callV F GC (c_X9_arrivesBySchedule _ _ _ _ hM hO (by omega)) v_X9_135 rfl (hM.1) rfl (by decide) (by decide) (Nat.le_of_ble_eq_true rfl) rfl dX9_tick_1 rfl (fun v lay' mem' n' hp => ?_)
  obtain ⟨q1, q2, q3, q4⟩ := hp
  subst q1; subst q2; subst q3; subst q4
  refine r_aload_n F rfl rfl dX9_tick_4 rfl ?_
  refine r_getR F f_X9_7 (hM.1) rfl dX9_tick_5 rfl ?_
  refine r_bipush F (by decide) dX9_tick_8 rfl ?_
  refine r_iconst F dX9_tick_10 rfl ?_
  refine r_iast F (ja_LM_1 hM) (by omega) (by omega) (by decide) dX9_tick_11 rfl ?_
  refine r_mem (mem' := ja_rw G (m + 1) (ja_rs (N_as v) 27 0)) (ja_rw_up _ _ _ _ _) ?_
  refine r_mem (mem' := ja_rw G (m + 1) (N_t1 v)) rfl ?_
  refine r_iconst F dX9_tick_12 rfl ?_
  refine r_ist1 F (by decide) rfl dX9_tick_13 rfl ?_
  have J167 : ∀ (G1 : ja_M) (z : Int), N_ge m G G1 → z = N_to v → ja_W C 0 0 lay (ja_rw G1 (m + 1) (N_pl (N_t1 v))) n 167 [some (.ref m), some (.int (ja_I z))] [] := by
    intro G1 z hG1 hz
    subst hz
    refine r_aload_n F rfl rfl dX9_tick_167 rfl ?_
    refine r_getR F f_X9_7 (hM.1) rfl dX9_tick_168 rfl ?_
    refine r_bipush F (by decide) dX9_tick_171 rfl ?_
    refine r_dup2 F rfl rfl dX9_tick_173 rfl ?_
    refine r_iald F (ja_LM_1 hM) (by omega) (by omega) (by decide) dX9_tick_174 rfl ?_
    refine r_eqz (z := ((N_pl (N_t1 v)) 9)) (by rw [ja_rw_s, show Int.toNat 9 = 9 from rfl]) ?_
    refine r_iconst F dX9_tick_175 rfl ?_
    refine r_iadd F dX9_tick_176 rfl ?_
    refine r_iast F (ja_LM_1 hM) (by omega) (by omega) (by decide) dX9_tick_177 rfl ?_
    refine r_mem (mem' := ja_rw G1 (m + 1) (ja_rs (N_pl (N_t1 v)) 9 (((N_pl (N_t1 v)) 9) + 1))) (ja_rw_up _ _ _ _ _) ?_
    refine r_iload_n F rfl rfl dX9_tick_178 rfl ?_
    exact r_iret F Rt dX9_tick_179 (by decide) ⟨rfl, rfl, rfl, G1, hG1, rfl⟩
  refine r_aload_n F rfl rfl dX9_tick_14 rfl ?_
  refine r_getR F f_X9_7 (hM.1) rfl dX9_tick_15 rfl ?_
  refine r_bipush F (by decide) dX9_tick_18 rfl ?_
  refine r_iald F (ja_LM_1 hM) (by omega) (by omega) (by decide) dX9_tick_20 rfl ?_
  refine r_eqz (z := ((N_t1 v) 10)) (by rw [ja_rw_s, show Int.toNat 10 = 10 from rfl]) ?_
  refine r_if_lt F (tgt := 167) ⟨by omega, by omega⟩ dX9_tick_21 rfl (by decide) (fun h_21 => ?_) (fun h_21 => ?_)
  ·
    have hon : ¬ N_on (N_t1 v) := fun q => by have q1 := q.1; have q2 := q.2; omega
    refine r_mem (mem' := ja_rw G (m + 1) (N_pl (N_t1 v))) (by rw [N_pl, if_neg hon]) ?_
    exact J167 G 0 N_ge.rf (by rw [N_to, if_neg (fun q => hon q.1)])
  ·
    refine r_aload_n F rfl rfl dX9_tick_24 rfl ?_
    refine r_getR F f_X9_7 (hM.1) rfl dX9_tick_25 rfl ?_
    refine r_bipush F (by decide) dX9_tick_28 rfl ?_
    refine r_iald F (ja_LM_1 hM) (by omega) (by omega) (by decide) dX9_tick_30 rfl ?_
    refine r_eqz (z := ((N_t1 v) 9)) (by rw [ja_rw_s, show Int.toNat 9 = 9 from rfl]) ?_
    refine r_aload_n F rfl rfl dX9_tick_31 rfl ?_
    refine r_getR F f_X9_7 (hM.1) rfl dX9_tick_32 rfl ?_
    refine r_bipush F (by decide) dX9_tick_35 rfl ?_
    refine r_iald F (ja_LM_1 hM) (by omega) (by omega) (by decide) dX9_tick_37 rfl ?_
    refine r_eqz (z := ((N_t1 v) 10)) (by rw [ja_rw_s, show Int.toNat 10 = 10 from rfl]) ?_
    refine r_icmp_lt F (tgt := 167) ⟨by omega, by omega⟩ ⟨by omega, by omega⟩ dX9_tick_38 rfl (by decide) (fun h_38 => ?_) (fun h_38 => ?_)
    ·
      have hon : ¬ N_on (N_t1 v) := fun q => by have q1 := q.1; have q2 := q.2; omega
      refine r_mem (mem' := ja_rw G (m + 1) (N_pl (N_t1 v))) (by rw [N_pl, if_neg hon]) ?_
      exact J167 G 0 N_ge.rf (by rw [N_to, if_neg (fun q => hon q.1)])
    ·
      have hon : N_on (N_t1 v) := ⟨by omega, by omega⟩
      have J90 : ∀ (G1 : ja_M), N_ge m G G1 → ja_W C 0 0 lay (ja_rw G1 (m + 1) (N_t2 (N_t1 v))) n 90 [some (.ref m), some (.int (ja_I 0))] [] := by
        intro G1 hG1
        refine r_aload_n F rfl rfl dX9_tick_90 rfl ?_
        refine r_getR F f_X9_7 (hM.1) rfl dX9_tick_91 rfl ?_
        refine r_bipush F (by decide) dX9_tick_94 rfl ?_
        refine r_iald F (ja_LM_1 hM) (by omega) (by omega) (by decide) dX9_tick_96 rfl ?_
        refine r_eqz (z := ((N_t2 (N_t1 v)) 23)) (by rw [ja_rw_s, show Int.toNat 23 = 23 from rfl]) ?_
        refine r_aload_n F rfl rfl dX9_tick_97 rfl ?_
        refine r_getR F f_X9_7 (hM.1) rfl dX9_tick_98 rfl ?_
        refine r_bipush F (by decide) dX9_tick_101 rfl ?_
        refine r_iald F (ja_LM_1 hM) (by omega) (by omega) (by decide) dX9_tick_103 rfl ?_
        refine r_eqz (z := ((N_t2 (N_t1 v)) 22)) (by rw [ja_rw_s, show Int.toNat 22 = 22 from rfl]) ?_
        refine r_icmp_ge F (tgt := 167) ⟨by omega, by omega⟩ ⟨by omega, by omega⟩ dX9_tick_104 rfl (by decide) (fun h_104 => ?_) (fun h_104 => ?_)
        ·
          have h104 : ¬ N_t2 (N_t1 v) 23 < N_t2 (N_t1 v) 22 := by omega
          have e104 : N_to v = 0 := by rw [N_to, if_neg (fun q => h104 q.2)]
          refine r_mem (mem' := ja_rw G1 (m + 1) (N_pl (N_t1 v))) (by rw [N_pl, if_pos hon, N_t3]; first | rw [if_pos h104] | rw [if_neg h104]) ?_
          exact J167 G1 _ hG1 e104.symm
        ·
          have h104 : N_t2 (N_t1 v) 23 < N_t2 (N_t1 v) 22 := by omega
          have e104 : N_to v = 1 := by rw [N_to, if_pos ⟨hon, h104⟩]
          refine r_aload_n F rfl rfl dX9_tick_107 rfl ?_
          refine r_getR F f_X9_7 (hM.1) rfl dX9_tick_108 rfl ?_
          refine r_sipush F (by decide) dX9_tick_111 rfl ?_
          refine r_aload_n F rfl rfl dX9_tick_114 rfl ?_
          refine r_getR F f_X9_7 (hM.1) rfl dX9_tick_115 rfl ?_
          refine r_bipush F (by decide) dX9_tick_118 rfl ?_
          refine r_iald F (ja_LM_1 hM) (by omega) (by omega) (by decide) dX9_tick_120 rfl ?_
          refine r_eqz (z := ((N_t2 (N_t1 v)) 12)) (by rw [ja_rw_s, show Int.toNat 12 = 12 from rfl]) ?_
          refine r_sipush F (by decide) dX9_tick_121 rfl ?_
          refine r_iremP F ⟨by omega, by omega⟩ ⟨by omega, by omega⟩ (by omega) (by omega) dX9_tick_124 rfl ?_
          refine r_iadd F dX9_tick_125 rfl ?_
          refine r_aload_n F rfl rfl dX9_tick_126 rfl ?_
          refine r_getR F f_X9_7 (hM.1) rfl dX9_tick_127 rfl ?_
          refine r_sipush F (by decide) dX9_tick_130 rfl ?_
          refine r_aload_n F rfl rfl dX9_tick_133 rfl ?_
          refine r_getR F f_X9_7 (hM.1) rfl dX9_tick_134 rfl ?_
          refine r_bipush F (by decide) dX9_tick_137 rfl ?_
          refine r_iald F (ja_LM_1 hM) (by omega) (by omega) (by decide) dX9_tick_139 rfl ?_
          refine r_eqz (z := ((N_t2 (N_t1 v)) 23)) (by rw [ja_rw_s, show Int.toNat 23 = 23 from rfl]) ?_
          refine r_iadd F dX9_tick_140 rfl ?_
          refine r_iald F (ja_LM_1 hM) (by omega) (by omega) (by decide) dX9_tick_141 rfl ?_
          refine r_eqz (z := ((N_t2 (N_t1 v)) (Int.toNat (2342 + ((N_t2 (N_t1 v)) 23))))) (by rw [ja_rw_s]) ?_
          refine r_iast F (ja_LM_1 hM) (by omega) (by omega) (by decide) dX9_tick_142 rfl ?_
          refine r_mem (mem' := ja_rw G1 (m + 1) (ja_rs (N_t2 (N_t1 v)) (Int.toNat (2054 + (((N_t2 (N_t1 v)) 12) % 256))) ((N_t2 (N_t1 v)) (Int.toNat (2342 + ((N_t2 (N_t1 v)) 23)))))) (ja_rw_up _ _ _ _ _) ?_
          refine r_aload_n F rfl rfl dX9_tick_143 rfl ?_
          refine r_getR F f_X9_7 (hM.1) rfl dX9_tick_144 rfl ?_
          refine r_bipush F (by decide) dX9_tick_147 rfl ?_
          refine r_dup2 F rfl rfl dX9_tick_149 rfl ?_
          refine r_iald F (ja_LM_1 hM) (by omega) (by omega) (by decide) dX9_tick_150 rfl ?_
          refine r_eqz (z := ((N_t2 (N_t1 v)) 12)) (by rw [ja_rw_s, show Int.toNat 12 = 12 from rfl, ja_rs_n (by omega)]) ?_
          refine r_iconst F dX9_tick_151 rfl ?_
          refine r_iadd F dX9_tick_152 rfl ?_
          refine r_iast F (ja_LM_1 hM) (by omega) (by omega) (by decide) dX9_tick_153 rfl ?_
          refine r_mem (mem' := ja_rw G1 (m + 1) (ja_rs (ja_rs (N_t2 (N_t1 v)) (Int.toNat (2054 + (((N_t2 (N_t1 v)) 12) % 256))) ((N_t2 (N_t1 v)) (Int.toNat (2342 + ((N_t2 (N_t1 v)) 23))))) 12 (((N_t2 (N_t1 v)) 12) + 1))) (ja_rw_up _ _ _ _ _) ?_
          refine r_aload_n F rfl rfl dX9_tick_154 rfl ?_
          refine r_getR F f_X9_7 (hM.1) rfl dX9_tick_155 rfl ?_
          refine r_bipush F (by decide) dX9_tick_158 rfl ?_
          refine r_dup2 F rfl rfl dX9_tick_160 rfl ?_
          refine r_iald F (ja_LM_1 hM) (by omega) (by omega) (by decide) dX9_tick_161 rfl ?_
          refine r_eqz (z := ((N_t2 (N_t1 v)) 23)) (by rw [ja_rw_s, show Int.toNat 23 = 23 from rfl, ja_rs_n (by omega), ja_rs_n (by omega)]) ?_
          refine r_iconst F dX9_tick_162 rfl ?_
          refine r_iadd F dX9_tick_163 rfl ?_
          refine r_iast F (ja_LM_1 hM) (by omega) (by omega) (by decide) dX9_tick_164 rfl ?_
          refine r_mem (mem' := ja_rw G1 (m + 1) (ja_rs (ja_rs (ja_rs (N_t2 (N_t1 v)) (Int.toNat (2054 + (((N_t2 (N_t1 v)) 12) % 256))) ((N_t2 (N_t1 v)) (Int.toNat (2342 + ((N_t2 (N_t1 v)) 23))))) 12 (((N_t2 (N_t1 v)) 12) + 1)) 23 (((N_t2 (N_t1 v)) 23) + 1))) (ja_rw_up _ _ _ _ _) ?_
          refine r_iconst F dX9_tick_165 rfl ?_
          refine r_ist1 F (by decide) rfl dX9_tick_166 rfl ?_
          refine r_mem (mem' := ja_rw G1 (m + 1) (N_pl (N_t1 v))) (by rw [N_pl, if_pos hon, N_t3]; first | rw [if_pos h104] | rw [if_neg h104]) ?_
          exact J167 G1 _ hG1 e104.symm
      refine r_aload_n F rfl rfl dX9_tick_41 rfl ?_
      refine r_getR F f_X9_7 (hM.1) rfl dX9_tick_42 rfl ?_
      refine r_bipush F (by decide) dX9_tick_45 rfl ?_
      refine r_iald F (ja_LM_1 hM) (by omega) (by omega) (by decide) dX9_tick_47 rfl ?_
      refine r_eqz (z := ((N_t1 v) 23)) (by rw [ja_rw_s, show Int.toNat 23 = 23 from rfl]) ?_
      refine r_aload_n F rfl rfl dX9_tick_48 rfl ?_
      refine r_getR F f_X9_7 (hM.1) rfl dX9_tick_49 rfl ?_
      refine r_bipush F (by decide) dX9_tick_52 rfl ?_
      refine r_iald F (ja_LM_1 hM) (by omega) (by omega) (by decide) dX9_tick_54 rfl ?_
      refine r_eqz (z := ((N_t1 v) 22)) (by rw [ja_rw_s, show Int.toNat 22 = 22 from rfl]) ?_
      refine r_icmp_ne F (tgt := 90) ⟨by omega, by omega⟩ ⟨by omega, by omega⟩ dX9_tick_55 rfl (by decide) (fun h_55 => ?_) (fun h_55 => ?_)
      ·
        refine r_mem (mem' := ja_rw G (m + 1) (N_t2 (N_t1 v))) (by rw [N_t2, if_neg (by omega)]) ?_
        exact J90 G N_ge.rf
      ·
        refine r_aload_n F rfl rfl dX9_tick_58 rfl ?_
        refine r_getR F f_X9_7 (hM.1) rfl dX9_tick_59 rfl ?_
        refine r_bipush F (by decide) dX9_tick_62 rfl ?_
        refine r_iald F (ja_LM_1 hM) (by omega) (by omega) (by decide) dX9_tick_64 rfl ?_
        refine r_eqz (z := ((N_t1 v) 11)) (by rw [ja_rw_s, show Int.toNat 11 = 11 from rfl]) ?_
        refine r_sipush F (by decide) dX9_tick_65 rfl ?_
        refine r_icmp_gt F (tgt := 90) ⟨by omega, by omega⟩ ⟨by omega, by omega⟩ dX9_tick_68 rfl (by decide) (fun h_68 => ?_) (fun h_68 => ?_)
        ·
          refine r_mem (mem' := ja_rw G (m + 1) (N_t2 (N_t1 v))) (by rw [N_t2, if_neg (by omega)]) ?_
          exact J90 G N_ge.rf
        ·
          refine r_aload_n F rfl rfl dX9_tick_71 rfl ?_
          refine r_callV F GC (c_X9_takes _ _ _ _ hM h1 (by omega)) v_X9_138 rfl (hM.1) rfl (by decide) (by decide) (Nat.le_of_ble_eq_true rfl) rfl dX9_tick_72 rfl (fun v lay' mem' n' hp => ?_)
          obtain ⟨q1, q2, q3, G1, hG1, q4⟩ := hp
          subst q1; subst q2; subst q3; subst q4
          refine r_aload_n F rfl rfl dX9_tick_75 rfl ?_
          refine r_getR F f_X9_7 (hM.1) rfl dX9_tick_76 rfl ?_
          refine r_bipush F (by decide) dX9_tick_79 rfl ?_
          refine r_aload_n F rfl rfl dX9_tick_81 rfl ?_
          refine r_getR F f_X9_7 (hM.1) rfl dX9_tick_82 rfl ?_
          refine r_sipush F (by decide) dX9_tick_85 rfl ?_
          refine r_iald F (ja_LM_1 hM) (by omega) (by omega) (by decide) dX9_tick_88 rfl ?_
          refine r_eqz (z := ((N_tk (N_t1 v)) 2310)) (by rw [ja_rw_s, show Int.toNat 2310 = 2310 from rfl]) ?_
          refine r_iast F (ja_LM_1 hM) (by omega) (by omega) (by decide) dX9_tick_89 rfl ?_
          refine r_mem (mem' := ja_rw G1 (m + 1) (ja_rs (N_tk (N_t1 v)) 27 ((N_tk (N_t1 v)) 2310))) (ja_rw_up _ _ _ _ _) ?_
          refine r_mem (mem' := ja_rw G1 (m + 1) (N_t2 (N_t1 v))) (by rw [N_t2, if_pos ⟨by omega, by omega⟩]) ?_
          exact J90 _ hG1
