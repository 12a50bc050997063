abbrev rm_X9_fits : Room := { frames := 2, cells := 0, slots := 0, locals := 45 }
set_option maxRecDepth 100000 in
set_option maxHeartbeats 800000 in
theorem c_X9_fits (l : Launch) (D : va_G) (cA : Nat → ClassId) (B : Nat) {lay : ja_Y} {n : Nat} {m : Nat} {G : ja_M} {v : Nat → Int} (hM : ja_LM lay m) {x : Int} (hR : N_R v) (hx : 0 ≤ x ∧ x ≤ 999) (h22 : v 22 = 0) : ja_Mt l D cA B yX9_fits cX9_fits 9 none rm_X9_fits [.ref m, .int (ja_I x)] lay (ja_rw G (m + 1) v) n (N_pg lay m n G (N_fi v x) (none)) := by
  refine ja_enter [some (.ref m), some (.int (ja_I x)), none, none, none, none, none, none, none] (by decide) (Nat.le_of_ble_eq_true rfl) (fun q hq => hq) (fun C F Rt GC hnm => ?_)
  have hC := hR.C
  have hS := hR.S
  have hS0 := hS.1
  have hS8 := hS.2.2.2.2.2.2.2.2
  have htg := N_tg_in hR
  have hlv := N_lv_in (v := v) (x := x + 1) hS ⟨by omega, by omega⟩
  refine r_aload_n F rfl rfl dX9_fits_0 rfl ?_
  refine r_getR F f_X9_7 (hM.1) rfl dX9_fits_1 rfl ?_
  refine r_iconst F dX9_fits_4 rfl ?_
  refine r_iald F (ja_LM_1 hM) (by omega) (by omega) (by decide) dX9_fits_5 rfl ?_
  refine r_eqz (z := (v 0)) (by rw [ja_rw_s, show Int.toNat 0 = 0 from rfl]) ?_
  refine r_ist2 F (by decide) rfl dX9_fits_6 rfl ?_
  refine r_iconst F dX9_fits_7 rfl ?_
  refine r_ist3 F (by decide) rfl dX9_fits_8 rfl ?_
  have lpx : ∀ (d c : Nat), c + d = (v 0).toNat → ∀ g1 : Nat → Int, (∀ j : Nat, j < c → g1 j = N_wx v x j) → ja_W C 0 0 lay (ja_rw (ja_rw G (m + 7) g1) (m + 1) v) n 9 [some (.ref m), some (.int (ja_I x)), some (.int (ja_I (v 0))), some (.int (ja_I (c : Int))), none, none, none, none, none] [] := by
    intro d
    induction d with
    | zero =>
      intro c hc g1 hg1
      refine r_iload_n F rfl rfl dX9_fits_9 rfl ?_
      refine r_iload_n F rfl rfl dX9_fits_10 rfl ?_
      refine r_icmp_ge F (tgt := 32) ⟨by omega, by omega⟩ ⟨by omega, by omega⟩ dX9_fits_11 rfl (by decide) (fun h_11 => ?_) (fun h_11 => ?_)
      ·
        have hx7 : ∀ j : Nat, (j : Int) < v 0 → (ja_rw G (m + 7) g1) (m + 7) j = N_wx v x j := fun j hj => by rw [ja_rw_s]; exact hg1 j (by omega)
        have hge : N_ge m G (ja_rw G (m + 7) g1) := fun q _ a => ja_rw_n a
        generalize ja_rw G (m + 7) g1 = G0 at *
        refine r_aload_n F rfl rfl dX9_fits_32 rfl ?_
        refine r_iload_n F rfl rfl dX9_fits_33 rfl ?_
        refine r_iconst F dX9_fits_34 rfl ?_
        refine r_iadd F dX9_fits_35 rfl ?_
        refine r_callV F GC (c_X9_levelFrom _ _ _ _ hM hR ⟨by omega, by omega⟩) v_X9_107 rfl (hM.1) rfl (by decide) (by decide) (Nat.le_of_ble_eq_true rfl) rfl dX9_fits_36 rfl (fun v lay' mem' n' hp => ?_)
        obtain ⟨q1, q2, q3, q4⟩ := hp
        subst q1; subst q2; subst q3; subst q4
        refine r_ist3 F (by decide) rfl dX9_fits_39 rfl ?_
        refine r_aload_n F rfl rfl dX9_fits_40 rfl ?_
        refine r_callV F GC (c_X9_targetNow _ _ _ _ hM hR) v_X9_110 rfl (hM.1) rfl (by decide) (by decide) (Nat.le_of_ble_eq_true rfl) rfl dX9_fits_41 rfl (fun v lay' mem' n' hp => ?_)
        obtain ⟨q1, q2, q3, G1, hG1, q4⟩ := hp
        subst q1; subst q2; subst q3; subst q4
        have hx8 : ∀ j : Nat, (j : Int) < v 0 → G1 (m + 7) j = N_wx v x j := fun j hj => by rw [hG1 (m + 7) (by omega)]; exact hx7 j hj
        refine r_ist4 F (by decide) rfl dX9_fits_44 rfl ?_
        have J70 : ja_W C 0 0 lay (ja_rw G1 (m + 1) v) n 70 [some (.ref (m)), some (.int (ja_I (x))), some (.int (ja_I (v 0))), some (.int (ja_I ((N_lv v (x + 1))))), some (.int (ja_I ((N_tg v)))), none, none, none, none] [.int (ja_I (ja_b (N_sht v x)))] := by
          refine r_ist5 F (by decide) rfl dX9_fits_70 rfl ?_
          have J96 : ja_W C 0 0 lay (ja_rw G1 (m + 1) v) n 96 [some (.ref (m)), some (.int (ja_I (x))), some (.int (ja_I (v 0))), some (.int (ja_I ((N_lv v (x + 1))))), some (.int (ja_I ((N_tg v)))), some (.int (ja_I ((ja_b (N_sht v x))))), none, none, none] [.int (ja_I (ja_b (N_lng v x)))] := by
            refine r_ist6 F (by decide) rfl dX9_fits_96 rfl ?_
            refine r_aload_n F rfl rfl dX9_fits_98 rfl ?_
            refine r_callV F GC (c_X9_lagOfFrame _ _ _ _ hM hR (fun j => N_wx_in (v := v) (x := x) j) hx8) v_X9_113 rfl (hM.1) rfl (by decide) (by decide) (Nat.le_of_ble_eq_true rfl) rfl dX9_fits_99 rfl (fun v lay' mem' n' hp => ?_)
            obtain ⟨q1, q2, q3, q4⟩ := hp
            subst q1; subst q2; subst q3; subst q4
            refine r_eqz (z := N_lf v x) rfl ?_
            refine r_ist7 F (by decide) rfl dX9_fits_102 rfl ?_
            refine r_aload_n F rfl rfl dX9_fits_104 rfl ?_
            refine r_getR F f_X9_7 (hM.1) rfl dX9_fits_105 rfl ?_
            refine r_bipush F (by decide) dX9_fits_108 rfl ?_
            refine r_dup2 F rfl rfl dX9_fits_110 rfl ?_
            refine r_iald F (ja_LM_1 hM) (by omega) (by omega) (by decide) dX9_fits_111 rfl ?_
            refine r_eqz (z := (v 16)) (by rw [ja_rw_s, show Int.toNat 16 = 16 from rfl]) ?_
            have J122 : ja_W C 0 0 lay (ja_rw G1 (m + 1) v) n 122 [some (.ref (m)), some (.int (ja_I (x))), some (.int (ja_I (v 0))), some (.int (ja_I ((N_lv v (x + 1))))), some (.int (ja_I ((N_tg v)))), some (.int (ja_I ((ja_b (N_sht v x))))), some (.int (ja_I ((ja_b (N_lng v x))))), some (.int (ja_I ((N_lf v x)))), none] [.int (ja_I (ja_b (N_sht v x))), .int (ja_I ((v 16))), .int (ja_I (16)), .ref ((m + 1))] := by
              refine r_iadd F dX9_fits_122 rfl ?_
              refine r_iast F (ja_LM_1 hM) (by omega) (by omega) (by decide) dX9_fits_123 rfl ?_
              refine r_mem (mem' := ja_rw G1 (m + 1) (ja_rs v 16 ((v 16) + (ja_b (N_sht v x))))) (ja_rw_up _ _ _ _ _) ?_
              refine r_aload_n F rfl rfl dX9_fits_124 rfl ?_
              refine r_getR F f_X9_7 (hM.1) rfl dX9_fits_125 rfl ?_
              refine r_bipush F (by decide) dX9_fits_128 rfl ?_
              refine r_dup2 F rfl rfl dX9_fits_130 rfl ?_
              refine r_iald F (ja_LM_1 hM) (by omega) (by omega) (by decide) dX9_fits_131 rfl ?_
              refine r_eqz (z := (v 15)) (by rw [ja_rw_s, show Int.toNat 15 = 15 from rfl, ja_rs_n (by omega)]) ?_
              have J142 : ja_W C 0 0 lay (ja_rw G1 (m + 1) (ja_rs v 16 ((v 16) + (ja_b (N_sht v x))))) n 142 [some (.ref (m)), some (.int (ja_I (x))), some (.int (ja_I (v 0))), some (.int (ja_I ((N_lv v (x + 1))))), some (.int (ja_I ((N_tg v)))), some (.int (ja_I ((ja_b (N_sht v x))))), some (.int (ja_I ((ja_b (N_lng v x))))), some (.int (ja_I ((N_lf v x)))), none] [.int (ja_I (ja_b (N_lng v x))), .int (ja_I ((v 15))), .int (ja_I (15)), .ref ((m + 1))] := by
                refine r_iadd F dX9_fits_142 rfl ?_
                refine r_iast F (ja_LM_1 hM) (by omega) (by omega) (by decide) dX9_fits_143 rfl ?_
                refine r_mem (mem' := ja_rw G1 (m + 1) (ja_rs (ja_rs v 16 ((v 16) + (ja_b (N_sht v x)))) 15 ((v 15) + (ja_b (N_lng v x))))) (ja_rw_up _ _ _ _ _) ?_
                refine r_mem (mem' := ja_rw G1 (m + 1) (N_f0 v x)) rfl ?_
                have b0 := N_f0_R (x := x) hR
                have hlf := @N_lf_in v x hS
                obtain ⟨b1, b2, b3⟩ := id b0
                by_cases hs : N_sht v x
                · have hl : ¬ N_lng v x := fun q => by have q1 := hs.2; have q2 := q.2; omega
                  refine r_iconst F dX9_fits_144 rfl ?_
                  refine r_ist8 F (by decide) rfl dX9_fits_145 rfl ?_
                  have lp1 : ∀ (d c : Nat), c + d = (N_lf v x).toNat → ja_W C 0 0 lay (ja_rw G1 (m + 1) (N_gs (N_f0 v x) (N_m1 v x) c)) n 147 [some (.ref (m)), some (.int (ja_I (x))), some (.int (ja_I (v 0))), some (.int (ja_I ((N_lv v (x + 1))))), some (.int (ja_I ((N_tg v)))), some (.int (ja_I ((ja_b (N_sht v x))))), some (.int (ja_I ((ja_b (N_lng v x))))), some (.int (ja_I ((N_lf v x)))), some (.int (ja_I ((c : Int))))] [] := by
                    intro d
                    induction d with
                    | zero =>
                      intro c hc
                      obtain ⟨w1, w2, w3⟩ := N_gs_R (h := (N_m1 v x)) b1 c (fun j hj => N_m1_in hS j (by omega)) (by omega)
                      have wC := w1.C
                      refine r_iload F rfl dX9_fits_147 rfl ?_
                      refine r_iload F rfl dX9_fits_149 rfl ?_
                      refine r_icmp_ge F (tgt := 193) ⟨by omega, by omega⟩ ⟨by omega, by omega⟩ dX9_fits_151 rfl (by decide) (fun h_151 => ?_) (fun h_151 => ?_)
                      ·
                        obtain rfl : c = (N_lf v x).toNat := by omega
                        obtain ⟨b1, b2, b3⟩ := N_gs_R (h := (N_m1 v x)) b1 (N_lf v x).toNat (N_m1_in hS) (by omega)
                        refine r_iconst F dX9_fits_193 rfl ?_
                        refine r_ist8 F (by decide) rfl dX9_fits_194 rfl ?_
                        refine r_iload F rfl dX9_fits_196 rfl ?_
                        refine r_iload F rfl dX9_fits_198 rfl ?_
                        refine r_icmp_ge F (tgt := 225) ⟨by omega, by omega⟩ ⟨by omega, by omega⟩ dX9_fits_200 rfl (by decide) (fun h_200 => ?_) (fun h_200 => ?_)
                        ·
                          exfalso; omega
                        ·
                          refine r_iload F rfl dX9_fits_203 rfl ?_
                          refine r_if_ne F (tgt := 225) ja_b_in dX9_fits_205 rfl (by decide) (fun h_205 => ?_) (fun h_205 => ?_)
                          ·
                            have b_205 : (N_sht v x) := ja_b_1 h_205
                            refine r_iconst F dX9_fits_225 rfl ?_
                            refine r_ist8 F (by decide) rfl dX9_fits_226 rfl ?_
                            refine r_iload F rfl dX9_fits_228 rfl ?_
                            refine r_iload F rfl dX9_fits_230 rfl ?_
                            refine r_icmp_ge F (tgt := 274) ⟨by omega, by omega⟩ ⟨by omega, by omega⟩ dX9_fits_232 rfl (by decide) (fun h_232 => ?_) (fun h_232 => ?_)
                            ·
                              exfalso; omega
                            ·
                              refine r_iload F rfl dX9_fits_235 rfl ?_
                              refine r_if_eq F (tgt := 274) ja_b_in dX9_fits_237 rfl (by decide) (fun h_237 => ?_) (fun h_237 => ?_)
                              ·
                                have b_237 : ¬ (N_lng v x) := ja_b_0.mp h_237
                                refine r_iload F rfl dX9_fits_274 rfl ?_
                                refine r_if_eq F (tgt := 286) ja_b_in dX9_fits_276 rfl (by decide) (fun h_276 => ?_) (fun h_276 => ?_)
                                ·
                                  have b_276 : ¬ (N_sht v x) := ja_b_0.mp h_276
                                  exact absurd hs b_276
                                ·
                                  have b_276 : (N_sht v x) := ja_b_1 h_276
                                  refine r_iconst F dX9_fits_279 rfl ?_
                                  refine r_iload F rfl dX9_fits_280 rfl ?_
                                  refine r_imul F dX9_fits_282 rfl ?_
                                  refine r_goto F (tgt := 288) dX9_fits_283 (by decide) ?_
                                  refine r_ist8 F (by decide) rfl dX9_fits_288 rfl ?_
                                  have lp4 : ∀ (d c : Nat), c + d = (v 0 - 2 * N_lf v x).toNat → ja_W C 0 0 lay (ja_rw G1 (m + 1) (N_gs (N_gs (N_f0 v x) (N_m1 v x) (N_lf v x).toNat) (fun i => N_wx v x ((2 * N_lf v x).toNat + i)) c)) n 290 [some (.ref (m)), some (.int (ja_I (x))), some (.int (ja_I (v 0))), some (.int (ja_I ((N_lv v (x + 1))))), some (.int (ja_I ((N_tg v)))), some (.int (ja_I ((ja_b (N_sht v x))))), some (.int (ja_I ((ja_b (N_lng v x))))), some (.int (ja_I ((N_lf v x)))), some (.int (ja_I (((2 * N_lf v x) + (c : Int)))))] [] := by
                                    intro d
                                    induction d with
                                    | zero =>
                                      intro c hc
                                      obtain ⟨w1, w2, w3⟩ := N_gs_R (h := (fun i => N_wx v x ((2 * N_lf v x).toNat + i))) b1 c (fun j _ => N_wx_in _) (by omega)
                                      have wC := w1.C
                                      refine r_iload F rfl dX9_fits_290 rfl ?_
                                      refine r_iload_n F rfl rfl dX9_fits_292 rfl ?_
                                      refine r_icmp_ge F (tgt := 313) ⟨by omega, by omega⟩ ⟨by omega, by omega⟩ dX9_fits_293 rfl (by decide) (fun h_293 => ?_) (fun h_293 => ?_)
                                      ·
                                        exact r_vret F Rt dX9_fits_313 (by decide) ⟨rfl, rfl, rfl, G1, hge.tr hG1.ge, by rw [N_fi, if_pos hs, show (v 0 - 2 * N_lf v x).toNat = c by omega]⟩
                                      ·
                                        exfalso; omega
                                    | succ d ih =>
                                      intro c hc
                                      obtain ⟨w1, w2, w3⟩ := N_gs_R (h := (fun i => N_wx v x ((2 * N_lf v x).toNat + i))) b1 c (fun j _ => N_wx_in _) (by omega)
                                      have wC := w1.C
                                      refine r_iload F rfl dX9_fits_290 rfl ?_
                                      refine r_iload_n F rfl rfl dX9_fits_292 rfl ?_
                                      refine r_icmp_ge F (tgt := 313) ⟨by omega, by omega⟩ ⟨by omega, by omega⟩ dX9_fits_293 rfl (by decide) (fun h_293 => ?_) (fun h_293 => ?_)
                                      ·
                                        exfalso; omega
                                      ·
                                        refine r_aload_n F rfl rfl dX9_fits_296 rfl ?_
                                        refine r_aload_n F rfl rfl dX9_fits_297 rfl ?_
                                        refine r_getR F f_X9_29 (hM.1) rfl dX9_fits_298 rfl ?_
                                        refine r_iload F rfl dX9_fits_301 rfl ?_
                                        refine r_iald F (ja_LM_7 hM) (by omega) (by omega) (by decide) dX9_fits_303 rfl ?_
                                        refine r_eqz (z := (N_wx v x ((2 * N_lf v x).toNat + c))) (by rw [ja_rw_n (by omega), hx8 _ (by omega)] <;> congr 1 <;> omega) ?_
                                        refine r_eqz (z := N_wx v x ((2 * N_lf v x).toNat + c)) rfl ?_
                                        refine r_callV F GC (c_X9_gives _ _ _ _ hM w1) v_X9_120 rfl (hM.1) rfl (by decide) (by decide) (Nat.le_of_ble_eq_true rfl) rfl dX9_fits_304 rfl (fun v lay' mem' n' hp => ?_)
                                        obtain ⟨q1, q2, q3, q4⟩ := hp
                                        subst q1; subst q2; subst q3; subst q4
                                        refine r_inc8 F (by decide) rfl dX9_fits_307 rfl ?_
                                        refine r_goto F (tgt := 290) dX9_fits_310 (by decide) ?_
                                        rw [show ((2 * N_lf v x) + (c : Int)) + 1 = ((2 * N_lf v x) + ((c + 1 : Nat) : Int)) by omega]
                                        exact ih (c + 1) (by omega)
                                  have h0 := lp4 ((v 0 - 2 * N_lf v x).toNat) 0 (by omega)
                                  rw [show ((2 * N_lf v x) + ((0 : Nat) : Int)) = ((2 * N_lf v x)) by omega] at h0
                                  exact h0
                              ·
                                have b_237 : (N_lng v x) := ja_b_1 h_237
                                exact absurd b_237 hl
                          ·
                            have b_205 : ¬ (N_sht v x) := ja_b_0.mp h_205
                            exact absurd hs b_205
                      ·
                        exfalso; omega
                    | succ d ih =>
                      intro c hc
                      obtain ⟨w1, w2, w3⟩ := N_gs_R (h := (N_m1 v x)) b1 c (fun j hj => N_m1_in hS j (by omega)) (by omega)
                      have wC := w1.C
                      refine r_iload F rfl dX9_fits_147 rfl ?_
                      refine r_iload F rfl dX9_fits_149 rfl ?_
                      refine r_icmp_ge F (tgt := 193) ⟨by omega, by omega⟩ ⟨by omega, by omega⟩ dX9_fits_151 rfl (by decide) (fun h_151 => ?_) (fun h_151 => ?_)
                      ·
                        exfalso; omega
                      ·
                        refine r_iload F rfl dX9_fits_154 rfl ?_
                        refine r_if_eq F (tgt := 193) ja_b_in dX9_fits_156 rfl (by decide) (fun h_156 => ?_) (fun h_156 => ?_)
                        ·
                          have b_156 : ¬ (N_sht v x) := ja_b_0.mp h_156
                          exact absurd hs b_156
                        ·
                          have b_156 : (N_sht v x) := ja_b_1 h_156
                          refine r_aload_n F rfl rfl dX9_fits_159 rfl ?_
                          refine r_aload_n F rfl rfl dX9_fits_160 rfl ?_
                          refine r_getR F f_X9_29 (hM.1) rfl dX9_fits_161 rfl ?_
                          refine r_iload F rfl dX9_fits_164 rfl ?_
                          refine r_iald F (ja_LM_7 hM) (by omega) (by omega) (by decide) dX9_fits_166 rfl ?_
                          refine r_eqz (z := (N_wx v x c)) (by rw [ja_rw_n (by omega), hx8 _ (by omega)] <;> congr 1 <;> omega) ?_
                          refine r_aload_n F rfl rfl dX9_fits_167 rfl ?_
                          refine r_getR F f_X9_29 (hM.1) rfl dX9_fits_168 rfl ?_
                          refine r_iload F rfl dX9_fits_171 rfl ?_
                          refine r_iload F rfl dX9_fits_173 rfl ?_
                          refine r_iadd F dX9_fits_175 rfl ?_
                          refine r_iald F (ja_LM_7 hM) (by omega) (by omega) (by decide) dX9_fits_176 rfl ?_
                          refine r_eqz (z := (N_wx v x (c + (N_lf v x).toNat))) (by rw [ja_rw_n (by omega), hx8 _ (by omega)] <;> congr 1 <;> omega) ?_
                          refine r_iload F rfl dX9_fits_177 rfl ?_
                          refine r_iload F rfl dX9_fits_179 rfl ?_
                          refine r_callS F GC (c_X9_mixed _ _ _ _ (N_wx_in _) (N_wx_in _) ⟨by omega, by omega⟩ ⟨by omega, by omega⟩) s_X9_116 rfl (by decide) (by decide) (Nat.le_of_ble_eq_true rfl) rfl dX9_fits_181 rfl (fun v lay' mem' n' hp => ?_)
                          obtain ⟨q1, q2, q3, q4⟩ := hp
                          subst q1; subst q2; subst q3; subst q4
                          refine r_eqz (z := N_m1 v x c) rfl ?_
                          refine r_callV F GC (c_X9_gives _ _ _ _ hM w1) v_X9_120 rfl (hM.1) rfl (by decide) (by decide) (Nat.le_of_ble_eq_true rfl) rfl dX9_fits_184 rfl (fun v lay' mem' n' hp => ?_)
                          obtain ⟨q1, q2, q3, q4⟩ := hp
                          subst q1; subst q2; subst q3; subst q4
                          refine r_inc8 F (by decide) rfl dX9_fits_187 rfl ?_
                          refine r_goto F (tgt := 147) dX9_fits_190 (by decide) ?_
                          exact ih (c + 1) (by omega)
                  exact lp1 ((N_lf v x).toNat) 0 (by omega)
                · by_cases hl : N_lng v x
                  ·
                    refine r_iconst F dX9_fits_144 rfl ?_
                    refine r_ist8 F (by decide) rfl dX9_fits_145 rfl ?_
                    refine r_iload F rfl dX9_fits_147 rfl ?_
                    refine r_iload F rfl dX9_fits_149 rfl ?_
                    refine r_icmp_ge F (tgt := 193) ⟨by omega, by omega⟩ ⟨by omega, by omega⟩ dX9_fits_151 rfl (by decide) (fun h_151 => ?_) (fun h_151 => ?_)
                    ·
                      exfalso; omega
                    ·
                      refine r_iload F rfl dX9_fits_154 rfl ?_
                      refine r_if_eq F (tgt := 193) ja_b_in dX9_fits_156 rfl (by decide) (fun h_156 => ?_) (fun h_156 => ?_)
                      ·
                        have b_156 : ¬ (N_sht v x) := ja_b_0.mp h_156
                        refine r_iconst F dX9_fits_193 rfl ?_
                        refine r_ist8 F (by decide) rfl dX9_fits_194 rfl ?_
                        have lp2 : ∀ (d c : Nat), c + d = (N_lf v x).toNat → ja_W C 0 0 lay (ja_rw G1 (m + 1) (N_gs (N_f0 v x) (N_wx v x) c)) n 196 [some (.ref (m)), some (.int (ja_I (x))), some (.int (ja_I (v 0))), some (.int (ja_I ((N_lv v (x + 1))))), some (.int (ja_I ((N_tg v)))), some (.int (ja_I ((ja_b (N_sht v x))))), some (.int (ja_I ((ja_b (N_lng v x))))), some (.int (ja_I ((N_lf v x)))), some (.int (ja_I ((c : Int))))] [] := by
                          intro d
                          induction d with
                          | zero =>
                            intro c hc
                            obtain ⟨w1, w2, w3⟩ := N_gs_R (h := (N_wx v x)) b1 c (fun j _ => N_wx_in j) (by omega)
                            have wC := w1.C
                            refine r_iload F rfl dX9_fits_196 rfl ?_
                            refine r_iload F rfl dX9_fits_198 rfl ?_
                            refine r_icmp_ge F (tgt := 225) ⟨by omega, by omega⟩ ⟨by omega, by omega⟩ dX9_fits_200 rfl (by decide) (fun h_200 => ?_) (fun h_200 => ?_)
                            ·
                              obtain rfl : c = (N_lf v x).toNat := by omega
                              obtain ⟨b1, b2, b3⟩ := N_gs_R (h := (N_wx v x)) b1 (N_lf v x).toNat (fun j _ => N_wx_in j) (by omega)
                              refine r_iconst F dX9_fits_225 rfl ?_
                              refine r_ist8 F (by decide) rfl dX9_fits_226 rfl ?_
                              have lp3 : ∀ (d c : Nat), c + d = (N_lf v x).toNat → ja_W C 0 0 lay (ja_rw G1 (m + 1) (N_gs (N_gs (N_f0 v x) (N_wx v x) (N_lf v x).toNat) (N_m2 v x) c)) n 228 [some (.ref (m)), some (.int (ja_I (x))), some (.int (ja_I (v 0))), some (.int (ja_I ((N_lv v (x + 1))))), some (.int (ja_I ((N_tg v)))), some (.int (ja_I ((ja_b (N_sht v x))))), some (.int (ja_I ((ja_b (N_lng v x))))), some (.int (ja_I ((N_lf v x)))), some (.int (ja_I ((c : Int))))] [] := by
                                intro d
                                induction d with
                                | zero =>
                                  intro c hc
                                  obtain ⟨w1, w2, w3⟩ := N_gs_R (h := (N_m2 v x)) b1 c (fun j hj => N_m2_in hS j (by omega)) (by omega)
                                  have wC := w1.C
                                  refine r_iload F rfl dX9_fits_228 rfl ?_
                                  refine r_iload F rfl dX9_fits_230 rfl ?_
                                  refine r_icmp_ge F (tgt := 274) ⟨by omega, by omega⟩ ⟨by omega, by omega⟩ dX9_fits_232 rfl (by decide) (fun h_232 => ?_) (fun h_232 => ?_)
                                  ·
                                    obtain rfl : c = (N_lf v x).toNat := by omega
                                    obtain ⟨b1, b2, b3⟩ := N_gs_R (h := (N_m2 v x)) b1 (N_lf v x).toNat (N_m2_in hS) (by omega)
                                    refine r_iload F rfl dX9_fits_274 rfl ?_
                                    refine r_if_eq F (tgt := 286) ja_b_in dX9_fits_276 rfl (by decide) (fun h_276 => ?_) (fun h_276 => ?_)
                                    ·
                                      have b_276 : ¬ (N_sht v x) := ja_b_0.mp h_276
                                      refine r_iload F rfl dX9_fits_286 rfl ?_
                                      refine r_ist8 F (by decide) rfl dX9_fits_288 rfl ?_
                                      have lp4 : ∀ (d c : Nat), c + d = (v 0 - N_lf v x).toNat → ja_W C 0 0 lay (ja_rw G1 (m + 1) (N_gs (N_gs (N_gs (N_f0 v x) (N_wx v x) (N_lf v x).toNat) (N_m2 v x) (N_lf v x).toNat) (fun i => N_wx v x ((N_lf v x).toNat + i)) c)) n 290 [some (.ref (m)), some (.int (ja_I (x))), some (.int (ja_I (v 0))), some (.int (ja_I ((N_lv v (x + 1))))), some (.int (ja_I ((N_tg v)))), some (.int (ja_I ((ja_b (N_sht v x))))), some (.int (ja_I ((ja_b (N_lng v x))))), some (.int (ja_I ((N_lf v x)))), some (.int (ja_I ((N_lf v x + (c : Int)))))] [] := by
                                        intro d
                                        induction d with
                                        | zero =>
                                          intro c hc
                                          obtain ⟨w1, w2, w3⟩ := N_gs_R (h := (fun i => N_wx v x ((N_lf v x).toNat + i))) b1 c (fun j _ => N_wx_in _) (by omega)
                                          have wC := w1.C
                                          refine r_iload F rfl dX9_fits_290 rfl ?_
                                          refine r_iload_n F rfl rfl dX9_fits_292 rfl ?_
                                          refine r_icmp_ge F (tgt := 313) ⟨by omega, by omega⟩ ⟨by omega, by omega⟩ dX9_fits_293 rfl (by decide) (fun h_293 => ?_) (fun h_293 => ?_)
                                          ·
                                            exact r_vret F Rt dX9_fits_313 (by decide) ⟨rfl, rfl, rfl, G1, hge.tr hG1.ge, by rw [N_fi, if_neg hs, if_pos hl, show (v 0 - N_lf v x).toNat = c by omega]⟩
                                          ·
                                            exfalso; omega
                                        | succ d ih =>
                                          intro c hc
                                          obtain ⟨w1, w2, w3⟩ := N_gs_R (h := (fun i => N_wx v x ((N_lf v x).toNat + i))) b1 c (fun j _ => N_wx_in _) (by omega)
                                          have wC := w1.C
                                          refine r_iload F rfl dX9_fits_290 rfl ?_
                                          refine r_iload_n F rfl rfl dX9_fits_292 rfl ?_
                                          refine r_icmp_ge F (tgt := 313) ⟨by omega, by omega⟩ ⟨by omega, by omega⟩ dX9_fits_293 rfl (by decide) (fun h_293 => ?_) (fun h_293 => ?_)
                                          ·
                                            exfalso; omega
                                          ·
                                            refine r_aload_n F rfl rfl dX9_fits_296 rfl ?_
                                            refine r_aload_n F rfl rfl dX9_fits_297 rfl ?_
                                            refine r_getR F f_X9_29 (hM.1) rfl dX9_fits_298 rfl ?_
                                            refine r_iload F rfl dX9_fits_301 rfl ?_
                                            refine r_iald F (ja_LM_7 hM) (by omega) (by omega) (by decide) dX9_fits_303 rfl ?_
                                            refine r_eqz (z := (N_wx v x ((N_lf v x).toNat + c))) (by rw [ja_rw_n (by omega), hx8 _ (by omega)] <;> congr 1 <;> omega) ?_
                                            refine r_eqz (z := N_wx v x ((N_lf v x).toNat + c)) rfl ?_
                                            refine r_callV F GC (c_X9_gives _ _ _ _ hM w1) v_X9_120 rfl (hM.1) rfl (by decide) (by decide) (Nat.le_of_ble_eq_true rfl) rfl dX9_fits_304 rfl (fun v lay' mem' n' hp => ?_)
                                            obtain ⟨q1, q2, q3, q4⟩ := hp
                                            subst q1; subst q2; subst q3; subst q4
                                            refine r_inc8 F (by decide) rfl dX9_fits_307 rfl ?_
                                            refine r_goto F (tgt := 290) dX9_fits_310 (by decide) ?_
                                            rw [show (N_lf v x + (c : Int)) + 1 = (N_lf v x + ((c + 1 : Nat) : Int)) by omega]
                                            exact ih (c + 1) (by omega)
                                      have h0 := lp4 ((v 0 - N_lf v x).toNat) 0 (by omega)
                                      rw [show (N_lf v x + ((0 : Nat) : Int)) = (N_lf v x) by omega] at h0
                                      exact h0
                                    ·
                                      have b_276 : (N_sht v x) := ja_b_1 h_276
                                      exact absurd b_276 hs
                                  ·
                                    exfalso; omega
                                | succ d ih =>
                                  intro c hc
                                  obtain ⟨w1, w2, w3⟩ := N_gs_R (h := (N_m2 v x)) b1 c (fun j hj => N_m2_in hS j (by omega)) (by omega)
                                  have wC := w1.C
                                  refine r_iload F rfl dX9_fits_228 rfl ?_
                                  refine r_iload F rfl dX9_fits_230 rfl ?_
                                  refine r_icmp_ge F (tgt := 274) ⟨by omega, by omega⟩ ⟨by omega, by omega⟩ dX9_fits_232 rfl (by decide) (fun h_232 => ?_) (fun h_232 => ?_)
                                  ·
                                    exfalso; omega
                                  ·
                                    refine r_iload F rfl dX9_fits_235 rfl ?_
                                    refine r_if_eq F (tgt := 274) ja_b_in dX9_fits_237 rfl (by decide) (fun h_237 => ?_) (fun h_237 => ?_)
                                    ·
                                      have b_237 : ¬ (N_lng v x) := ja_b_0.mp h_237
                                      exact absurd hl b_237
                                    ·
                                      have b_237 : (N_lng v x) := ja_b_1 h_237
                                      refine r_aload_n F rfl rfl dX9_fits_240 rfl ?_
                                      refine r_aload_n F rfl rfl dX9_fits_241 rfl ?_
                                      refine r_getR F f_X9_29 (hM.1) rfl dX9_fits_242 rfl ?_
                                      refine r_iload F rfl dX9_fits_245 rfl ?_
                                      refine r_iload F rfl dX9_fits_247 rfl ?_
                                      refine r_iadd F dX9_fits_249 rfl ?_
                                      refine r_iald F (ja_LM_7 hM) (by omega) (by omega) (by decide) dX9_fits_250 rfl ?_
                                      refine r_eqz (z := (N_wx v x (c + (N_lf v x).toNat))) (by rw [ja_rw_n (by omega), hx8 _ (by omega)] <;> congr 1 <;> omega) ?_
                                      refine r_aload_n F rfl rfl dX9_fits_251 rfl ?_
                                      refine r_getR F f_X9_29 (hM.1) rfl dX9_fits_252 rfl ?_
                                      refine r_iload F rfl dX9_fits_255 rfl ?_
                                      refine r_iald F (ja_LM_7 hM) (by omega) (by omega) (by decide) dX9_fits_257 rfl ?_
                                      refine r_eqz (z := (N_wx v x c)) (by rw [ja_rw_n (by omega), hx8 _ (by omega)] <;> congr 1 <;> omega) ?_
                                      refine r_iload F rfl dX9_fits_258 rfl ?_
                                      refine r_iload F rfl dX9_fits_260 rfl ?_
                                      refine r_callS F GC (c_X9_mixed _ _ _ _ (N_wx_in _) (N_wx_in _) ⟨by omega, by omega⟩ ⟨by omega, by omega⟩) s_X9_116 rfl (by decide) (by decide) (Nat.le_of_ble_eq_true rfl) rfl dX9_fits_262 rfl (fun v lay' mem' n' hp => ?_)
                                      obtain ⟨q1, q2, q3, q4⟩ := hp
                                      subst q1; subst q2; subst q3; subst q4
                                      refine r_eqz (z := N_m2 v x c) rfl ?_
                                      refine r_callV F GC (c_X9_gives _ _ _ _ hM w1) v_X9_120 rfl (hM.1) rfl (by decide) (by decide) (Nat.le_of_ble_eq_true rfl) rfl dX9_fits_265 rfl (fun v lay' mem' n' hp => ?_)
                                      obtain ⟨q1, q2, q3, q4⟩ := hp
                                      subst q1; subst q2; subst q3; subst q4
                                      refine r_inc8 F (by decide) rfl dX9_fits_268 rfl ?_
                                      refine r_goto F (tgt := 228) dX9_fits_271 (by decide) ?_
                                      exact ih (c + 1) (by omega)
                              exact lp3 ((N_lf v x).toNat) 0 (by omega)
                            ·
                              exfalso; omega
                          | succ d ih =>
                            intro c hc
                            obtain ⟨w1, w2, w3⟩ := N_gs_R (h := (N_wx v x)) b1 c (fun j _ => N_wx_in j) (by omega)
                            have wC := w1.C
                            refine r_iload F rfl dX9_fits_196 rfl ?_
                            refine r_iload F rfl dX9_fits_198 rfl ?_
                            refine r_icmp_ge F (tgt := 225) ⟨by omega, by omega⟩ ⟨by omega, by omega⟩ dX9_fits_200 rfl (by decide) (fun h_200 => ?_) (fun h_200 => ?_)
                            ·
                              exfalso; omega
                            ·
                              refine r_iload F rfl dX9_fits_203 rfl ?_
                              refine r_if_ne F (tgt := 225) ja_b_in dX9_fits_205 rfl (by decide) (fun h_205 => ?_) (fun h_205 => ?_)
                              ·
                                have b_205 : (N_sht v x) := ja_b_1 h_205
                                exact absurd b_205 hs
                              ·
                                have b_205 : ¬ (N_sht v x) := ja_b_0.mp h_205
                                refine r_aload_n F rfl rfl dX9_fits_208 rfl ?_
                                refine r_aload_n F rfl rfl dX9_fits_209 rfl ?_
                                refine r_getR F f_X9_29 (hM.1) rfl dX9_fits_210 rfl ?_
                                refine r_iload F rfl dX9_fits_213 rfl ?_
                                refine r_iald F (ja_LM_7 hM) (by omega) (by omega) (by decide) dX9_fits_215 rfl ?_
                                refine r_eqz (z := (N_wx v x c)) (by rw [ja_rw_n (by omega), hx8 _ (by omega)] <;> congr 1 <;> omega) ?_
                                refine r_eqz (z := N_wx v x c) rfl ?_
                                refine r_callV F GC (c_X9_gives _ _ _ _ hM w1) v_X9_120 rfl (hM.1) rfl (by decide) (by decide) (Nat.le_of_ble_eq_true rfl) rfl dX9_fits_216 rfl (fun v lay' mem' n' hp => ?_)
                                obtain ⟨q1, q2, q3, q4⟩ := hp
                                subst q1; subst q2; subst q3; subst q4
                                refine r_inc8 F (by decide) rfl dX9_fits_219 rfl ?_
                                refine r_goto F (tgt := 196) dX9_fits_222 (by decide) ?_
                                exact ih (c + 1) (by omega)
                        exact lp2 ((N_lf v x).toNat) 0 (by omega)
                      ·
                        have b_156 : (N_sht v x) := ja_b_1 h_156
                        exact absurd b_156 hs
                  ·
                    refine r_iconst F dX9_fits_144 rfl ?_
                    refine r_ist8 F (by decide) rfl dX9_fits_145 rfl ?_
                    refine r_iload F rfl dX9_fits_147 rfl ?_
                    refine r_iload F rfl dX9_fits_149 rfl ?_
                    refine r_icmp_ge F (tgt := 193) ⟨by omega, by omega⟩ ⟨by omega, by omega⟩ dX9_fits_151 rfl (by decide) (fun h_151 => ?_) (fun h_151 => ?_)
                    ·
                      exfalso; omega
                    ·
                      refine r_iload F rfl dX9_fits_154 rfl ?_
                      refine r_if_eq F (tgt := 193) ja_b_in dX9_fits_156 rfl (by decide) (fun h_156 => ?_) (fun h_156 => ?_)
                      ·
                        have b_156 : ¬ (N_sht v x) := ja_b_0.mp h_156
                        refine r_iconst F dX9_fits_193 rfl ?_
                        refine r_ist8 F (by decide) rfl dX9_fits_194 rfl ?_
                        have lp2 : ∀ (d c : Nat), c + d = (N_lf v x).toNat → ja_W C 0 0 lay (ja_rw G1 (m + 1) (N_gs (N_f0 v x) (N_wx v x) c)) n 196 [some (.ref (m)), some (.int (ja_I (x))), some (.int (ja_I (v 0))), some (.int (ja_I ((N_lv v (x + 1))))), some (.int (ja_I ((N_tg v)))), some (.int (ja_I ((ja_b (N_sht v x))))), some (.int (ja_I ((ja_b (N_lng v x))))), some (.int (ja_I ((N_lf v x)))), some (.int (ja_I ((c : Int))))] [] := by
                          intro d
                          induction d with
                          | zero =>
                            intro c hc
                            obtain ⟨w1, w2, w3⟩ := N_gs_R (h := (N_wx v x)) b1 c (fun j _ => N_wx_in j) (by omega)
                            have wC := w1.C
                            refine r_iload F rfl dX9_fits_196 rfl ?_
                            refine r_iload F rfl dX9_fits_198 rfl ?_
                            refine r_icmp_ge F (tgt := 225) ⟨by omega, by omega⟩ ⟨by omega, by omega⟩ dX9_fits_200 rfl (by decide) (fun h_200 => ?_) (fun h_200 => ?_)
                            ·
                              obtain rfl : c = (N_lf v x).toNat := by omega
                              obtain ⟨b1, b2, b3⟩ := N_gs_R (h := (N_wx v x)) b1 (N_lf v x).toNat (fun j _ => N_wx_in j) (by omega)
                              refine r_iconst F dX9_fits_225 rfl ?_
                              refine r_ist8 F (by decide) rfl dX9_fits_226 rfl ?_
                              refine r_iload F rfl dX9_fits_228 rfl ?_
                              refine r_iload F rfl dX9_fits_230 rfl ?_
                              refine r_icmp_ge F (tgt := 274) ⟨by omega, by omega⟩ ⟨by omega, by omega⟩ dX9_fits_232 rfl (by decide) (fun h_232 => ?_) (fun h_232 => ?_)
                              ·
                                exfalso; omega
                              ·
                                refine r_iload F rfl dX9_fits_235 rfl ?_
                                refine r_if_eq F (tgt := 274) ja_b_in dX9_fits_237 rfl (by decide) (fun h_237 => ?_) (fun h_237 => ?_)
                                ·
                                  have b_237 : ¬ (N_lng v x) := ja_b_0.mp h_237
                                  refine r_iload F rfl dX9_fits_274 rfl ?_
                                  refine r_if_eq F (tgt := 286) ja_b_in dX9_fits_276 rfl (by decide) (fun h_276 => ?_) (fun h_276 => ?_)
                                  ·
                                    have b_276 : ¬ (N_sht v x) := ja_b_0.mp h_276
                                    refine r_iload F rfl dX9_fits_286 rfl ?_
                                    refine r_ist8 F (by decide) rfl dX9_fits_288 rfl ?_
                                    have lp4 : ∀ (d c : Nat), c + d = (v 0 - N_lf v x).toNat → ja_W C 0 0 lay (ja_rw G1 (m + 1) (N_gs (N_gs (N_f0 v x) (N_wx v x) (N_lf v x).toNat) (fun i => N_wx v x ((N_lf v x).toNat + i)) c)) n 290 [some (.ref (m)), some (.int (ja_I (x))), some (.int (ja_I (v 0))), some (.int (ja_I ((N_lv v (x + 1))))), some (.int (ja_I ((N_tg v)))), some (.int (ja_I ((ja_b (N_sht v x))))), some (.int (ja_I ((ja_b (N_lng v x))))), some (.int (ja_I ((N_lf v x)))), some (.int (ja_I ((N_lf v x + (c : Int)))))] [] := by
                                      intro d
                                      induction d with
                                      | zero =>
                                        intro c hc
                                        obtain ⟨w1, w2, w3⟩ := N_gs_R (h := (fun i => N_wx v x ((N_lf v x).toNat + i))) b1 c (fun j _ => N_wx_in _) (by omega)
                                        have wC := w1.C
                                        refine r_iload F rfl dX9_fits_290 rfl ?_
                                        refine r_iload_n F rfl rfl dX9_fits_292 rfl ?_
                                        refine r_icmp_ge F (tgt := 313) ⟨by omega, by omega⟩ ⟨by omega, by omega⟩ dX9_fits_293 rfl (by decide) (fun h_293 => ?_) (fun h_293 => ?_)
                                        ·
                                          exact r_vret F Rt dX9_fits_313 (by decide) ⟨rfl, rfl, rfl, G1, hge.tr hG1.ge, by rw [N_fi, if_neg hs, if_neg hl, show (v 0 - N_lf v x).toNat = c by omega]⟩
                                        ·
                                          exfalso; omega
                                      | succ d ih =>
                                        intro c hc
                                        obtain ⟨w1, w2, w3⟩ := N_gs_R (h := (fun i => N_wx v x ((N_lf v x).toNat + i))) b1 c (fun j _ => N_wx_in _) (by omega)
                                        have wC := w1.C
                                        refine r_iload F rfl dX9_fits_290 rfl ?_
                                        refine r_iload_n F rfl rfl dX9_fits_292 rfl ?_
                                        refine r_icmp_ge F (tgt := 313) ⟨by omega, by omega⟩ ⟨by omega, by omega⟩ dX9_fits_293 rfl (by decide) (fun h_293 => ?_) (fun h_293 => ?_)
                                        ·
                                          exfalso; omega
                                        ·
                                          refine r_aload_n F rfl rfl dX9_fits_296 rfl ?_
                                          refine r_aload_n F rfl rfl dX9_fits_297 rfl ?_
                                          refine r_getR F f_X9_29 (hM.1) rfl dX9_fits_298 rfl ?_
                                          refine r_iload F rfl dX9_fits_301 rfl ?_
                                          refine r_iald F (ja_LM_7 hM) (by omega) (by omega) (by decide) dX9_fits_303 rfl ?_
                                          refine r_eqz (z := (N_wx v x ((N_lf v x).toNat + c))) (by rw [ja_rw_n (by omega), hx8 _ (by omega)] <;> congr 1 <;> omega) ?_
                                          refine r_eqz (z := N_wx v x ((N_lf v x).toNat + c)) rfl ?_
                                          refine r_callV F GC (c_X9_gives _ _ _ _ hM w1) v_X9_120 rfl (hM.1) rfl (by decide) (by decide) (Nat.le_of_ble_eq_true rfl) rfl dX9_fits_304 rfl (fun v lay' mem' n' hp => ?_)
                                          obtain ⟨q1, q2, q3, q4⟩ := hp
                                          subst q1; subst q2; subst q3; subst q4
                                          refine r_inc8 F (by decide) rfl dX9_fits_307 rfl ?_
                                          refine r_goto F (tgt := 290) dX9_fits_310 (by decide) ?_
                                          rw [show (N_lf v x + (c : Int)) + 1 = (N_lf v x + ((c + 1 : Nat) : Int)) by omega]
                                          exact ih (c + 1) (by omega)
                                    have h0 := lp4 ((v 0 - N_lf v x).toNat) 0 (by omega)
                                    rw [show (N_lf v x + ((0 : Nat) : Int)) = (N_lf v x) by omega] at h0
                                    exact h0
                                  ·
                                    have b_276 : (N_sht v x) := ja_b_1 h_276
                                    exact absurd b_276 hs
                                ·
                                  have b_237 : (N_lng v x) := ja_b_1 h_237
                                  exact absurd b_237 hl
                            ·
                              exfalso; omega
                          | succ d ih =>
                            intro c hc
                            obtain ⟨w1, w2, w3⟩ := N_gs_R (h := (N_wx v x)) b1 c (fun j _ => N_wx_in j) (by omega)
                            have wC := w1.C
                            refine r_iload F rfl dX9_fits_196 rfl ?_
                            refine r_iload F rfl dX9_fits_198 rfl ?_
                            refine r_icmp_ge F (tgt := 225) ⟨by omega, by omega⟩ ⟨by omega, by omega⟩ dX9_fits_200 rfl (by decide) (fun h_200 => ?_) (fun h_200 => ?_)
                            ·
                              exfalso; omega
                            ·
                              refine r_iload F rfl dX9_fits_203 rfl ?_
                              refine r_if_ne F (tgt := 225) ja_b_in dX9_fits_205 rfl (by decide) (fun h_205 => ?_) (fun h_205 => ?_)
                              ·
                                have b_205 : (N_sht v x) := ja_b_1 h_205
                                exact absurd b_205 hs
                              ·
                                have b_205 : ¬ (N_sht v x) := ja_b_0.mp h_205
                                refine r_aload_n F rfl rfl dX9_fits_208 rfl ?_
                                refine r_aload_n F rfl rfl dX9_fits_209 rfl ?_
                                refine r_getR F f_X9_29 (hM.1) rfl dX9_fits_210 rfl ?_
                                refine r_iload F rfl dX9_fits_213 rfl ?_
                                refine r_iald F (ja_LM_7 hM) (by omega) (by omega) (by decide) dX9_fits_215 rfl ?_
                                refine r_eqz (z := (N_wx v x c)) (by rw [ja_rw_n (by omega), hx8 _ (by omega)] <;> congr 1 <;> omega) ?_
                                refine r_eqz (z := N_wx v x c) rfl ?_
                                refine r_callV F GC (c_X9_gives _ _ _ _ hM w1) v_X9_120 rfl (hM.1) rfl (by decide) (by decide) (Nat.le_of_ble_eq_true rfl) rfl dX9_fits_216 rfl (fun v lay' mem' n' hp => ?_)
                                obtain ⟨q1, q2, q3, q4⟩ := hp
                                subst q1; subst q2; subst q3; subst q4
                                refine r_inc8 F (by decide) rfl dX9_fits_219 rfl ?_
                                refine r_goto F (tgt := 196) dX9_fits_222 (by decide) ?_
                                exact ih (c + 1) (by omega)
                        exact lp2 ((N_lf v x).toNat) 0 (by omega)
                      ·
                        have b_156 : (N_sht v x) := ja_b_1 h_156
                        exact absurd b_156 hs
              refine r_iload F rfl dX9_fits_132 rfl ?_
              refine r_if_eq F (tgt := 141) ja_b_in dX9_fits_134 rfl (by decide) (fun h_134 => ?_) (fun h_134 => ?_)
              ·
                have b_134 : ¬ (N_lng v x) := ja_b_0.mp h_134
                refine r_iconst F dX9_fits_141 rfl ?_
                refine r_eqz (z := ja_b (N_lng v x)) (by unfold ja_b; first | rw [if_pos b_134] | rw [if_neg b_134]) ?_
                exact J142
              ·
                have b_134 : (N_lng v x) := ja_b_1 h_134
                refine r_iconst F dX9_fits_137 rfl ?_
                refine r_goto F (tgt := 142) dX9_fits_138 (by decide) ?_
                refine r_eqz (z := ja_b (N_lng v x)) (by unfold ja_b; first | rw [if_pos b_134] | rw [if_neg b_134]) ?_
                exact J142
            refine r_iload F rfl dX9_fits_112 rfl ?_
            refine r_if_eq F (tgt := 121) ja_b_in dX9_fits_114 rfl (by decide) (fun h_114 => ?_) (fun h_114 => ?_)
            ·
              have b_114 : ¬ (N_sht v x) := ja_b_0.mp h_114
              refine r_iconst F dX9_fits_121 rfl ?_
              refine r_eqz (z := ja_b (N_sht v x)) (by unfold ja_b; first | rw [if_pos b_114] | rw [if_neg b_114]) ?_
              exact J122
            ·
              have b_114 : (N_sht v x) := ja_b_1 h_114
              refine r_iconst F dX9_fits_117 rfl ?_
              refine r_goto F (tgt := 122) dX9_fits_118 (by decide) ?_
              refine r_eqz (z := ja_b (N_sht v x)) (by unfold ja_b; first | rw [if_pos b_114] | rw [if_neg b_114]) ?_
              exact J122
          refine r_aload_n F rfl rfl dX9_fits_72 rfl ?_
          refine r_getR F f_X9_7 (hM.1) rfl dX9_fits_73 rfl ?_
          refine r_bipush F (by decide) dX9_fits_76 rfl ?_
          refine r_iald F (ja_LM_1 hM) (by omega) (by omega) (by decide) dX9_fits_78 rfl ?_
          refine r_eqz (z := (v 8)) (by rw [ja_rw_s, show Int.toNat 8 = 8 from rfl]) ?_
          refine r_iconst F dX9_fits_79 rfl ?_
          refine r_icmp_ne F (tgt := 95) ⟨by omega, by omega⟩ ⟨by omega, by omega⟩ dX9_fits_80 rfl (by decide) (fun h_80 => ?_) (fun h_80 => ?_)
          ·
            refine r_iconst F dX9_fits_95 rfl ?_
            refine r_eqz (z := ja_b (N_lng v x)) (by unfold ja_b; first | rw [if_pos ⟨by omega, by omega⟩] | rw [if_neg (fun q => by have q1 := q.1; have q2 := q.2; omega)]) ?_
            exact J96
          ·
            refine r_iload_n F rfl rfl dX9_fits_83 rfl ?_
            refine r_iload_n F rfl rfl dX9_fits_84 rfl ?_
            refine r_iadd F dX9_fits_85 rfl ?_
            refine r_iload F rfl dX9_fits_86 rfl ?_
            refine r_icmp_ge F (tgt := 95) ⟨by omega, by omega⟩ ⟨by omega, by omega⟩ dX9_fits_88 rfl (by decide) (fun h_88 => ?_) (fun h_88 => ?_)
            ·
              refine r_iconst F dX9_fits_95 rfl ?_
              refine r_eqz (z := ja_b (N_lng v x)) (by unfold ja_b; first | rw [if_pos ⟨by omega, by omega⟩] | rw [if_neg (fun q => by have q1 := q.1; have q2 := q.2; omega)]) ?_
              exact J96
            ·
              refine r_iconst F dX9_fits_91 rfl ?_
              refine r_goto F (tgt := 96) dX9_fits_92 (by decide) ?_
              refine r_eqz (z := ja_b (N_lng v x)) (by unfold ja_b; first | rw [if_pos ⟨by omega, by omega⟩] | rw [if_neg (fun q => by have q1 := q.1; have q2 := q.2; omega)]) ?_
              exact J96
        refine r_aload_n F rfl rfl dX9_fits_46 rfl ?_
        refine r_getR F f_X9_7 (hM.1) rfl dX9_fits_47 rfl ?_
        refine r_bipush F (by decide) dX9_fits_50 rfl ?_
        refine r_iald F (ja_LM_1 hM) (by omega) (by omega) (by decide) dX9_fits_52 rfl ?_
        refine r_eqz (z := (v 8)) (by rw [ja_rw_s, show Int.toNat 8 = 8 from rfl]) ?_
        refine r_iconst F dX9_fits_53 rfl ?_
        refine r_icmp_ne F (tgt := 69) ⟨by omega, by omega⟩ ⟨by omega, by omega⟩ dX9_fits_54 rfl (by decide) (fun h_54 => ?_) (fun h_54 => ?_)
        ·
          refine r_iconst F dX9_fits_69 rfl ?_
          refine r_eqz (z := ja_b (N_sht v x)) (by unfold ja_b; first | rw [if_pos ⟨by omega, by omega⟩] | rw [if_neg (fun q => by have q1 := q.1; have q2 := q.2; omega)]) ?_
          exact J70
        ·
          refine r_iload_n F rfl rfl dX9_fits_57 rfl ?_
          refine r_iload F rfl dX9_fits_58 rfl ?_
          refine r_iload_n F rfl rfl dX9_fits_60 rfl ?_
          refine r_iadd F dX9_fits_61 rfl ?_
          refine r_icmp_le F (tgt := 69) ⟨by omega, by omega⟩ ⟨by omega, by omega⟩ dX9_fits_62 rfl (by decide) (fun h_62 => ?_) (fun h_62 => ?_)
          ·
            refine r_iconst F dX9_fits_69 rfl ?_
            refine r_eqz (z := ja_b (N_sht v x)) (by unfold ja_b; first | rw [if_pos ⟨by omega, by omega⟩] | rw [if_neg (fun q => by have q1 := q.1; have q2 := q.2; omega)]) ?_
            exact J70
          ·
            refine r_iconst F dX9_fits_65 rfl ?_
            refine r_goto F (tgt := 70) dX9_fits_66 (by decide) ?_
            refine r_eqz (z := ja_b (N_sht v x)) (by unfold ja_b; first | rw [if_pos ⟨by omega, by omega⟩] | rw [if_neg (fun q => by have q1 := q.1; have q2 := q.2; omega)]) ?_
            exact J70
      ·
        exfalso; omega
    | succ d ih =>
      intro c hc g1 hg1
      refine r_iload_n F rfl rfl dX9_fits_9 rfl ?_
      refine r_iload_n F rfl rfl dX9_fits_10 rfl ?_
      refine r_icmp_ge F (tgt := 32) ⟨by omega, by omega⟩ ⟨by omega, by omega⟩ dX9_fits_11 rfl (by decide) (fun h_11 => ?_) (fun h_11 => ?_)
      ·
        exfalso; omega
      ·
        refine r_aload_n F rfl rfl dX9_fits_14 rfl ?_
        refine r_getR F f_X9_29 (hM.1) rfl dX9_fits_15 rfl ?_
        refine r_iload_n F rfl rfl dX9_fits_18 rfl ?_
        refine r_aload_n F rfl rfl dX9_fits_19 rfl ?_
        refine r_iload_n F rfl rfl dX9_fits_20 rfl ?_
        refine r_iload_n F rfl rfl dX9_fits_21 rfl ?_
        refine r_callV F GC (c_X9_sampleOf _ _ _ _ hM hS ⟨by omega, by omega⟩ ⟨by omega, by omega⟩) v_X9_104 rfl (hM.1) rfl (by decide) (by decide) (Nat.le_of_ble_eq_true rfl) rfl dX9_fits_22 rfl (fun v lay' mem' n' hp => ?_)
        obtain ⟨q1, q2, q3, q4⟩ := hp
        subst q1; subst q2; subst q3; subst q4
        refine r_iast F (ja_LM_7 hM) (by omega) (by omega) (by decide) dX9_fits_25 rfl ?_
        refine r_mem (mem' := ja_rw (ja_up (ja_rw G (m + 7) g1) (m + 7) (Int.toNat (c : Int)) _) (m + 1) v) (ja_up_rw (by omega)) ?_
        refine r_inc3 F (by decide) rfl dX9_fits_26 rfl ?_
        refine r_goto F (tgt := 9) dX9_fits_29 (by decide) ?_
        rw [ja_rw_up, show Int.toNat (c : Int) = c by omega]
        refine ih (c + 1) (by omega) _ (fun j hj => ?_)
        by_cases hjc : j = c
        · subst hjc
          rw [ja_rs_s]
          rfl
        · rw [ja_rs_n hjc]
          exact hg1 j (by omega)
  have h0 := lpx (v 0).toNat 0 (by omega) (G (m + 7)) (fun j hj => by omega)
  rw [ja_rw_self] at h0
  exact h0
