abbrev rm_L_predicts : Room := { frames := 8, cells := 20, slots := 1269, locals := 194 }
set_option maxRecDepth 100000 in
set_option maxHeartbeats 4000000 in
theorem c_L_predicts (l : Launch) (D : va_G) (cA : Nat → ClassId) (B : Nat) {lay : ja_Y} {mem : ja_M} {n : Nat} {y : Nat} {sl : Nat → Option Nat} {t : Int} {v : Nat → Int} {w : Int} (h : I7 lay mem n y sl t v) (ht : t ≤ 1900) (hw : 0 ≤ w ∧ w ≤ 2147483647) : ja_Mt l D cA B yL_predicts cL_predicts 11 (some .boolean) rm_L_predicts [.ref y, .int (ja_I w)] lay mem n (fun r lay' mem' n' => some (.int (ja_I 1)) = r ∧ ∃ sl', I7 lay' mem' n' y sl' t v) := by
  refine ja_enter [some (.ref y), some (.int (ja_I w)), none, none, none, none, none, none, none, none, none] (by decide) (Nat.le_of_ble_eq_true rfl) (fun q hq => hq) (fun C F Rt G hnm => ?_)
  obtain ⟨hB, hO, -⟩ := id h
  have E0 := E7_0 h
  have h11 := I7_11 h ht
  rw [h.P.1.2.2.2] at h11
  have hC0 := h.N.1.C
  have hv11 : 0 ≤ v 11 := by omega
  have hv9 : 0 ≤ v 9 ∧ v 9 ≤ t := ⟨hC0.1.1, h.N.2.1.1⟩
  have hv21 : 0 ≤ v 21 ∧ v 21 ≤ 1000 := by omega
  clear hC0
  obtain ⟨gap, hgap⟩ : ∃ z, z = N_xg 1000 0 v := ⟨_, rfl⟩
  have Pg := P_gap h.N h.G (by omega)
  rw [← hgap] at Pg
  have pg1 := PG7_1 Pg
  obtain ⟨mm, hmm⟩ : ∃ z, z = 1 + w % 60 := ⟨_, rfl⟩
  have hm1 : 1 ≤ mm ∧ mm ≤ 60 := by omega
  obtain ⟨gs, hgs⟩ : ∃ z, z = N_ag v mm.toNat := ⟨_, rfl⟩
  have hgr := @N_ag_in v mm.toNat
  have pg2 := PG7_2 Pg (k := mm.toNat) (by omega)
  rw [← hgs] at hgr pg2
  obtain ⟨fr, hfr⟩ : ∃ z, z = v 11 + w / 256 % 5 := ⟨_, rfl⟩
  have hf1 : v 11 ≤ fr ∧ fr ≤ 966 := by omega
  obtain ⟨tk, htk⟩ : ∃ z, z = N_xf fr 2000 0 v := ⟨_, rfl⟩
  have Pf := P_fra (x := fr) h.N h.G (by omega) hf1.1
  rw [← htk] at Pf
  have pf1 := PF7_1 Pf
  refine r_aload_n F rfl rfl dL_predicts_0 rfl ?_
  refine r_callV F G (c_X8_checksum _ _ _ _ hB hO) v_L_78 rfl (hB.1) rfl (by decide) (by decide) (Nat.le_of_ble_eq_true rfl) rfl dL_predicts_1 rfl (fun rv lay' mem' n' hp => ?_)
  obtain ⟨q1, q2, q3, q4⟩ := hp
  subst q1; subst q2; subst q3; subst q4
  refine r_lst2 F (by decide) rfl dL_predicts_4 rfl ?_
  refine r_aload_n F rfl rfl dL_predicts_5 rfl ?_
  refine r_callV F G (c_X8_ticksToGap _ _ _ _ hB E0.1.O (by omega)) v_L_82 rfl (hB.1) rfl (by decide) (by decide) (Nat.le_of_ble_eq_true rfl) rfl dL_predicts_6 rfl (fun rv L1 M1 n1 hp => ?_)
  obtain ⟨q1, q2, q3, q4⟩ := hp
  subst q1; subst q2; subst q4
  obtain ⟨E1, g1⟩ := E7_gap E0 (by omega)
  rw [q3] at E1
  refine r_eqz (z := gap) (g1.trans hgap.symm) ?_
  refine r_ist4 F (by decide) rfl dL_predicts_9 rfl ?_
  refine r_iconst F dL_predicts_11 rfl ?_
  refine r_iload_n F rfl rfl dL_predicts_12 rfl ?_
  refine r_bipush F (by decide) dL_predicts_13 rfl ?_
  refine r_iremP F ⟨by omega, by omega⟩ ⟨by omega, by omega⟩ (by omega) (by omega) dL_predicts_15 rfl ?_
  refine r_iadd F dL_predicts_16 rfl ?_
  refine r_eqz (z := mm) (hmm.symm) ?_
  refine r_ist5 F (by decide) rfl dL_predicts_17 rfl ?_
  refine r_aload_n F rfl rfl dL_predicts_19 rfl ?_
  refine r_iload F rfl dL_predicts_20 rfl ?_
  refine r_callV F G (c_X8_gapsIn _ _ _ _ hB E1.1.O ⟨by omega, by omega⟩ (by omega)) v_L_85 rfl (hB.1) rfl (by decide) (by decide) (Nat.le_of_ble_eq_true rfl) rfl dL_predicts_22 rfl (fun rv L2 M2 n2 hp => ?_)
  obtain ⟨q1, q2, q3, q4⟩ := hp
  subst q1; subst q2; subst q4
  obtain ⟨E2, g2⟩ := E7_gin E1 (x := mm) (by omega) (by omega)
  rw [q3] at E2
  refine r_eqz (z := gs) (g2.trans hgs.symm) ?_
  have e211 : M2 (y + 1 + 9) 6 = v 11 := E2.1.P.1.2.2.2
  refine r_ist6 F (by decide) rfl dL_predicts_25 rfl ?_
  refine r_aload_n F rfl rfl dL_predicts_27 rfl ?_
  refine r_callV F G (c_X8_next _ _ _ _ hB E2.1.O) v_L_9 rfl (hB.1) rfl (by decide) (by decide) (Nat.le_of_ble_eq_true rfl) rfl dL_predicts_28 rfl (fun rv lay' mem' n' hp => ?_)
  obtain ⟨q1, q2, q3, q4⟩ := hp
  subst q1; subst q2; subst q3; subst q4
  refine r_eqz (z := v 11) (by rw [e211]; exact if_neg (by omega)) ?_
  refine r_if_ge F (tgt := 40) ⟨by omega, by omega⟩ dL_predicts_31 rfl (by decide) (fun h_31 => ?_) (fun h_31 => ?_)
  ·
    refine r_aload_n F rfl rfl dL_predicts_40 rfl ?_
    refine r_callV F G (c_X8_next _ _ _ _ hB E2.1.O) v_L_9 rfl (hB.1) rfl (by decide) (by decide) (Nat.le_of_ble_eq_true rfl) rfl dL_predicts_41 rfl (fun rv lay' mem' n' hp => ?_)
    obtain ⟨q1, q2, q3, q4⟩ := hp
    subst q1; subst q2; subst q3; subst q4
    refine r_eqz (z := v 11) (by rw [e211]; exact if_neg (by omega)) ?_
    refine r_iload_n F rfl rfl dL_predicts_44 rfl ?_
    refine r_bipush F (by decide) dL_predicts_45 rfl ?_
    refine r_ishr F (J_shr32 (k := 8) (p := 256) ⟨by omega, by omega⟩ rfl (by decide) (by decide)) dL_predicts_47 rfl ?_
    refine r_iconst F dL_predicts_48 rfl ?_
    refine r_iremP F ⟨by omega, by omega⟩ ⟨by omega, by omega⟩ (by omega) (by omega) dL_predicts_49 rfl ?_
    refine r_iadd F dL_predicts_50 rfl ?_
    refine r_eqz (z := fr) (hfr.symm) ?_
    refine r_ist7 F (by decide) rfl dL_predicts_51 rfl ?_
    refine r_iload F rfl dL_predicts_53 rfl ?_
    refine r_sipush F (by decide) dL_predicts_55 rfl ?_
    refine r_icmp_gt F (tgt := 68) ⟨by omega, by omega⟩ ⟨by omega, by omega⟩ dL_predicts_58 rfl (by decide) (fun h_58 => ?_) (fun h_58 => ?_)
    ·
      exfalso; omega
    ·
      refine r_aload_n F rfl rfl dL_predicts_61 rfl ?_
      refine r_callV F G (c_X8_next _ _ _ _ hB E2.1.O) v_L_9 rfl (hB.1) rfl (by decide) (by decide) (Nat.le_of_ble_eq_true rfl) rfl dL_predicts_62 rfl (fun rv lay' mem' n' hp => ?_)
      obtain ⟨q1, q2, q3, q4⟩ := hp
      subst q1; subst q2; subst q3; subst q4
      refine r_eqz (z := v 11) (by rw [e211]; exact if_neg (by omega)) ?_
      refine r_if_ge F (tgt := 74) ⟨by omega, by omega⟩ dL_predicts_65 rfl (by decide) (fun h_65 => ?_) (fun h_65 => ?_)
      ·
        refine r_aload_n F rfl rfl dL_predicts_74 rfl ?_
        refine r_iload F rfl dL_predicts_75 rfl ?_
        refine r_callV F G (c_X8_ticksToFrame _ _ _ _ hB E2.1.O ⟨by omega, by omega⟩ (by omega)) v_L_88 rfl (hB.1) rfl (by decide) (by decide) (Nat.le_of_ble_eq_true rfl) rfl dL_predicts_77 rfl (fun rv L3 M3 n3 hp => ?_)
        obtain ⟨q1, q2, q3, q4⟩ := hp
        subst q1; subst q2; subst q4
        obtain ⟨E3, g3⟩ := E7_fra E2 (x := fr) (by omega) ⟨by omega, by omega⟩ (by omega)
        rw [q3] at E3
        refine r_eqz (z := tk) (g3.trans htk.symm) ?_
        refine r_ist8 F (by decide) rfl dL_predicts_80 rfl ?_
        refine r_aload_n F rfl rfl dL_predicts_82 rfl ?_
        refine r_callV F G (c_X8_checksum _ _ _ _ hB E3.1.O) v_L_78 rfl (hB.1) rfl (by decide) (by decide) (Nat.le_of_ble_eq_true rfl) rfl dL_predicts_83 rfl (fun rv lay' mem' n' hp => ?_)
        obtain ⟨q1, q2, q3, q4⟩ := hp
        subst q1; subst q2; subst q3; subst q4
        refine r_lload_n F rfl rfl dL_predicts_86 rfl ?_
        refine r_leq F E3.ck dL_predicts_87 rfl ?_
        refine r_if_ne F (tgt := 153) ⟨by omega, by omega⟩ dL_predicts_88 rfl (by decide) (fun h_88 => ?_) (fun h_88 => ?_)
        ·
          exfalso; omega
        ·
          refine r_aload_n F rfl rfl dL_predicts_91 rfl ?_
          refine r_iconst F dL_predicts_92 rfl ?_
          refine r_callV F G (c_X8_keep _ _ _ _ hB E3.1.O ⟨by omega, by omega⟩ E3.1.n49 (fun i o hi ho => (E3.1.so i o hi ho).2)) v_L_91 rfl (hB.1) rfl (by decide) (by decide) (Nat.le_of_ble_eq_true rfl) rfl dL_predicts_93 rfl (fun rv L4 M4 n4 hp => ?_)
          obtain ⟨q1, hk6, sl4, o4, F4⟩ := E7_keep E3 hp
          subst q1
          have hB := F4.1.1.L
          refine r_eqz (z := v 9) E3.1.T.1.1.2.1 ?_
          refine r_aload_n F rfl rfl dL_predicts_96 rfl ?_
          refine r_callV F G (c_X8_time _ _ _ _ hB F4.1.1.O) v_L_94 rfl (hB.1) rfl (by decide) (by decide) (Nat.le_of_ble_eq_true rfl) rfl dL_predicts_97 rfl (fun rv lay' mem' n' hp => ?_)
          obtain ⟨q1, q2, q3, q4⟩ := hp
          subst q1; subst q2; subst q3; subst q4
          refine r_eqz (z := v 9) F4.1.1.T.1.1.2.1 ?_
          refine r_nesame F (tgt := 153) rfl dL_predicts_100 rfl (by decide) ?_
          have J124 : ja_W C 20 1269 L4 M4 n4 124 [some (.ref (y)), some (.int (ja_I (w))), some (.long (B_ck mem y)), none, some (.int (ja_I (gap))), some (.int (ja_I (mm))), some (.int (ja_I (gs))), some (.int (ja_I (fr))), some (.int (ja_I (tk))), none, none] [] := by
            have J149 : ja_W C 20 1269 L4 M4 n4 149 [some (.ref (y)), some (.int (ja_I (w))), some (.long (B_ck mem y)), none, some (.int (ja_I (gap))), some (.int (ja_I (mm))), some (.int (ja_I (gs))), some (.int (ja_I (fr))), some (.int (ja_I (tk))), none, none] [] := by
              refine r_iconst F dL_predicts_149 rfl ?_
              refine r_goto F (tgt := 154) dL_predicts_150 (by decide) ?_
              refine r_ist9 F (by decide) rfl dL_predicts_154 rfl ?_
              refine r_aload_n F rfl rfl dL_predicts_156 rfl ?_
              refine r_iconst F dL_predicts_157 rfl ?_
              refine r_callV F G (c_X8_taken _ _ _ _ hB F4.1.1.O ⟨by omega, by omega⟩) v_L_15 rfl (hB.1) rfl (by decide) (by decide) (Nat.le_of_ble_eq_true rfl) rfl dL_predicts_158 rfl (fun rv lay' mem' n' hp => ?_)
              obtain ⟨q1, q2, q3, q4⟩ := hp
              subst q1; subst q2; subst q3; subst q4
              refine r_eqz (z := v 21) (e_t3.trans F4.1.1.P.2.2.2.2.1) ?_
              refine r_ist10 F (by decide) rfl dL_predicts_161 rfl ?_
              refine r_iload F rfl dL_predicts_163 rfl ?_
              refine r_if_eq F (tgt := 211) ⟨by omega, by omega⟩ dL_predicts_165 rfl (by decide) (fun h_165 => ?_) (fun h_165 => ?_)
              ·
                exfalso; omega
              ·
                refine r_aload_n F rfl rfl dL_predicts_168 rfl ?_
                refine r_iload F rfl dL_predicts_169 rfl ?_
                refine r_callV F G (c_X8_advance _ _ _ _ hB F4.1.1.O ⟨by omega, by omega⟩ (by omega)) v_L_97 rfl (hB.1) rfl (by decide) (by decide) (Nat.le_of_ble_eq_true rfl) rfl dL_predicts_171 rfl (fun rv L5 M5 n5 hp => ?_)
                obtain ⟨q1, q2, q3, q4⟩ := hp
                subst q1; subst q2; subst q4
                obtain ⟨a1, a2, a3, a4, a5, a6⟩ := I7_tck F4.1.1 mm.toNat (by omega)
                refine r_eqz (z := N_at v mm.toNat) ((if_pos ⟨by omega, by omega⟩).trans a3) ?_
                have eM5 := (if_pos (show 1 ≤ mm ∧ mm ≤ 500 by omega)).symm.trans q3
                rw [eM5] at a1 a2 a5 a6
                refine r_if_lt F (tgt := 211) ⟨by omega, by omega⟩ dL_predicts_174 rfl (by decide) (fun h_174 => ?_) (fun h_174 => ?_)
                ·
                  exfalso; omega
                ·
                  refine r_aload_n F rfl rfl dL_predicts_177 rfl ?_
                  refine r_iconst F dL_predicts_178 rfl ?_
                  refine r_callV F G (c_X8_taken _ _ _ _ hB a1.O ⟨by omega, by omega⟩) v_L_15 rfl (hB.1) rfl (by decide) (by decide) (Nat.le_of_ble_eq_true rfl) rfl dL_predicts_179 rfl (fun rv lay' mem' n' hp => ?_)
                  obtain ⟨q1, q2, q3, q4⟩ := hp
                  subst q1; subst q2; subst q3; subst q4
                  refine r_eqz (z := v 21 + N_ag v mm.toNat) (e_t3.trans a5) ?_
                  refine r_iload F rfl dL_predicts_182 rfl ?_
                  refine r_iload F rfl dL_predicts_184 rfl ?_
                  refine r_iadd F dL_predicts_186 rfl ?_
                  refine r_nesame F (tgt := 211) (by omega) dL_predicts_187 rfl (by decide) ?_
                  refine r_aload_n F rfl rfl dL_predicts_190 rfl ?_
                  refine r_iconst F dL_predicts_191 rfl ?_
                  refine r_callV F G (c_X8_restore _ _ _ _ hB a1.O ⟨by omega, by omega⟩) v_L_100 rfl (hB.1) rfl (by decide) (by decide) (Nat.le_of_ble_eq_true rfl) rfl dL_predicts_192 rfl (fun rv L6 M6 n6 hp => ?_)
                  obtain ⟨o', rr, r3, r4, r1, r2⟩ : ∃ o', sl4 1 = some o' ∧ some (.int (ja_I (M5 o' 6))) = rv ∧ R_cp M5 (y + 1) o' = M6 ∧ L4 = L6 ∧ n4 = n6 := by
                    obtain ⟨r1, r2, ⟨rr, -⟩ | ⟨-, rr, -⟩ | ⟨o', -, rr, r3, r4⟩⟩ := hp
                    · exact absurd ⟨by decide, by decide⟩ rr
                    · exact absurd (rr.symm.trans F4.2.1) (by simp)
                    · exact ⟨o', rr, r3, r4, r1, r2⟩
                  obtain rfl : o4 = o' := (Option.some.inj (rr.symm.trans F4.2.1)).symm
                  subst r3; subst r1; subst r2
                  have hrow : ∀ q, y + 21 ≤ q → M5 q = M4 q := a2
                  have F6 := F7_rest F4 a1 hrow
                  rw [r4] at F6
                  have hz6 : 0 ≤ M5 o4 6 ∧ M5 o4 6 ≤ t := by
                    rw [hrow o4 (by have := F4.ge; omega)]
                    exact F4.RO.2.2.2.2.2.1
                  refine r_if_lt F (tgt := 211) ⟨by omega, by omega⟩ dL_predicts_195 rfl (by decide) (fun h_195 => ?_) (fun h_195 => ?_)
                  ·
                    exfalso; omega
                  ·
                    refine r_aload_n F rfl rfl dL_predicts_198 rfl ?_
                    refine r_callV F G (c_X8_checksum _ _ _ _ hB F6.1.1.O) v_L_78 rfl (hB.1) rfl (by decide) (by decide) (Nat.le_of_ble_eq_true rfl) rfl dL_predicts_199 rfl (fun rv lay' mem' n' hp => ?_)
                    obtain ⟨q1, q2, q3, q4⟩ := hp
                    subst q1; subst q2; subst q3; subst q4
                    refine r_lload_n F rfl rfl dL_predicts_202 rfl ?_
                    refine r_leq F F6.1.ck dL_predicts_203 rfl ?_
                    refine r_if_ne F (tgt := 211) ⟨by omega, by omega⟩ dL_predicts_204 rfl (by decide) (fun h_204 => ?_) (fun h_204 => ?_)
                    ·
                      exfalso; omega
                    ·
                      refine r_iconst F dL_predicts_207 rfl ?_
                      refine r_goto F (tgt := 212) dL_predicts_208 (by decide) ?_
                      refine r_ist9 F (by decide) rfl dL_predicts_212 rfl ?_
                      have J380 : ∀ Me : ja_M, F7 L4 Me n4 y sl4 t v mem o4 → ja_W C 20 1269 L4 Me n4 380 [some (.ref (y)), some (.int (ja_I (w))), some (.long (B_ck mem y)), none, some (.int (ja_I (gap))), some (.int (ja_I (mm))), some (.int (ja_I (gs))), some (.int (ja_I (fr))), some (.int (ja_I (tk))), some (.int (ja_I (1))), some (.int (ja_I (v 21)))] [] := by
                        intro Me Fe
                        refine r_iload F rfl dL_predicts_380 rfl ?_
                        refine r_if_eq F (tgt := 398) ⟨by omega, by omega⟩ dL_predicts_382 rfl (by decide) (fun h_382 => ?_) (fun h_382 => ?_)
                        ·
                          exfalso; omega
                        ·
                          refine r_aload_n F rfl rfl dL_predicts_385 rfl ?_
                          refine r_callV F G (c_X8_checksum _ _ _ _ hB Fe.1.1.O) v_L_78 rfl (hB.1) rfl (by decide) (by decide) (Nat.le_of_ble_eq_true rfl) rfl dL_predicts_386 rfl (fun rv lay' mem' n' hp => ?_)
                          obtain ⟨q1, q2, q3, q4⟩ := hp
                          subst q1; subst q2; subst q3; subst q4
                          refine r_lload_n F rfl rfl dL_predicts_389 rfl ?_
                          refine r_leq F Fe.1.ck dL_predicts_390 rfl ?_
                          refine r_if_ne F (tgt := 398) ⟨by omega, by omega⟩ dL_predicts_391 rfl (by decide) (fun h_391 => ?_) (fun h_391 => ?_)
                          ·
                            exfalso; omega
                          ·
                            refine r_iconst F dL_predicts_394 rfl ?_
                            refine r_goto F (tgt := 399) dL_predicts_395 (by decide) ?_
                            exact r_zret F Rt (by omega) dL_predicts_399 (by decide) ⟨rfl, sl4, Fe.1.1⟩
                      have J291 : ∀ Md : ja_M, F7 L4 Md n4 y sl4 t v mem o4 → ja_W C 20 1269 L4 Md n4 291 [some (.ref (y)), some (.int (ja_I (w))), some (.long (B_ck mem y)), none, some (.int (ja_I (gap))), some (.int (ja_I (mm))), some (.int (ja_I (gs))), some (.int (ja_I (fr))), some (.int (ja_I (tk))), some (.int (ja_I (1))), some (.int (ja_I (v 21)))] [] := by
                        intro Md Fd
                        refine r_iload F rfl dL_predicts_291 rfl ?_
                        refine r_if_lt F (tgt := 380) ⟨by omega, by omega⟩ dL_predicts_293 rfl (by decide) (fun h_293 => ?_) (fun h_293 => ?_)
                        ·
                          exact J380 _ Fd
                        ·
                          refine r_iload F rfl dL_predicts_296 rfl ?_
                          refine r_bipush F (by decide) dL_predicts_298 rfl ?_
                          refine r_icmp_ge F (tgt := 380) ⟨by omega, by omega⟩ ⟨by omega, by omega⟩ dL_predicts_300 rfl (by decide) (fun h_300 => ?_) (fun h_300 => ?_)
                          ·
                            exact J380 _ Fd
                          ·
                            refine r_iload F rfl dL_predicts_303 rfl ?_
                            refine r_if_eq F (tgt := 377) ⟨by omega, by omega⟩ dL_predicts_305 rfl (by decide) (fun h_305 => ?_) (fun h_305 => ?_)
                            ·
                              exfalso; omega
                            ·
                              have pf3 := PF7_3 Pf (by omega)
                              obtain ⟨b1, b2, b3, b4, b5, b6⟩ := I7_tck Fd.1.1 tk.toNat (by omega)
                              obtain ⟨Mg, eMg⟩ : ∃ M, M = B_adv Md (y + 1) tk.toNat := ⟨_, rfl⟩
                              rw [← eMg] at b1 b2 b5 b6
                              have J322 : ja_W C 20 1269 L4 Mg n4 322 [some (.ref (y)), some (.int (ja_I (w))), some (.long (B_ck mem y)), none, some (.int (ja_I (gap))), some (.int (ja_I (mm))), some (.int (ja_I (gs))), some (.int (ja_I (fr))), some (.int (ja_I (tk))), some (.int (ja_I (1))), some (.int (ja_I (v 21)))] [] := by
                                refine r_aload_n F rfl rfl dL_predicts_322 rfl ?_
                                refine r_callV F G (c_X8_next _ _ _ _ hB b1.O) v_L_9 rfl (hB.1) rfl (by decide) (by decide) (Nat.le_of_ble_eq_true rfl) rfl dL_predicts_323 rfl (fun rv lay' mem' n' hp => ?_)
                                obtain ⟨q1, q2, q3, q4⟩ := hp
                                subst q1; subst q2; subst q3; subst q4
                                refine r_eqz (z := fr) (by rw [b6, pf3.1]; exact if_neg (by omega)) ?_
                                refine r_iload F rfl dL_predicts_326 rfl ?_
                                refine r_nesame F (tgt := 377) rfl dL_predicts_328 rfl (by decide) ?_
                                refine r_aload_n F rfl rfl dL_predicts_331 rfl ?_
                                refine r_iconst F dL_predicts_332 rfl ?_
                                refine r_callV F G (c_X8_advance _ _ _ _ hB b1.O ⟨by omega, by omega⟩ (by omega)) v_L_97 rfl (hB.1) rfl (by decide) (by decide) (Nat.le_of_ble_eq_true rfl) rfl dL_predicts_333 rfl (fun rv L11 M11 n11 hp => ?_)
                                obtain ⟨q1, q2, q3, q4⟩ := hp
                                subst q1; subst q2; subst q4
                                obtain ⟨c1, c2, c3, -, -, -⟩ := I7_tck b1 1 (by omega)
                                refine r_eqz (z := 1) ((if_pos (by decide)).trans (c3.trans ((N_at_1 _).trans pf3.2.1))) ?_
                                have eM11 := (if_pos (show (1 : Int) ≤ 1 ∧ (1 : Int) ≤ 500 by decide)).symm.trans q3
                                rw [show Int.toNat 1 = 1 from rfl] at eM11
                                rw [eM11] at c1 c2
                                have c6 : M11 (y + 1 + 9) 6 = fr + 1 := c1.P.1.2.2.2.trans pf3.2.2
                                refine r_iconst F dL_predicts_336 rfl ?_
                                refine r_nesame F (tgt := 377) rfl dL_predicts_337 rfl (by decide) ?_
                                refine r_aload_n F rfl rfl dL_predicts_340 rfl ?_
                                refine r_callV F G (c_X8_next _ _ _ _ hB c1.O) v_L_9 rfl (hB.1) rfl (by decide) (by decide) (Nat.le_of_ble_eq_true rfl) rfl dL_predicts_341 rfl (fun rv lay' mem' n' hp => ?_)
                                obtain ⟨q1, q2, q3, q4⟩ := hp
                                subst q1; subst q2; subst q3; subst q4
                                refine r_eqz (z := fr + 1) (by rw [c6]; exact if_neg (by omega)) ?_
                                refine r_iload F rfl dL_predicts_344 rfl ?_
                                refine r_sipush F (by decide) dL_predicts_346 rfl ?_
                                refine r_icmp_ne F (tgt := 358) ⟨by omega, by omega⟩ ⟨by omega, by omega⟩ dL_predicts_349 rfl (by decide) (fun h_349 => ?_) (fun h_349 => ?_)
                                ·
                                  refine r_iload F rfl dL_predicts_358 rfl ?_
                                  refine r_iconst F dL_predicts_360 rfl ?_
                                  refine r_iadd F dL_predicts_361 rfl ?_
                                  refine r_nesame F (tgt := 377) rfl dL_predicts_362 rfl (by decide) ?_
                                  refine r_aload_n F rfl rfl dL_predicts_365 rfl ?_
                                  refine r_iconst F dL_predicts_366 rfl ?_
                                  refine r_callV F G (c_X8_restore _ _ _ _ hB c1.O ⟨by omega, by omega⟩) v_L_100 rfl (hB.1) rfl (by decide) (by decide) (Nat.le_of_ble_eq_true rfl) rfl dL_predicts_367 rfl (fun rv L12 M12 n12 hp => ?_)
                                  obtain ⟨o', rr, r3, r4, r1, r2⟩ : ∃ o', sl4 1 = some o' ∧ some (.int (ja_I (M11 o' 6))) = rv ∧ R_cp M11 (y + 1) o' = M12 ∧ L4 = L12 ∧ n4 = n12 := by
                                    obtain ⟨r1, r2, ⟨rr, -⟩ | ⟨-, rr, -⟩ | ⟨o', -, rr, r3, r4⟩⟩ := hp
                                    · exact absurd ⟨by decide, by decide⟩ rr
                                    · exact absurd (rr.symm.trans Fd.2.1) (by simp)
                                    · exact ⟨o', rr, r3, r4, r1, r2⟩
                                  obtain rfl : o4 = o' := (Option.some.inj (rr.symm.trans Fd.2.1)).symm
                                  subst r3; subst r1; subst r2
                                  have hrow : ∀ q, y + 21 ≤ q → M11 q = Md q := fun q hq => (c2 q hq).trans (b2 q hq)
                                  have F12 := F7_rest Fd c1 hrow
                                  rw [r4] at F12
                                  have hz6 : 0 ≤ M11 o4 6 ∧ M11 o4 6 ≤ t := by
                                    rw [hrow o4 (by have := Fd.ge; omega)]
                                    exact Fd.RO.2.2.2.2.2.1
                                  refine r_if_lt F (tgt := 377) ⟨by omega, by omega⟩ dL_predicts_370 rfl (by decide) (fun h_370 => ?_) (fun h_370 => ?_)
                                  ·
                                    exfalso; omega
                                  ·
                                    refine r_iconst F dL_predicts_373 rfl ?_
                                    refine r_goto F (tgt := 378) dL_predicts_374 (by decide) ?_
                                    refine r_ist9 F (by decide) rfl dL_predicts_378 rfl ?_
                                    exact J380 _ F12
                                ·
                                  exfalso; omega
                              refine r_iload F rfl dL_predicts_308 rfl ?_
                              refine r_if_eq F (tgt := 322) ⟨by omega, by omega⟩ dL_predicts_310 rfl (by decide) (fun h_310 => ?_) (fun h_310 => ?_)
                              ·
                                refine r_mem (mem' := Mg) (by rw [eMg, show tk.toNat = 0 by omega]; rfl) ?_
                                exact J322
                              ·
                                refine r_aload_n F rfl rfl dL_predicts_313 rfl ?_
                                refine r_iload F rfl dL_predicts_314 rfl ?_
                                refine r_callV F G (c_X8_advance _ _ _ _ hB Fd.1.1.O ⟨by omega, by omega⟩ (by omega)) v_L_97 rfl (hB.1) rfl (by decide) (by decide) (Nat.le_of_ble_eq_true rfl) rfl dL_predicts_316 rfl (fun rv L10 M10 n10 hp => ?_)
                                obtain ⟨q1, q2, q3, q4⟩ := hp
                                subst q1; subst q2; subst q4
                                refine r_eqz (z := N_at v tk.toNat) ((if_pos ⟨by omega, by omega⟩).trans b3) ?_
                                refine r_mem (mem' := Mg) (q3.symm.trans ((if_pos (show 1 ≤ tk ∧ tk ≤ 500 by omega)).trans eMg.symm)) ?_
                                refine r_if_lt F (tgt := 377) ⟨by omega, by omega⟩ dL_predicts_319 rfl (by decide) (fun h_319 => ?_) (fun h_319 => ?_)
                                ·
                                  exfalso; omega
                                ·
                                  exact J322
                      have Fb := F6
                      obtain ⟨Mb, eMb⟩ : ∃ M, M = M6 := ⟨_, rfl⟩
                      rw [← eMb] at Fb
                      refine r_mem (mem' := Mb) eMb.symm ?_
                      refine r_iload F rfl dL_predicts_214 rfl ?_
                      refine r_if_lt F (tgt := 291) ⟨by omega, by omega⟩ dL_predicts_216 rfl (by decide) (fun h_216 => ?_) (fun h_216 => ?_)
                      ·
                        exact J291 _ Fb
                      ·
                        refine r_iload F rfl dL_predicts_219 rfl ?_
                        refine r_bipush F (by decide) dL_predicts_221 rfl ?_
                        refine r_icmp_ge F (tgt := 291) ⟨by omega, by omega⟩ ⟨by omega, by omega⟩ dL_predicts_223 rfl (by decide) (fun h_223 => ?_) (fun h_223 => ?_)
                        ·
                          exact J291 _ Fb
                        ·
                          refine r_iload F rfl dL_predicts_226 rfl ?_
                          refine r_if_eq F (tgt := 288) ⟨by omega, by omega⟩ dL_predicts_228 rfl (by decide) (fun h_228 => ?_) (fun h_228 => ?_)
                          ·
                            exfalso; omega
                          ·
                            have pg3 := PG7_3 Pg (by omega)
                            obtain ⟨b1, b2, b3, b4, b5, b6⟩ := I7_tck Fb.1.1 gap.toNat (by omega)
                            obtain ⟨Mg, eMg⟩ : ∃ M, M = B_adv Mb (y + 1) gap.toNat := ⟨_, rfl⟩
                            rw [← eMg] at b1 b2 b5 b6
                            have b21 : N_ad v gap.toNat 21 = v 21 := by have e := b1.P.2.2.2.2.1; have e2 := pg3.1; omega
                            have J245 : ja_W C 20 1269 L4 Mg n4 245 [some (.ref (y)), some (.int (ja_I (w))), some (.long (B_ck mem y)), none, some (.int (ja_I (gap))), some (.int (ja_I (mm))), some (.int (ja_I (gs))), some (.int (ja_I (fr))), some (.int (ja_I (tk))), some (.int (ja_I (1))), some (.int (ja_I (v 21)))] [] := by
                              refine r_aload_n F rfl rfl dL_predicts_245 rfl ?_
                              refine r_iconst F dL_predicts_246 rfl ?_
                              refine r_callV F G (c_X8_taken _ _ _ _ hB b1.O ⟨by omega, by omega⟩) v_L_15 rfl (hB.1) rfl (by decide) (by decide) (Nat.le_of_ble_eq_true rfl) rfl dL_predicts_247 rfl (fun rv lay' mem' n' hp => ?_)
                              obtain ⟨q1, q2, q3, q4⟩ := hp
                              subst q1; subst q2; subst q3; subst q4
                              refine r_eqz (z := v 21) (e_t3.trans (by omega)) ?_
                              refine r_iload F rfl dL_predicts_250 rfl ?_
                              refine r_nesame F (tgt := 288) rfl dL_predicts_252 rfl (by decide) ?_
                              refine r_aload_n F rfl rfl dL_predicts_255 rfl ?_
                              refine r_iconst F dL_predicts_256 rfl ?_
                              refine r_callV F G (c_X8_advance _ _ _ _ hB b1.O ⟨by omega, by omega⟩ (by omega)) v_L_97 rfl (hB.1) rfl (by decide) (by decide) (Nat.le_of_ble_eq_true rfl) rfl dL_predicts_257 rfl (fun rv L8 M8 n8 hp => ?_)
                              obtain ⟨q1, q2, q3, q4⟩ := hp
                              subst q1; subst q2; subst q4
                              obtain ⟨c1, c2, c3, -, -, -⟩ := I7_tck b1 1 (by omega)
                              refine r_eqz (z := 1) ((if_pos (by decide)).trans (c3.trans ((N_at_1 _).trans pg3.2.1))) ?_
                              have eM8 := (if_pos (show (1 : Int) ≤ 1 ∧ (1 : Int) ≤ 500 by decide)).symm.trans q3
                              rw [show Int.toNat 1 = 1 from rfl] at eM8
                              rw [eM8] at c1 c2
                              refine r_iconst F dL_predicts_260 rfl ?_
                              refine r_nesame F (tgt := 288) rfl dL_predicts_261 rfl (by decide) ?_
                              refine r_aload_n F rfl rfl dL_predicts_264 rfl ?_
                              refine r_iconst F dL_predicts_265 rfl ?_
                              refine r_callV F G (c_X8_taken _ _ _ _ hB c1.O ⟨by omega, by omega⟩) v_L_15 rfl (hB.1) rfl (by decide) (by decide) (Nat.le_of_ble_eq_true rfl) rfl dL_predicts_266 rfl (fun rv lay' mem' n' hp => ?_)
                              obtain ⟨q1, q2, q3, q4⟩ := hp
                              subst q1; subst q2; subst q3; subst q4
                              refine r_eqz (z := v 21 + 1) (e_t3.trans (c1.P.2.2.2.2.1.trans (pg3.2.2.trans (by omega)))) ?_
                              refine r_iload F rfl dL_predicts_269 rfl ?_
                              refine r_iconst F dL_predicts_271 rfl ?_
                              refine r_iadd F dL_predicts_272 rfl ?_
                              refine r_nesame F (tgt := 288) rfl dL_predicts_273 rfl (by decide) ?_
                              refine r_aload_n F rfl rfl dL_predicts_276 rfl ?_
                              refine r_iconst F dL_predicts_277 rfl ?_
                              refine r_callV F G (c_X8_restore _ _ _ _ hB c1.O ⟨by omega, by omega⟩) v_L_100 rfl (hB.1) rfl (by decide) (by decide) (Nat.le_of_ble_eq_true rfl) rfl dL_predicts_278 rfl (fun rv L9 M9 n9 hp => ?_)
                              obtain ⟨o', rr, r3, r4, r1, r2⟩ : ∃ o', sl4 1 = some o' ∧ some (.int (ja_I (M8 o' 6))) = rv ∧ R_cp M8 (y + 1) o' = M9 ∧ L4 = L9 ∧ n4 = n9 := by
                                obtain ⟨r1, r2, ⟨rr, -⟩ | ⟨-, rr, -⟩ | ⟨o', -, rr, r3, r4⟩⟩ := hp
                                · exact absurd ⟨by decide, by decide⟩ rr
                                · exact absurd (rr.symm.trans Fb.2.1) (by simp)
                                · exact ⟨o', rr, r3, r4, r1, r2⟩
                              obtain rfl : o4 = o' := (Option.some.inj (rr.symm.trans Fb.2.1)).symm
                              subst r3; subst r1; subst r2
                              have hrow : ∀ q, y + 21 ≤ q → M8 q = Mb q := fun q hq => (c2 q hq).trans (b2 q hq)
                              have F9 := F7_rest Fb c1 hrow
                              rw [r4] at F9
                              have hz6 : 0 ≤ M8 o4 6 ∧ M8 o4 6 ≤ t := by
                                rw [hrow o4 (by have := Fb.ge; omega)]
                                exact Fb.RO.2.2.2.2.2.1
                              refine r_if_lt F (tgt := 288) ⟨by omega, by omega⟩ dL_predicts_281 rfl (by decide) (fun h_281 => ?_) (fun h_281 => ?_)
                              ·
                                exfalso; omega
                              ·
                                refine r_iconst F dL_predicts_284 rfl ?_
                                refine r_goto F (tgt := 289) dL_predicts_285 (by decide) ?_
                                refine r_ist9 F (by decide) rfl dL_predicts_289 rfl ?_
                                exact J291 _ F9
                            refine r_iload F rfl dL_predicts_231 rfl ?_
                            refine r_if_eq F (tgt := 245) ⟨by omega, by omega⟩ dL_predicts_233 rfl (by decide) (fun h_233 => ?_) (fun h_233 => ?_)
                            ·
                              refine r_mem (mem' := Mg) (by rw [eMg, show gap.toNat = 0 by omega]; rfl) ?_
                              exact J245
                            ·
                              refine r_aload_n F rfl rfl dL_predicts_236 rfl ?_
                              refine r_iload F rfl dL_predicts_237 rfl ?_
                              refine r_callV F G (c_X8_advance _ _ _ _ hB Fb.1.1.O ⟨by omega, by omega⟩ (by omega)) v_L_97 rfl (hB.1) rfl (by decide) (by decide) (Nat.le_of_ble_eq_true rfl) rfl dL_predicts_239 rfl (fun rv L7 M7 n7 hp => ?_)
                              obtain ⟨q1, q2, q3, q4⟩ := hp
                              subst q1; subst q2; subst q4
                              refine r_eqz (z := N_at v gap.toNat) ((if_pos ⟨by omega, by omega⟩).trans b3) ?_
                              refine r_mem (mem' := Mg) (q3.symm.trans ((if_pos (show 1 ≤ gap ∧ gap ≤ 500 by omega)).trans eMg.symm)) ?_
                              refine r_if_lt F (tgt := 288) ⟨by omega, by omega⟩ dL_predicts_242 rfl (by decide) (fun h_242 => ?_) (fun h_242 => ?_)
                              ·
                                exfalso; omega
                              ·
                                exact J245
            refine r_iload F rfl dL_predicts_124 rfl ?_
            refine r_if_lt F (tgt := 144) ⟨by omega, by omega⟩ dL_predicts_126 rfl (by decide) (fun h_126 => ?_) (fun h_126 => ?_)
            ·
              refine r_iload F rfl dL_predicts_144 rfl ?_
              refine r_if_ne F (tgt := 153) ⟨by omega, by omega⟩ dL_predicts_146 rfl (by decide) (fun h_146 => ?_) (fun h_146 => ?_)
              ·
                exfalso; omega
              ·
                exact J149
            ·
              refine r_iload F rfl dL_predicts_129 rfl ?_
              refine r_iload F rfl dL_predicts_131 rfl ?_
              refine r_icmp_ge F (tgt := 144) ⟨by omega, by omega⟩ ⟨by omega, by omega⟩ dL_predicts_133 rfl (by decide) (fun h_133 => ?_) (fun h_133 => ?_)
              ·
                refine r_iload F rfl dL_predicts_144 rfl ?_
                refine r_if_ne F (tgt := 153) ⟨by omega, by omega⟩ dL_predicts_146 rfl (by decide) (fun h_146 => ?_) (fun h_146 => ?_)
                ·
                  exfalso; omega
                ·
                  exact J149
              ·
                refine r_iload F rfl dL_predicts_136 rfl ?_
                refine r_if_le F (tgt := 153) ⟨by omega, by omega⟩ dL_predicts_138 rfl (by decide) (fun h_138 => ?_) (fun h_138 => ?_)
                ·
                  exfalso; omega
                ·
                  refine r_goto F (tgt := 149) dL_predicts_141 (by decide) ?_
                  exact J149
          refine r_iload F rfl dL_predicts_103 rfl ?_
          refine r_sipush F (by decide) dL_predicts_105 rfl ?_
          refine r_icmp_eq F (tgt := 124) ⟨by omega, by omega⟩ ⟨by omega, by omega⟩ dL_predicts_108 rfl (by decide) (fun h_108 => ?_) (fun h_108 => ?_)
          ·
            exact J124
          ·
            refine r_iload F rfl dL_predicts_111 rfl ?_
            refine r_if_lt F (tgt := 153) ⟨by omega, by omega⟩ dL_predicts_113 rfl (by decide) (fun h_113 => ?_) (fun h_113 => ?_)
            ·
              exfalso; omega
            ·
              refine r_iload F rfl dL_predicts_116 rfl ?_
              refine r_sipush F (by decide) dL_predicts_118 rfl ?_
              refine r_icmp_ge F (tgt := 153) ⟨by omega, by omega⟩ ⟨by omega, by omega⟩ dL_predicts_121 rfl (by decide) (fun h_121 => ?_) (fun h_121 => ?_)
              ·
                exfalso; omega
              ·
                exact J124
      ·
        exfalso; omega
  ·
    exfalso; omega
