abbrev rm_L_packets : Room := { frames := 6, cells := 0, slots := 0, locals := 153 }
set_option maxRecDepth 100000 in
set_option maxHeartbeats 4000000 in
theorem c_L_packets (l : Launch) (D : va_G) (cA : Nat → ClassId) (B : Nat) {lay : ja_Y} {mem : ja_M} {n : Nat} {y : Nat} {sl : Nat → Option Nat} {t : Int} {v : Nat → Int} {kc kr w : Int} (h : I7 lay mem n y sl t v) (ht : t ≤ 1900) (h3 : mem (y + 1 + 1) 3 = kc) (h4 : mem (y + 1 + 1) 4 = kr) (hw : 0 ≤ w ∧ w ≤ 2147483647) (hd : 0 ≤ v 18 ∧ v 18 ≤ 1000000) : ja_Mt l D cA B yL_packets cL_packets 11 (some .boolean) rm_L_packets [.ref y, .int (ja_I kc), .int (ja_I kr), .int (ja_I w)] lay mem n (P7 lay n y sl t v) := by
  refine ja_enter [some (.ref y), some (.int (ja_I kc)), some (.int (ja_I kr)), some (.int (ja_I w)), none, none, none, none, none, none, none] (by decide) (Nat.le_of_ble_eq_true rfl) (fun q hq => hq) (fun C F Rt G hnm => ?_)
  obtain ⟨hB, hO, -⟩ := id h
  have hc3 : 2 ≤ kc ∧ kc ≤ 6 := by rw [← h3]; exact h.R.1.2.2.2.1
  have hr4 : 2 ≤ kr ∧ kr ≤ 6 := by rw [← h4]; exact h.R.1.2.2.2.2.1
  have hm : 4 ≤ kc * kr ∧ kc * kr ≤ 36 := by have := h.R.1.cells; unfold ja_cells at this; rw [h3, h4] at this; exact this
  have hv3 : v 3 = kc := by rw [← h.set 3 (by omega)]; exact h3
  have hv4 : v 4 = kr := by rw [← h.set 4 (by omega)]; exact h4
  obtain ⟨hq1, hq2⟩ := d_60 hm
  obtain ⟨qd, hqd⟩ : ∃ z, z = 60 / (kc * kr) := ⟨_, rfl⟩
  rw [← hqd] at hq1 hq2
  have ha1 := F_and_in w 1
  obtain ⟨rb, hrb⟩ : ∃ z, z = (if F_and w 1 = 0 then 1 else 0 : Int) := ⟨_, rfl⟩
  have rbf : (F_and w 1 = 0 ∧ rb = 1) ∨ (¬ F_and w 1 = 0 ∧ rb = 0) := by rw [hrb]; split <;> omega
  obtain ⟨dd, hdd⟩ : ∃ z, z = (if rb = 0 then kc else kr) := ⟨_, rfl⟩
  have ddf : (rb = 0 ∧ dd = kc) ∨ (¬ rb = 0 ∧ dd = kr) := by rw [hdd]; split <;> omega
  have hb0 : 0 ≤ w / 2 % qd ∧ w / 2 % qd < qd := ⟨Int.emod_nonneg _ (by omega), Int.emod_lt_of_pos _ (by omega)⟩
  have hi0 : 0 ≤ w / 64 % dd ∧ w / 64 % dd < dd := ⟨Int.emod_nonneg _ (by omega), Int.emod_lt_of_pos _ (by omega)⟩
  obtain ⟨bk, hbk⟩ : ∃ z, z = w / 2 % qd := ⟨_, rfl⟩
  obtain ⟨ix, hix⟩ : ∃ z, z = w / 64 % dd := ⟨_, rfl⟩
  rw [← hbk] at hb0
  rw [← hix] at hi0
  have hNB : N_hB v bk := ⟨hb0.1, by unfold N_ar; rw [hv3, hv4]; omega⟩
  have hP : N_hP v rb bk ix := ⟨hNB, hi0.1, by rw [hv3, hv4]; omega⟩
  have hr01 : 0 ≤ rb ∧ rb ≤ 1 := by omega
  have hJ := (ja_hasP_N h.set rb bk ix).mpr hP
  have h1 := I7_ap h (by omega) hr01 hP
  have hA := I7_pkt h (by omega) hr01 hP
  have hss : N_ss v (N_qv v rb bk ix) := N_qv_9 h.N (by omega) hP
  have hJ1 := (ja_hasP_N h1.set rb bk ix).mpr (hss.hP.mpr hP)
  have hB1 := (ja_hasB_N h1.set bk).mpr (hss.hB.mpr hNB)
  have hU := I7_unr h1 (hss.hB.mpr hNB)
  have e3 : R_ap mem (y + 1) rb bk ix (y + 1 + 1) 3 = kc := by rw [h1.set 3 (by omega), hss 3 (by omega), hv3]
  have e4 : R_ap mem (y + 1) rb bk ix (y + 1 + 1) 4 = kr := by rw [h1.set 4 (by omega), hss 4 (by omega), hv4]
  rw [e3, e4] at hU
  have h18 := I7_18 h
  have hPP := P7_pkt h (by omega) hr01 hP
  have mr0 := J_bc_le (F_lb mem (y + 1 + 1) rb ix &&& (F_kn mem (y + 1 + 1) (y + 1 + 2) bk ^^^ (-1)))
  have mr1 := J_bc_le (F_lb (R_ap mem (y + 1) rb bk ix) (y + 1 + 1) rb ix &&& (F_kn (R_ap mem (y + 1) rb bk ix) (y + 1 + 1) (y + 1 + 2) bk ^^^ (-1)))
  obtain ⟨mi, emi⟩ : ∃ z, z = e_mis mem y rb bk ix := ⟨_, rfl⟩
  obtain ⟨mj, emj⟩ : ∃ z, z = e_mis (R_ap mem (y + 1) rb bk ix) y rb bk ix := ⟨_, rfl⟩
  obtain ⟨pn, epn⟩ : ∃ z, z = R_pn mem (y + 1) rb bk ix := ⟨_, rfl⟩
  obtain ⟨un, eun⟩ : ∃ z, z = e_unr (R_ap mem (y + 1) rb bk ix) y bk := ⟨_, rfl⟩
  have mi0 : 0 ≤ mi ∧ mi ≤ 127 := by rw [emi]; exact mr0
  have mj0 : 0 ≤ mj ∧ mj ≤ 127 := by rw [emj]; exact mr1
  rw [← emi, ← emj, ← epn] at hA
  rw [← eun] at hU
  have hA2 : (pn = 0 ∧ R_ap mem (y + 1) rb bk ix (y + 1 + 14) 6 = mem (y + 1 + 14) 6 + 1) ∨ ((0 ≤ pn ∧ pn ≤ 36) ∧ R_ap mem (y + 1) rb bk ix (y + 1 + 14) 6 = mem (y + 1 + 14) 6 ∧ (¬ mi = 1 ∨ 0 < pn) ∧ ¬ mj = 1) := by
    rcases hA with a | ⟨a1, a2, a3, a4⟩
    · exact Or.inl a
    · refine Or.inr ⟨a1, a2, ?_, a4⟩
      by_cases q : mi = 1
      · exact Or.inr (a3 q)
      · exact Or.inl q
  clear hA mr0 mr1 hrb hdd
  have J11 : ja_W C 0 0 lay mem n 11 [some (.ref (y)), some (.int (ja_I (kc))), some (.int (ja_I (kr))), some (.int (ja_I (w))), none, none, none, none, none, none, none] [.int (ja_I (rb))] := by
    refine r_ist4 F (by decide) rfl dL_packets_11 rfl ?_
    refine r_iload_n F rfl rfl dL_packets_13 rfl ?_
    refine r_iconst F dL_packets_14 rfl ?_
    refine r_ishr F (J_shr32 (k := 1) (p := 2) ⟨by omega, by omega⟩ rfl (by decide) (by decide)) dL_packets_15 rfl ?_
    refine r_bipush F (by decide) dL_packets_16 rfl ?_
    refine r_iload_n F rfl rfl dL_packets_18 rfl ?_
    refine r_iload_n F rfl rfl dL_packets_19 rfl ?_
    refine r_imul F dL_packets_20 rfl ?_
    refine r_idivP F ⟨by omega, by omega⟩ ⟨by omega, by omega⟩ (by omega) (by omega) dL_packets_21 rfl ?_
    refine r_eqz (z := qd) (hqd.symm) ?_
    refine r_iremP F ⟨by omega, by omega⟩ ⟨by omega, by omega⟩ (by omega) (by omega) dL_packets_22 rfl ?_
    refine r_eqz (z := bk) (hbk.symm) ?_
    refine r_ist5 F (by decide) rfl dL_packets_23 rfl ?_
    refine r_iload_n F rfl rfl dL_packets_25 rfl ?_
    refine r_bipush F (by decide) dL_packets_26 rfl ?_
    refine r_ishr F (J_shr32 (k := 6) (p := 64) ⟨by omega, by omega⟩ rfl (by decide) (by decide)) dL_packets_28 rfl ?_
    have J39 : ja_W C 0 0 lay mem n 39 [some (.ref (y)), some (.int (ja_I (kc))), some (.int (ja_I (kr))), some (.int (ja_I (w))), some (.int (ja_I (rb))), some (.int (ja_I (bk))), none, none, none, none, none] [.int (ja_I (dd)), .int (ja_I ((w / 64)))] := by
      refine r_iremP F ⟨by omega, by omega⟩ ⟨by omega, by omega⟩ (by omega) (by omega) dL_packets_39 rfl ?_
      refine r_eqz (z := ix) (hix.symm) ?_
      refine r_ist6 F (by decide) rfl dL_packets_40 rfl ?_
      refine r_aload_n F rfl rfl dL_packets_42 rfl ?_
      refine r_iload F rfl dL_packets_43 rfl ?_
      refine r_iload F rfl dL_packets_45 rfl ?_
      refine r_iload F rfl dL_packets_47 rfl ?_
      refine r_callV F G (c_X8_missing _ _ _ _ hB hO ⟨by omega, by omega⟩ ⟨by omega, by omega⟩ ⟨by omega, by omega⟩ hr01) v_L_68 rfl (hB.1) rfl (by decide) (by decide) (Nat.le_of_ble_eq_true rfl) rfl dL_packets_49 rfl (fun rv lay' mem' n' hp => ?_)
      obtain ⟨q1, q2, q3, q4⟩ := hp
      subst q1; subst q2; subst q3; subst q4
      refine r_eqz (z := mi) ((if_pos hJ).trans emi.symm) ?_
      refine r_ist7 F (by decide) rfl dL_packets_52 rfl ?_
      refine r_aload_n F rfl rfl dL_packets_54 rfl ?_
      refine r_callV F G (c_X8_duplicates _ _ _ _ hB hO) v_L_56 rfl (hB.1) rfl (by decide) (by decide) (Nat.le_of_ble_eq_true rfl) rfl dL_packets_55 rfl (fun rv lay' mem' n' hp => ?_)
      obtain ⟨q1, q2, q3, q4⟩ := hp
      subst q1; subst q2; subst q3; subst q4
      refine r_ist8 F (by decide) rfl dL_packets_58 rfl ?_
      refine r_aload_n F rfl rfl dL_packets_60 rfl ?_
      refine r_iload F rfl dL_packets_61 rfl ?_
      refine r_iload F rfl dL_packets_63 rfl ?_
      refine r_iload F rfl dL_packets_65 rfl ?_
      refine r_callV F G (c_X8_arriveParity _ _ _ _ hB hO ⟨by omega, by omega⟩ ⟨by omega, by omega⟩ ⟨by omega, by omega⟩ hr01) v_L_72 rfl (hB.1) rfl (by decide) (by decide) (Nat.le_of_ble_eq_true rfl) rfl dL_packets_67 rfl (fun rv lay' mem' n' hp => ?_)
      obtain ⟨q1, q2, q3, q4⟩ := hp
      subst q1; subst q2; subst q3; subst q4
      refine r_mem (mem' := (R_ap mem (y + 1) rb bk ix)) (if_pos hJ) ?_
      refine r_eqz (z := pn) ((if_pos hJ).trans epn.symm) ?_
      have hO1 := h1.O
      refine r_ist9 F (by decide) rfl dL_packets_70 rfl ?_
      refine r_iload F rfl dL_packets_72 rfl ?_
      refine r_if_lt F (tgt := 106) ⟨by omega, by omega⟩ dL_packets_74 rfl (by decide) (fun h_74 => ?_) (fun h_74 => ?_)
      ·
        exfalso; omega
      ·
        have J102 : ja_W C 0 0 lay (R_ap mem (y + 1) rb bk ix) n 102 [some (.ref (y)), some (.int (ja_I (kc))), some (.int (ja_I (kr))), some (.int (ja_I (w))), some (.int (ja_I (rb))), some (.int (ja_I (bk))), some (.int (ja_I (ix))), some (.int (ja_I (mi))), some (.int (ja_I (mem (y + 1 + 14) 6))), some (.int (ja_I (pn))), none] [] := by
          refine r_iconst F dL_packets_102 rfl ?_
          refine r_goto F (tgt := 107) dL_packets_103 (by decide) ?_
          refine r_ist10 F (by decide) rfl dL_packets_107 rfl ?_
          refine r_iload F rfl dL_packets_109 rfl ?_
          refine r_if_eq F (tgt := 161) ⟨by omega, by omega⟩ dL_packets_111 rfl (by decide) (fun h_111 => ?_) (fun h_111 => ?_)
          ·
            exfalso; omega
          ·
            have J134 : ja_W C 0 0 lay (R_ap mem (y + 1) rb bk ix) n 134 [some (.ref (y)), some (.int (ja_I (kc))), some (.int (ja_I (kr))), some (.int (ja_I (w))), some (.int (ja_I (rb))), some (.int (ja_I (bk))), some (.int (ja_I (ix))), some (.int (ja_I (mi))), some (.int (ja_I (mem (y + 1 + 14) 6))), some (.int (ja_I (pn))), some (.int (ja_I (1)))] [] := by
              have J157 : ja_W C 0 0 lay (R_ap mem (y + 1) rb bk ix) n 157 [some (.ref (y)), some (.int (ja_I (kc))), some (.int (ja_I (kr))), some (.int (ja_I (w))), some (.int (ja_I (rb))), some (.int (ja_I (bk))), some (.int (ja_I (ix))), some (.int (ja_I (mi))), some (.int (ja_I (mem (y + 1 + 14) 6))), some (.int (ja_I (pn))), some (.int (ja_I (1)))] [] := by
                refine r_iconst F dL_packets_157 rfl ?_
                refine r_goto F (tgt := 162) dL_packets_158 (by decide) ?_
                refine r_ist10 F (by decide) rfl dL_packets_162 rfl ?_
                refine r_iload F rfl dL_packets_164 rfl ?_
                refine r_if_eq F (tgt := 194) ⟨by omega, by omega⟩ dL_packets_166 rfl (by decide) (fun h_166 => ?_) (fun h_166 => ?_)
                ·
                  exfalso; omega
                ·
                  refine r_aload_n F rfl rfl dL_packets_169 rfl ?_
                  refine r_iload F rfl dL_packets_170 rfl ?_
                  refine r_callV F G (c_X8_unrestorable _ _ _ _ hB hO1 ⟨by omega, by omega⟩) v_L_75 rfl (hB.1) rfl (by decide) (by decide) (Nat.le_of_ble_eq_true rfl) rfl dL_packets_172 rfl (fun rv lay' mem' n' hp => ?_)
                  obtain ⟨q1, q2, q3, q4⟩ := hp
                  subst q1; subst q2; subst q3; subst q4
                  refine r_eqz (z := un) ((if_pos hB1).trans eun.symm) ?_
                  refine r_if_lt F (tgt := 194) ⟨by omega, by omega⟩ dL_packets_175 rfl (by decide) (fun h_175 => ?_) (fun h_175 => ?_)
                  ·
                    exfalso; omega
                  ·
                    refine r_aload_n F rfl rfl dL_packets_178 rfl ?_
                    refine r_iload F rfl dL_packets_179 rfl ?_
                    refine r_callV F G (c_X8_unrestorable _ _ _ _ hB hO1 ⟨by omega, by omega⟩) v_L_75 rfl (hB.1) rfl (by decide) (by decide) (Nat.le_of_ble_eq_true rfl) rfl dL_packets_181 rfl (fun rv lay' mem' n' hp => ?_)
                    obtain ⟨q1, q2, q3, q4⟩ := hp
                    subst q1; subst q2; subst q3; subst q4
                    refine r_eqz (z := un) ((if_pos hB1).trans eun.symm) ?_
                    refine r_iload_n F rfl rfl dL_packets_184 rfl ?_
                    refine r_iload_n F rfl rfl dL_packets_185 rfl ?_
                    refine r_imul F dL_packets_186 rfl ?_
                    refine r_icmp_gt F (tgt := 194) ⟨by omega, by omega⟩ ⟨by omega, by omega⟩ dL_packets_187 rfl (by decide) (fun h_187 => ?_) (fun h_187 => ?_)
                    ·
                      exfalso; omega
                    ·
                      refine r_iconst F dL_packets_190 rfl ?_
                      refine r_goto F (tgt := 195) dL_packets_191 (by decide) ?_
                      exact r_zret F Rt (by omega) dL_packets_195 (by decide) ⟨rfl, rfl, rfl, hPP⟩
              refine r_aload_n F rfl rfl dL_packets_134 rfl ?_
              refine r_callV F G (c_X8_duplicates _ _ _ _ hB hO1) v_L_56 rfl (hB.1) rfl (by decide) (by decide) (Nat.le_of_ble_eq_true rfl) rfl dL_packets_135 rfl (fun rv lay' mem' n' hp => ?_)
              obtain ⟨q1, q2, q3, q4⟩ := hp
              subst q1; subst q2; subst q3; subst q4
              refine r_iload F rfl dL_packets_138 rfl ?_
              refine r_icmp_gt F (tgt := 157) ⟨by omega, by omega⟩ ⟨by omega, by omega⟩ dL_packets_140 rfl (by decide) (fun h_140 => ?_) (fun h_140 => ?_)
              ·
                exact J157
              ·
                refine r_aload_n F rfl rfl dL_packets_143 rfl ?_
                refine r_iload F rfl dL_packets_144 rfl ?_
                refine r_iload F rfl dL_packets_146 rfl ?_
                refine r_iload F rfl dL_packets_148 rfl ?_
                refine r_callV F G (c_X8_missing _ _ _ _ hB hO1 ⟨by omega, by omega⟩ ⟨by omega, by omega⟩ ⟨by omega, by omega⟩ hr01) v_L_68 rfl (hB.1) rfl (by decide) (by decide) (Nat.le_of_ble_eq_true rfl) rfl dL_packets_150 rfl (fun rv lay' mem' n' hp => ?_)
                obtain ⟨q1, q2, q3, q4⟩ := hp
                subst q1; subst q2; subst q3; subst q4
                refine r_eqz (z := mj) ((if_pos hJ1).trans emj.symm) ?_
                refine r_iconst F dL_packets_153 rfl ?_
                refine r_icmp_eq F (tgt := 161) ⟨by omega, by omega⟩ ⟨by omega, by omega⟩ dL_packets_154 rfl (by decide) (fun h_154 => ?_) (fun h_154 => ?_)
                ·
                  exfalso; omega
                ·
                  exact J157
            refine r_aload_n F rfl rfl dL_packets_114 rfl ?_
            refine r_callV F G (c_X8_duplicates _ _ _ _ hB hO1) v_L_56 rfl (hB.1) rfl (by decide) (by decide) (Nat.le_of_ble_eq_true rfl) rfl dL_packets_115 rfl (fun rv lay' mem' n' hp => ?_)
            obtain ⟨q1, q2, q3, q4⟩ := hp
            subst q1; subst q2; subst q3; subst q4
            refine r_iload F rfl dL_packets_118 rfl ?_
            refine r_icmp_gt F (tgt := 134) ⟨by omega, by omega⟩ ⟨by omega, by omega⟩ dL_packets_120 rfl (by decide) (fun h_120 => ?_) (fun h_120 => ?_)
            ·
              exact J134
            ·
              refine r_iload F rfl dL_packets_123 rfl ?_
              refine r_iconst F dL_packets_125 rfl ?_
              refine r_icmp_ne F (tgt := 134) ⟨by omega, by omega⟩ ⟨by omega, by omega⟩ dL_packets_126 rfl (by decide) (fun h_126 => ?_) (fun h_126 => ?_)
              ·
                exact J134
              ·
                refine r_iload F rfl dL_packets_129 rfl ?_
                refine r_if_le F (tgt := 161) ⟨by omega, by omega⟩ dL_packets_131 rfl (by decide) (fun h_131 => ?_) (fun h_131 => ?_)
                ·
                  exfalso; omega
                ·
                  exact J134
        refine r_aload_n F rfl rfl dL_packets_77 rfl ?_
        refine r_callV F G (c_X8_duplicates _ _ _ _ hB hO1) v_L_56 rfl (hB.1) rfl (by decide) (by decide) (Nat.le_of_ble_eq_true rfl) rfl dL_packets_78 rfl (fun rv lay' mem' n' hp => ?_)
        obtain ⟨q1, q2, q3, q4⟩ := hp
        subst q1; subst q2; subst q3; subst q4
        refine r_iload F rfl dL_packets_81 rfl ?_
        refine r_icmp_eq F (tgt := 102) ⟨by omega, by omega⟩ ⟨by omega, by omega⟩ dL_packets_83 rfl (by decide) (fun h_83 => ?_) (fun h_83 => ?_)
        ·
          exact J102
        ·
          refine r_iload F rfl dL_packets_86 rfl ?_
          refine r_if_ne F (tgt := 106) ⟨by omega, by omega⟩ dL_packets_88 rfl (by decide) (fun h_88 => ?_) (fun h_88 => ?_)
          ·
            exfalso; omega
          ·
            refine r_aload_n F rfl rfl dL_packets_91 rfl ?_
            refine r_callV F G (c_X8_duplicates _ _ _ _ hB hO1) v_L_56 rfl (hB.1) rfl (by decide) (by decide) (Nat.le_of_ble_eq_true rfl) rfl dL_packets_92 rfl (fun rv lay' mem' n' hp => ?_)
            obtain ⟨q1, q2, q3, q4⟩ := hp
            subst q1; subst q2; subst q3; subst q4
            refine r_iload F rfl dL_packets_95 rfl ?_
            refine r_iconst F dL_packets_97 rfl ?_
            refine r_iadd F dL_packets_98 rfl ?_
            refine r_icmp_ne F (tgt := 106) ⟨by omega, by omega⟩ ⟨by omega, by omega⟩ dL_packets_99 rfl (by decide) (fun h_99 => ?_) (fun h_99 => ?_)
            ·
              exfalso; omega
            ·
              exact J102
    refine r_iload F rfl dL_packets_29 rfl ?_
    refine r_if_eq F (tgt := 38) ⟨by omega, by omega⟩ dL_packets_31 rfl (by decide) (fun h_31 => ?_) (fun h_31 => ?_)
    ·
      refine r_iload_n F rfl rfl dL_packets_38 rfl ?_
      refine r_eqz (z := dd) (by omega) ?_
      exact J39
    ·
      refine r_iload_n F rfl rfl dL_packets_34 rfl ?_
      refine r_goto F (tgt := 39) dL_packets_35 (by decide) ?_
      refine r_eqz (z := dd) (by omega) ?_
      exact J39
  refine r_iload_n F rfl rfl dL_packets_0 rfl ?_
  refine r_iconst F dL_packets_1 rfl ?_
  refine r_iand F (ja_of' _) dL_packets_2 rfl ?_
  refine r_eqz (z := F_and w 1) (rfl) ?_
  refine r_if_ne F (tgt := 10) ha1 dL_packets_3 rfl (by decide) (fun h_3 => ?_) (fun h_3 => ?_)
  ·
    refine r_iconst F dL_packets_10 rfl ?_
    refine r_eqz (z := rb) (by omega) ?_
    exact J11
  ·
    refine r_iconst F dL_packets_6 rfl ?_
    refine r_goto F (tgt := 11) dL_packets_7 (by decide) ?_
    refine r_eqz (z := rb) (by omega) ?_
    exact J11
