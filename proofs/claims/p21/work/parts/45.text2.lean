abbrev rm_X9_here : Room := { frames := 0, cells := 0, slots := 0, locals := 0 }
set_option maxRecDepth 100000 in
set_option maxHeartbeats 800000 in
theorem c_X9_here (l : Launch) (D : va_G) (cA : Nat → ClassId) (B : Nat) {lay : ja_Y} {n : Nat} {m : Nat} {G : ja_M} {v : Nat → Int} (hM : ja_LM lay m) {p tl : Int} {T : Nat → Int} (hTO : N_TO G m) (hp : 0 ≤ p ∧ p ≤ 1000) : ja_Mt l D cA B yX9_here cX9_here 1 (some .int) rm_X9_here [.ref m] lay (ja_rw (N_tG G m p tl T) (m + 1) v) n (ja_rd lay (ja_rw (N_tG G m p tl T) (m + 1) v) n (some (.int (ja_I (N_he (G (m + 5)) (G m 5) p))))) := by
  refine ja_enter [some (.ref m)] (by decide) (Nat.le_of_ble_eq_true rfl) (fun q hq => hq) (fun C F Rt GC hnm => ?_)
  obtain ⟨h5, hch⟩ := id hTO
  refine r_aload_n F rfl rfl dX9_here_0 rfl ?_
  refine r_getI F f_X9_154 (hM.1) rfl dX9_here_1 rfl ?_
  refine r_eqz (z := p) (by rw [ja_rw_n (by omega), N_tG_10]) ?_
  refine r_aload_n F rfl rfl dX9_here_4 rfl ?_
  refine r_getI F f_X9_150 (hM.1) rfl dX9_here_5 rfl ?_
  refine r_eqz (z := G m 5) (by rw [ja_rw_n (by omega), N_tG_j (by omega) (by omega)]) ?_
  refine r_icmp_ge F (tgt := 23) ⟨by omega, by omega⟩ ⟨by omega, by omega⟩ dX9_here_8 rfl (by decide) (fun h_8 => ?_) (fun h_8 => ?_)
  ·
    refine r_iconst F dX9_here_23 rfl ?_
    exact r_iret F Rt dX9_here_24 (by decide) ⟨by unfold N_he; first | rw [if_pos (by omega)] | rw [if_neg (by omega)], rfl, rfl, rfl⟩
  ·
    refine r_aload_n F rfl rfl dX9_here_11 rfl ?_
    refine r_getR F f_X9_23 (hM.1) rfl dX9_here_12 rfl ?_
    refine r_aload_n F rfl rfl dX9_here_15 rfl ?_
    refine r_getI F f_X9_154 (hM.1) rfl dX9_here_16 rfl ?_
    refine r_eqz (z := p) (by rw [ja_rw_n (by omega), N_tG_10]) ?_
    refine r_iald F (ja_LM_5 hM) (by omega) (by omega) (by decide) dX9_here_19 rfl ?_
    refine r_eqz (z := (G (m + 5) (Int.toNat p))) (by rw [ja_rw_n (by omega), N_tG_o (by omega) (by omega)]) ?_
    refine r_goto F (tgt := 24) dX9_here_20 (by decide) ?_
    exact r_iret F Rt dX9_here_24 (by decide) ⟨by unfold N_he; first | rw [if_pos (by omega)] | rw [if_neg (by omega)], rfl, rfl, rfl⟩
abbrev rm_X9_takes_ : Room := { frames := 1, cells := 0, slots := 0, locals := 20 }
set_option maxRecDepth 100000 in
set_option maxHeartbeats 800000 in
theorem c_X9_takes_ (l : Launch) (D : va_G) (cA : Nat → ClassId) (B : Nat) {lay : ja_Y} {n : Nat} {m : Nat} {G : ja_M} {v : Nat → Int} (hM : ja_LM lay m) {p tl : Int} {T : Nat → Int} (hTO : N_TO G m) {c : Int} (hp : 0 ≤ p ∧ p ≤ 1000) (hc : 0 ≤ c ∧ c ≤ 126) : ja_Mt l D cA B yX9_takes_ cX9_takes_ 3 (some .boolean) rm_X9_takes_ [.ref m, .int (ja_I c)] lay (ja_rw (N_tG G m p tl T) (m + 1) v) n (ja_rd lay (ja_rw (N_tG G m (p + ja_b ((N_he (G (m + 5)) (G m 5) p) = c)) tl T) (m + 1) v) n (some (.int (ja_I (ja_b ((N_he (G (m + 5)) (G m 5) p) = c)))))) := by
  refine ja_enter [some (.ref m), some (.int (ja_I c)), none] (by decide) (Nat.le_of_ble_eq_true rfl) (fun q hq => hq) (fun C F Rt GC hnm => ?_)
  obtain ⟨h5, hch⟩ := id hTO
  have hh := @N_he_in (G (m + 5)) (G m 5) p hch
  have J13 : ja_W C 0 0 lay (ja_rw (N_tG G m p tl T) (m + 1) v) n 13 [some (.ref (m)), some (.int (ja_I (c))), none] [.int (ja_I (ja_b ((N_he (G (m + 5)) (G m 5) p) = c)))] := by
    refine r_ist2 F (by decide) rfl dX9_takes__13 rfl ?_
    refine r_aload_n F rfl rfl dX9_takes__14 rfl ?_
    refine r_dup F rfl dX9_takes__15 rfl ?_
    refine r_getI F f_X9_154 (hM.1) rfl dX9_takes__16 rfl ?_
    refine r_eqz (z := p) (by rw [ja_rw_n (by omega), N_tG_10]) ?_
    refine r_iload_n F rfl rfl dX9_takes__19 rfl ?_
    refine r_if_eq F (tgt := 27) ja_b_in dX9_takes__20 rfl (by decide) (fun h_20 => ?_) (fun h_20 => ?_)
    ·
      have b_20 : ¬ ((N_he (G (m + 5)) (G m 5) p) = c) := ja_b_0.mp h_20
      refine r_iconst F dX9_takes__27 rfl ?_
      refine r_iadd F dX9_takes__28 rfl ?_
      refine r_putI F f_X9_154 (hM.1) rfl dX9_takes__29 rfl ?_
      refine r_mem (mem' := ja_rw (ja_up (N_tG G m p tl T) m 10 ((p) + 0)) (m + 1) v) (ja_up_rw (by omega)) ?_
      refine r_iload_n F rfl rfl dX9_takes__32 rfl ?_
      exact r_zret F Rt ja_b_o dX9_takes__33 (by decide) ⟨rfl, rfl, by rw [N_tG_u10]; unfold ja_b; first | rw [if_pos b_20] | rw [if_neg b_20], rfl⟩
    ·
      have b_20 : ((N_he (G (m + 5)) (G m 5) p) = c) := ja_b_1 h_20
      refine r_iconst F dX9_takes__23 rfl ?_
      refine r_goto F (tgt := 28) dX9_takes__24 (by decide) ?_
      refine r_iadd F dX9_takes__28 rfl ?_
      refine r_putI F f_X9_154 (hM.1) rfl dX9_takes__29 rfl ?_
      refine r_mem (mem' := ja_rw (ja_up (N_tG G m p tl T) m 10 ((p) + 1)) (m + 1) v) (ja_up_rw (by omega)) ?_
      refine r_iload_n F rfl rfl dX9_takes__32 rfl ?_
      exact r_zret F Rt ja_b_o dX9_takes__33 (by decide) ⟨rfl, rfl, by rw [N_tG_u10]; unfold ja_b; first | rw [if_pos b_20] | rw [if_neg b_20], rfl⟩
  refine r_aload_n F rfl rfl dX9_takes__0 rfl ?_
  refine r_callV F GC (c_X9_here _ _ _ _ hM hTO hp) v_X9_157 rfl (hM.1) rfl (by decide) (by decide) (Nat.le_of_ble_eq_true rfl) rfl dX9_takes__1 rfl (fun v lay' mem' n' hp => ?_)
  obtain ⟨q1, q2, q3, q4⟩ := hp
  subst q1; subst q2; subst q3; subst q4
  refine r_iload_n F rfl rfl dX9_takes__4 rfl ?_
  refine r_icmp_ne F (tgt := 12) ⟨by omega, by omega⟩ ⟨by omega, by omega⟩ dX9_takes__5 rfl (by decide) (fun h_5 => ?_) (fun h_5 => ?_)
  ·
    refine r_iconst F dX9_takes__12 rfl ?_
    refine r_eqz (z := ja_b ((N_he (G (m + 5)) (G m 5) p) = c)) (by unfold ja_b; first | rw [if_pos (by omega)] | rw [if_neg (by omega)]) ?_
    exact J13
  ·
    refine r_iconst F dX9_takes__8 rfl ?_
    refine r_goto F (tgt := 13) dX9_takes__9 (by decide) ?_
    refine r_eqz (z := ja_b ((N_he (G (m + 5)) (G m 5) p) = c)) (by unfold ja_b; first | rw [if_pos (by omega)] | rw [if_neg (by omega)]) ?_
    exact J13
abbrev rm_X9_number : Room := { frames := 1, cells := 0, slots := 0, locals := 22 }
set_option maxRecDepth 100000 in
set_option maxHeartbeats 800000 in
theorem c_X9_number (l : Launch) (D : va_G) (cA : Nat → ClassId) (B : Nat) {lay : ja_Y} {n : Nat} {m : Nat} {G : ja_M} {v : Nat → Int} (hM : ja_LM lay m) {p tl : Int} {T : Nat → Int} (hTO : N_TO G m) (hp : 0 ≤ p ∧ p ≤ 1000) (hpl : p ≤ G m 5) : ja_Mt l D cA B yX9_number cX9_number 3 (some .int) rm_X9_number [.ref m] lay (ja_rw (N_tG G m p tl T) (m + 1) v) n (ja_rd lay (ja_rw (N_tG G m (N_nm (G (m + 5)) (G m 5) 4 p (-1)).2 tl T) (m + 1) v) n (some (.int (ja_I (N_nm (G (m + 5)) (G m 5) 4 p (-1)).1)))) := by
  refine ja_enter [some (.ref m), none, none] (by decide) (Nat.le_of_ble_eq_true rfl) (fun q hq => hq) (fun C F Rt GC hnm => ?_)
  obtain ⟨h5, hch⟩ := id hTO
  refine r_iconst F dX9_number_0 rfl ?_
  refine r_ist1 F (by decide) rfl dX9_number_1 rfl ?_
  refine r_aload_n F rfl rfl dX9_number_2 rfl ?_
  refine r_getI F f_X9_154 (hM.1) rfl dX9_number_3 rfl ?_
  refine r_eqz (z := p) (by rw [ja_rw_n (by omega), N_tG_10]) ?_
  refine r_ist2 F (by decide) rfl dX9_number_6 rfl ?_
  have loop : ∀ (d : Nat) (q z : Int), q - p + d = 4 → p ≤ q → N_dg d z → q ≤ (G m 5) → N_nm (G (m + 5)) (G m 5) d q z = (N_nm (G (m + 5)) (G m 5) 4 p (-1)) → ja_W C 0 0 lay (ja_rw (N_tG G m q tl T) (m + 1) v) n 7 [some (.ref m), some (.int (ja_I z)), some (.int (ja_I p))] [] := by
    intro d
    induction d with
    | zero =>
      intro q z hq hpq hz hqn hl
      have hzi := N_dg_in hz
      have hh := @N_he_in (G (m + 5)) (G m 5) q hch
      refine r_aload_n F rfl rfl dX9_number_7 rfl ?_
      refine r_getI F f_X9_154 (hM.1) rfl dX9_number_8 rfl ?_
      refine r_eqz (z := q) (by rw [ja_rw_n (by omega), N_tG_10]) ?_
      refine r_iload_n F rfl rfl dX9_number_11 rfl ?_
      refine r_isub F dX9_number_12 rfl ?_
      refine r_iconst F dX9_number_13 rfl ?_
      refine r_icmp_ge F (tgt := 65) ⟨by omega, by omega⟩ ⟨by omega, by omega⟩ dX9_number_14 rfl (by decide) (fun h_14 => ?_) (fun h_14 => ?_)
      ·
        refine r_iload_n F rfl rfl dX9_number_65 rfl ?_
        exact r_iret F Rt dX9_number_66 (by decide) ⟨by rw [← hl]; rfl, rfl, by rw [← hl]; rfl, rfl⟩
      ·
        exfalso; omega
    | succ d ih =>
      intro q z hq hpq hz hqn hl
      have hzi := N_dg_in hz
      have hh := @N_he_in (G (m + 5)) (G m 5) q hch
      refine r_aload_n F rfl rfl dX9_number_7 rfl ?_
      refine r_getI F f_X9_154 (hM.1) rfl dX9_number_8 rfl ?_
      refine r_eqz (z := q) (by rw [ja_rw_n (by omega), N_tG_10]) ?_
      refine r_iload_n F rfl rfl dX9_number_11 rfl ?_
      refine r_isub F dX9_number_12 rfl ?_
      refine r_iconst F dX9_number_13 rfl ?_
      refine r_icmp_ge F (tgt := 65) ⟨by omega, by omega⟩ ⟨by omega, by omega⟩ dX9_number_14 rfl (by decide) (fun h_14 => ?_) (fun h_14 => ?_)
      ·
        exfalso; omega
      ·
        refine r_aload_n F rfl rfl dX9_number_17 rfl ?_
        refine r_callV F GC (c_X9_here _ _ _ _ hM hTO ⟨by omega, by omega⟩) v_X9_157 rfl (hM.1) rfl (by decide) (by decide) (Nat.le_of_ble_eq_true rfl) rfl dX9_number_18 rfl (fun v lay' mem' n' hp => ?_)
        obtain ⟨q1, q2, q3, q4⟩ := hp
        subst q1; subst q2; subst q3; subst q4
        refine r_bipush F (by decide) dX9_number_21 rfl ?_
        refine r_bipush F (by decide) dX9_number_23 rfl ?_
        refine r_callS F GC (c_X9_in _ _ _ _ ⟨by omega, by omega⟩ ⟨by omega, by omega⟩ ⟨by omega, by omega⟩) s_X9_35 rfl (by decide) (by decide) (Nat.le_of_ble_eq_true rfl) rfl dX9_number_25 rfl (fun v lay' mem' n' hp => ?_)
        obtain ⟨q1, q2, q3, q4⟩ := hp
        subst q1; subst q2; subst q3; subst q4
        refine r_if_eq F (tgt := 65) ja_b_in dX9_number_28 rfl (by decide) (fun h_28 => ?_) (fun h_28 => ?_)
        ·
          have b_28 : ¬ (48 ≤ (N_he (G (m + 5)) (G m 5) q) ∧ (N_he (G (m + 5)) (G m 5) q) ≤ 57) := ja_b_0.mp h_28
          refine r_iload_n F rfl rfl dX9_number_65 rfl ?_
          exact r_iret F Rt dX9_number_66 (by decide) ⟨by rw [← hl]; simp only [N_nm]; rw [if_neg b_28], rfl, by rw [← hl]; simp only [N_nm]; rw [if_neg b_28], rfl⟩
        ·
          have b_28 : (48 ≤ (N_he (G (m + 5)) (G m 5) q) ∧ (N_he (G (m + 5)) (G m 5) q) ≤ 57) := ja_b_1 h_28
          have hlt := N_he_lt (f := (G (m + 5))) (ln := (G m 5)) (p := q) (by omega)
          have hdg := N_dg_s hz b_28
          refine r_iload_n F rfl rfl dX9_number_31 rfl ?_
          refine r_if_ge F (tgt := 39) ⟨by omega, by omega⟩ dX9_number_32 rfl (by decide) (fun h_32 => ?_) (fun h_32 => ?_)
          ·
            refine r_bipush F (by decide) dX9_number_39 rfl ?_
            refine r_iload_n F rfl rfl dX9_number_41 rfl ?_
            refine r_imul F dX9_number_42 rfl ?_
            refine r_aload_n F rfl rfl dX9_number_43 rfl ?_
            refine r_callV F GC (c_X9_here _ _ _ _ hM hTO ⟨by omega, by omega⟩) v_X9_157 rfl (hM.1) rfl (by decide) (by decide) (Nat.le_of_ble_eq_true rfl) rfl dX9_number_44 rfl (fun v lay' mem' n' hp => ?_)
            obtain ⟨q1, q2, q3, q4⟩ := hp
            subst q1; subst q2; subst q3; subst q4
            refine r_iadd F dX9_number_47 rfl ?_
            refine r_bipush F (by decide) dX9_number_48 rfl ?_
            refine r_isub F dX9_number_50 rfl ?_
            refine r_ist1 F (by decide) rfl dX9_number_51 rfl ?_
            refine r_aload_n F rfl rfl dX9_number_52 rfl ?_
            refine r_dup F rfl dX9_number_53 rfl ?_
            refine r_getI F f_X9_154 (hM.1) rfl dX9_number_54 rfl ?_
            refine r_eqz (z := q) (by rw [ja_rw_n (by omega), N_tG_10]) ?_
            refine r_iconst F dX9_number_57 rfl ?_
            refine r_iadd F dX9_number_58 rfl ?_
            refine r_putI F f_X9_154 (hM.1) rfl dX9_number_59 rfl ?_
            refine r_mem (mem' := ja_rw (ja_up (N_tG G m q tl T) m 10 ((q) + 1)) (m + 1) v) (ja_up_rw (by omega)) ?_
            refine r_goto F (tgt := 7) dX9_number_62 (by decide) ?_
            rw [N_tG_u10]
            refine ih (q + 1) _ (by omega) (by omega) ?_ (by omega) ?_
            · first
              | (rw [if_pos (by omega)] at hdg; exact hdg)
              | (rw [if_neg (by omega)] at hdg; exact hdg)
            · rw [← hl]; simp only [N_nm]; rw [if_pos b_28]; first | rw [if_pos (show z < 0 by omega)] | rw [if_neg (show ¬ z < 0 by omega)]
          ·
            refine r_iconst F dX9_number_35 rfl ?_
            refine r_goto F (tgt := 43) dX9_number_36 (by decide) ?_
            refine r_aload_n F rfl rfl dX9_number_43 rfl ?_
            refine r_callV F GC (c_X9_here _ _ _ _ hM hTO ⟨by omega, by omega⟩) v_X9_157 rfl (hM.1) rfl (by decide) (by decide) (Nat.le_of_ble_eq_true rfl) rfl dX9_number_44 rfl (fun v lay' mem' n' hp => ?_)
            obtain ⟨q1, q2, q3, q4⟩ := hp
            subst q1; subst q2; subst q3; subst q4
            refine r_iadd F dX9_number_47 rfl ?_
            refine r_bipush F (by decide) dX9_number_48 rfl ?_
            refine r_isub F dX9_number_50 rfl ?_
            refine r_ist1 F (by decide) rfl dX9_number_51 rfl ?_
            refine r_aload_n F rfl rfl dX9_number_52 rfl ?_
            refine r_dup F rfl dX9_number_53 rfl ?_
            refine r_getI F f_X9_154 (hM.1) rfl dX9_number_54 rfl ?_
            refine r_eqz (z := q) (by rw [ja_rw_n (by omega), N_tG_10]) ?_
            refine r_iconst F dX9_number_57 rfl ?_
            refine r_iadd F dX9_number_58 rfl ?_
            refine r_putI F f_X9_154 (hM.1) rfl dX9_number_59 rfl ?_
            refine r_mem (mem' := ja_rw (ja_up (N_tG G m q tl T) m 10 ((q) + 1)) (m + 1) v) (ja_up_rw (by omega)) ?_
            refine r_goto F (tgt := 7) dX9_number_62 (by decide) ?_
            rw [N_tG_u10]
            refine ih (q + 1) _ (by omega) (by omega) ?_ (by omega) ?_
            · first
              | (rw [if_pos (by omega)] at hdg; exact hdg)
              | (rw [if_neg (by omega)] at hdg; exact hdg)
            · rw [← hl]; simp only [N_nm]; rw [if_pos b_28]; first | rw [if_pos (show z < 0 by omega)] | rw [if_neg (show ¬ z < 0 by omega)]
  exact loop 4 p (-1) (by omega) (by omega) N_dg4 hpl rfl
abbrev rm_X9_isEntry : Room := { frames := 2, cells := 0, slots := 0, locals := 44 }
set_option maxRecDepth 100000 in
set_option maxHeartbeats 800000 in
theorem c_X9_isEntry (l : Launch) (D : va_G) (cA : Nat → ClassId) (B : Nat) {lay : ja_Y} {n : Nat} {m : Nat} {G : ja_M} {v : Nat → Int} (hM : ja_LM lay m) {p tl : Int} {T : Nat → Int} (hTO : N_TO G m) (hp : 0 ≤ p ∧ p ≤ G m 5) (htl : 0 ≤ tl ∧ 5 * tl ≤ p) : ja_Mt l D cA B yX9_isEntry cX9_isEntry 3 (some .boolean) rm_X9_isEntry [.ref m] lay (ja_rw (N_tG G m p tl T) (m + 1) v) n (ja_rd lay (ja_rw (N_tG G m (N_en (G (m + 5)) (G m 5) p tl T).2.1 (N_en (G (m + 5)) (G m 5) p tl T).2.2.1 (N_en (G (m + 5)) (G m 5) p tl T).2.2.2) (m + 1) v) n (some (.int (ja_I (N_en (G (m + 5)) (G m 5) p tl T).1)))) := by
  refine ja_enter [some (.ref m), none, none] (by decide) (Nat.le_of_ble_eq_true rfl) (fun q hq => hq) (fun C F Rt GC hnm => ?_)
  obtain ⟨h5, hch⟩ := id hTO
  have hhp := @N_he_in (G (m + 5)) (G m 5) p hch
  refine r_iconst F dX9_isEntry_0 rfl ?_
  refine r_aload_n F rfl rfl dX9_isEntry_1 rfl ?_
  refine r_getI F f_X9_160 (hM.1) rfl dX9_isEntry_2 rfl ?_
  refine r_eqz (z := tl) (by rw [ja_rw_n (by omega), N_tG_9]) ?_
  refine r_imul F dX9_isEntry_5 rfl ?_
  refine r_ist1 F (by decide) rfl dX9_isEntry_6 rfl ?_
  refine r_aload_n F rfl rfl dX9_isEntry_7 rfl ?_
  refine r_callV F GC (c_X9_here _ _ _ _ hM hTO ⟨by omega, by omega⟩) v_X9_157 rfl (hM.1) rfl (by decide) (by decide) (Nat.le_of_ble_eq_true rfl) rfl dX9_isEntry_8 rfl (fun v lay' mem' n' hp => ?_)
  obtain ⟨q1, q2, q3, q4⟩ := hp
  subst q1; subst q2; subst q3; subst q4
  refine r_ist2 F (by decide) rfl dX9_isEntry_11 rfl ?_
  refine r_aload_n F rfl rfl dX9_isEntry_12 rfl ?_
  refine r_getR F f_X9_32 (hM.1) rfl dX9_isEntry_13 rfl ?_
  refine r_iload_n F rfl rfl dX9_isEntry_16 rfl ?_
  have J38 : ja_W C 0 0 lay (ja_rw (N_tG G m p tl T) (m + 1) v) n 38 [some (.ref (m)), some (.int (ja_I ((4 * (tl))))), some (.int (ja_I ((N_he (G (m + 5)) (G m 5) p))))] [.int (ja_I (N_e0 (N_he (G (m + 5)) (G m 5) p))), .int (ja_I ((4 * (tl)))), .ref ((m + 8))] := by
    refine r_iast F (ja_LM_8 hM) (by omega) (by omega) (by decide) dX9_isEntry_38 rfl ?_
    refine r_mem (mem' := ja_rw (ja_up (N_tG G m p tl T) (m + 8) (Int.toNat (4 * (tl))) (N_e0 (N_he (G (m + 5)) (G m 5) p))) (m + 1) v) (ja_up_rw (by omega)) ?_
    have J157 : ∀ (q : Int) (T2 : Nat → Int), 0 ≤ q → q ≤ (G m 5) → N_e3 (G (m + 5)) (G m 5) q tl T2 = (N_en (G (m + 5)) (G m 5) p tl T) → ja_W C 0 0 lay (ja_rw (N_tG G m q tl T2) (m + 1) v) n 157 [some (.ref m), some (.int (ja_I (4 * tl))), some (.int (ja_I (N_he (G (m + 5)) (G m 5) p)))] [] := by
      intro q T2 hq0 hql hl
      obtain ⟨a1, a2, a3⟩ := @N_n4 (G (m + 5)) (G m 5) q hql
      have hh := @N_he_in (G (m + 5)) (G m 5) (N_nm (G (m + 5)) (G m 5) 4 q (-1)).2 hch
      refine r_aload_n F rfl rfl dX9_isEntry_157 rfl ?_
      refine r_getR F f_X9_32 (hM.1) rfl dX9_isEntry_158 rfl ?_
      refine r_iload_n F rfl rfl dX9_isEntry_161 rfl ?_
      refine r_iconst F dX9_isEntry_162 rfl ?_
      refine r_iadd F dX9_isEntry_163 rfl ?_
      refine r_aload_n F rfl rfl dX9_isEntry_164 rfl ?_
      refine r_callV F GC (c_X9_number _ _ _ _ hM hTO ⟨by omega, by omega⟩ hql) v_X9_163 rfl (hM.1) rfl (by decide) (by decide) (Nat.le_of_ble_eq_true rfl) rfl dX9_isEntry_165 rfl (fun v lay' mem' n' hp => ?_)
      obtain ⟨q1, q2, q3, q4⟩ := hp
      subst q1; subst q2; subst q3; subst q4
      refine r_iast F (ja_LM_8 hM) (by omega) (by omega) (by decide) dX9_isEntry_168 rfl ?_
      refine r_mem (mem' := ja_rw (ja_up (N_tG G m (N_nm (G (m + 5)) (G m 5) 4 q (-1)).2 tl T2) (m + 8) (Int.toNat ((4 * tl) + 3)) (N_nm (G (m + 5)) (G m 5) 4 q (-1)).1) (m + 1) v) (ja_up_rw (by omega)) ?_
      refine r_mem (mem' := ja_rw (N_tG G m (N_nm (G (m + 5)) (G m 5) 4 q (-1)).2 tl (ja_rs T2 (Int.toNat (4 * tl + 3)) (N_nm (G (m + 5)) (G m 5) 4 q (-1)).1)) (m + 1) v) (by rw [N_tG_u8]) ?_
      refine r_aload_n F rfl rfl dX9_isEntry_169 rfl ?_
      refine r_dup F rfl dX9_isEntry_170 rfl ?_
      refine r_getI F f_X9_160 (hM.1) rfl dX9_isEntry_171 rfl ?_
      refine r_eqz (z := tl) (by rw [ja_rw_n (by omega), N_tG_9]) ?_
      refine r_iconst F dX9_isEntry_174 rfl ?_
      refine r_iadd F dX9_isEntry_175 rfl ?_
      refine r_putI F f_X9_160 (hM.1) rfl dX9_isEntry_176 rfl ?_
      refine r_mem (mem' := ja_rw (ja_up (N_tG G m (N_nm (G (m + 5)) (G m 5) 4 q (-1)).2 tl (ja_rs T2 (Int.toNat (4 * tl + 3)) (N_nm (G (m + 5)) (G m 5) 4 q (-1)).1)) m 9 ((tl) + 1)) (m + 1) v) (ja_up_rw (by omega)) ?_
      refine r_mem (mem' := ja_rw (N_tG G m (N_nm (G (m + 5)) (G m 5) 4 q (-1)).2 (tl + 1) (ja_rs T2 (Int.toNat (4 * tl + 3)) (N_nm (G (m + 5)) (G m 5) 4 q (-1)).1)) (m + 1) v) (by rw [N_tG_u9]) ?_
      refine r_aload_n F rfl rfl dX9_isEntry_179 rfl ?_
      refine r_getR F f_X9_32 (hM.1) rfl dX9_isEntry_180 rfl ?_
      refine r_iload_n F rfl rfl dX9_isEntry_183 rfl ?_
      refine r_iconst F dX9_isEntry_184 rfl ?_
      refine r_iadd F dX9_isEntry_185 rfl ?_
      refine r_iald F (ja_LM_8 hM) (by omega) (by omega) (by decide) dX9_isEntry_186 rfl ?_
      refine r_eqz (z := (N_nm (G (m + 5)) (G m 5) 4 q (-1)).1) (by rw [ja_rw_n (by omega), N_tG_8, ja_rs_s]) ?_
      refine r_if_lt F (tgt := 203) ⟨by omega, by omega⟩ dX9_isEntry_187 rfl (by decide) (fun h_187 => ?_) (fun h_187 => ?_)
      ·
        have he3 : (N_en (G (m + 5)) (G m 5) p tl T) = (0, (N_nm (G (m + 5)) (G m 5) 4 q (-1)).2, tl + 1, (ja_rs T2 (Int.toNat (4 * tl + 3)) (N_nm (G (m + 5)) (G m 5) 4 q (-1)).1)) := by rw [← hl, N_e3, if_pos (by omega)]
        refine r_iconst F dX9_isEntry_203 rfl ?_
        exact r_zret F Rt (by omega) dX9_isEntry_204 (by decide) ⟨by first | (rw [he3]; done) | (rw [he3]; exact congrArg (fun z => some (Value.int (ja_I z))) hb0), rfl, by rw [he3], rfl⟩
      ·
        have he3 : (N_en (G (m + 5)) (G m 5) p tl T) = (ja_b ((N_he (G (m + 5)) (G m 5) (N_nm (G (m + 5)) (G m 5) 4 q (-1)).2) = 59), (N_nm (G (m + 5)) (G m 5) 4 q (-1)).2 + ja_b ((N_he (G (m + 5)) (G m 5) (N_nm (G (m + 5)) (G m 5) 4 q (-1)).2) = 59), tl + 1, (ja_rs T2 (Int.toNat (4 * tl + 3)) (N_nm (G (m + 5)) (G m 5) 4 q (-1)).1)) := by rw [← hl, N_e3, if_neg (by omega)]
        refine r_aload_n F rfl rfl dX9_isEntry_190 rfl ?_
        refine r_bipush F (by decide) dX9_isEntry_191 rfl ?_
        refine r_callV F GC (c_X9_takes_ _ _ _ _ hM hTO ⟨by omega, by omega⟩ ⟨by omega, by omega⟩) v_X9_166 rfl (hM.1) rfl (by decide) (by decide) (Nat.le_of_ble_eq_true rfl) rfl dX9_isEntry_193 rfl (fun v lay' mem' n' hp => ?_)
        obtain ⟨q1, q2, q3, q4⟩ := hp
        subst q1; subst q2; subst q3; subst q4
        refine r_if_eq F (tgt := 203) ja_b_in dX9_isEntry_196 rfl (by decide) (fun h_196 => ?_) (fun h_196 => ?_)
        ·
          have b_196 : ¬ ((N_he (G (m + 5)) (G m 5) (N_nm (G (m + 5)) (G m 5) 4 q (-1)).2) = 59) := ja_b_0.mp h_196
          have hb0 : ja_b ((N_he (G (m + 5)) (G m 5) (N_nm (G (m + 5)) (G m 5) 4 q (-1)).2) = 59) = 0 := ja_b_0.mpr b_196
          refine r_iconst F dX9_isEntry_203 rfl ?_
          exact r_zret F Rt (by omega) dX9_isEntry_204 (by decide) ⟨by first | (rw [he3]; done) | (rw [he3]; exact congrArg (fun z => some (Value.int (ja_I z))) hb0), rfl, by rw [he3], rfl⟩
        ·
          have b_196 : ((N_he (G (m + 5)) (G m 5) (N_nm (G (m + 5)) (G m 5) 4 q (-1)).2) = 59) := ja_b_1 h_196
          have hb1 : ja_b ((N_he (G (m + 5)) (G m 5) (N_nm (G (m + 5)) (G m 5) 4 q (-1)).2) = 59) = 1 := if_pos b_196
          refine r_iconst F dX9_isEntry_199 rfl ?_
          refine r_goto F (tgt := 204) dX9_isEntry_200 (by decide) ?_
          exact r_zret F Rt (by omega) dX9_isEntry_204 (by decide) ⟨by rw [he3]; exact congrArg (fun z => some (Value.int (ja_I z))) hb1, rfl, by rw [he3], rfl⟩
    have J135 : ∀ (q : Int) (T2 : Nat → Int), 0 ≤ q → q ≤ (G m 5) → (-1 ≤ T2 (Int.toNat (4 * tl + 2)) ∧ T2 (Int.toNat (4 * tl + 2)) ≤ 9999) → N_e2 (G (m + 5)) (G m 5) q tl T2 = (N_en (G (m + 5)) (G m 5) p tl T) → ja_W C 0 0 lay (ja_rw (N_tG G m q tl T2) (m + 1) v) n 135 [some (.ref m), some (.int (ja_I (4 * tl))), some (.int (ja_I (N_he (G (m + 5)) (G m 5) p)))] [] := by
      intro q T2 hq0 hql ht2 hl
      have hh := @N_he_in (G (m + 5)) (G m 5) q hch
      refine r_aload_n F rfl rfl dX9_isEntry_135 rfl ?_
      refine r_getR F f_X9_32 (hM.1) rfl dX9_isEntry_136 rfl ?_
      refine r_iload_n F rfl rfl dX9_isEntry_139 rfl ?_
      refine r_iconst F dX9_isEntry_140 rfl ?_
      refine r_iadd F dX9_isEntry_141 rfl ?_
      refine r_iald F (ja_LM_8 hM) (by omega) (by omega) (by decide) dX9_isEntry_142 rfl ?_
      refine r_eqz (z := (T2 (Int.toNat (4 * tl + 2)))) (by rw [ja_rw_n (by omega), N_tG_8]) ?_
      refine r_if_lt F (tgt := 155) ⟨by omega, by omega⟩ dX9_isEntry_143 rfl (by decide) (fun h_143 => ?_) (fun h_143 => ?_)
      ·
        have he2 : (N_en (G (m + 5)) (G m 5) p tl T) = (0, q, tl, T2) := by rw [← hl, N_e2, if_pos (by omega)]
        refine r_iconst F dX9_isEntry_155 rfl ?_
        exact r_zret F Rt (by omega) dX9_isEntry_156 (by decide) ⟨by rw [he2], rfl, by first | (rw [he2]; done) | rw [he2, hb0, Int.add_zero], rfl⟩
      ·
        refine r_aload_n F rfl rfl dX9_isEntry_146 rfl ?_
        refine r_bipush F (by decide) dX9_isEntry_147 rfl ?_
        refine r_callV F GC (c_X9_takes_ _ _ _ _ hM hTO ⟨by omega, by omega⟩ ⟨by omega, by omega⟩) v_X9_166 rfl (hM.1) rfl (by decide) (by decide) (Nat.le_of_ble_eq_true rfl) rfl dX9_isEntry_149 rfl (fun v lay' mem' n' hp => ?_)
        obtain ⟨q1, q2, q3, q4⟩ := hp
        subst q1; subst q2; subst q3; subst q4
        refine r_if_ne F (tgt := 157) ja_b_in dX9_isEntry_152 rfl (by decide) (fun h_152 => ?_) (fun h_152 => ?_)
        ·
          have b_152 : ((N_he (G (m + 5)) (G m 5) q) = 64) := ja_b_1 h_152
          have hlt := N_he_lt (f := (G (m + 5))) (ln := (G m 5)) (p := q) (by omega)
          have hb1 : ja_b ((N_he (G (m + 5)) (G m 5) q) = 64) = 1 := if_pos b_152
          rw [hb1]
          exact J157 (q + 1) T2 (by omega) (by omega) (by rw [← hl, N_e2, if_neg (by omega), if_pos b_152])
        ·
          have b_152 : ¬ ((N_he (G (m + 5)) (G m 5) q) = 64) := ja_b_0.mp h_152
          have he2 : (N_en (G (m + 5)) (G m 5) p tl T) = (0, q, tl, T2) := by rw [← hl, N_e2, if_neg (by omega), if_neg b_152]
          have hb0 : ja_b ((N_he (G (m + 5)) (G m 5) q) = 64) = 0 := ja_b_0.mpr b_152
          refine r_iconst F dX9_isEntry_155 rfl ?_
          exact r_zret F Rt (by omega) dX9_isEntry_156 (by decide) ⟨by rw [he2], rfl, by first | (rw [he2]; done) | rw [he2, hb0, Int.add_zero], rfl⟩
    have J59 : ((N_he (G (m + 5)) (G m 5) p) = 100 ∨ (N_he (G (m + 5)) (G m 5) p) = 114 ∨ (N_he (G (m + 5)) (G m 5) p) = 99) → ja_W C 0 0 lay (ja_rw (N_tG G m p tl (ja_rs T (Int.toNat (4 * tl)) (N_e0 (N_he (G (m + 5)) (G m 5) p)))) (m + 1) v) n 59 [some (.ref m), some (.int (ja_I (4 * tl))), some (.int (ja_I (N_he (G (m + 5)) (G m 5) p)))] [] := by
      intro hc3
      have hlt := N_he_lt (f := (G (m + 5))) (ln := (G m 5)) (p := p) (by omega)
      obtain ⟨a1, a2, a3⟩ := @N_n4 (G (m + 5)) (G m 5) (p + 1) (by omega)
      have he0 := @N_e0_in (N_he (G (m + 5)) (G m 5) p)
      refine r_aload_n F rfl rfl dX9_isEntry_59 rfl ?_
      refine r_dup F rfl dX9_isEntry_60 rfl ?_
      refine r_getI F f_X9_154 (hM.1) rfl dX9_isEntry_61 rfl ?_
      refine r_eqz (z := p) (by rw [ja_rw_n (by omega), N_tG_10]) ?_
      refine r_iconst F dX9_isEntry_64 rfl ?_
      refine r_iadd F dX9_isEntry_65 rfl ?_
      refine r_putI F f_X9_154 (hM.1) rfl dX9_isEntry_66 rfl ?_
      refine r_mem (mem' := ja_rw (ja_up (N_tG G m p tl (ja_rs T (Int.toNat (4 * tl)) (N_e0 (N_he (G (m + 5)) (G m 5) p)))) m 10 ((p) + 1)) (m + 1) v) (ja_up_rw (by omega)) ?_
      refine r_mem (mem' := ja_rw (N_tG G m (p + 1) tl (ja_rs T (Int.toNat (4 * tl)) (N_e0 (N_he (G (m + 5)) (G m 5) p)))) (m + 1) v) (by rw [N_tG_u10]) ?_
      refine r_aload_n F rfl rfl dX9_isEntry_69 rfl ?_
      refine r_getR F f_X9_32 (hM.1) rfl dX9_isEntry_70 rfl ?_
      refine r_iload_n F rfl rfl dX9_isEntry_73 rfl ?_
      refine r_iconst F dX9_isEntry_74 rfl ?_
      refine r_iadd F dX9_isEntry_75 rfl ?_
      refine r_aload_n F rfl rfl dX9_isEntry_76 rfl ?_
      refine r_callV F GC (c_X9_number _ _ _ _ hM hTO ⟨by omega, by omega⟩ (by omega)) v_X9_163 rfl (hM.1) rfl (by decide) (by decide) (Nat.le_of_ble_eq_true rfl) rfl dX9_isEntry_77 rfl (fun v lay' mem' n' hp => ?_)
      obtain ⟨q1, q2, q3, q4⟩ := hp
      subst q1; subst q2; subst q3; subst q4
      refine r_iast F (ja_LM_8 hM) (by omega) (by omega) (by decide) dX9_isEntry_80 rfl ?_
      refine r_mem (mem' := ja_rw (ja_up (N_tG G m (N_nm (G (m + 5)) (G m 5) 4 (p + 1) (-1)).2 tl (ja_rs T (Int.toNat (4 * tl)) (N_e0 (N_he (G (m + 5)) (G m 5) p)))) (m + 8) (Int.toNat ((4 * tl) + 1)) (N_nm (G (m + 5)) (G m 5) 4 (p + 1) (-1)).1) (m + 1) v) (ja_up_rw (by omega)) ?_
      refine r_mem (mem' := ja_rw (N_tG G m (N_nm (G (m + 5)) (G m 5) 4 (p + 1) (-1)).2 tl (ja_rs (ja_rs T (Int.toNat (4 * tl)) (N_e0 (N_he (G (m + 5)) (G m 5) p))) (Int.toNat (4 * tl + 1)) (N_nm (G (m + 5)) (G m 5) 4 (p + 1) (-1)).1)) (m + 1) v) (by rw [N_tG_u8]) ?_
      refine r_aload_n F rfl rfl dX9_isEntry_81 rfl ?_
      refine r_getR F f_X9_32 (hM.1) rfl dX9_isEntry_82 rfl ?_
      refine r_iload_n F rfl rfl dX9_isEntry_85 rfl ?_
      refine r_iconst F dX9_isEntry_86 rfl ?_
      refine r_iadd F dX9_isEntry_87 rfl ?_
      refine r_iconst F dX9_isEntry_88 rfl ?_
      refine r_iast F (ja_LM_8 hM) (by omega) (by omega) (by decide) dX9_isEntry_89 rfl ?_
      refine r_mem (mem' := ja_rw (ja_up (N_tG G m (N_nm (G (m + 5)) (G m 5) 4 (p + 1) (-1)).2 tl (ja_rs (ja_rs T (Int.toNat (4 * tl)) (N_e0 (N_he (G (m + 5)) (G m 5) p))) (Int.toNat (4 * tl + 1)) (N_nm (G (m + 5)) (G m 5) 4 (p + 1) (-1)).1)) (m + 8) (Int.toNat ((4 * tl) + 2)) 0) (m + 1) v) (ja_up_rw (by omega)) ?_
      refine r_mem (mem' := ja_rw (N_tG G m (N_nm (G (m + 5)) (G m 5) 4 (p + 1) (-1)).2 tl (N_et T tl (N_e0 (N_he (G (m + 5)) (G m 5) p)) (N_nm (G (m + 5)) (G m 5) 4 (p + 1) (-1)).1)) (m + 1) v) (by rw [N_tG_u8]; rfl) ?_
      refine r_aload_n F rfl rfl dX9_isEntry_90 rfl ?_
      refine r_getR F f_X9_32 (hM.1) rfl dX9_isEntry_91 rfl ?_
      refine r_iload_n F rfl rfl dX9_isEntry_94 rfl ?_
      refine r_iconst F dX9_isEntry_95 rfl ?_
      refine r_iadd F dX9_isEntry_96 rfl ?_
      refine r_iald F (ja_LM_8 hM) (by omega) (by omega) (by decide) dX9_isEntry_97 rfl ?_
      refine r_eqz (z := (N_nm (G (m + 5)) (G m 5) 4 (p + 1) (-1)).1) (by rw [ja_rw_n (by omega), N_tG_8, N_et, ja_rs_n (by omega), ja_rs_s]) ?_
      refine r_if_ge F (tgt := 103) ⟨by omega, by omega⟩ dX9_isEntry_98 rfl (by decide) (fun h_98 => ?_) (fun h_98 => ?_)
      ·
        have he1 : (N_en (G (m + 5)) (G m 5) p tl T) = N_e1 (G (m + 5)) (G m 5) (N_nm (G (m + 5)) (G m 5) 4 (p + 1) (-1)).2 tl (N_e0 (N_he (G (m + 5)) (G m 5) p)) (N_et T tl (N_e0 (N_he (G (m + 5)) (G m 5) p)) (N_nm (G (m + 5)) (G m 5) 4 (p + 1) (-1)).1) := by rw [N_en, if_pos hc3, if_neg (by omega)]
        have hh := @N_he_in (G (m + 5)) (G m 5) (N_nm (G (m + 5)) (G m 5) 4 (p + 1) (-1)).2 hch
        refine r_aload_n F rfl rfl dX9_isEntry_103 rfl ?_
        refine r_getR F f_X9_32 (hM.1) rfl dX9_isEntry_104 rfl ?_
        refine r_iload_n F rfl rfl dX9_isEntry_107 rfl ?_
        refine r_iald F (ja_LM_8 hM) (by omega) (by omega) (by decide) dX9_isEntry_108 rfl ?_
        refine r_eqz (z := (N_e0 (N_he (G (m + 5)) (G m 5) p))) (by rw [ja_rw_n (by omega), N_tG_8, N_et, ja_rs_n (by omega), ja_rs_n (by omega), ja_rs_s]) ?_
        refine r_if_le F (tgt := 135) ⟨by omega, by omega⟩ dX9_isEntry_109 rfl (by decide) (fun h_109 => ?_) (fun h_109 => ?_)
        ·
          exact J135 (N_nm (G (m + 5)) (G m 5) 4 (p + 1) (-1)).2 (N_et T tl (N_e0 (N_he (G (m + 5)) (G m 5) p)) (N_nm (G (m + 5)) (G m 5) 4 (p + 1) (-1)).1) (by omega) a2.2 (by rw [N_et, ja_rs_s]; omega) (by rw [he1, N_e1, if_pos (by omega)])
        ·
          refine r_aload_n F rfl rfl dX9_isEntry_112 rfl ?_
          refine r_bipush F (by decide) dX9_isEntry_113 rfl ?_
          refine r_callV F GC (c_X9_takes_ _ _ _ _ hM hTO ⟨by omega, by omega⟩ ⟨by omega, by omega⟩) v_X9_166 rfl (hM.1) rfl (by decide) (by decide) (Nat.le_of_ble_eq_true rfl) rfl dX9_isEntry_115 rfl (fun v lay' mem' n' hp => ?_)
          obtain ⟨q1, q2, q3, q4⟩ := hp
          subst q1; subst q2; subst q3; subst q4
          refine r_if_ne F (tgt := 123) ja_b_in dX9_isEntry_118 rfl (by decide) (fun h_118 => ?_) (fun h_118 => ?_)
          ·
            have b_118 : ((N_he (G (m + 5)) (G m 5) (N_nm (G (m + 5)) (G m 5) 4 (p + 1) (-1)).2) = 46) := ja_b_1 h_118
            have hlt2 := N_he_lt (f := (G (m + 5))) (ln := (G m 5)) (p := (N_nm (G (m + 5)) (G m 5) 4 (p + 1) (-1)).2) (by omega)
            have hb1 : ja_b ((N_he (G (m + 5)) (G m 5) (N_nm (G (m + 5)) (G m 5) 4 (p + 1) (-1)).2) = 46) = 1 := if_pos b_118
            rw [hb1]
            obtain ⟨c1, c2, c3⟩ := @N_n4 (G (m + 5)) (G m 5) ((N_nm (G (m + 5)) (G m 5) 4 (p + 1) (-1)).2 + 1) (by omega)
            refine r_aload_n F rfl rfl dX9_isEntry_123 rfl ?_
            refine r_getR F f_X9_32 (hM.1) rfl dX9_isEntry_124 rfl ?_
            refine r_iload_n F rfl rfl dX9_isEntry_127 rfl ?_
            refine r_iconst F dX9_isEntry_128 rfl ?_
            refine r_iadd F dX9_isEntry_129 rfl ?_
            refine r_aload_n F rfl rfl dX9_isEntry_130 rfl ?_
            refine r_callV F GC (c_X9_number _ _ _ _ hM hTO ⟨by omega, by omega⟩ (by omega)) v_X9_163 rfl (hM.1) rfl (by decide) (by decide) (Nat.le_of_ble_eq_true rfl) rfl dX9_isEntry_131 rfl (fun v lay' mem' n' hp => ?_)
            obtain ⟨q1, q2, q3, q4⟩ := hp
            subst q1; subst q2; subst q3; subst q4
            refine r_iast F (ja_LM_8 hM) (by omega) (by omega) (by decide) dX9_isEntry_134 rfl ?_
            refine r_mem (mem' := ja_rw (ja_up (N_tG G m (N_nm (G (m + 5)) (G m 5) 4 ((N_nm (G (m + 5)) (G m 5) 4 (p + 1) (-1)).2 + 1) (-1)).2 tl (N_et T tl (N_e0 (N_he (G (m + 5)) (G m 5) p)) (N_nm (G (m + 5)) (G m 5) 4 (p + 1) (-1)).1)) (m + 8) (Int.toNat ((4 * tl) + 2)) (N_nm (G (m + 5)) (G m 5) 4 ((N_nm (G (m + 5)) (G m 5) 4 (p + 1) (-1)).2 + 1) (-1)).1) (m + 1) v) (ja_up_rw (by omega)) ?_
            rw [N_tG_u8]
            exact J135 (N_nm (G (m + 5)) (G m 5) 4 ((N_nm (G (m + 5)) (G m 5) 4 (p + 1) (-1)).2 + 1) (-1)).2 (ja_rs (N_et T tl (N_e0 (N_he (G (m + 5)) (G m 5) p)) (N_nm (G (m + 5)) (G m 5) 4 (p + 1) (-1)).1) (Int.toNat (4 * tl + 2)) (N_nm (G (m + 5)) (G m 5) 4 ((N_nm (G (m + 5)) (G m 5) 4 (p + 1) (-1)).2 + 1) (-1)).1) (by omega) c2.2 (by rw [ja_rs_s]; omega) (by rw [he1, N_e1, if_neg (by omega), if_pos b_118])
          ·
            have b_118 : ¬ ((N_he (G (m + 5)) (G m 5) (N_nm (G (m + 5)) (G m 5) 4 (p + 1) (-1)).2) = 46) := ja_b_0.mp h_118
            have he2 : (N_en (G (m + 5)) (G m 5) p tl T) = (0, (N_nm (G (m + 5)) (G m 5) 4 (p + 1) (-1)).2, tl, (N_et T tl (N_e0 (N_he (G (m + 5)) (G m 5) p)) (N_nm (G (m + 5)) (G m 5) 4 (p + 1) (-1)).1)) := by rw [he1, N_e1, if_neg (by omega), if_neg b_118]
            have hb0 : ja_b ((N_he (G (m + 5)) (G m 5) (N_nm (G (m + 5)) (G m 5) 4 (p + 1) (-1)).2) = 46) = 0 := ja_b_0.mpr b_118
            refine r_iconst F dX9_isEntry_121 rfl ?_
            exact r_zret F Rt (by omega) dX9_isEntry_122 (by decide) ⟨by rw [he2], rfl, by rw [he2, hb0, Int.add_zero], rfl⟩
      ·
        have he1 : (N_en (G (m + 5)) (G m 5) p tl T) = (0, (N_nm (G (m + 5)) (G m 5) 4 (p + 1) (-1)).2, tl, (N_et T tl (N_e0 (N_he (G (m + 5)) (G m 5) p)) (N_nm (G (m + 5)) (G m 5) 4 (p + 1) (-1)).1)) := by rw [N_en, if_pos hc3, if_pos (by omega)]
        refine r_iconst F dX9_isEntry_101 rfl ?_
        exact r_zret F Rt (by omega) dX9_isEntry_102 (by decide) ⟨by rw [he1], rfl, by rw [he1], rfl⟩
    refine r_mem (mem' := ja_rw (N_tG G m p tl (ja_rs T (Int.toNat (4 * tl)) (N_e0 (N_he (G (m + 5)) (G m 5) p)))) (m + 1) v) (by rw [N_tG_u8]) ?_
    refine r_iload_n F rfl rfl dX9_isEntry_39 rfl ?_
    refine r_bipush F (by decide) dX9_isEntry_40 rfl ?_
    refine r_icmp_eq F (tgt := 59) ⟨by omega, by omega⟩ ⟨by omega, by omega⟩ dX9_isEntry_42 rfl (by decide) (fun h_42 => ?_) (fun h_42 => ?_)
    ·
      exact J59 (by omega)
    ·
      refine r_iload_n F rfl rfl dX9_isEntry_45 rfl ?_
      refine r_bipush F (by decide) dX9_isEntry_46 rfl ?_
      refine r_icmp_eq F (tgt := 59) ⟨by omega, by omega⟩ ⟨by omega, by omega⟩ dX9_isEntry_48 rfl (by decide) (fun h_48 => ?_) (fun h_48 => ?_)
      ·
        exact J59 (by omega)
      ·
        refine r_iload_n F rfl rfl dX9_isEntry_51 rfl ?_
        refine r_bipush F (by decide) dX9_isEntry_52 rfl ?_
        refine r_icmp_eq F (tgt := 59) ⟨by omega, by omega⟩ ⟨by omega, by omega⟩ dX9_isEntry_54 rfl (by decide) (fun h_54 => ?_) (fun h_54 => ?_)
        ·
          exact J59 (by omega)
        ·
          refine r_iconst F dX9_isEntry_57 rfl ?_
          exact r_zret F Rt (by omega) dX9_isEntry_58 (by decide) ⟨by rw [N_en, if_neg (by omega)], rfl, by rw [N_en, if_neg (by omega)], rfl⟩
  refine r_iload_n F rfl rfl dX9_isEntry_17 rfl ?_
  refine r_bipush F (by decide) dX9_isEntry_18 rfl ?_
  refine r_icmp_ne F (tgt := 27) ⟨by omega, by omega⟩ ⟨by omega, by omega⟩ dX9_isEntry_20 rfl (by decide) (fun h_20 => ?_) (fun h_20 => ?_)
  ·
    refine r_iload_n F rfl rfl dX9_isEntry_27 rfl ?_
    refine r_bipush F (by decide) dX9_isEntry_28 rfl ?_
    refine r_icmp_ne F (tgt := 37) ⟨by omega, by omega⟩ ⟨by omega, by omega⟩ dX9_isEntry_30 rfl (by decide) (fun h_30 => ?_) (fun h_30 => ?_)
    ·
      refine r_iconst F dX9_isEntry_37 rfl ?_
      refine r_eqz (z := N_e0 (N_he (G (m + 5)) (G m 5) p)) (by unfold N_e0; first | rw [if_pos (by omega)] | rw [if_neg (by omega), if_pos (by omega)] | rw [if_neg (by omega), if_neg (by omega)]) ?_
      exact J38
    ·
      refine r_iconst F dX9_isEntry_33 rfl ?_
      refine r_goto F (tgt := 38) dX9_isEntry_34 (by decide) ?_
      refine r_eqz (z := N_e0 (N_he (G (m + 5)) (G m 5) p)) (by unfold N_e0; first | rw [if_pos (by omega)] | rw [if_neg (by omega), if_pos (by omega)] | rw [if_neg (by omega), if_neg (by omega)]) ?_
      exact J38
  ·
    refine r_iconst F dX9_isEntry_23 rfl ?_
    refine r_goto F (tgt := 38) dX9_isEntry_24 (by decide) ?_
    refine r_eqz (z := N_e0 (N_he (G (m + 5)) (G m 5) p)) (by unfold N_e0; first | rw [if_pos (by omega)] | rw [if_neg (by omega), if_pos (by omega)] | rw [if_neg (by omega), if_neg (by omega)]) ?_
    exact J38
abbrev rm_X9_isText : Room := { frames := 3, cells := 0, slots := 0, locals := 66 }
set_option maxRecDepth 100000 in
set_option maxHeartbeats 800000 in
theorem c_X9_isText (l : Launch) (D : va_G) (cA : Nat → ClassId) (B : Nat) {lay : ja_Y} {n : Nat} {m : Nat} {G : ja_M} {v : Nat → Int} (hM : ja_LM lay m) {p tl : Int} {T : Nat → Int} (hTO : N_TO G m) (hT : (N_rdt G m) = N_tx (G (m + 5)) (G m 5) 25 0 0 T) : ja_Mt l D cA B yX9_isText cX9_isText 2 (some .boolean) rm_X9_isText [.ref m] lay (ja_rw (N_tG G m p tl T) (m + 1) v) n (ja_rd lay (ja_rw (N_tG G m (N_rdt G m).2.1 (N_rdt G m).2.2.1 (N_rdt G m).2.2.2) (m + 1) v) n (some (.int (ja_I (N_rdt G m).1)))) := by
  refine ja_enter [some (.ref m), none] (by decide) (Nat.le_of_ble_eq_true rfl) (fun q hq => hq) (fun C F Rt GC hnm => ?_)
  obtain ⟨h5, hch⟩ := id hTO
  refine r_aload_n F rfl rfl dX9_isText_0 rfl ?_
  refine r_iconst F dX9_isText_1 rfl ?_
  refine r_putI F f_X9_154 (hM.1) rfl dX9_isText_2 rfl ?_
  refine r_mem (mem' := ja_rw (ja_up (N_tG G m p tl T) m 10 0) (m + 1) v) (ja_up_rw (by omega)) ?_
  refine r_mem (mem' := ja_rw (N_tG G m 0 tl T) (m + 1) v) (by rw [N_tG_u10]) ?_
  refine r_aload_n F rfl rfl dX9_isText_5 rfl ?_
  refine r_iconst F dX9_isText_6 rfl ?_
  refine r_putI F f_X9_160 (hM.1) rfl dX9_isText_7 rfl ?_
  refine r_mem (mem' := ja_rw (ja_up (N_tG G m 0 tl T) m 9 0) (m + 1) v) (ja_up_rw (by omega)) ?_
  refine r_mem (mem' := ja_rw (N_tG G m 0 0 T) (m + 1) v) (by rw [N_tG_u9]) ?_
  refine r_iconst F dX9_isText_10 rfl ?_
  refine r_ist1 F (by decide) rfl dX9_isText_11 rfl ?_
  have loop : ∀ (d : Nat) (q ul : Int) (T1 : Nat → Int), 125 ≤ q + 5 * d → (0 ≤ ul ∧ 5 * ul ≤ q) → (0 ≤ q ∧ q ≤ (G m 5)) → N_tx (G (m + 5)) (G m 5) d q ul T1 = (N_rdt G m) → ja_W C 0 0 lay (ja_rw (N_tG G m q ul T1) (m + 1) v) n 12 [some (.ref m), some (.int (ja_I 1))] [] := by
    intro d
    induction d with
    | zero =>
      intro q ul T1 h125
      intros
      exfalso
      omega
    | succ d ih =>
      intro q ul T1 h125 hul hq hl
      obtain ⟨e1, e2, e3, e4, e5⟩ := @N_en_p (G (m + 5)) (G m 5) q ul T1 hul.1 hq.2
      refine r_iload_n F rfl rfl dX9_isText_12 rfl ?_
      refine r_if_eq F (tgt := 35) ⟨by omega, by omega⟩ dX9_isText_13 rfl (by decide) (fun h_13 => ?_) (fun h_13 => ?_)
      ·
        exfalso; omega
      ·
        refine r_aload_n F rfl rfl dX9_isText_16 rfl ?_
        refine r_getI F f_X9_154 (hM.1) rfl dX9_isText_17 rfl ?_
        refine r_eqz (z := q) (by rw [ja_rw_n (by omega), N_tG_10]) ?_
        refine r_aload_n F rfl rfl dX9_isText_20 rfl ?_
        refine r_getI F f_X9_150 (hM.1) rfl dX9_isText_21 rfl ?_
        refine r_eqz (z := G m 5) (by rw [ja_rw_n (by omega), N_tG_j (by omega) (by omega)]) ?_
        refine r_icmp_ge F (tgt := 35) ⟨by omega, by omega⟩ ⟨by omega, by omega⟩ dX9_isText_24 rfl (by decide) (fun h_24 => ?_) (fun h_24 => ?_)
        ·
          refine r_iload_n F rfl rfl dX9_isText_35 rfl ?_
          exact r_zret F Rt (by omega) dX9_isText_36 (by decide) ⟨by rw [← hl]; simp only [N_tx]; rw [if_neg (by omega)], rfl, by rw [← hl]; simp only [N_tx]; rw [if_neg (by omega)], rfl⟩
        ·
          refine r_aload_n F rfl rfl dX9_isText_27 rfl ?_
          refine r_callV F GC (c_X9_isEntry _ _ _ _ hM hTO hq hul) v_X9_168 rfl (hM.1) rfl (by decide) (by decide) (Nat.le_of_ble_eq_true rfl) rfl dX9_isText_28 rfl (fun v lay' mem' n' hp => ?_)
          obtain ⟨q1, q2, q3, q4⟩ := hp
          subst q1; subst q2; subst q3; subst q4
          rcases e1 with he | he
          · refine r_eqz (z := 0) he ?_
            refine r_ist1 F (by decide) rfl dX9_isText_31 rfl ?_
            refine r_goto F (tgt := 12) dX9_isText_32 (by decide) ?_
            refine r_iload_n F rfl rfl dX9_isText_12 rfl ?_
            refine r_if_eq F (tgt := 35) ⟨by omega, by omega⟩ dX9_isText_13 rfl (by decide) (fun h_13 => ?_) (fun h_13 => ?_)
            ·
              refine r_iload_n F rfl rfl dX9_isText_35 rfl ?_
              exact r_zret F Rt (by omega) dX9_isText_36 (by decide) ⟨by rw [← hl]; simp only [N_tx]; rw [if_pos (by omega), if_pos he]; exact congrArg (fun z => some (Value.int (ja_I z))) he, rfl, by rw [← hl]; simp only [N_tx]; rw [if_pos (by omega), if_pos he], rfl⟩
            ·
              exfalso; omega
          · refine r_eqz (z := 1) he ?_
            obtain ⟨g1, g2, g3⟩ := e3 he
            refine r_ist1 F (by decide) rfl dX9_isText_31 rfl ?_
            refine r_goto F (tgt := 12) dX9_isText_32 (by decide) ?_
            exact ih _ _ _ (by omega) ⟨by omega, by omega⟩ ⟨by omega, e2.2⟩ (by rw [← hl]; simp only [N_tx]; rw [if_pos (by omega), if_neg (by omega)])
  exact loop 25 0 0 T (by omega) ⟨by omega, by omega⟩ ⟨by omega, h5.1⟩ hT.symm
abbrev rm_X9_faultPosition : Room := { frames := 4, cells := 0, slots := 0, locals := 87 }
set_option maxRecDepth 100000 in
set_option maxHeartbeats 800000 in
theorem c_X9_faultPosition (l : Launch) (D : va_G) (cA : Nat → ClassId) (B : Nat) {lay : ja_Y} {n : Nat} {m : Nat} {G : ja_M} {v : Nat → Int} (hM : ja_LM lay m) (hTO : N_TO G m)  : ja_Mt l D cA B yX9_faultPosition cX9_faultPosition 1 (some .int) rm_X9_faultPosition [.ref m] lay (ja_rw G (m + 1) v) n (ja_rd lay (ja_rw (N_tG G m (N_rdt G m).2.1 (N_rdt G m).2.2.1 (N_rdt G m).2.2.2) (m + 1) v) n (some (.int (ja_I (if (N_rdt G m).1 = 0 then (N_rdt G m).2.1 else -1004))))) := by
  refine ja_enter [some (.ref m)] (by decide) (Nat.le_of_ble_eq_true rfl) (fun q hq => hq) (fun C F Rt GC hnm => ?_)
  obtain ⟨h5, hch⟩ := id hTO
  obtain ⟨x1, x2, x3, x4⟩ := @N_tx_p (G (m + 5)) (G m 5) 25 0 0 (G (m + 8)) (by omega) (by omega) h5.1 (by omega) (fun i i0 i1 => by omega)
  rw [show N_tx (G (m + 5)) (G m 5) 25 0 0 (G (m + 8)) = N_rdt G m from rfl] at x1 x2 x3 x4
  refine r_mem (mem' := ja_rw (N_tG G m (G m 10) (G m 9) (G (m + 8))) (m + 1) v) (by rw [N_tG_self]) ?_
  refine r_aload_n F rfl rfl dX9_faultPosition_0 rfl ?_
  refine r_callV F GC (c_X9_isText _ _ _ _ hM hTO rfl) v_X9_171 rfl (hM.1) rfl (by decide) (by decide) (Nat.le_of_ble_eq_true rfl) rfl dX9_faultPosition_1 rfl (fun v lay' mem' n' hp => ?_)
  obtain ⟨q1, q2, q3, q4⟩ := hp
  subst q1; subst q2; subst q3; subst q4
  refine r_if_eq F (tgt := 13) ⟨by omega, by omega⟩ dX9_faultPosition_4 rfl (by decide) (fun h_4 => ?_) (fun h_4 => ?_)
  ·
    refine r_aload_n F rfl rfl dX9_faultPosition_13 rfl ?_
    refine r_getI F f_X9_154 (hM.1) rfl dX9_faultPosition_14 rfl ?_
    refine r_eqz (z := (N_rdt G m).2.1) (by rw [ja_rw_n (by omega), N_tG_10]) ?_
    exact r_iret F Rt dX9_faultPosition_17 (by decide) ⟨by first | rw [if_pos h_4] | rw [if_neg h_4], rfl, rfl, rfl⟩
  ·
    refine r_sipush F (by decide) dX9_faultPosition_7 rfl ?_
    refine r_goto F (tgt := 17) dX9_faultPosition_10 (by decide) ?_
    exact r_iret F Rt dX9_faultPosition_17 (by decide) ⟨by first | rw [if_pos h_4] | rw [if_neg h_4], rfl, rfl, rfl⟩
abbrev rm_X9_append : Room := { frames := 1, cells := 0, slots := 0, locals := 22 }
set_option maxRecDepth 100000 in
set_option maxHeartbeats 800000 in
theorem c_X9_append (l : Launch) (D : va_G) (cA : Nat → ClassId) (B : Nat) {lay : ja_Y} {n : Nat} {m : Nat} {G : ja_M} {v : Nat → Int} (hM : ja_LM lay m) {k : Int} (hTO : N_TO G m) (hk : ja_in k) : ja_Mt l D cA B yX9_append cX9_append 2 (some .int) rm_X9_append [.ref m, .int (ja_I k)] lay (ja_rw G (m + 1) v) n (ja_rd lay (ja_rw (if 32 ≤ k ∧ k ≤ 126 ∧ ¬ G m 5 = 120 then ja_up (ja_up G (m + 5) (G m 5).toNat k) m 5 (G m 5 + 1) else G) (m + 1) v) n (some (.int (ja_I (if 32 ≤ k ∧ k ≤ 126 then (if G m 5 = 120 then -1002 else G m 5 + 1) else -1001))))) := by
  refine ja_enter [some (.ref m), some (.int (ja_I k))] (by decide) (Nat.le_of_ble_eq_true rfl) (fun q hq => hq) (fun C F Rt GC hnm => ?_)
  obtain ⟨h5, hch⟩ := id hTO
  obtain ⟨k1_, k2_⟩ := id hk
  refine r_iload_n F rfl rfl dX9_append_0 rfl ?_
  refine r_bipush F (by decide) dX9_append_1 rfl ?_
  refine r_bipush F (by decide) dX9_append_3 rfl ?_
  refine r_callS F GC (c_X9_in _ _ _ _ ⟨by omega, by omega⟩ ⟨by omega, by omega⟩ ⟨by omega, by omega⟩) s_X9_35 rfl (by decide) (by decide) (Nat.le_of_ble_eq_true rfl) rfl dX9_append_5 rfl (fun v lay' mem' n' hp => ?_)
  obtain ⟨q1, q2, q3, q4⟩ := hp
  subst q1; subst q2; subst q3; subst q4
  refine r_if_ne F (tgt := 15) ja_b_in dX9_append_8 rfl (by decide) (fun h_8 => ?_) (fun h_8 => ?_)
  ·
    have b_8 : (32 ≤ k ∧ k ≤ 126) := ja_b_1 h_8
    refine r_aload_n F rfl rfl dX9_append_15 rfl ?_
    refine r_getI F f_X9_150 (hM.1) rfl dX9_append_16 rfl ?_
    refine r_eqz (z := G m 5) (by rw [ja_rw_n (by omega)]) ?_
    refine r_bipush F (by decide) dX9_append_19 rfl ?_
    refine r_icmp_ne F (tgt := 28) ⟨by omega, by omega⟩ ⟨by omega, by omega⟩ dX9_append_21 rfl (by decide) (fun h_21 => ?_) (fun h_21 => ?_)
    ·
      refine r_aload_n F rfl rfl dX9_append_28 rfl ?_
      refine r_getR F f_X9_23 (hM.1) rfl dX9_append_29 rfl ?_
      refine r_aload_n F rfl rfl dX9_append_32 rfl ?_
      refine r_getI F f_X9_150 (hM.1) rfl dX9_append_33 rfl ?_
      refine r_eqz (z := G m 5) (by rw [ja_rw_n (by omega)]) ?_
      refine r_iload_n F rfl rfl dX9_append_36 rfl ?_
      refine r_iast F (ja_LM_5 hM) (by omega) (by omega) (by decide) dX9_append_37 rfl ?_
      refine r_mem (mem' := ja_rw (ja_up G (m + 5) (Int.toNat (G m 5)) k) (m + 1) v) (ja_up_rw (by omega)) ?_
      refine r_aload_n F rfl rfl dX9_append_38 rfl ?_
      refine r_dup F rfl dX9_append_39 rfl ?_
      refine r_getI F f_X9_150 (hM.1) rfl dX9_append_40 rfl ?_
      refine r_eqz (z := G m 5) (by rw [ja_rw_n (by omega), ja_up_a (by omega)]) ?_
      refine r_iconst F dX9_append_43 rfl ?_
      refine r_iadd F dX9_append_44 rfl ?_
      refine r_putI F f_X9_150 (hM.1) rfl dX9_append_45 rfl ?_
      refine r_mem (mem' := ja_rw (ja_up (ja_up G (m + 5) (Int.toNat (G m 5)) k) m 5 ((G m 5) + 1)) (m + 1) v) (ja_up_rw (by omega)) ?_
      refine r_aload_n F rfl rfl dX9_append_48 rfl ?_
      refine r_getI F f_X9_150 (hM.1) rfl dX9_append_49 rfl ?_
      refine r_eqz (z := G m 5 + 1) (by rw [ja_rw_n (by omega), ja_up_s]) ?_
      exact r_iret F Rt dX9_append_52 (by decide) ⟨by rw [if_pos b_8, if_neg h_21], rfl, by rw [if_pos (by omega)], rfl⟩
    ·
      refine r_sipush F (by decide) dX9_append_24 rfl ?_
      exact r_iret F Rt dX9_append_27 (by decide) ⟨by rw [if_pos b_8, if_pos h_21], rfl, by rw [if_neg (by omega)], rfl⟩
  ·
    have b_8 : ¬ (32 ≤ k ∧ k ≤ 126) := ja_b_0.mp h_8
    refine r_sipush F (by decide) dX9_append_11 rfl ?_
    exact r_iret F Rt dX9_append_14 (by decide) ⟨by rw [if_neg b_8], rfl, by rw [if_neg (by omega)], rfl⟩
abbrev rm_X9_clearText : Room := { frames := 0, cells := 0, slots := 0, locals := 0 }
set_option maxRecDepth 100000 in
set_option maxHeartbeats 800000 in
theorem c_X9_clearText (l : Launch) (D : va_G) (cA : Nat → ClassId) (B : Nat) {lay : ja_Y} {n : Nat} {m : Nat} {G : ja_M} {v : Nat → Int} (hM : ja_LM lay m) (hTO : N_TO G m)  : ja_Mt l D cA B yX9_clearText cX9_clearText 2 (some .int) rm_X9_clearText [.ref m] lay (ja_rw G (m + 1) v) n (ja_rd lay (ja_rw (ja_up G m 5 0) (m + 1) v) n (some (.int (ja_I (G m 5))))) := by
  refine ja_enter [some (.ref m), none] (by decide) (Nat.le_of_ble_eq_true rfl) (fun q hq => hq) (fun C F Rt GC hnm => ?_)
  obtain ⟨h5, hch⟩ := id hTO
  refine r_aload_n F rfl rfl dX9_clearText_0 rfl ?_
  refine r_getI F f_X9_150 (hM.1) rfl dX9_clearText_1 rfl ?_
  refine r_eqz (z := G m 5) (by rw [ja_rw_n (by omega)]) ?_
  refine r_ist1 F (by decide) rfl dX9_clearText_4 rfl ?_
  refine r_aload_n F rfl rfl dX9_clearText_5 rfl ?_
  refine r_iconst F dX9_clearText_6 rfl ?_
  refine r_putI F f_X9_150 (hM.1) rfl dX9_clearText_7 rfl ?_
  refine r_mem (mem' := ja_rw (ja_up G m 5 0) (m + 1) v) (ja_up_rw (by omega)) ?_
  refine r_iload_n F rfl rfl dX9_clearText_10 rfl ?_
  exact r_iret F Rt dX9_clearText_11 (by decide) ⟨rfl, rfl, rfl, rfl⟩
abbrev rm_X9_isArrival : Room := { frames := 2, cells := 0, slots := 0, locals := 45 }
set_option maxRecDepth 100000 in
set_option maxHeartbeats 800000 in
theorem c_X9_isArrival (l : Launch) (D : va_G) (cA : Nat → ClassId) (B : Nat) {lay : ja_Y} {n : Nat} {m : Nat} {G : ja_M} {v : Nat → Int} (hM : ja_LM lay m) {p tl i : Int} {T : Nat → Int} (hR : N_R v) (hi : 0 ≤ i ∧ i ≤ 30) (hT : N_tr T i) : ja_Mt l D cA B yX9_isArrival cX9_isArrival 3 (some .boolean) rm_X9_isArrival [.ref m, .int (ja_I (4 * i))] lay (ja_rw (N_tG G m p tl T) (m + 1) v) n (ja_rd lay (ja_rw (N_tG G m p tl T) (m + 1) v) n (some (.int (ja_I (ja_b (N_ia v T i)))))) := by
  refine ja_enter [some (.ref m), some (.int (ja_I (4 * i))), none] (by decide) (Nat.le_of_ble_eq_true rfl) (fun q hq => hq) (fun C F Rt GC hnm => ?_)
  have hC := hR.C
  have hS := hR.S
  obtain ⟨t0, ⟨t1, t1b⟩, ⟨t2, t2b⟩, ⟨t3, t3b⟩⟩ := id hT
  refine r_aload_n F rfl rfl dX9_isArrival_0 rfl ?_
  refine r_getR F f_X9_32 (hM.1) rfl dX9_isArrival_1 rfl ?_
  refine r_iload_n F rfl rfl dX9_isArrival_4 rfl ?_
  refine r_iald F (ja_LM_8 hM) (by omega) (by omega) (by decide) dX9_isArrival_5 rfl ?_
  refine r_eqz (z := (T (Int.toNat (4 * i)))) (by rw [ja_rw_n (by omega), N_tG_8]) ?_
  refine r_if_ne F (tgt := 23) ⟨by omega, by omega⟩ dX9_isArrival_6 rfl (by decide) (fun h_6 => ?_) (fun h_6 => ?_)
  ·
    have hz0 : ¬ T (Int.toNat (4 * i)) = 0 := h_6
    refine r_aload_n F rfl rfl dX9_isArrival_23 rfl ?_
    have J39 : ja_W C 0 0 lay (ja_rw (N_tG G m p tl T) (m + 1) v) n 39 [some (.ref (m)), some (.int (ja_I ((4 * i)))), none] [.int (ja_I (if T (Int.toNat (4 * i)) = 1 then 1 else 0)), .ref (m)] := by
      have hjb : 0 ≤ (if T (Int.toNat (4 * i)) = 1 then (1 : Int) else 0) ∧ (if T (Int.toNat (4 * i)) = 1 then (1 : Int) else 0) ≤ 1 := by split <;> omega
      refine r_aload_n F rfl rfl dX9_isArrival_39 rfl ?_
      refine r_getR F f_X9_32 (hM.1) rfl dX9_isArrival_40 rfl ?_
      refine r_iload_n F rfl rfl dX9_isArrival_43 rfl ?_
      refine r_iconst F dX9_isArrival_44 rfl ?_
      refine r_iadd F dX9_isArrival_45 rfl ?_
      refine r_iald F (ja_LM_8 hM) (by omega) (by omega) (by decide) dX9_isArrival_46 rfl ?_
      refine r_eqz (z := (T (Int.toNat (4 * i + 1)))) (by rw [ja_rw_n (by omega), N_tG_8]) ?_
      refine r_aload_n F rfl rfl dX9_isArrival_47 rfl ?_
      refine r_getR F f_X9_32 (hM.1) rfl dX9_isArrival_48 rfl ?_
      refine r_iload_n F rfl rfl dX9_isArrival_51 rfl ?_
      refine r_iconst F dX9_isArrival_52 rfl ?_
      refine r_iadd F dX9_isArrival_53 rfl ?_
      refine r_iald F (ja_LM_8 hM) (by omega) (by omega) (by decide) dX9_isArrival_54 rfl ?_
      refine r_eqz (z := (T (Int.toNat (4 * i + 2)))) (by rw [ja_rw_n (by omega), N_tG_8]) ?_
      refine r_callV F GC (c_X9_isPacket _ _ _ _ hM hS hjb ⟨by omega, by omega⟩ ⟨by omega, by omega⟩) v_X9_91 rfl (hM.1) rfl (by decide) (by decide) (Nat.le_of_ble_eq_true rfl) rfl dX9_isArrival_55 rfl (fun v lay' mem' n' hp => ?_)
      obtain ⟨q1, q2, q3, q4⟩ := hp
      subst q1; subst q2; subst q3; subst q4
      refine r_ist2 F (by decide) rfl dX9_isArrival_58 rfl ?_
      refine r_iload_n F rfl rfl dX9_isArrival_59 rfl ?_
      refine r_if_eq F (tgt := 85) ja_b_in dX9_isArrival_60 rfl (by decide) (fun h_60 => ?_) (fun h_60 => ?_)
      ·
        have b_60 : ¬ (N_hP v (if T (Int.toNat (4 * i)) = 1 then 1 else 0) (T (Int.toNat (4 * i + 1))) (T (Int.toNat (4 * i + 2)))) := ja_b_0.mp h_60
        refine r_iconst F dX9_isArrival_85 rfl ?_
        exact r_zret F Rt (by omega) dX9_isArrival_86 (by decide) ⟨by first | rw [ja_b_0.mpr (fun q : N_ia v T i => by have q2 := q.2; omega)] | rw [ja_b_0.mpr (fun q : N_ia v T i => b_60 (by have q1 := q.1; rw [if_pos hz0] at q1; exact q1))] | rw [ja_b_0.mpr (fun q : N_ia v T i => b_60 (by have q1 := q.1; rw [if_neg hz0] at q1; exact q1))] | (have hyes : N_ia v T i := ⟨by rw [if_pos hz0]; exact b_60, by omega⟩; unfold ja_b; rw [if_pos hyes]) | (have hyes : N_ia v T i := ⟨by rw [if_neg hz0]; exact b_60, by omega⟩; unfold ja_b; rw [if_pos hyes]), rfl, rfl, rfl⟩
      ·
        have b_60 : (N_hP v (if T (Int.toNat (4 * i)) = 1 then 1 else 0) (T (Int.toNat (4 * i + 1))) (T (Int.toNat (4 * i + 2)))) := ja_b_1 h_60
        refine r_aload_n F rfl rfl dX9_isArrival_63 rfl ?_
        refine r_getR F f_X9_32 (hM.1) rfl dX9_isArrival_64 rfl ?_
        refine r_iload_n F rfl rfl dX9_isArrival_67 rfl ?_
        refine r_iconst F dX9_isArrival_68 rfl ?_
        refine r_iadd F dX9_isArrival_69 rfl ?_
        refine r_iald F (ja_LM_8 hM) (by omega) (by omega) (by decide) dX9_isArrival_70 rfl ?_
        refine r_eqz (z := (T (Int.toNat (4 * i + 3)))) (by rw [ja_rw_n (by omega), N_tG_8]) ?_
        refine r_aload_n F rfl rfl dX9_isArrival_71 rfl ?_
        refine r_getR F f_X9_7 (hM.1) rfl dX9_isArrival_72 rfl ?_
        refine r_bipush F (by decide) dX9_isArrival_75 rfl ?_
        refine r_iald F (ja_LM_1 hM) (by omega) (by omega) (by decide) dX9_isArrival_77 rfl ?_
        refine r_eqz (z := (v 9)) (by rw [ja_rw_s, show Int.toNat 9 = 9 from rfl]) ?_
        refine r_icmp_le F (tgt := 85) ⟨by omega, by omega⟩ ⟨by omega, by omega⟩ dX9_isArrival_78 rfl (by decide) (fun h_78 => ?_) (fun h_78 => ?_)
        ·
          refine r_iconst F dX9_isArrival_85 rfl ?_
          exact r_zret F Rt (by omega) dX9_isArrival_86 (by decide) ⟨by first | rw [ja_b_0.mpr (fun q : N_ia v T i => by have q2 := q.2; omega)] | rw [ja_b_0.mpr (fun q : N_ia v T i => b_60 (by have q1 := q.1; rw [if_pos hz0] at q1; exact q1))] | rw [ja_b_0.mpr (fun q : N_ia v T i => b_60 (by have q1 := q.1; rw [if_neg hz0] at q1; exact q1))] | (have hyes : N_ia v T i := ⟨by rw [if_pos hz0]; exact b_60, by omega⟩; unfold ja_b; rw [if_pos hyes]) | (have hyes : N_ia v T i := ⟨by rw [if_neg hz0]; exact b_60, by omega⟩; unfold ja_b; rw [if_pos hyes]), rfl, rfl, rfl⟩
        ·
          refine r_iconst F dX9_isArrival_81 rfl ?_
          refine r_goto F (tgt := 86) dX9_isArrival_82 (by decide) ?_
          exact r_zret F Rt (by omega) dX9_isArrival_86 (by decide) ⟨by first | rw [ja_b_0.mpr (fun q : N_ia v T i => by have q2 := q.2; omega)] | rw [ja_b_0.mpr (fun q : N_ia v T i => b_60 (by have q1 := q.1; rw [if_pos hz0] at q1; exact q1))] | rw [ja_b_0.mpr (fun q : N_ia v T i => b_60 (by have q1 := q.1; rw [if_neg hz0] at q1; exact q1))] | (have hyes : N_ia v T i := ⟨by rw [if_pos hz0]; exact b_60, by omega⟩; unfold ja_b; rw [if_pos hyes]) | (have hyes : N_ia v T i := ⟨by rw [if_neg hz0]; exact b_60, by omega⟩; unfold ja_b; rw [if_pos hyes]), rfl, rfl, rfl⟩
    refine r_aload_n F rfl rfl dX9_isArrival_24 rfl ?_
    refine r_getR F f_X9_32 (hM.1) rfl dX9_isArrival_25 rfl ?_
    refine r_iload_n F rfl rfl dX9_isArrival_28 rfl ?_
    refine r_iald F (ja_LM_8 hM) (by omega) (by omega) (by decide) dX9_isArrival_29 rfl ?_
    refine r_eqz (z := (T (Int.toNat (4 * i)))) (by rw [ja_rw_n (by omega), N_tG_8]) ?_
    refine r_iconst F dX9_isArrival_30 rfl ?_
    refine r_icmp_ne F (tgt := 38) ⟨by omega, by omega⟩ ⟨by omega, by omega⟩ dX9_isArrival_31 rfl (by decide) (fun h_31 => ?_) (fun h_31 => ?_)
    ·
      refine r_iconst F dX9_isArrival_38 rfl ?_
      refine r_eqz (z := if T (Int.toNat (4 * i)) = 1 then 1 else 0) (by first | rw [if_pos (by omega)] | rw [if_neg (by omega)]) ?_
      exact J39
    ·
      refine r_iconst F dX9_isArrival_34 rfl ?_
      refine r_goto F (tgt := 39) dX9_isArrival_35 (by decide) ?_
      refine r_eqz (z := if T (Int.toNat (4 * i)) = 1 then 1 else 0) (by first | rw [if_pos (by omega)] | rw [if_neg (by omega)]) ?_
      exact J39
  ·
    have hz0 : T (Int.toNat (4 * i)) = 0 := h_6
    refine r_aload_n F rfl rfl dX9_isArrival_9 rfl ?_
    refine r_getR F f_X9_32 (hM.1) rfl dX9_isArrival_10 rfl ?_
    refine r_iload_n F rfl rfl dX9_isArrival_13 rfl ?_
    refine r_iconst F dX9_isArrival_14 rfl ?_
    refine r_iadd F dX9_isArrival_15 rfl ?_
    refine r_iald F (ja_LM_8 hM) (by omega) (by omega) (by decide) dX9_isArrival_16 rfl ?_
    refine r_eqz (z := (T (Int.toNat (4 * i + 1)))) (by rw [ja_rw_n (by omega), N_tG_8]) ?_
    refine r_callS F GC (c_X9_isFrame _ _ _ _ ⟨by omega, by omega⟩) s_X9_84 rfl (by decide) (by decide) (Nat.le_of_ble_eq_true rfl) rfl dX9_isArrival_17 rfl (fun v lay' mem' n' hp => ?_)
    obtain ⟨q1, q2, q3, q4⟩ := hp
    subst q1; subst q2; subst q3; subst q4
    refine r_goto F (tgt := 58) dX9_isArrival_20 (by decide) ?_
    refine r_ist2 F (by decide) rfl dX9_isArrival_58 rfl ?_
    refine r_iload_n F rfl rfl dX9_isArrival_59 rfl ?_
    refine r_if_eq F (tgt := 85) ja_b_in dX9_isArrival_60 rfl (by decide) (fun h_60 => ?_) (fun h_60 => ?_)
    ·
      have b_60 : ¬ (N_isF (T (Int.toNat (4 * i + 1)))) := ja_b_0.mp h_60
      refine r_iconst F dX9_isArrival_85 rfl ?_
      exact r_zret F Rt (by omega) dX9_isArrival_86 (by decide) ⟨by first | rw [ja_b_0.mpr (fun q : N_ia v T i => by have q2 := q.2; omega)] | rw [ja_b_0.mpr (fun q : N_ia v T i => b_60 (by have q1 := q.1; rw [if_pos hz0] at q1; exact q1))] | rw [ja_b_0.mpr (fun q : N_ia v T i => b_60 (by have q1 := q.1; rw [if_neg hz0] at q1; exact q1))] | (have hyes : N_ia v T i := ⟨by rw [if_pos hz0]; exact b_60, by omega⟩; unfold ja_b; rw [if_pos hyes]) | (have hyes : N_ia v T i := ⟨by rw [if_neg hz0]; exact b_60, by omega⟩; unfold ja_b; rw [if_pos hyes]), rfl, rfl, rfl⟩
    ·
      have b_60 : (N_isF (T (Int.toNat (4 * i + 1)))) := ja_b_1 h_60
      refine r_aload_n F rfl rfl dX9_isArrival_63 rfl ?_
      refine r_getR F f_X9_32 (hM.1) rfl dX9_isArrival_64 rfl ?_
      refine r_iload_n F rfl rfl dX9_isArrival_67 rfl ?_
      refine r_iconst F dX9_isArrival_68 rfl ?_
      refine r_iadd F dX9_isArrival_69 rfl ?_
      refine r_iald F (ja_LM_8 hM) (by omega) (by omega) (by decide) dX9_isArrival_70 rfl ?_
      refine r_eqz (z := (T (Int.toNat (4 * i + 3)))) (by rw [ja_rw_n (by omega), N_tG_8]) ?_
      refine r_aload_n F rfl rfl dX9_isArrival_71 rfl ?_
      refine r_getR F f_X9_7 (hM.1) rfl dX9_isArrival_72 rfl ?_
      refine r_bipush F (by decide) dX9_isArrival_75 rfl ?_
      refine r_iald F (ja_LM_1 hM) (by omega) (by omega) (by decide) dX9_isArrival_77 rfl ?_
      refine r_eqz (z := (v 9)) (by rw [ja_rw_s, show Int.toNat 9 = 9 from rfl]) ?_
      refine r_icmp_le F (tgt := 85) ⟨by omega, by omega⟩ ⟨by omega, by omega⟩ dX9_isArrival_78 rfl (by decide) (fun h_78 => ?_) (fun h_78 => ?_)
      ·
        refine r_iconst F dX9_isArrival_85 rfl ?_
        exact r_zret F Rt (by omega) dX9_isArrival_86 (by decide) ⟨by first | rw [ja_b_0.mpr (fun q : N_ia v T i => by have q2 := q.2; omega)] | rw [ja_b_0.mpr (fun q : N_ia v T i => b_60 (by have q1 := q.1; rw [if_pos hz0] at q1; exact q1))] | rw [ja_b_0.mpr (fun q : N_ia v T i => b_60 (by have q1 := q.1; rw [if_neg hz0] at q1; exact q1))] | (have hyes : N_ia v T i := ⟨by rw [if_pos hz0]; exact b_60, by omega⟩; unfold ja_b; rw [if_pos hyes]) | (have hyes : N_ia v T i := ⟨by rw [if_neg hz0]; exact b_60, by omega⟩; unfold ja_b; rw [if_pos hyes]), rfl, rfl, rfl⟩
      ·
        refine r_iconst F dX9_isArrival_81 rfl ?_
        refine r_goto F (tgt := 86) dX9_isArrival_82 (by decide) ?_
        exact r_zret F Rt (by omega) dX9_isArrival_86 (by decide) ⟨by first | rw [ja_b_0.mpr (fun q : N_ia v T i => by have q2 := q.2; omega)] | rw [ja_b_0.mpr (fun q : N_ia v T i => b_60 (by have q1 := q.1; rw [if_pos hz0] at q1; exact q1))] | rw [ja_b_0.mpr (fun q : N_ia v T i => b_60 (by have q1 := q.1; rw [if_neg hz0] at q1; exact q1))] | (have hyes : N_ia v T i := ⟨by rw [if_pos hz0]; exact b_60, by omega⟩; unfold ja_b; rw [if_pos hyes]) | (have hyes : N_ia v T i := ⟨by rw [if_neg hz0]; exact b_60, by omega⟩; unfold ja_b; rw [if_pos hyes]), rfl, rfl, rfl⟩
abbrev rm_X9_schedule : Room := { frames := 4, cells := 0, slots := 0, locals := 87 }
set_option maxRecDepth 100000 in
set_option maxHeartbeats 800000 in
theorem c_X9_schedule (l : Launch) (D : va_G) (cA : Nat → ClassId) (B : Nat) {lay : ja_Y} {n : Nat} {m : Nat} {G : ja_M} {v : Nat → Int} (hM : ja_LM lay m) (hR : N_R v) (hTO : N_TO G m)  : ja_Mt l D cA B yX9_schedule cX9_schedule 2 (some .int) rm_X9_schedule [.ref m] lay (ja_rw G (m + 1) v) n (ja_rd lay (ja_rw (N_tG G m (N_rdt G m).2.1 (N_rdt G m).2.2.1 (N_rdt G m).2.2.2) (m + 1) (N_sw v (N_rdt G m))) n (some (.int (ja_I (N_sr v (N_rdt G m)))))) := by
  refine ja_enter [some (.ref m), none] (by decide) (Nat.le_of_ble_eq_true rfl) (fun q hq => hq) (fun C F Rt GC hnm => ?_)
  have hC := hR.C
  have hS := hR.S
  obtain ⟨h5, hch⟩ := id hTO
  obtain ⟨x1, x2, x3, x4⟩ := @N_tx_p (G (m + 5)) (G m 5) 25 0 0 (G (m + 8)) (by omega) (by omega) h5.1 (by omega) (fun i i0 i1 => by omega)
  rw [show N_tx (G (m + 5)) (G m 5) 25 0 0 (G (m + 8)) = N_rdt G m from rfl] at x1 x2 x3 x4
  have hC25 : 0 ≤ v 25 := by omega
  refine r_mem (mem' := ja_rw (N_tG G m (G m 10) (G m 9) (G (m + 8))) (m + 1) v) (by rw [N_tG_self]) ?_
  refine r_aload_n F rfl rfl dX9_schedule_0 rfl ?_
  refine r_callV F GC (c_X9_isText _ _ _ _ hM hTO rfl) v_X9_171 rfl (hM.1) rfl (by decide) (by decide) (Nat.le_of_ble_eq_true rfl) rfl dX9_schedule_1 rfl (fun v lay' mem' n' hp => ?_)
  obtain ⟨q1, q2, q3, q4⟩ := hp
  subst q1; subst q2; subst q3; subst q4
  refine r_if_ne F (tgt := 11) ⟨by omega, by omega⟩ dX9_schedule_4 rfl (by decide) (fun h_4 => ?_) (fun h_4 => ?_)
  ·
    have hx1 : (N_rdt G m).1 = 1 := by omega
    obtain ⟨x4a, x4b⟩ := x4 hx1
    refine r_iconst F dX9_schedule_11 rfl ?_
    refine r_ist1 F (by decide) rfl dX9_schedule_12 rfl ?_
    have loop : ∀ (d c : Nat), c + d = (N_rdt G m).2.2.1.toNat → N_cas v (N_rdt G m).2.2.2 d c = N_cas v (N_rdt G m).2.2.2 (N_rdt G m).2.2.1.toNat 0 → ja_W C 0 0 lay (ja_rw (N_tG G m (N_rdt G m).2.1 (N_rdt G m).2.2.1 (N_rdt G m).2.2.2) (m + 1) (v)) n 13 [some (.ref (m)), some (.int (ja_I ((c : Int))))] [] := by
      intro d
      induction d with
      | zero =>
        intro c hc hl
        refine r_iload_n F rfl rfl dX9_schedule_13 rfl ?_
        refine r_aload_n F rfl rfl dX9_schedule_14 rfl ?_
        refine r_getI F f_X9_160 (hM.1) rfl dX9_schedule_15 rfl ?_
        refine r_eqz (z := (N_rdt G m).2.2.1) (by rw [ja_rw_n (by omega), N_tG_9]) ?_
        refine r_icmp_ge F (tgt := 41) ⟨by omega, by omega⟩ ⟨by omega, by omega⟩ dX9_schedule_18 rfl (by decide) (fun h_18 => ?_) (fun h_18 => ?_)
        ·
          have hc1 : ¬ N_cas v (N_rdt G m).2.2.2 (N_rdt G m).2.2.1.toNat 0 = 0 := by rw [← hl]; exact (by decide : ¬ (1 : Int) = 0)
          refine r_aload_n F rfl rfl dX9_schedule_41 rfl ?_
          refine r_getR F f_X9_7 (hM.1) rfl dX9_schedule_42 rfl ?_
          refine r_bipush F (by decide) dX9_schedule_45 rfl ?_
          refine r_iald F (ja_LM_1 hM) (by omega) (by omega) (by decide) dX9_schedule_47 rfl ?_
          refine r_eqz (z := ((v) 25)) (by rw [ja_rw_s, show Int.toNat 25 = 25 from rfl]) ?_
          refine r_aload_n F rfl rfl dX9_schedule_48 rfl ?_
          refine r_getI F f_X9_160 (hM.1) rfl dX9_schedule_49 rfl ?_
          refine r_eqz (z := (N_rdt G m).2.2.1) (by rw [ja_rw_n (by omega), N_tG_9]) ?_
          refine r_iadd F dX9_schedule_52 rfl ?_
          refine r_bipush F (by decide) dX9_schedule_53 rfl ?_
          refine r_icmp_le F (tgt := 62) ⟨by omega, by omega⟩ ⟨by omega, by omega⟩ dX9_schedule_55 rfl (by decide) (fun h_55 => ?_) (fun h_55 => ?_)
          ·
            refine r_iconst F dX9_schedule_62 rfl ?_
            refine r_ist1 F (by decide) rfl dX9_schedule_63 rfl ?_
            have lp2 : ∀ (d c : Nat), c + d = (4 * (N_rdt G m).2.2.1).toNat → ja_W C 0 0 lay (ja_rw (N_tG G m (N_rdt G m).2.1 (N_rdt G m).2.2.1 (N_rdt G m).2.2.2) (m + 1) (N_cpp v (N_rdt G m).2.2.2 c)) n 64 [some (.ref (m)), some (.int (ja_I ((c : Int))))] [] := by
              intro d
              induction d with
              | zero =>
                intro c hc
                have hn25 := N_cpp_n (v := v) (T := (N_rdt G m).2.2.2) (q := 25) hC25 c (by omega)
                refine r_iload_n F rfl rfl dX9_schedule_64 rfl ?_
                refine r_iconst F dX9_schedule_65 rfl ?_
                refine r_aload_n F rfl rfl dX9_schedule_66 rfl ?_
                refine r_getI F f_X9_160 (hM.1) rfl dX9_schedule_67 rfl ?_
                refine r_eqz (z := (N_rdt G m).2.2.1) (by rw [ja_rw_n (by omega), N_tG_9]) ?_
                refine r_imul F dX9_schedule_70 rfl ?_
                refine r_icmp_ge F (tgt := 106) ⟨by omega, by omega⟩ ⟨by omega, by omega⟩ dX9_schedule_71 rfl (by decide) (fun h_71 => ?_) (fun h_71 => ?_)
                ·
                  refine r_aload_n F rfl rfl dX9_schedule_106 rfl ?_
                  refine r_getR F f_X9_7 (hM.1) rfl dX9_schedule_107 rfl ?_
                  refine r_bipush F (by decide) dX9_schedule_110 rfl ?_
                  refine r_dup2 F rfl rfl dX9_schedule_112 rfl ?_
                  refine r_iald F (ja_LM_1 hM) (by omega) (by omega) (by decide) dX9_schedule_113 rfl ?_
                  refine r_eqz (z := (v 25)) (by rw [ja_rw_s, show Int.toNat 25 = 25 from rfl]; exact hn25) ?_
                  refine r_aload_n F rfl rfl dX9_schedule_114 rfl ?_
                  refine r_getI F f_X9_160 (hM.1) rfl dX9_schedule_115 rfl ?_
                  refine r_eqz (z := (N_rdt G m).2.2.1) (by rw [ja_rw_n (by omega), N_tG_9]) ?_
                  refine r_iadd F dX9_schedule_118 rfl ?_
                  refine r_iast F (ja_LM_1 hM) (by omega) (by omega) (by decide) dX9_schedule_119 rfl ?_
                  refine r_mem (mem' := ja_rw (N_tG G m (N_rdt G m).2.1 (N_rdt G m).2.2.1 (N_rdt G m).2.2.2) (m + 1) (ja_rs (N_cpp v (N_rdt G m).2.2.2 c) 25 ((v 25) + ((N_rdt G m).2.2.1)))) (ja_rw_up _ _ _ _ _) ?_
                  refine r_aload_n F rfl rfl dX9_schedule_120 rfl ?_
                  refine r_getI F f_X9_160 (hM.1) rfl dX9_schedule_121 rfl ?_
                  refine r_eqz (z := (N_rdt G m).2.2.1) (by rw [ja_rw_n (by omega), N_tG_9]) ?_
                  exact r_iret F Rt dX9_schedule_124 (by decide) ⟨by rw [N_sr, if_neg (by omega), if_neg hc1, if_neg (by omega)], rfl, by rw [N_sw, if_neg (by omega), if_neg hc1, if_neg (by omega), N_sd, show (4 * (N_rdt G m).2.2.1).toNat = c by omega], rfl⟩
                ·
                  exfalso; omega
              | succ d ih =>
                intro c hc
                have hn25 := N_cpp_n (v := v) (T := (N_rdt G m).2.2.2) (q := 25) hC25 c (by omega)
                refine r_iload_n F rfl rfl dX9_schedule_64 rfl ?_
                refine r_iconst F dX9_schedule_65 rfl ?_
                refine r_aload_n F rfl rfl dX9_schedule_66 rfl ?_
                refine r_getI F f_X9_160 (hM.1) rfl dX9_schedule_67 rfl ?_
                refine r_eqz (z := (N_rdt G m).2.2.1) (by rw [ja_rw_n (by omega), N_tG_9]) ?_
                refine r_imul F dX9_schedule_70 rfl ?_
                refine r_icmp_ge F (tgt := 106) ⟨by omega, by omega⟩ ⟨by omega, by omega⟩ dX9_schedule_71 rfl (by decide) (fun h_71 => ?_) (fun h_71 => ?_)
                ·
                  exfalso; omega
                ·
                  refine r_aload_n F rfl rfl dX9_schedule_74 rfl ?_
                  refine r_getR F f_X9_7 (hM.1) rfl dX9_schedule_75 rfl ?_
                  refine r_sipush F (by decide) dX9_schedule_78 rfl ?_
                  refine r_iconst F dX9_schedule_81 rfl ?_
                  refine r_aload_n F rfl rfl dX9_schedule_82 rfl ?_
                  refine r_getR F f_X9_7 (hM.1) rfl dX9_schedule_83 rfl ?_
                  refine r_bipush F (by decide) dX9_schedule_86 rfl ?_
                  refine r_iald F (ja_LM_1 hM) (by omega) (by omega) (by decide) dX9_schedule_88 rfl ?_
                  refine r_eqz (z := (v 25)) (by rw [ja_rw_s, show Int.toNat 25 = 25 from rfl]; exact hn25) ?_
                  refine r_imul F dX9_schedule_89 rfl ?_
                  refine r_iadd F dX9_schedule_90 rfl ?_
                  refine r_iload_n F rfl rfl dX9_schedule_91 rfl ?_
                  refine r_iadd F dX9_schedule_92 rfl ?_
                  refine r_aload_n F rfl rfl dX9_schedule_93 rfl ?_
                  refine r_getR F f_X9_32 (hM.1) rfl dX9_schedule_94 rfl ?_
                  refine r_iload_n F rfl rfl dX9_schedule_97 rfl ?_
                  refine r_iald F (ja_LM_8 hM) (by omega) (by omega) (by decide) dX9_schedule_98 rfl ?_
                  refine r_eqz (z := ((N_rdt G m).2.2.2 c)) (by rw [ja_rw_n (by omega), N_tG_8, ja_nat]) ?_
                  refine r_iast F (ja_LM_1 hM) (by omega) (by omega) (by decide) dX9_schedule_99 rfl ?_
                  refine r_mem (mem' := ja_rw (N_tG G m (N_rdt G m).2.1 (N_rdt G m).2.2.1 (N_rdt G m).2.2.2) (m + 1) (ja_rs (N_cpp v (N_rdt G m).2.2.2 c) (Int.toNat ((2388 + (4 * (v 25))) + (c : Int))) ((N_rdt G m).2.2.2 c))) (ja_rw_up _ _ _ _ _) ?_
                  refine r_inc1 F (by decide) rfl dX9_schedule_100 rfl ?_
                  refine r_goto F (tgt := 64) dX9_schedule_103 (by decide) ?_
                  exact ih (c + 1) (by omega)
            exact lp2 ((4 * (N_rdt G m).2.2.1).toNat) 0 (by omega)
          ·
            refine r_sipush F (by decide) dX9_schedule_58 rfl ?_
            exact r_iret F Rt dX9_schedule_61 (by decide) ⟨by rw [N_sr, if_neg (by omega), if_neg hc1, if_pos (by omega)], rfl, by rw [N_sw, if_neg (by omega), if_neg hc1, if_pos (by omega)], rfl⟩
        ·
          exfalso; omega
      | succ d ih =>
        intro c hc hl
        refine r_iload_n F rfl rfl dX9_schedule_13 rfl ?_
        refine r_aload_n F rfl rfl dX9_schedule_14 rfl ?_
        refine r_getI F f_X9_160 (hM.1) rfl dX9_schedule_15 rfl ?_
        refine r_eqz (z := (N_rdt G m).2.2.1) (by rw [ja_rw_n (by omega), N_tG_9]) ?_
        refine r_icmp_ge F (tgt := 41) ⟨by omega, by omega⟩ ⟨by omega, by omega⟩ dX9_schedule_18 rfl (by decide) (fun h_18 => ?_) (fun h_18 => ?_)
        ·
          exfalso; omega
        ·
          refine r_aload_n F rfl rfl dX9_schedule_21 rfl ?_
          refine r_iconst F dX9_schedule_22 rfl ?_
          refine r_iload_n F rfl rfl dX9_schedule_23 rfl ?_
          refine r_imul F dX9_schedule_24 rfl ?_
          refine r_callV F GC (c_X9_isArrival _ _ _ _ hM (i := (c : Int)) hR ⟨by omega, by omega⟩ (x4b _ (by omega) (by omega))) v_X9_174 rfl (hM.1) rfl (by decide) (by decide) (Nat.le_of_ble_eq_true rfl) rfl dX9_schedule_25 rfl (fun v lay' mem' n' hp => ?_)
          obtain ⟨q1, q2, q3, q4⟩ := hp
          subst q1; subst q2; subst q3; subst q4
          refine r_if_ne F (tgt := 35) ja_b_in dX9_schedule_28 rfl (by decide) (fun h_28 => ?_) (fun h_28 => ?_)
          ·
            have b_28 : (N_ia v (N_rdt G m).2.2.2 (c : Int)) := ja_b_1 h_28
            refine r_inc1 F (by decide) rfl dX9_schedule_35 rfl ?_
            refine r_goto F (tgt := 13) dX9_schedule_38 (by decide) ?_
            exact ih (c + 1) (by omega) (by rw [← hl]; simp only [N_cas]; rw [if_pos b_28])
          ·
            have b_28 : ¬ (N_ia v (N_rdt G m).2.2.2 (c : Int)) := ja_b_0.mp h_28
            refine r_sipush F (by decide) dX9_schedule_31 rfl ?_
            exact r_iret F Rt dX9_schedule_34 (by decide) ⟨by rw [N_sr, if_neg (by omega), if_pos (by rw [← hl]; simp only [N_cas]; rw [if_neg b_28])], rfl, by rw [N_sw, if_neg (by omega), if_pos (by rw [← hl]; simp only [N_cas]; rw [if_neg b_28])], rfl⟩
    exact loop _ 0 (by omega) rfl
  ·
    refine r_sipush F (by decide) dX9_schedule_7 rfl ?_
    exact r_iret F Rt dX9_schedule_10 (by decide) ⟨by rw [N_sr, if_pos h_4], rfl, by rw [N_sw, if_pos h_4], rfl⟩
