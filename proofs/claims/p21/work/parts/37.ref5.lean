abbrev rm_X9_lagOfHistory : Room := { frames := 1, cells := 0, slots := 0, locals := 21 }
set_option maxRecDepth 100000 in
set_option maxHeartbeats 800000 in
theorem c_X9_lagOfHistory (l : Launch) (D : va_G) (cA : Nat → ClassId) (B : Nat) {lay : ja_Y} {n : Nat} {m : Nat} {G : ja_M} {v : Nat → Int} (hM : ja_LM lay m) (hR : N_R v) : ja_Mt l D cA B yX9_lagOfHistory cX9_lagOfHistory 6 (some .int) rm_X9_lagOfHistory [.ref m] lay (ja_rw G (m + 1) v) n (ja_rd lay (ja_rw G (m + 1) v) n (some (.int (ja_I (N_lh v))))) := by
  refine ja_enter [some (.ref m), none, none, none, none, none] (by decide) (Nat.le_of_ble_eq_true rfl) (fun q hq => hq) (fun C F Rt GC hnm => ?_)
  have hC := hR.C
  have hg : ∀ j, ja_sp (N_og v j) := fun j => N_ol_in hR
  have hlk : N_lk v ≤ 14 ∧ (4 ≤ v 12 → 2 * ((N_lk v : Int) + 2) ≤ v 12 ∧ (N_lk v = 14 ∨ v 12 < 2 * ((N_lk v : Int) + 3))) := by
    unfold N_lk
    split <;> omega
  refine r_iconst F dX9_lagOfHistory_0 rfl ?_
  refine r_ist1 F (by decide) rfl dX9_lagOfHistory_1 rfl ?_
  refine r_iconst F dX9_lagOfHistory_2 rfl ?_
  refine r_ist2 F (by decide) rfl dX9_lagOfHistory_3 rfl ?_
  refine r_iconst F dX9_lagOfHistory_4 rfl ?_
  refine r_ist3 F (by decide) rfl dX9_lagOfHistory_5 rfl ?_
  have loop : ∀ (d c : Nat), c + d = N_lk v → 4 ≤ v 12 → ja_W C 0 0 lay (ja_rw G (m + 1) v) n 6 [some (.ref m), some (.int (ja_I (P_lg (N_og v) 1 c).1)), some (.int (ja_I (P_lg (N_og v) 1 c).2)), some (.int (ja_I ((c : Int) + 3))), none, none] [] := by
    intro d
    induction d with
    | zero =>
      intro c hc h4
      have b1 := P_lg_in (ex := 1) hg c (by omega)
      have b2 := P_dif_in hg (c + 3) (c + 3)
      have b3 := ja_mulb b2.1 (by omega : P_dif (N_og v) (c + 3) (c + 3) ≤ 3400) (by omega : 0 ≤ (P_lg (N_og v) 1 c).1) (by omega : (P_lg (N_og v) 1 c).1 ≤ 16)
      have b4 := ja_mulb b1.2.1 b1.2.2 (by omega : 0 ≤ (c : Int) + 3) (by omega : (c : Int) + 3 ≤ 17)
      refine r_iload_n F rfl rfl dX9_lagOfHistory_6 rfl ?_
      refine r_bipush F (by decide) dX9_lagOfHistory_7 rfl ?_
      refine r_icmp_gt F (tgt := 91) ⟨by omega, by omega⟩ ⟨by omega, by omega⟩ dX9_lagOfHistory_9 rfl (by decide) (fun h_9 => ?_) (fun h_9 => ?_)
      ·
        refine r_iload_n F rfl rfl dX9_lagOfHistory_91 rfl ?_
        exact r_iret F Rt dX9_lagOfHistory_92 (by decide) ⟨by rw [N_lh, if_neg (by omega), show N_lk v = c by omega], rfl, rfl, rfl⟩
      ·
        refine r_iconst F dX9_lagOfHistory_12 rfl ?_
        refine r_iload_n F rfl rfl dX9_lagOfHistory_13 rfl ?_
        refine r_imul F dX9_lagOfHistory_14 rfl ?_
        refine r_aload_n F rfl rfl dX9_lagOfHistory_15 rfl ?_
        refine r_getR F f_X9_7 (hM.1) rfl dX9_lagOfHistory_16 rfl ?_
        refine r_bipush F (by decide) dX9_lagOfHistory_19 rfl ?_
        refine r_iald F (ja_LM_1 hM) (by omega) (by omega) (by decide) dX9_lagOfHistory_21 rfl ?_
        refine r_eqz (z := (v 12)) (by rw [ja_rw_s, show Int.toNat 12 = 12 from rfl]) ?_
        refine r_icmp_gt F (tgt := 91) ⟨by omega, by omega⟩ ⟨by omega, by omega⟩ dX9_lagOfHistory_22 rfl (by decide) (fun h_22 => ?_) (fun h_22 => ?_)
        ·
          refine r_iload_n F rfl rfl dX9_lagOfHistory_91 rfl ?_
          exact r_iret F Rt dX9_lagOfHistory_92 (by decide) ⟨by rw [N_lh, if_neg (by omega), show N_lk v = c by omega], rfl, rfl, rfl⟩
        ·
          exfalso; omega
    | succ d ih =>
      intro c hc h4
      have b1 := P_lg_in (ex := 1) hg c (by omega)
      have b2 := P_dif_in hg (c + 3) (c + 3)
      have b3 := ja_mulb b2.1 (by omega : P_dif (N_og v) (c + 3) (c + 3) ≤ 3400) (by omega : 0 ≤ (P_lg (N_og v) 1 c).1) (by omega : (P_lg (N_og v) 1 c).1 ≤ 16)
      have b4 := ja_mulb b1.2.1 b1.2.2 (by omega : 0 ≤ (c : Int) + 3) (by omega : (c : Int) + 3 ≤ 17)
      refine r_iload_n F rfl rfl dX9_lagOfHistory_6 rfl ?_
      refine r_bipush F (by decide) dX9_lagOfHistory_7 rfl ?_
      refine r_icmp_gt F (tgt := 91) ⟨by omega, by omega⟩ ⟨by omega, by omega⟩ dX9_lagOfHistory_9 rfl (by decide) (fun h_9 => ?_) (fun h_9 => ?_)
      ·
        exfalso; omega
      ·
        refine r_iconst F dX9_lagOfHistory_12 rfl ?_
        refine r_iload_n F rfl rfl dX9_lagOfHistory_13 rfl ?_
        refine r_imul F dX9_lagOfHistory_14 rfl ?_
        refine r_aload_n F rfl rfl dX9_lagOfHistory_15 rfl ?_
        refine r_getR F f_X9_7 (hM.1) rfl dX9_lagOfHistory_16 rfl ?_
        refine r_bipush F (by decide) dX9_lagOfHistory_19 rfl ?_
        refine r_iald F (ja_LM_1 hM) (by omega) (by omega) (by decide) dX9_lagOfHistory_21 rfl ?_
        refine r_eqz (z := (v 12)) (by rw [ja_rw_s, show Int.toNat 12 = 12 from rfl]) ?_
        refine r_icmp_gt F (tgt := 91) ⟨by omega, by omega⟩ ⟨by omega, by omega⟩ dX9_lagOfHistory_22 rfl (by decide) (fun h_22 => ?_) (fun h_22 => ?_)
        ·
          exfalso; omega
        ·
          refine r_iconst F dX9_lagOfHistory_25 rfl ?_
          refine r_ist4 F (by decide) rfl dX9_lagOfHistory_26 rfl ?_
          refine r_iconst F dX9_lagOfHistory_28 rfl ?_
          refine r_ist5 F (by decide) rfl dX9_lagOfHistory_29 rfl ?_
          have lpd : ∀ (d e : Nat), e + d = (c + 3) → ja_W C 0 0 lay (ja_rw G (m + 1) (v)) n 31 [some (.ref (m)), some (.int (ja_I ((P_lg (N_og v) 1 c).1))), some (.int (ja_I ((P_lg (N_og v) 1 c).2))), some (.int (ja_I (((c : Int) + 3)))), some (.int (ja_I (P_dif (N_og v) (c + 3) e))), some (.int (ja_I (((e : Int) + 1))))] [] := by
            intro d
            induction d with
            | zero =>
              intro e he
              refine r_iload F rfl dX9_lagOfHistory_31 rfl ?_
              refine r_iload_n F rfl rfl dX9_lagOfHistory_33 rfl ?_
              refine r_icmp_gt F (tgt := 66) ⟨by omega, by omega⟩ ⟨by omega, by omega⟩ dX9_lagOfHistory_34 rfl (by decide) (fun h_34 => ?_) (fun h_34 => ?_)
              ·
                obtain rfl : e = c + 3 := by omega
                refine r_iload_n F rfl rfl dX9_lagOfHistory_66 rfl ?_
                refine r_if_eq F (tgt := 80) ⟨by omega, by omega⟩ dX9_lagOfHistory_67 rfl (by decide) (fun h_67 => ?_) (fun h_67 => ?_)
                ·
                  exfalso; omega
                ·
                  refine r_iload F rfl dX9_lagOfHistory_70 rfl ?_
                  refine r_iload_n F rfl rfl dX9_lagOfHistory_72 rfl ?_
                  refine r_imul F dX9_lagOfHistory_73 rfl ?_
                  refine r_iload_n F rfl rfl dX9_lagOfHistory_74 rfl ?_
                  refine r_iload_n F rfl rfl dX9_lagOfHistory_75 rfl ?_
                  refine r_imul F dX9_lagOfHistory_76 rfl ?_
                  refine r_icmp_ge F (tgt := 85) ⟨by omega, by omega⟩ ⟨by omega, by omega⟩ dX9_lagOfHistory_77 rfl (by decide) (fun h_77 => ?_) (fun h_77 => ?_)
                  ·
                    refine r_inc3 F (by decide) rfl dX9_lagOfHistory_85 rfl ?_
                    refine r_goto F (tgt := 6) dX9_lagOfHistory_88 (by decide) ?_
                    rw [show (c : Int) + 3 + 1 = ((c + 1 : Nat) : Int) + 3 by omega]
                    refine r_msk [true, true, true, true, false, false] rfl ?_
                    have h0 := ih (c + 1) (by omega) h4
                    first
                      | (rw [P_lg_a (by decide) h_77] at h0; exact h0)
                      | (rw [P_lg_b (by decide) h_77] at h0; exact h0)
                  ·
                    refine r_iload_n F rfl rfl dX9_lagOfHistory_80 rfl ?_
                    refine r_ist1 F (by decide) rfl dX9_lagOfHistory_81 rfl ?_
                    refine r_iload F rfl dX9_lagOfHistory_82 rfl ?_
                    refine r_ist2 F (by decide) rfl dX9_lagOfHistory_84 rfl ?_
                    refine r_inc3 F (by decide) rfl dX9_lagOfHistory_85 rfl ?_
                    refine r_goto F (tgt := 6) dX9_lagOfHistory_88 (by decide) ?_
                    rw [show (c : Int) + 3 + 1 = ((c + 1 : Nat) : Int) + 3 by omega]
                    refine r_msk [true, true, true, true, false, false] rfl ?_
                    have h0 := ih (c + 1) (by omega) h4
                    first
                      | (rw [P_lg_a (by decide) h_77] at h0; exact h0)
                      | (rw [P_lg_b (by decide) h_77] at h0; exact h0)
              ·
                exfalso; omega
            | succ d ihe =>
              intro e he
              have u1 := hg e
              have u2 := hg (e + (c + 3))
              obtain ⟨u3, u4⟩ := id u1
              obtain ⟨u5, u6⟩ := id u2
              refine r_iload F rfl dX9_lagOfHistory_31 rfl ?_
              refine r_iload_n F rfl rfl dX9_lagOfHistory_33 rfl ?_
              refine r_icmp_gt F (tgt := 66) ⟨by omega, by omega⟩ ⟨by omega, by omega⟩ dX9_lagOfHistory_34 rfl (by decide) (fun h_34 => ?_) (fun h_34 => ?_)
              ·
                exfalso; omega
              ·
                refine r_iload F rfl dX9_lagOfHistory_37 rfl ?_
                refine r_aload_n F rfl rfl dX9_lagOfHistory_39 rfl ?_
                refine r_iload F rfl dX9_lagOfHistory_40 rfl ?_
                refine r_callV F GC (c_X9_old _ _ _ _ hM hR ⟨by omega, by omega⟩) v_X9_123 rfl (hM.1) rfl (by decide) (by decide) (Nat.le_of_ble_eq_true rfl) rfl dX9_lagOfHistory_42 rfl (fun v lay' mem' n' hp => ?_)
                obtain ⟨q1, q2, q3, q4⟩ := hp
                subst q1; subst q2; subst q3; subst q4
                refine r_eqz (z := N_og v e) rfl ?_
                refine r_aload_n F rfl rfl dX9_lagOfHistory_45 rfl ?_
                refine r_iload F rfl dX9_lagOfHistory_46 rfl ?_
                refine r_iload_n F rfl rfl dX9_lagOfHistory_48 rfl ?_
                refine r_iadd F dX9_lagOfHistory_49 rfl ?_
                refine r_callV F GC (c_X9_old _ _ _ _ hM hR ⟨by omega, by omega⟩) v_X9_123 rfl (hM.1) rfl (by decide) (by decide) (Nat.le_of_ble_eq_true rfl) rfl dX9_lagOfHistory_50 rfl (fun v lay' mem' n' hp => ?_)
                obtain ⟨q1, q2, q3, q4⟩ := hp
                subst q1; subst q2; subst q3; subst q4
                refine r_eqz (z := N_og v (e + (c + 3))) (by unfold N_og; congr 1 <;> omega) ?_
                refine r_isub F dX9_lagOfHistory_53 rfl ?_
                refine r_callS F GC (c_X9_size _ _ _ _ ⟨by omega, by omega⟩) s_X9_101 rfl (by decide) (by decide) (Nat.le_of_ble_eq_true rfl) rfl dX9_lagOfHistory_54 rfl (fun v lay' mem' n' hp => ?_)
                obtain ⟨q1, q2, q3, q4⟩ := hp
                subst q1; subst q2; subst q3; subst q4
                refine r_iadd F dX9_lagOfHistory_57 rfl ?_
                refine r_ist4 F (by decide) rfl dX9_lagOfHistory_58 rfl ?_
                refine r_inc5 F (by decide) rfl dX9_lagOfHistory_60 rfl ?_
                refine r_goto F (tgt := 31) dX9_lagOfHistory_63 (by decide) ?_
                rw [show (e : Int) + 1 + 1 = ((e + 1 : Nat) : Int) + 1 by omega]
                exact ihe (e + 1) (by omega)
          exact lpd ((c + 3)) 0 (by omega)
  refine r_iload_n F rfl rfl dX9_lagOfHistory_6 rfl ?_
  refine r_bipush F (by decide) dX9_lagOfHistory_7 rfl ?_
  refine r_icmp_gt F (tgt := 91) ⟨by omega, by omega⟩ ⟨by omega, by omega⟩ dX9_lagOfHistory_9 rfl (by decide) (fun h_9 => ?_) (fun h_9 => ?_)
  ·
    exfalso; omega
  ·
    refine r_iconst F dX9_lagOfHistory_12 rfl ?_
    refine r_iload_n F rfl rfl dX9_lagOfHistory_13 rfl ?_
    refine r_imul F dX9_lagOfHistory_14 rfl ?_
    refine r_aload_n F rfl rfl dX9_lagOfHistory_15 rfl ?_
    refine r_getR F f_X9_7 (hM.1) rfl dX9_lagOfHistory_16 rfl ?_
    refine r_bipush F (by decide) dX9_lagOfHistory_19 rfl ?_
    refine r_iald F (ja_LM_1 hM) (by omega) (by omega) (by decide) dX9_lagOfHistory_21 rfl ?_
    refine r_eqz (z := (v 12)) (by rw [ja_rw_s, show Int.toNat 12 = 12 from rfl]) ?_
    refine r_icmp_gt F (tgt := 91) ⟨by omega, by omega⟩ ⟨by omega, by omega⟩ dX9_lagOfHistory_22 rfl (by decide) (fun h_22 => ?_) (fun h_22 => ?_)
    ·
      refine r_iload_n F rfl rfl dX9_lagOfHistory_91 rfl ?_
      exact r_iret F Rt dX9_lagOfHistory_92 (by decide) ⟨by rw [N_lh, if_pos (by omega)], rfl, rfl, rfl⟩
    ·
      refine r_iconst F dX9_lagOfHistory_25 rfl ?_
      refine r_ist4 F (by decide) rfl dX9_lagOfHistory_26 rfl ?_
      refine r_iconst F dX9_lagOfHistory_28 rfl ?_
      refine r_ist5 F (by decide) rfl dX9_lagOfHistory_29 rfl ?_
      have lpd : ∀ (d e : Nat), e + d = 2 → ja_W C 0 0 lay (ja_rw G (m + 1) (v)) n 31 [some (.ref (m)), some (.int (ja_I (0))), some (.int (ja_I (0))), some (.int (ja_I (2))), some (.int (ja_I (P_dif (N_og v) 2 e))), some (.int (ja_I (((e : Int) + 1))))] [] := by
        intro d
        induction d with
        | zero =>
          intro e he
          refine r_iload F rfl dX9_lagOfHistory_31 rfl ?_
          refine r_iload_n F rfl rfl dX9_lagOfHistory_33 rfl ?_
          refine r_icmp_gt F (tgt := 66) ⟨by omega, by omega⟩ ⟨by omega, by omega⟩ dX9_lagOfHistory_34 rfl (by decide) (fun h_34 => ?_) (fun h_34 => ?_)
          ·
            obtain rfl : e = 2 := by omega
            refine r_iload_n F rfl rfl dX9_lagOfHistory_66 rfl ?_
            refine r_if_eq F (tgt := 80) ⟨by omega, by omega⟩ dX9_lagOfHistory_67 rfl (by decide) (fun h_67 => ?_) (fun h_67 => ?_)
            ·
              refine r_iload_n F rfl rfl dX9_lagOfHistory_80 rfl ?_
              refine r_ist1 F (by decide) rfl dX9_lagOfHistory_81 rfl ?_
              refine r_iload F rfl dX9_lagOfHistory_82 rfl ?_
              refine r_ist2 F (by decide) rfl dX9_lagOfHistory_84 rfl ?_
              refine r_inc3 F (by decide) rfl dX9_lagOfHistory_85 rfl ?_
              refine r_goto F (tgt := 6) dX9_lagOfHistory_88 (by decide) ?_
              refine r_msk [true, true, true, true, false, false] rfl ?_
              exact loop (N_lk v) 0 (by omega) (by omega)
            ·
              exfalso; omega
          ·
            exfalso; omega
        | succ d ihe =>
          intro e he
          have u1 := hg e
          have u2 := hg (e + 2)
          obtain ⟨u3, u4⟩ := id u1
          obtain ⟨u5, u6⟩ := id u2
          refine r_iload F rfl dX9_lagOfHistory_31 rfl ?_
          refine r_iload_n F rfl rfl dX9_lagOfHistory_33 rfl ?_
          refine r_icmp_gt F (tgt := 66) ⟨by omega, by omega⟩ ⟨by omega, by omega⟩ dX9_lagOfHistory_34 rfl (by decide) (fun h_34 => ?_) (fun h_34 => ?_)
          ·
            exfalso; omega
          ·
            refine r_iload F rfl dX9_lagOfHistory_37 rfl ?_
            refine r_aload_n F rfl rfl dX9_lagOfHistory_39 rfl ?_
            refine r_iload F rfl dX9_lagOfHistory_40 rfl ?_
            refine r_callV F GC (c_X9_old _ _ _ _ hM hR ⟨by omega, by omega⟩) v_X9_123 rfl (hM.1) rfl (by decide) (by decide) (Nat.le_of_ble_eq_true rfl) rfl dX9_lagOfHistory_42 rfl (fun v lay' mem' n' hp => ?_)
            obtain ⟨q1, q2, q3, q4⟩ := hp
            subst q1; subst q2; subst q3; subst q4
            refine r_eqz (z := N_og v e) rfl ?_
            refine r_aload_n F rfl rfl dX9_lagOfHistory_45 rfl ?_
            refine r_iload F rfl dX9_lagOfHistory_46 rfl ?_
            refine r_iload_n F rfl rfl dX9_lagOfHistory_48 rfl ?_
            refine r_iadd F dX9_lagOfHistory_49 rfl ?_
            refine r_callV F GC (c_X9_old _ _ _ _ hM hR ⟨by omega, by omega⟩) v_X9_123 rfl (hM.1) rfl (by decide) (by decide) (Nat.le_of_ble_eq_true rfl) rfl dX9_lagOfHistory_50 rfl (fun v lay' mem' n' hp => ?_)
            obtain ⟨q1, q2, q3, q4⟩ := hp
            subst q1; subst q2; subst q3; subst q4
            refine r_eqz (z := N_og v (e + 2)) (by unfold N_og; congr 1 <;> omega) ?_
            refine r_isub F dX9_lagOfHistory_53 rfl ?_
            refine r_callS F GC (c_X9_size _ _ _ _ ⟨by omega, by omega⟩) s_X9_101 rfl (by decide) (by decide) (Nat.le_of_ble_eq_true rfl) rfl dX9_lagOfHistory_54 rfl (fun v lay' mem' n' hp => ?_)
            obtain ⟨q1, q2, q3, q4⟩ := hp
            subst q1; subst q2; subst q3; subst q4
            refine r_iadd F dX9_lagOfHistory_57 rfl ?_
            refine r_ist4 F (by decide) rfl dX9_lagOfHistory_58 rfl ?_
            refine r_inc5 F (by decide) rfl dX9_lagOfHistory_60 rfl ?_
            refine r_goto F (tgt := 31) dX9_lagOfHistory_63 (by decide) ?_
            rw [show (e : Int) + 1 + 1 = ((e + 1 : Nat) : Int) + 1 by omega]
            exact ihe (e + 1) (by omega)
      exact lpd (2) 0 (by omega)
abbrev rm_X9_conceals : Room := { frames := 2, cells := 0, slots := 0, locals := 46 }
set_option maxRecDepth 100000 in
set_option maxHeartbeats 800000 in
theorem c_X9_conceals (l : Launch) (D : va_G) (cA : Nat → ClassId) (B : Nat) {lay : ja_Y} {n : Nat} {m : Nat} {G : ja_M} {v : Nat → Int} (hM : ja_LM lay m) (hR : N_R v) (h22 : v 22 = 0) : ja_Mt l D cA B yX9_conceals cX9_conceals 5 none rm_X9_conceals [.ref m] lay (ja_rw G (m + 1) v) n (ja_rd lay (ja_rw G (m + 1) (N_co v)) n (none)) := by
  refine ja_enter [some (.ref m), none, none, none, none] (by decide) (Nat.le_of_ble_eq_true rfl) (fun q hq => hq) (fun C F Rt GC hnm => ?_)
  have hC := hR.C
  have hS := hR.S
  have hS0 := hS.1
  have hlh := N_lh_in hR
  refine r_aload_n F rfl rfl dX9_conceals_0 rfl ?_
  refine r_callV F GC (c_X9_lagOfHistory _ _ _ _ hM hR) v_X9_126 rfl (hM.1) rfl (by decide) (by decide) (Nat.le_of_ble_eq_true rfl) rfl dX9_conceals_1 rfl (fun v lay' mem' n' hp => ?_)
  obtain ⟨q1, q2, q3, q4⟩ := hp
  subst q1; subst q2; subst q3; subst q4
  refine r_ist1 F (by decide) rfl dX9_conceals_4 rfl ?_
  refine r_iconst F dX9_conceals_5 rfl ?_
  refine r_ist2 F (by decide) rfl dX9_conceals_6 rfl ?_
  have loop : ∀ (d c : Nat), c + d = (v 0).toNat → ja_W C 0 0 lay (ja_rw G (m + 1) (N_gs v (N_cm v) c)) n 7 [some (.ref (m)), some (.int (ja_I (N_lh v))), some (.int (ja_I ((c : Int)))), none, none] [] := by
    intro d
    induction d with
    | zero =>
      intro c hc
      obtain ⟨w1, w2, w3⟩ := N_gs_R (h := N_cm v) hR c (fun j _ => N_cm_in hR j) (by omega)
      have wC := w1.C
      refine r_iload_n F rfl rfl dX9_conceals_7 rfl ?_
      refine r_aload_n F rfl rfl dX9_conceals_8 rfl ?_
      refine r_getR F f_X9_7 (hM.1) rfl dX9_conceals_9 rfl ?_
      refine r_iconst F dX9_conceals_12 rfl ?_
      refine r_iald F (ja_LM_1 hM) (by omega) (by omega) (by decide) dX9_conceals_13 rfl ?_
      refine r_eqz (z := (v 0)) (by rw [ja_rw_s, show Int.toNat 0 = 0 from rfl]; exact w3 0 (by omega) (by omega)) ?_
      refine r_icmp_ge F (tgt := 73) ⟨by omega, by omega⟩ ⟨by omega, by omega⟩ dX9_conceals_14 rfl (by decide) (fun h_14 => ?_) (fun h_14 => ?_)
      ·
        exact r_vret F Rt dX9_conceals_73 (by decide) ⟨rfl, rfl, by rw [N_co, show (v 0).toNat = c by omega], rfl⟩
      ·
        exfalso; omega
    | succ d ih =>
      intro c hc
      obtain ⟨w1, w2, w3⟩ := N_gs_R (h := N_cm v) hR c (fun j _ => N_cm_in hR j) (by omega)
      have wC := w1.C
      refine r_iload_n F rfl rfl dX9_conceals_7 rfl ?_
      refine r_aload_n F rfl rfl dX9_conceals_8 rfl ?_
      refine r_getR F f_X9_7 (hM.1) rfl dX9_conceals_9 rfl ?_
      refine r_iconst F dX9_conceals_12 rfl ?_
      refine r_iald F (ja_LM_1 hM) (by omega) (by omega) (by decide) dX9_conceals_13 rfl ?_
      refine r_eqz (z := (v 0)) (by rw [ja_rw_s, show Int.toNat 0 = 0 from rfl]; exact w3 0 (by omega) (by omega)) ?_
      refine r_icmp_ge F (tgt := 73) ⟨by omega, by omega⟩ ⟨by omega, by omega⟩ dX9_conceals_14 rfl (by decide) (fun h_14 => ?_) (fun h_14 => ?_)
      ·
        exfalso; omega
      ·
        have J34 : ja_W C 0 0 lay (ja_rw G (m + 1) (N_gs v (N_cm v) c)) n 34 [some (.ref (m)), some (.int (ja_I (N_lh v))), some (.int (ja_I ((c : Int)))), none, none] [.int (ja_I (if N_lh v = 0 then 0 else N_ol v (N_lh v - (c : Int) % N_lh v)))] := by
          refine r_ist3 F (by decide) rfl dX9_conceals_34 rfl ?_
          refine r_iconst F dX9_conceals_35 rfl ?_
          refine r_ist4 F (by decide) rfl dX9_conceals_36 rfl ?_
          have fdl : ∀ (d k : Nat) (s : Int), k + d = (v 13).toNat → ja_sp s → N_fd d s = N_cm v c → ja_W C 0 0 lay (ja_rw G (m + 1) (N_gs v (N_cm v) c)) n 38 [some (.ref m), some (.int (ja_I (N_lh v))), some (.int (ja_I (c : Int))), some (.int (ja_I s)), some (.int (ja_I (k : Int)))] [] := by
            intro d
            induction d with
            | zero =>
              intro k s hk hs hl
              obtain ⟨u1, u2⟩ := id hs
              refine r_iload F rfl dX9_conceals_38 rfl ?_
              refine r_aload_n F rfl rfl dX9_conceals_40 rfl ?_
              refine r_getR F f_X9_7 (hM.1) rfl dX9_conceals_41 rfl ?_
              refine r_bipush F (by decide) dX9_conceals_44 rfl ?_
              refine r_iald F (ja_LM_1 hM) (by omega) (by omega) (by decide) dX9_conceals_46 rfl ?_
              refine r_eqz (z := (v 13)) (by rw [ja_rw_s, show Int.toNat 13 = 13 from rfl]; exact w3 13 (by omega) (by omega)) ?_
              refine r_icmp_ge F (tgt := 62) ⟨by omega, by omega⟩ ⟨by omega, by omega⟩ dX9_conceals_47 rfl (by decide) (fun h_47 => ?_) (fun h_47 => ?_)
              ·
                obtain rfl : s = N_cm v c := hl
                refine r_aload_n F rfl rfl dX9_conceals_62 rfl ?_
                refine r_iload_n F rfl rfl dX9_conceals_63 rfl ?_
                refine r_callV F GC (c_X9_gives _ _ _ _ hM w1) v_X9_120 rfl (hM.1) rfl (by decide) (by decide) (Nat.le_of_ble_eq_true rfl) rfl dX9_conceals_64 rfl (fun v lay' mem' n' hp => ?_)
                obtain ⟨q1, q2, q3, q4⟩ := hp
                subst q1; subst q2; subst q3; subst q4
                refine r_inc2 F (by decide) rfl dX9_conceals_67 rfl ?_
                refine r_goto F (tgt := 7) dX9_conceals_70 (by decide) ?_
                refine r_msk [true, true, true, false, false] rfl ?_
                exact ih (c + 1) (by omega)
              ·
                exfalso; omega
            | succ d ihd =>
              intro k s hk hs hl
              obtain ⟨u1, u2⟩ := id hs
              refine r_iload F rfl dX9_conceals_38 rfl ?_
              refine r_aload_n F rfl rfl dX9_conceals_40 rfl ?_
              refine r_getR F f_X9_7 (hM.1) rfl dX9_conceals_41 rfl ?_
              refine r_bipush F (by decide) dX9_conceals_44 rfl ?_
              refine r_iald F (ja_LM_1 hM) (by omega) (by omega) (by decide) dX9_conceals_46 rfl ?_
              refine r_eqz (z := (v 13)) (by rw [ja_rw_s, show Int.toNat 13 = 13 from rfl]; exact w3 13 (by omega) (by omega)) ?_
              refine r_icmp_ge F (tgt := 62) ⟨by omega, by omega⟩ ⟨by omega, by omega⟩ dX9_conceals_47 rfl (by decide) (fun h_47 => ?_) (fun h_47 => ?_)
              ·
                exfalso; omega
              ·
                refine r_iload_n F rfl rfl dX9_conceals_50 rfl ?_
                refine r_iconst F dX9_conceals_51 rfl ?_
                refine r_imul F dX9_conceals_52 rfl ?_
                refine r_iconst F dX9_conceals_53 rfl ?_
                refine r_idiv F ⟨by omega, by omega⟩ ⟨by omega, by omega⟩ (by omega) dX9_conceals_54 rfl ?_
                refine r_ist3 F (by decide) rfl dX9_conceals_55 rfl ?_
                refine r_inc4 F (by decide) rfl dX9_conceals_56 rfl ?_
                refine r_goto F (tgt := 38) dX9_conceals_59 (by decide) ?_
                exact ihd (k + 1) _ (by omega) (P_fd1 hs) hl
          exact fdl (v 13).toNat 0 (if N_lh v = 0 then 0 else N_ol v (N_lh v - (c : Int) % N_lh v)) (by omega) (by split; exact ⟨by omega, by omega⟩; exact N_ol_in hR) rfl
        refine r_iload_n F rfl rfl dX9_conceals_17 rfl ?_
        refine r_if_ne F (tgt := 25) ⟨by omega, by omega⟩ dX9_conceals_18 rfl (by decide) (fun h_18 => ?_) (fun h_18 => ?_)
        ·
          have e1 := Int.emod_nonneg (c : Int) (show N_lh v ≠ 0 by omega)
          have e2 := Int.emod_lt_of_pos (c : Int) (show 0 < N_lh v by omega)
          refine r_aload_n F rfl rfl dX9_conceals_25 rfl ?_
          refine r_iload_n F rfl rfl dX9_conceals_26 rfl ?_
          refine r_iload_n F rfl rfl dX9_conceals_27 rfl ?_
          refine r_iload_n F rfl rfl dX9_conceals_28 rfl ?_
          refine r_iremP F ⟨by omega, by omega⟩ ⟨by omega, by omega⟩ (by omega) (by omega) dX9_conceals_29 rfl ?_
          refine r_isub F dX9_conceals_30 rfl ?_
          refine r_callV F GC (c_X9_old _ _ _ _ hM w1 ⟨by omega, by have := w3 12 (by omega) (by omega); omega⟩) v_X9_123 rfl (hM.1) rfl (by decide) (by decide) (Nat.le_of_ble_eq_true rfl) rfl dX9_conceals_31 rfl (fun v lay' mem' n' hp => ?_)
          obtain ⟨q1, q2, q3, q4⟩ := hp
          subst q1; subst q2; subst q3; subst q4
          refine r_eqz (z := N_ol v (N_lh v - (c : Int) % N_lh v)) w3.ol ?_
          refine r_eqz (z := if N_lh v = 0 then 0 else N_ol v (N_lh v - (c : Int) % N_lh v)) (by first | rw [if_pos (by omega)] | rw [if_neg (by omega)]) ?_
          exact J34
        ·
          refine r_iconst F dX9_conceals_21 rfl ?_
          refine r_goto F (tgt := 34) dX9_conceals_22 (by decide) ?_
          refine r_eqz (z := if N_lh v = 0 then 0 else N_ol v (N_lh v - (c : Int) % N_lh v)) (by first | rw [if_pos (by omega)] | rw [if_neg (by omega)]) ?_
          exact J34
  exact loop ((v 0).toNat) 0 (by omega)
