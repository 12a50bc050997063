abbrev rm_X9_targetNow : Room := { frames := 1, cells := 0, slots := 0, locals := 22 }
set_option maxRecDepth 100000 in
set_option maxHeartbeats 800000 in
theorem c_X9_targetNow (l : Launch) (D : va_G) (cA : Nat → ClassId) (B : Nat) {lay : ja_Y} {n : Nat} {m : Nat} {G : ja_M} {v : Nat → Int} (hM : ja_LM lay m) (hR : N_R v) : ja_Mt l D cA B yX9_targetNow cX9_targetNow 3 (some .int) rm_X9_targetNow [.ref m] lay (ja_rw G (m + 1) v) n (fun w lay' mem' n' => some (.int (ja_I (N_tg v))) = w ∧ lay = lay' ∧ n = n' ∧ ∃ G', N_g6 m G G' ∧ mem' = ja_rw G' (m + 1) (v)) := by
  refine ja_enter [some (.ref m), none, none] (by decide) (Nat.le_of_ble_eq_true rfl) (fun q hq => hq) (fun C F Rt GC hnm => ?_)
  have hC := hR.C
  have hS := hR.S
  have hmq := ja_mulb (a := v 6) (A := 100) (b := v 24) (B := 16) (by omega) (by omega) (by omega) (by omega)
  refine r_aload_n F rfl rfl dX9_targetNow_0 rfl ?_
  refine r_getR F f_X9_7 (hM.1) rfl dX9_targetNow_1 rfl ?_
  refine r_bipush F (by decide) dX9_targetNow_4 rfl ?_
  refine r_iald F (ja_LM_1 hM) (by omega) (by omega) (by decide) dX9_targetNow_6 rfl ?_
  refine r_eqz (z := (v 24)) (by rw [ja_rw_s, show Int.toNat 24 = 24 from rfl]) ?_
  refine r_ist1 F (by decide) rfl dX9_targetNow_7 rfl ?_
  refine r_iload_n F rfl rfl dX9_targetNow_8 rfl ?_
  refine r_if_ne F (tgt := 20) ⟨by omega, by omega⟩ dX9_targetNow_9 rfl (by decide) (fun h_9 => ?_) (fun h_9 => ?_)
  ·
    refine r_aload_n F rfl rfl dX9_targetNow_20 rfl ?_
    refine r_callV F GC (c_X9_sorts _ _ _ _ hM hR) v_X9_98 rfl (hM.1) rfl (by decide) (by decide) (Nat.le_of_ble_eq_true rfl) rfl dX9_targetNow_21 rfl (fun v lay' mem' n' hp => ?_)
    obtain ⟨q1, q2, q3, G1, hG1, q4, hso⟩ := hp
    subst q1; subst q2; subst q3; subst q4
    refine r_aload_n F rfl rfl dX9_targetNow_24 rfl ?_
    refine r_getR F f_X9_7 (hM.1) rfl dX9_targetNow_25 rfl ?_
    refine r_bipush F (by decide) dX9_targetNow_28 rfl ?_
    refine r_iald F (ja_LM_1 hM) (by omega) (by omega) (by decide) dX9_targetNow_30 rfl ?_
    refine r_eqz (z := (v 6)) (by rw [ja_rw_s, show Int.toNat 6 = 6 from rfl]) ?_
    refine r_iload_n F rfl rfl dX9_targetNow_31 rfl ?_
    refine r_imul F dX9_targetNow_32 rfl ?_
    refine r_bipush F (by decide) dX9_targetNow_33 rfl ?_
    refine r_iadd F dX9_targetNow_35 rfl ?_
    refine r_bipush F (by decide) dX9_targetNow_36 rfl ?_
    have hq1 := Int.mul_le_mul_of_nonneg_right (show v 6 ≤ 100 by omega) (show 0 ≤ v 24 by omega)
    have hq2 := Int.mul_le_mul_of_nonneg_right (show 1 ≤ v 6 by omega) (show 0 ≤ v 24 by omega)
    refine r_idivP F ⟨by omega, by omega⟩ ⟨by omega, by omega⟩ (by omega) (by omega) dX9_targetNow_38 rfl ?_
    refine r_ist2 F (by decide) rfl dX9_targetNow_39 rfl ?_
    refine r_aload_n F rfl rfl dX9_targetNow_40 rfl ?_
    refine r_getR F f_X9_26 (hM.1) rfl dX9_targetNow_41 rfl ?_
    refine r_iload_n F rfl rfl dX9_targetNow_44 rfl ?_
    refine r_iconst F dX9_targetNow_45 rfl ?_
    refine r_isub F dX9_targetNow_46 rfl ?_
    refine r_iald F (ja_LM_6 hM) (by omega) (by omega) (by decide) dX9_targetNow_47 rfl ?_
    refine r_eqz (z := (N_so v (v 24).toNat ((v 6 * v 24 + 99) / 100 - 1).toNat)) (by rw [ja_rw_n (by omega)]; exact hso _ (by omega)) ?_
    refine r_aload_n F rfl rfl dX9_targetNow_48 rfl ?_
    refine r_getR F f_X9_26 (hM.1) rfl dX9_targetNow_49 rfl ?_
    refine r_iconst F dX9_targetNow_52 rfl ?_
    refine r_iald F (ja_LM_6 hM) (by omega) (by omega) (by decide) dX9_targetNow_53 rfl ?_
    refine r_eqz (z := (N_so v (v 24).toNat 0)) (by rw [ja_rw_n (by omega)]; exact hso 0 (by omega)) ?_
    refine r_isub F dX9_targetNow_54 rfl ?_
    refine r_aload_n F rfl rfl dX9_targetNow_55 rfl ?_
    refine r_getR F f_X9_7 (hM.1) rfl dX9_targetNow_56 rfl ?_
    refine r_bipush F (by decide) dX9_targetNow_59 rfl ?_
    refine r_iald F (ja_LM_1 hM) (by omega) (by omega) (by decide) dX9_targetNow_61 rfl ?_
    refine r_eqz (z := (v 7)) (by rw [ja_rw_s, show Int.toNat 7 = 7 from rfl]) ?_
    refine r_iadd F dX9_targetNow_62 rfl ?_
    exact r_iret F Rt dX9_targetNow_63 (by decide) ⟨by rw [N_tg, if_neg h_9], rfl, rfl, G1, hG1, rfl⟩
  ·
    refine r_aload_n F rfl rfl dX9_targetNow_12 rfl ?_
    refine r_getR F f_X9_7 (hM.1) rfl dX9_targetNow_13 rfl ?_
    refine r_bipush F (by decide) dX9_targetNow_16 rfl ?_
    refine r_iald F (ja_LM_1 hM) (by omega) (by omega) (by decide) dX9_targetNow_18 rfl ?_
    refine r_eqz (z := (v 7)) (by rw [ja_rw_s, show Int.toNat 7 = 7 from rfl]) ?_
    exact r_iret F Rt dX9_targetNow_19 (by decide) ⟨by rw [N_tg, if_pos h_9], rfl, rfl, G, fun _ _ => rfl, rfl⟩
abbrev rm_X9_levelFrom : Room := { frames := 1, cells := 0, slots := 0, locals := 21 }
set_option maxRecDepth 100000 in
set_option maxHeartbeats 800000 in
theorem c_X9_levelFrom (l : Launch) (D : va_G) (cA : Nat → ClassId) (B : Nat) {lay : ja_Y} {n : Nat} {m : Nat} {G : ja_M} {v : Nat → Int} (hM : ja_LM lay m) {x : Int} (hR : N_R v) (hx : 0 ≤ x ∧ x ≤ 1000) : ja_Mt l D cA B yX9_levelFrom cX9_levelFrom 3 (some .int) rm_X9_levelFrom [.ref m, .int (ja_I x)] lay (ja_rw G (m + 1) v) n (ja_rd lay (ja_rw G (m + 1) v) n (some (.int (ja_I (N_lv v x))))) := by
  refine ja_enter [some (.ref m), some (.int (ja_I x)), none] (by decide) (Nat.le_of_ble_eq_true rfl) (fun q hq => hq) (fun C F Rt GC hnm => ?_)
  refine r_iload_n F rfl rfl dX9_levelFrom_0 rfl ?_
  refine r_ist2 F (by decide) rfl dX9_levelFrom_1 rfl ?_
  have loop : ∀ (d : Nat) (z : Int), z + d = 1000 → x ≤ z → N_fo v z d = N_fo v x (1000 - x).toNat → ja_W C 0 0 lay (ja_rw G (m + 1) v) n 2 [some (.ref m), some (.int (ja_I x)), some (.int (ja_I z))] [] := by
    intro d
    induction d with
    | zero =>
      intro z hz hxz hl
      refine r_iload_n F rfl rfl dX9_levelFrom_2 rfl ?_
      refine r_sipush F (by decide) dX9_levelFrom_3 rfl ?_
      refine r_icmp_gt F (tgt := 23) ⟨by omega, by omega⟩ ⟨by omega, by omega⟩ dX9_levelFrom_6 rfl (by decide) (fun h_6 => ?_) (fun h_6 => ?_)
      ·
        replace hl : z = N_fo v x (1000 - x).toNat := hl
        refine r_aload_n F rfl rfl dX9_levelFrom_23 rfl ?_
        refine r_getR F f_X9_7 (hM.1) rfl dX9_levelFrom_24 rfl ?_
        refine r_iconst F dX9_levelFrom_27 rfl ?_
        refine r_iald F (ja_LM_1 hM) (by omega) (by omega) (by decide) dX9_levelFrom_28 rfl ?_
        refine r_eqz (z := (v 0)) (by rw [ja_rw_s, show Int.toNat 0 = 0 from rfl]) ?_
        refine r_iload_n F rfl rfl dX9_levelFrom_29 rfl ?_
        refine r_iload_n F rfl rfl dX9_levelFrom_30 rfl ?_
        refine r_icmp_le F (tgt := 40) ⟨by omega, by omega⟩ ⟨by omega, by omega⟩ dX9_levelFrom_31 rfl (by decide) (fun h_31 => ?_) (fun h_31 => ?_)
        ·
          refine r_iconst F dX9_levelFrom_40 rfl ?_
          refine r_imul F dX9_levelFrom_41 rfl ?_
          exact r_iret F Rt dX9_levelFrom_42 (by decide) ⟨by rw [N_lv, ← hl]; first | rw [if_pos (by omega)] | rw [if_neg (by omega)], rfl, rfl, rfl⟩
        ·
          refine r_iload_n F rfl rfl dX9_levelFrom_34 rfl ?_
          refine r_iload_n F rfl rfl dX9_levelFrom_35 rfl ?_
          refine r_isub F dX9_levelFrom_36 rfl ?_
          refine r_goto F (tgt := 41) dX9_levelFrom_37 (by decide) ?_
          refine r_imul F dX9_levelFrom_41 rfl ?_
          exact r_iret F Rt dX9_levelFrom_42 (by decide) ⟨by rw [N_lv, ← hl]; first | rw [if_pos (by omega)] | rw [if_neg (by omega)], rfl, rfl, rfl⟩
      ·
        exfalso; omega
    | succ d ih =>
      intro z hz hxz hl
      refine r_iload_n F rfl rfl dX9_levelFrom_2 rfl ?_
      refine r_sipush F (by decide) dX9_levelFrom_3 rfl ?_
      refine r_icmp_gt F (tgt := 23) ⟨by omega, by omega⟩ ⟨by omega, by omega⟩ dX9_levelFrom_6 rfl (by decide) (fun h_6 => ?_) (fun h_6 => ?_)
      ·
        exfalso; omega
      ·
        refine r_aload_n F rfl rfl dX9_levelFrom_9 rfl ?_
        refine r_iload_n F rfl rfl dX9_levelFrom_10 rfl ?_
        refine r_callV F GC (c_X9_isKnown _ _ _ _ hM hR ⟨by omega, by omega⟩) v_X9_59 rfl (hM.1) rfl (by decide) (by decide) (Nat.le_of_ble_eq_true rfl) rfl dX9_levelFrom_11 rfl (fun v lay' mem' n' hp => ?_)
        obtain ⟨q1, q2, q3, q4⟩ := hp
        subst q1; subst q2; subst q3; subst q4
        refine r_if_eq F (tgt := 23) ja_b_in dX9_levelFrom_14 rfl (by decide) (fun h_14 => ?_) (fun h_14 => ?_)
        ·
          have b_14 : ¬ (N_kn v z) := ja_b_0.mp h_14
          replace hl : z = N_fo v x (1000 - x).toNat := by rw [← hl]; simp only [N_fo]; rw [if_neg b_14]
          refine r_aload_n F rfl rfl dX9_levelFrom_23 rfl ?_
          refine r_getR F f_X9_7 (hM.1) rfl dX9_levelFrom_24 rfl ?_
          refine r_iconst F dX9_levelFrom_27 rfl ?_
          refine r_iald F (ja_LM_1 hM) (by omega) (by omega) (by decide) dX9_levelFrom_28 rfl ?_
          refine r_eqz (z := (v 0)) (by rw [ja_rw_s, show Int.toNat 0 = 0 from rfl]) ?_
          refine r_iload_n F rfl rfl dX9_levelFrom_29 rfl ?_
          refine r_iload_n F rfl rfl dX9_levelFrom_30 rfl ?_
          refine r_icmp_le F (tgt := 40) ⟨by omega, by omega⟩ ⟨by omega, by omega⟩ dX9_levelFrom_31 rfl (by decide) (fun h_31 => ?_) (fun h_31 => ?_)
          ·
            refine r_iconst F dX9_levelFrom_40 rfl ?_
            refine r_imul F dX9_levelFrom_41 rfl ?_
            exact r_iret F Rt dX9_levelFrom_42 (by decide) ⟨by rw [N_lv, ← hl]; first | rw [if_pos (by omega)] | rw [if_neg (by omega)], rfl, rfl, rfl⟩
          ·
            refine r_iload_n F rfl rfl dX9_levelFrom_34 rfl ?_
            refine r_iload_n F rfl rfl dX9_levelFrom_35 rfl ?_
            refine r_isub F dX9_levelFrom_36 rfl ?_
            refine r_goto F (tgt := 41) dX9_levelFrom_37 (by decide) ?_
            refine r_imul F dX9_levelFrom_41 rfl ?_
            exact r_iret F Rt dX9_levelFrom_42 (by decide) ⟨by rw [N_lv, ← hl]; first | rw [if_pos (by omega)] | rw [if_neg (by omega)], rfl, rfl, rfl⟩
        ·
          have b_14 : (N_kn v z) := ja_b_1 h_14
          refine r_inc2 F (by decide) rfl dX9_levelFrom_17 rfl ?_
          refine r_goto F (tgt := 2) dX9_levelFrom_20 (by decide) ?_
          exact ih (z + 1) (by omega) (by omega) (by rw [← hl]; simp only [N_fo]; rw [if_pos b_14])
  exact loop (1000 - x).toNat x (by omega) (by omega) rfl
abbrev rm_X9_arrivesBySchedule : Room := { frames := 6, cells := 0, slots := 0, locals := 143 }
set_option maxRecDepth 100000 in
set_option maxHeartbeats 800000 in
theorem c_X9_arrivesBySchedule (l : Launch) (D : va_G) (cA : Nat → ClassId) (B : Nat) {lay : ja_Y} {n : Nat} {m : Nat} {G : ja_M} {v : Nat → Int} (hM : ja_LM lay m) {t : Int} (hO : N_O v t) (ht : t ≤ 900000)  : ja_Mt l D cA B yX9_arrivesBySchedule cX9_arrivesBySchedule 6 none rm_X9_arrivesBySchedule [.ref m] lay (ja_rw G (m + 1) v) n (ja_rd lay (ja_rw G (m + 1) (N_as v)) n (none)) := by
  refine ja_enter [some (.ref m), none, none, none, none, none] (by decide) (Nat.le_of_ble_eq_true rfl) (fun q hq => hq) (fun C F Rt GC hnm => ?_)
  have hR := hO.1
  have hS := hR.S
  have hC := hR.C
  obtain ⟨o1, o2, o3, o4, o5, o6, o7⟩ := id hO.2.1
  refine r_iconst F dX9_arrivesBySchedule_0 rfl ?_
  refine r_ist1 F (by decide) rfl dX9_arrivesBySchedule_1 rfl ?_
  refine r_aload_n F rfl rfl dX9_arrivesBySchedule_2 rfl ?_
  refine r_getR F f_X9_7 (hM.1) rfl dX9_arrivesBySchedule_3 rfl ?_
  refine r_bipush F (by decide) dX9_arrivesBySchedule_6 rfl ?_
  refine r_iald F (ja_LM_1 hM) (by omega) (by omega) (by decide) dX9_arrivesBySchedule_8 rfl ?_
  refine r_eqz (z := (v 25)) (by rw [ja_rw_s, show Int.toNat 25 = 25 from rfl]) ?_
  refine r_ist2 F (by decide) rfl dX9_arrivesBySchedule_9 rfl ?_
  refine r_iconst F dX9_arrivesBySchedule_10 rfl ?_
  refine r_ist3 F (by decide) rfl dX9_arrivesBySchedule_11 rfl ?_
  have loop : ∀ (d c : Nat), c + d = (v 25).toNat → ja_W C 0 0 lay (ja_rw G (m + 1) ((N_ab v c).2)) n 12 [some (.ref (m)), some (.int (ja_I ((N_ab v c).1))), some (.int (ja_I (v 25))), some (.int (ja_I ((c : Int)))), none, none] [] := by
    intro d
    induction d with
    | zero =>
      intro c hc
      obtain ⟨wO, ⟨l0, l1⟩, wk⟩ := N_ab_O hO ht c (by omega)
      have wC := wO.1.C
      have w25 := wk 25 (by omega) (by omega)
      refine r_iload_n F rfl rfl dX9_arrivesBySchedule_12 rfl ?_
      refine r_iload_n F rfl rfl dX9_arrivesBySchedule_13 rfl ?_
      refine r_icmp_ge F (tgt := 163) ⟨by omega, by omega⟩ ⟨by omega, by omega⟩ dX9_arrivesBySchedule_14 rfl (by decide) (fun h_14 => ?_) (fun h_14 => ?_)
      ·
        refine r_aload_n F rfl rfl dX9_arrivesBySchedule_163 rfl ?_
        refine r_getR F f_X9_7 (hM.1) rfl dX9_arrivesBySchedule_164 rfl ?_
        refine r_bipush F (by decide) dX9_arrivesBySchedule_167 rfl ?_
        refine r_iload_n F rfl rfl dX9_arrivesBySchedule_169 rfl ?_
        refine r_iast F (ja_LM_1 hM) (by omega) (by omega) (by decide) dX9_arrivesBySchedule_170 rfl ?_
        refine r_mem (mem' := ja_rw G (m + 1) (ja_rs ((N_ab v c).2) 25 (N_ab v c).1)) (ja_rw_up _ _ _ _ _) ?_
        exact r_vret F Rt dX9_arrivesBySchedule_171 (by decide) ⟨rfl, rfl, by rw [N_as, show (v 25).toNat = c by omega], rfl⟩
      ·
        exfalso; omega
    | succ d ih =>
      intro c hc
      obtain ⟨wO, ⟨l0, l1⟩, wk⟩ := N_ab_O hO ht c (by omega)
      have wC := wO.1.C
      have w25 := wk 25 (by omega) (by omega)
      have hpe := wO.2.2 (c : Int) (by omega) (by omega)
      have hp0 := wO.1.P (j := (2388 + 4 * (c : Int)).toNat) (by omega) (by omega)
      have hp1 := wO.1.P (j := (2388 + 4 * (c : Int) + 1).toNat) (by omega) (by omega)
      have hp3 := wO.1.P (j := (2388 + 4 * (c : Int) + 3).toNat) (by omega) (by omega)
      refine r_iload_n F rfl rfl dX9_arrivesBySchedule_12 rfl ?_
      refine r_iload_n F rfl rfl dX9_arrivesBySchedule_13 rfl ?_
      refine r_icmp_ge F (tgt := 163) ⟨by omega, by omega⟩ ⟨by omega, by omega⟩ dX9_arrivesBySchedule_14 rfl (by decide) (fun h_14 => ?_) (fun h_14 => ?_)
      ·
        exfalso; omega
      ·
        refine r_sipush F (by decide) dX9_arrivesBySchedule_17 rfl ?_
        refine r_iconst F dX9_arrivesBySchedule_20 rfl ?_
        refine r_iload_n F rfl rfl dX9_arrivesBySchedule_21 rfl ?_
        refine r_imul F dX9_arrivesBySchedule_22 rfl ?_
        refine r_iadd F dX9_arrivesBySchedule_23 rfl ?_
        refine r_ist4 F (by decide) rfl dX9_arrivesBySchedule_24 rfl ?_
        refine r_aload_n F rfl rfl dX9_arrivesBySchedule_26 rfl ?_
        refine r_getR F f_X9_7 (hM.1) rfl dX9_arrivesBySchedule_27 rfl ?_
        refine r_iload F rfl dX9_arrivesBySchedule_30 rfl ?_
        refine r_iconst F dX9_arrivesBySchedule_32 rfl ?_
        refine r_iadd F dX9_arrivesBySchedule_33 rfl ?_
        refine r_iald F (ja_LM_1 hM) (by omega) (by omega) (by decide) dX9_arrivesBySchedule_34 rfl ?_
        refine r_eqz (z := (((N_ab v c).2) (Int.toNat ((2388 + (4 * (c : Int))) + 3)))) (by rw [ja_rw_s]) ?_
        refine r_aload_n F rfl rfl dX9_arrivesBySchedule_35 rfl ?_
        refine r_getR F f_X9_7 (hM.1) rfl dX9_arrivesBySchedule_36 rfl ?_
        refine r_bipush F (by decide) dX9_arrivesBySchedule_39 rfl ?_
        refine r_iald F (ja_LM_1 hM) (by omega) (by omega) (by decide) dX9_arrivesBySchedule_41 rfl ?_
        refine r_eqz (z := (((N_ab v c).2) 9)) (by rw [ja_rw_s, show Int.toNat 9 = 9 from rfl]) ?_
        refine r_icmp_ne F (tgt := 114) ⟨by omega, by omega⟩ ⟨by omega, by omega⟩ dX9_arrivesBySchedule_42 rfl (by decide) (fun h_42 => ?_) (fun h_42 => ?_)
        ·
          refine r_iconst F dX9_arrivesBySchedule_114 rfl ?_
          refine r_ist5 F (by decide) rfl dX9_arrivesBySchedule_115 rfl ?_
          have lpi : ∀ (d e : Nat), e + d = 4 → ja_W C 0 0 lay (ja_rw G (m + 1) (N_c4 (N_ab v c).2 (2388 + 4 * (N_ab v c).1) (2388 + 4 * (c : Int)) e)) n 117 [some (.ref (m)), some (.int (ja_I ((N_ab v c).1))), some (.int (ja_I (v 25))), some (.int (ja_I ((c : Int)))), some (.int (ja_I ((2388 + (4 * (c : Int)))))), some (.int (ja_I ((e : Int))))] [] := by
            intro d
            induction d with
            | zero =>
              intro e he
              refine r_iload F rfl dX9_arrivesBySchedule_117 rfl ?_
              refine r_iconst F dX9_arrivesBySchedule_119 rfl ?_
              refine r_icmp_ge F (tgt := 154) ⟨by omega, by omega⟩ ⟨by omega, by omega⟩ dX9_arrivesBySchedule_120 rfl (by decide) (fun h_120 => ?_) (fun h_120 => ?_)
              ·
                obtain rfl : e = 4 := by omega
                refine r_inc1 F (by decide) rfl dX9_arrivesBySchedule_154 rfl ?_
                refine r_inc3 F (by decide) rfl dX9_arrivesBySchedule_157 rfl ?_
                refine r_goto F (tgt := 12) dX9_arrivesBySchedule_160 (by decide) ?_
                refine r_msk [true, true, true, true, false, false] rfl ?_
                have h0 := ih (c + 1) (by omega)
                simp only [N_ab] at h0
                first
                  | (rw [if_neg h_42] at h0; exact h0)
                  | (rw [if_pos h_42, if_neg h_52] at h0; exact h0)
                  | (rw [if_pos h_42, if_pos h_52] at h0; exact h0)
              ·
                exfalso; omega
            | succ d ihe =>
              intro e he
              refine r_iload F rfl dX9_arrivesBySchedule_117 rfl ?_
              refine r_iconst F dX9_arrivesBySchedule_119 rfl ?_
              refine r_icmp_ge F (tgt := 154) ⟨by omega, by omega⟩ ⟨by omega, by omega⟩ dX9_arrivesBySchedule_120 rfl (by decide) (fun h_120 => ?_) (fun h_120 => ?_)
              ·
                exfalso; omega
              ·
                refine r_aload_n F rfl rfl dX9_arrivesBySchedule_123 rfl ?_
                refine r_getR F f_X9_7 (hM.1) rfl dX9_arrivesBySchedule_124 rfl ?_
                refine r_sipush F (by decide) dX9_arrivesBySchedule_127 rfl ?_
                refine r_iconst F dX9_arrivesBySchedule_130 rfl ?_
                refine r_iload_n F rfl rfl dX9_arrivesBySchedule_131 rfl ?_
                refine r_imul F dX9_arrivesBySchedule_132 rfl ?_
                refine r_iadd F dX9_arrivesBySchedule_133 rfl ?_
                refine r_iload F rfl dX9_arrivesBySchedule_134 rfl ?_
                refine r_iadd F dX9_arrivesBySchedule_136 rfl ?_
                refine r_aload_n F rfl rfl dX9_arrivesBySchedule_137 rfl ?_
                refine r_getR F f_X9_7 (hM.1) rfl dX9_arrivesBySchedule_138 rfl ?_
                refine r_iload F rfl dX9_arrivesBySchedule_141 rfl ?_
                refine r_iload F rfl dX9_arrivesBySchedule_143 rfl ?_
                refine r_iadd F dX9_arrivesBySchedule_145 rfl ?_
                refine r_iald F (ja_LM_1 hM) (by omega) (by omega) (by decide) dX9_arrivesBySchedule_146 rfl ?_
                refine r_eqz (z := ((N_c4 (N_ab v c).2 (2388 + 4 * (N_ab v c).1) (2388 + 4 * (c : Int)) e) (Int.toNat ((2388 + (4 * (c : Int))) + (e : Int))))) (by rw [ja_rw_s]) ?_
                refine r_iast F (ja_LM_1 hM) (by omega) (by omega) (by decide) dX9_arrivesBySchedule_147 rfl ?_
                refine r_mem (mem' := ja_rw G (m + 1) (ja_rs (N_c4 (N_ab v c).2 (2388 + 4 * (N_ab v c).1) (2388 + 4 * (c : Int)) e) (Int.toNat ((2388 + (4 * (N_ab v c).1)) + (e : Int))) ((N_c4 (N_ab v c).2 (2388 + 4 * (N_ab v c).1) (2388 + 4 * (c : Int)) e) (Int.toNat ((2388 + (4 * (c : Int))) + (e : Int)))))) (ja_rw_up _ _ _ _ _) ?_
                refine r_inc5 F (by decide) rfl dX9_arrivesBySchedule_148 rfl ?_
                refine r_goto F (tgt := 117) dX9_arrivesBySchedule_151 (by decide) ?_
                exact ihe (e + 1) (by omega)
          exact lpi (4) 0 (by omega)
        ·
          refine r_aload_n F rfl rfl dX9_arrivesBySchedule_45 rfl ?_
          refine r_getR F f_X9_7 (hM.1) rfl dX9_arrivesBySchedule_46 rfl ?_
          refine r_iload F rfl dX9_arrivesBySchedule_49 rfl ?_
          refine r_iald F (ja_LM_1 hM) (by omega) (by omega) (by decide) dX9_arrivesBySchedule_51 rfl ?_
          refine r_eqz (z := (((N_ab v c).2) (Int.toNat (2388 + (4 * (c : Int)))))) (by rw [ja_rw_s]) ?_
          refine r_if_ne F (tgt := 71) ⟨by omega, by omega⟩ dX9_arrivesBySchedule_52 rfl (by decide) (fun h_52 => ?_) (fun h_52 => ?_)
          ·
            refine r_aload_n F rfl rfl dX9_arrivesBySchedule_71 rfl ?_
            have J88 : ja_W C 0 0 lay (ja_rw G (m + 1) ((N_ab v c).2)) n 88 [some (.ref (m)), some (.int (ja_I ((N_ab v c).1))), some (.int (ja_I (v 25))), some (.int (ja_I ((c : Int)))), some (.int (ja_I ((2388 + (4 * (c : Int)))))), none] [.int (ja_I (if (N_ab v c).2 (2388 + 4 * (c : Int)).toNat = 1 then 1 else 0)), .ref (m)] := by
              refine r_aload_n F rfl rfl dX9_arrivesBySchedule_88 rfl ?_
              refine r_getR F f_X9_7 (hM.1) rfl dX9_arrivesBySchedule_89 rfl ?_
              refine r_iload F rfl dX9_arrivesBySchedule_92 rfl ?_
              refine r_iconst F dX9_arrivesBySchedule_94 rfl ?_
              refine r_iadd F dX9_arrivesBySchedule_95 rfl ?_
              refine r_iald F (ja_LM_1 hM) (by omega) (by omega) (by decide) dX9_arrivesBySchedule_96 rfl ?_
              refine r_eqz (z := (((N_ab v c).2) (Int.toNat ((2388 + (4 * (c : Int))) + 1)))) (by rw [ja_rw_s]) ?_
              refine r_aload_n F rfl rfl dX9_arrivesBySchedule_97 rfl ?_
              refine r_getR F f_X9_7 (hM.1) rfl dX9_arrivesBySchedule_98 rfl ?_
              refine r_iload F rfl dX9_arrivesBySchedule_101 rfl ?_
              refine r_iconst F dX9_arrivesBySchedule_103 rfl ?_
              refine r_iadd F dX9_arrivesBySchedule_104 rfl ?_
              refine r_iald F (ja_LM_1 hM) (by omega) (by omega) (by decide) dX9_arrivesBySchedule_105 rfl ?_
              refine r_eqz (z := (((N_ab v c).2) (Int.toNat ((2388 + (4 * (c : Int))) + 2)))) (by rw [ja_rw_s]) ?_
              refine r_callV F GC (c_X9_arrivesParity _ _ _ _ hM wO ht (by split <;> omega) (hpe.2.2 h_52).1 (N_hP_6 wO.1.S (hpe.2.2 h_52))) v_X9_95 rfl (hM.1) rfl (by decide) (by decide) (Nat.le_of_ble_eq_true rfl) rfl dX9_arrivesBySchedule_106 rfl (fun v lay' mem' n' hp => ?_)
              obtain ⟨q1, q2, q3, q4⟩ := hp
              subst q1; subst q2; subst q3; subst q4
              refine r_ist5 F (by decide) rfl dX9_arrivesBySchedule_109 rfl ?_
              refine r_goto F (tgt := 157) dX9_arrivesBySchedule_111 (by decide) ?_
              refine r_inc3 F (by decide) rfl dX9_arrivesBySchedule_157 rfl ?_
              refine r_goto F (tgt := 12) dX9_arrivesBySchedule_160 (by decide) ?_
              refine r_msk [true, true, true, true, false, false] rfl ?_
              have h0 := ih (c + 1) (by omega)
              simp only [N_ab] at h0
              first
                | (rw [if_neg h_42] at h0; exact h0)
                | (rw [if_pos h_42, if_neg h_52] at h0; exact h0)
                | (rw [if_pos h_42, if_pos h_52] at h0; exact h0)
            refine r_aload_n F rfl rfl dX9_arrivesBySchedule_72 rfl ?_
            refine r_getR F f_X9_7 (hM.1) rfl dX9_arrivesBySchedule_73 rfl ?_
            refine r_iload F rfl dX9_arrivesBySchedule_76 rfl ?_
            refine r_iald F (ja_LM_1 hM) (by omega) (by omega) (by decide) dX9_arrivesBySchedule_78 rfl ?_
            refine r_eqz (z := (((N_ab v c).2) (Int.toNat (2388 + (4 * (c : Int)))))) (by rw [ja_rw_s]) ?_
            refine r_iconst F dX9_arrivesBySchedule_79 rfl ?_
            refine r_icmp_ne F (tgt := 87) ⟨by omega, by omega⟩ ⟨by omega, by omega⟩ dX9_arrivesBySchedule_80 rfl (by decide) (fun h_80 => ?_) (fun h_80 => ?_)
            ·
              refine r_iconst F dX9_arrivesBySchedule_87 rfl ?_
              refine r_eqz (z := if (N_ab v c).2 (2388 + 4 * (c : Int)).toNat = 1 then 1 else 0) (by first | rw [if_pos (by omega)] | rw [if_neg (by omega)]) ?_
              exact J88
            ·
              refine r_iconst F dX9_arrivesBySchedule_83 rfl ?_
              refine r_goto F (tgt := 88) dX9_arrivesBySchedule_84 (by decide) ?_
              refine r_eqz (z := if (N_ab v c).2 (2388 + 4 * (c : Int)).toNat = 1 then 1 else 0) (by first | rw [if_pos (by omega)] | rw [if_neg (by omega)]) ?_
              exact J88
          ·
            refine r_aload_n F rfl rfl dX9_arrivesBySchedule_55 rfl ?_
            refine r_aload_n F rfl rfl dX9_arrivesBySchedule_56 rfl ?_
            refine r_getR F f_X9_7 (hM.1) rfl dX9_arrivesBySchedule_57 rfl ?_
            refine r_iload F rfl dX9_arrivesBySchedule_60 rfl ?_
            refine r_iconst F dX9_arrivesBySchedule_62 rfl ?_
            refine r_iadd F dX9_arrivesBySchedule_63 rfl ?_
            refine r_iald F (ja_LM_1 hM) (by omega) (by omega) (by decide) dX9_arrivesBySchedule_64 rfl ?_
            refine r_eqz (z := (((N_ab v c).2) (Int.toNat ((2388 + (4 * (c : Int))) + 1)))) (by rw [ja_rw_s]) ?_
            refine r_callV F GC (c_X9_arrives _ _ _ _ hM wO ht ⟨hp1.1, hpe.2.1 h_52⟩) v_X9_87 rfl (hM.1) rfl (by decide) (by decide) (Nat.le_of_ble_eq_true rfl) rfl dX9_arrivesBySchedule_65 rfl (fun v lay' mem' n' hp => ?_)
            obtain ⟨q1, q2, q3, q4⟩ := hp
            subst q1; subst q2; subst q3; subst q4
            refine r_goto F (tgt := 109) dX9_arrivesBySchedule_68 (by decide) ?_
            refine r_ist5 F (by decide) rfl dX9_arrivesBySchedule_109 rfl ?_
            refine r_goto F (tgt := 157) dX9_arrivesBySchedule_111 (by decide) ?_
            refine r_inc3 F (by decide) rfl dX9_arrivesBySchedule_157 rfl ?_
            refine r_goto F (tgt := 12) dX9_arrivesBySchedule_160 (by decide) ?_
            refine r_msk [true, true, true, true, false, false] rfl ?_
            have h0 := ih (c + 1) (by omega)
            simp only [N_ab] at h0
            first
              | (rw [if_neg h_42] at h0; exact h0)
              | (rw [if_pos h_42, if_neg h_52] at h0; exact h0)
              | (rw [if_pos h_42, if_pos h_52] at h0; exact h0)
  exact loop ((v 25).toNat) 0 (by omega)
abbrev rm_X9_lagOfFrame : Room := { frames := 1, cells := 0, slots := 0, locals := 20 }
set_option maxRecDepth 100000 in
set_option maxHeartbeats 800000 in
theorem c_X9_lagOfFrame (l : Launch) (D : va_G) (cA : Nat → ClassId) (B : Nat) {lay : ja_Y} {n : Nat} {m : Nat} {G : ja_M} {v : Nat → Int} (hM : ja_LM lay m) {g : Nat → Int} (hR : N_R v) (hg : ∀ j, ja_sp (g j)) (hgx : ∀ j : Nat, (j : Int) < v 0 → G (m + 7) j = g j) : ja_Mt l D cA B yX9_lagOfFrame cX9_lagOfFrame 6 (some .int) rm_X9_lagOfFrame [.ref m] lay (ja_rw G (m + 1) v) n (ja_rd lay (ja_rw G (m + 1) v) n (some (.int (ja_I (P_lg g 1 (v 0 / 2 - 2).toNat).1)))) := by
  refine ja_enter [some (.ref m), none, none, none, none, none] (by decide) (Nat.le_of_ble_eq_true rfl) (fun q hq => hq) (fun C F Rt GC hnm => ?_)
  have hS0 := hR.S.1
  refine r_iconst F dX9_lagOfFrame_0 rfl ?_
  refine r_ist1 F (by decide) rfl dX9_lagOfFrame_1 rfl ?_
  refine r_iconst F dX9_lagOfFrame_2 rfl ?_
  refine r_ist2 F (by decide) rfl dX9_lagOfFrame_3 rfl ?_
  refine r_iconst F dX9_lagOfFrame_4 rfl ?_
  refine r_ist3 F (by decide) rfl dX9_lagOfFrame_5 rfl ?_
  have loop : ∀ (d c : Nat), c + d = (v 0 / 2 - 2).toNat → ja_W C 0 0 lay (ja_rw G (m + 1) v) n 6 [some (.ref m), some (.int (ja_I (P_lg g 1 c).1)), some (.int (ja_I (P_lg g 1 c).2)), some (.int (ja_I ((c : Int) + 3))), none, none] [] := by
    intro d
    induction d with
    | zero =>
      intro c hc
      have b1 := P_lg_in (ex := 1) hg c (by omega)
      have b2 := P_dif_in hg (c + 3) (c + 3)
      have b3 := ja_mulb b2.1 (by omega : P_dif g (c + 3) (c + 3) ≤ 3400) (by omega : 0 ≤ (P_lg g 1 c).1) (by omega : (P_lg g 1 c).1 ≤ 16)
      have b4 := ja_mulb b1.2.1 b1.2.2 (by omega : 0 ≤ (c : Int) + 3) (by omega : (c : Int) + 3 ≤ 17)
      refine r_iload_n F rfl rfl dX9_lagOfFrame_6 rfl ?_
      refine r_aload_n F rfl rfl dX9_lagOfFrame_7 rfl ?_
      refine r_getR F f_X9_7 (hM.1) rfl dX9_lagOfFrame_8 rfl ?_
      refine r_iconst F dX9_lagOfFrame_11 rfl ?_
      refine r_iald F (ja_LM_1 hM) (by omega) (by omega) (by decide) dX9_lagOfFrame_12 rfl ?_
      refine r_eqz (z := (v 0)) (by rw [ja_rw_s, show Int.toNat 0 = 0 from rfl]) ?_
      refine r_iconst F dX9_lagOfFrame_13 rfl ?_
      refine r_idivP F ⟨by omega, by omega⟩ ⟨by omega, by omega⟩ (by omega) (by omega) dX9_lagOfFrame_14 rfl ?_
      refine r_icmp_gt F (tgt := 86) ⟨by omega, by omega⟩ ⟨by omega, by omega⟩ dX9_lagOfFrame_15 rfl (by decide) (fun h_15 => ?_) (fun h_15 => ?_)
      ·
        refine r_iload_n F rfl rfl dX9_lagOfFrame_86 rfl ?_
        exact r_iret F Rt dX9_lagOfFrame_87 (by decide) ⟨by rw [show (v 0 / 2 - 2).toNat = c by omega], rfl, rfl, rfl⟩
      ·
        exfalso; omega
    | succ d ih =>
      intro c hc
      have b1 := P_lg_in (ex := 1) hg c (by omega)
      have b2 := P_dif_in hg (c + 3) (c + 3)
      have b3 := ja_mulb b2.1 (by omega : P_dif g (c + 3) (c + 3) ≤ 3400) (by omega : 0 ≤ (P_lg g 1 c).1) (by omega : (P_lg g 1 c).1 ≤ 16)
      have b4 := ja_mulb b1.2.1 b1.2.2 (by omega : 0 ≤ (c : Int) + 3) (by omega : (c : Int) + 3 ≤ 17)
      refine r_iload_n F rfl rfl dX9_lagOfFrame_6 rfl ?_
      refine r_aload_n F rfl rfl dX9_lagOfFrame_7 rfl ?_
      refine r_getR F f_X9_7 (hM.1) rfl dX9_lagOfFrame_8 rfl ?_
      refine r_iconst F dX9_lagOfFrame_11 rfl ?_
      refine r_iald F (ja_LM_1 hM) (by omega) (by omega) (by decide) dX9_lagOfFrame_12 rfl ?_
      refine r_eqz (z := (v 0)) (by rw [ja_rw_s, show Int.toNat 0 = 0 from rfl]) ?_
      refine r_iconst F dX9_lagOfFrame_13 rfl ?_
      refine r_idivP F ⟨by omega, by omega⟩ ⟨by omega, by omega⟩ (by omega) (by omega) dX9_lagOfFrame_14 rfl ?_
      refine r_icmp_gt F (tgt := 86) ⟨by omega, by omega⟩ ⟨by omega, by omega⟩ dX9_lagOfFrame_15 rfl (by decide) (fun h_15 => ?_) (fun h_15 => ?_)
      ·
        exfalso; omega
      ·
        refine r_iconst F dX9_lagOfFrame_18 rfl ?_
        refine r_ist4 F (by decide) rfl dX9_lagOfFrame_19 rfl ?_
        refine r_iconst F dX9_lagOfFrame_21 rfl ?_
        refine r_ist5 F (by decide) rfl dX9_lagOfFrame_22 rfl ?_
        have lpd : ∀ (d e : Nat), e + d = (c + 3) → ja_W C 0 0 lay (ja_rw G (m + 1) (v)) n 24 [some (.ref (m)), some (.int (ja_I ((P_lg g 1 c).1))), some (.int (ja_I ((P_lg g 1 c).2))), some (.int (ja_I (((c : Int) + 3)))), some (.int (ja_I (P_dif g (c + 3) e))), some (.int (ja_I ((e : Int))))] [] := by
          intro d
          induction d with
          | zero =>
            intro e he
            refine r_iload F rfl dX9_lagOfFrame_24 rfl ?_
            refine r_iload_n F rfl rfl dX9_lagOfFrame_26 rfl ?_
            refine r_icmp_ge F (tgt := 61) ⟨by omega, by omega⟩ ⟨by omega, by omega⟩ dX9_lagOfFrame_27 rfl (by decide) (fun h_27 => ?_) (fun h_27 => ?_)
            ·
              obtain rfl : e = c + 3 := by omega
              refine r_iload_n F rfl rfl dX9_lagOfFrame_61 rfl ?_
              refine r_if_lt F (tgt := 75) ⟨by omega, by omega⟩ dX9_lagOfFrame_62 rfl (by decide) (fun h_62 => ?_) (fun h_62 => ?_)
              ·
                exfalso; omega
              ·
                refine r_iload F rfl dX9_lagOfFrame_65 rfl ?_
                refine r_iload_n F rfl rfl dX9_lagOfFrame_67 rfl ?_
                refine r_imul F dX9_lagOfFrame_68 rfl ?_
                refine r_iload_n F rfl rfl dX9_lagOfFrame_69 rfl ?_
                refine r_iload_n F rfl rfl dX9_lagOfFrame_70 rfl ?_
                refine r_imul F dX9_lagOfFrame_71 rfl ?_
                refine r_icmp_ge F (tgt := 80) ⟨by omega, by omega⟩ ⟨by omega, by omega⟩ dX9_lagOfFrame_72 rfl (by decide) (fun h_72 => ?_) (fun h_72 => ?_)
                ·
                  refine r_inc3 F (by decide) rfl dX9_lagOfFrame_80 rfl ?_
                  refine r_goto F (tgt := 6) dX9_lagOfFrame_83 (by decide) ?_
                  rw [show (c : Int) + 3 + 1 = ((c + 1 : Nat) : Int) + 3 by omega]
                  refine r_msk [true, true, true, true, false, false] rfl ?_
                  have h0 := ih (c + 1) (by omega)
                  first
                    | (rw [P_lg_a (by decide) h_72] at h0; exact h0)
                    | (rw [P_lg_b (by decide) h_72] at h0; exact h0)
                ·
                  refine r_iload_n F rfl rfl dX9_lagOfFrame_75 rfl ?_
                  refine r_ist1 F (by decide) rfl dX9_lagOfFrame_76 rfl ?_
                  refine r_iload F rfl dX9_lagOfFrame_77 rfl ?_
                  refine r_ist2 F (by decide) rfl dX9_lagOfFrame_79 rfl ?_
                  refine r_inc3 F (by decide) rfl dX9_lagOfFrame_80 rfl ?_
                  refine r_goto F (tgt := 6) dX9_lagOfFrame_83 (by decide) ?_
                  rw [show (c : Int) + 3 + 1 = ((c + 1 : Nat) : Int) + 3 by omega]
                  refine r_msk [true, true, true, true, false, false] rfl ?_
                  have h0 := ih (c + 1) (by omega)
                  first
                    | (rw [P_lg_a (by decide) h_72] at h0; exact h0)
                    | (rw [P_lg_b (by decide) h_72] at h0; exact h0)
            ·
              exfalso; omega
          | succ d ihe =>
            intro e he
            have u1 := hg e
            have u2 := hg (e + (c + 3))
            obtain ⟨u3, u4⟩ := id u1
            obtain ⟨u5, u6⟩ := id u2
            refine r_iload F rfl dX9_lagOfFrame_24 rfl ?_
            refine r_iload_n F rfl rfl dX9_lagOfFrame_26 rfl ?_
            refine r_icmp_ge F (tgt := 61) ⟨by omega, by omega⟩ ⟨by omega, by omega⟩ dX9_lagOfFrame_27 rfl (by decide) (fun h_27 => ?_) (fun h_27 => ?_)
            ·
              exfalso; omega
            ·
              refine r_iload F rfl dX9_lagOfFrame_30 rfl ?_
              refine r_aload_n F rfl rfl dX9_lagOfFrame_32 rfl ?_
              refine r_getR F f_X9_29 (hM.1) rfl dX9_lagOfFrame_33 rfl ?_
              refine r_iload F rfl dX9_lagOfFrame_36 rfl ?_
              refine r_iald F (ja_LM_7 hM) (by omega) (by omega) (by decide) dX9_lagOfFrame_38 rfl ?_
              refine r_eqz (z := (g e)) (by rw [ja_rw_n (by omega), hgx _ (by omega)]; congr 1 <;> omega) ?_
              refine r_aload_n F rfl rfl dX9_lagOfFrame_39 rfl ?_
              refine r_getR F f_X9_29 (hM.1) rfl dX9_lagOfFrame_40 rfl ?_
              refine r_iload_n F rfl rfl dX9_lagOfFrame_43 rfl ?_
              refine r_iload F rfl dX9_lagOfFrame_44 rfl ?_
              refine r_iadd F dX9_lagOfFrame_46 rfl ?_
              refine r_iald F (ja_LM_7 hM) (by omega) (by omega) (by decide) dX9_lagOfFrame_47 rfl ?_
              refine r_eqz (z := (g (e + (c + 3)))) (by rw [ja_rw_n (by omega), hgx _ (by omega)]; congr 1 <;> omega) ?_
              refine r_isub F dX9_lagOfFrame_48 rfl ?_
              refine r_callS F GC (c_X9_size _ _ _ _ ⟨by omega, by omega⟩) s_X9_101 rfl (by decide) (by decide) (Nat.le_of_ble_eq_true rfl) rfl dX9_lagOfFrame_49 rfl (fun v lay' mem' n' hp => ?_)
              obtain ⟨q1, q2, q3, q4⟩ := hp
              subst q1; subst q2; subst q3; subst q4
              refine r_iadd F dX9_lagOfFrame_52 rfl ?_
              refine r_ist4 F (by decide) rfl dX9_lagOfFrame_53 rfl ?_
              refine r_inc5 F (by decide) rfl dX9_lagOfFrame_55 rfl ?_
              refine r_goto F (tgt := 24) dX9_lagOfFrame_58 (by decide) ?_
              exact ihe (e + 1) (by omega)
        exact lpd ((c + 3)) 0 (by omega)
  refine r_iload_n F rfl rfl dX9_lagOfFrame_6 rfl ?_
  refine r_aload_n F rfl rfl dX9_lagOfFrame_7 rfl ?_
  refine r_getR F f_X9_7 (hM.1) rfl dX9_lagOfFrame_8 rfl ?_
  refine r_iconst F dX9_lagOfFrame_11 rfl ?_
  refine r_iald F (ja_LM_1 hM) (by omega) (by omega) (by decide) dX9_lagOfFrame_12 rfl ?_
  refine r_eqz (z := (v 0)) (by rw [ja_rw_s, show Int.toNat 0 = 0 from rfl]) ?_
  refine r_iconst F dX9_lagOfFrame_13 rfl ?_
  refine r_idivP F ⟨by omega, by omega⟩ ⟨by omega, by omega⟩ (by omega) (by omega) dX9_lagOfFrame_14 rfl ?_
  refine r_icmp_gt F (tgt := 86) ⟨by omega, by omega⟩ ⟨by omega, by omega⟩ dX9_lagOfFrame_15 rfl (by decide) (fun h_15 => ?_) (fun h_15 => ?_)
  ·
    exfalso; omega
  ·
    refine r_iconst F dX9_lagOfFrame_18 rfl ?_
    refine r_ist4 F (by decide) rfl dX9_lagOfFrame_19 rfl ?_
    refine r_iconst F dX9_lagOfFrame_21 rfl ?_
    refine r_ist5 F (by decide) rfl dX9_lagOfFrame_22 rfl ?_
    have lpd : ∀ (d e : Nat), e + d = 2 → ja_W C 0 0 lay (ja_rw G (m + 1) (v)) n 24 [some (.ref (m)), some (.int (ja_I (2))), some (.int (ja_I (-1))), some (.int (ja_I (2))), some (.int (ja_I (P_dif g 2 e))), some (.int (ja_I ((e : Int))))] [] := by
      intro d
      induction d with
      | zero =>
        intro e he
        refine r_iload F rfl dX9_lagOfFrame_24 rfl ?_
        refine r_iload_n F rfl rfl dX9_lagOfFrame_26 rfl ?_
        refine r_icmp_ge F (tgt := 61) ⟨by omega, by omega⟩ ⟨by omega, by omega⟩ dX9_lagOfFrame_27 rfl (by decide) (fun h_27 => ?_) (fun h_27 => ?_)
        ·
          obtain rfl : e = 2 := by omega
          refine r_iload_n F rfl rfl dX9_lagOfFrame_61 rfl ?_
          refine r_if_lt F (tgt := 75) ⟨by omega, by omega⟩ dX9_lagOfFrame_62 rfl (by decide) (fun h_62 => ?_) (fun h_62 => ?_)
          ·
            refine r_iload_n F rfl rfl dX9_lagOfFrame_75 rfl ?_
            refine r_ist1 F (by decide) rfl dX9_lagOfFrame_76 rfl ?_
            refine r_iload F rfl dX9_lagOfFrame_77 rfl ?_
            refine r_ist2 F (by decide) rfl dX9_lagOfFrame_79 rfl ?_
            refine r_inc3 F (by decide) rfl dX9_lagOfFrame_80 rfl ?_
            refine r_goto F (tgt := 6) dX9_lagOfFrame_83 (by decide) ?_
            refine r_msk [true, true, true, true, false, false] rfl ?_
            exact loop (v 0 / 2 - 2).toNat 0 (by omega)
          ·
            exfalso; omega
        ·
          exfalso; omega
      | succ d ihe =>
        intro e he
        have u1 := hg e
        have u2 := hg (e + 2)
        obtain ⟨u3, u4⟩ := id u1
        obtain ⟨u5, u6⟩ := id u2
        refine r_iload F rfl dX9_lagOfFrame_24 rfl ?_
        refine r_iload_n F rfl rfl dX9_lagOfFrame_26 rfl ?_
        refine r_icmp_ge F (tgt := 61) ⟨by omega, by omega⟩ ⟨by omega, by omega⟩ dX9_lagOfFrame_27 rfl (by decide) (fun h_27 => ?_) (fun h_27 => ?_)
        ·
          exfalso; omega
        ·
          refine r_iload F rfl dX9_lagOfFrame_30 rfl ?_
          refine r_aload_n F rfl rfl dX9_lagOfFrame_32 rfl ?_
          refine r_getR F f_X9_29 (hM.1) rfl dX9_lagOfFrame_33 rfl ?_
          refine r_iload F rfl dX9_lagOfFrame_36 rfl ?_
          refine r_iald F (ja_LM_7 hM) (by omega) (by omega) (by decide) dX9_lagOfFrame_38 rfl ?_
          refine r_eqz (z := (g e)) (by rw [ja_rw_n (by omega), hgx _ (by omega)]; congr 1 <;> omega) ?_
          refine r_aload_n F rfl rfl dX9_lagOfFrame_39 rfl ?_
          refine r_getR F f_X9_29 (hM.1) rfl dX9_lagOfFrame_40 rfl ?_
          refine r_iload_n F rfl rfl dX9_lagOfFrame_43 rfl ?_
          refine r_iload F rfl dX9_lagOfFrame_44 rfl ?_
          refine r_iadd F dX9_lagOfFrame_46 rfl ?_
          refine r_iald F (ja_LM_7 hM) (by omega) (by omega) (by decide) dX9_lagOfFrame_47 rfl ?_
          refine r_eqz (z := (g (e + 2))) (by rw [ja_rw_n (by omega), hgx _ (by omega)]; congr 1 <;> omega) ?_
          refine r_isub F dX9_lagOfFrame_48 rfl ?_
          refine r_callS F GC (c_X9_size _ _ _ _ ⟨by omega, by omega⟩) s_X9_101 rfl (by decide) (by decide) (Nat.le_of_ble_eq_true rfl) rfl dX9_lagOfFrame_49 rfl (fun v lay' mem' n' hp => ?_)
          obtain ⟨q1, q2, q3, q4⟩ := hp
          subst q1; subst q2; subst q3; subst q4
          refine r_iadd F dX9_lagOfFrame_52 rfl ?_
          refine r_ist4 F (by decide) rfl dX9_lagOfFrame_53 rfl ?_
          refine r_inc5 F (by decide) rfl dX9_lagOfFrame_55 rfl ?_
          refine r_goto F (tgt := 24) dX9_lagOfFrame_58 (by decide) ?_
          exact ihe (e + 1) (by omega)
    exact lpd (2) 0 (by omega)
abbrev rm_X9_mixed : Room := { frames := 0, cells := 0, slots := 0, locals := 0 }
set_option maxRecDepth 100000 in
set_option maxHeartbeats 800000 in
theorem c_X9_mixed (l : Launch) (D : va_G) (cA : Nat → ClassId) (B : Nat) {lay : ja_Y} {n : Nat} {mem : ja_M} {a b i p : Int} (ha : ja_sp a) (hb : ja_sp b) (hi : 0 ≤ i ∧ i ≤ p) (hp : 1 ≤ p ∧ p ≤ 1000) : ja_Mt l D cA B yX9_mixed cX9_mixed 4 (some .int) rm_X9_mixed [.int (ja_I a), .int (ja_I b), .int (ja_I i), .int (ja_I p)] lay (mem) n (ja_rd lay mem n (some (.int (ja_I (P_mx a b p i))))) := by
  refine ja_enter [some (.int (ja_I a)), some (.int (ja_I b)), some (.int (ja_I i)), some (.int (ja_I p))] (by decide) (Nat.le_of_ble_eq_true rfl) (fun q hq => hq) (fun C F Rt GC hnm => ?_)
  have hm := P_mxr ha hb hi hp.2
  refine r_iload_n F rfl rfl dX9_mixed_0 rfl ?_
  refine r_iload_n F rfl rfl dX9_mixed_1 rfl ?_
  refine r_iload_n F rfl rfl dX9_mixed_2 rfl ?_
  refine r_isub F dX9_mixed_3 rfl ?_
  refine r_imul F dX9_mixed_4 rfl ?_
  refine r_iload_n F rfl rfl dX9_mixed_5 rfl ?_
  refine r_iload_n F rfl rfl dX9_mixed_6 rfl ?_
  refine r_imul F dX9_mixed_7 rfl ?_
  refine r_iadd F dX9_mixed_8 rfl ?_
  refine r_iload_n F rfl rfl dX9_mixed_9 rfl ?_
  refine r_idiv F ⟨by omega, by omega⟩ ⟨by omega, by omega⟩ (by omega) dX9_mixed_10 rfl ?_
  exact r_iret F Rt dX9_mixed_11 (by decide) ⟨rfl, rfl, rfl, rfl⟩
abbrev rm_X9_gives : Room := { frames := 0, cells := 0, slots := 0, locals := 0 }
set_option maxRecDepth 100000 in
set_option maxHeartbeats 800000 in
theorem c_X9_gives (l : Launch) (D : va_G) (cA : Nat → ClassId) (B : Nat) {lay : ja_Y} {n : Nat} {m : Nat} {G : ja_M} {v : Nat → Int} (hM : ja_LM lay m) {z : Int} (hR : N_R v) : ja_Mt l D cA B yX9_gives cX9_gives 2 none rm_X9_gives [.ref m, .int (ja_I z)] lay (ja_rw G (m + 1) v) n (ja_rd lay (ja_rw G (m + 1) (N_gi v z)) n (none)) := by
  refine ja_enter [some (.ref m), some (.int (ja_I z))] (by decide) (Nat.le_of_ble_eq_true rfl) (fun q hq => hq) (fun C F Rt GC hnm => ?_)
  have hC := hR.C
  refine r_aload_n F rfl rfl dX9_gives_0 rfl ?_
  refine r_getR F f_X9_7 (hM.1) rfl dX9_gives_1 rfl ?_
  refine r_sipush F (by decide) dX9_gives_4 rfl ?_
  refine r_aload_n F rfl rfl dX9_gives_7 rfl ?_
  refine r_getR F f_X9_7 (hM.1) rfl dX9_gives_8 rfl ?_
  refine r_bipush F (by decide) dX9_gives_11 rfl ?_
  refine r_iald F (ja_LM_1 hM) (by omega) (by omega) (by decide) dX9_gives_13 rfl ?_
  refine r_eqz (z := (v 22)) (by rw [ja_rw_s, show Int.toNat 22 = 22 from rfl]) ?_
  refine r_iadd F dX9_gives_14 rfl ?_
  refine r_iload_n F rfl rfl dX9_gives_15 rfl ?_
  refine r_iast F (ja_LM_1 hM) (by omega) (by omega) (by decide) dX9_gives_16 rfl ?_
  refine r_mem (mem' := ja_rw G (m + 1) (ja_rs v (Int.toNat (2342 + (v 22))) z)) (ja_rw_up _ _ _ _ _) ?_
  refine r_aload_n F rfl rfl dX9_gives_17 rfl ?_
  refine r_getR F f_X9_7 (hM.1) rfl dX9_gives_18 rfl ?_
  refine r_bipush F (by decide) dX9_gives_21 rfl ?_
  refine r_dup2 F rfl rfl dX9_gives_23 rfl ?_
  refine r_iald F (ja_LM_1 hM) (by omega) (by omega) (by decide) dX9_gives_24 rfl ?_
  refine r_eqz (z := (v 22)) (by rw [ja_rw_s, show Int.toNat 22 = 22 from rfl, ja_rs_n (by omega)]) ?_
  refine r_iconst F dX9_gives_25 rfl ?_
  refine r_iadd F dX9_gives_26 rfl ?_
  refine r_iast F (ja_LM_1 hM) (by omega) (by omega) (by decide) dX9_gives_27 rfl ?_
  refine r_mem (mem' := ja_rw G (m + 1) (ja_rs (ja_rs v (Int.toNat (2342 + (v 22))) z) 22 ((v 22) + 1))) (ja_rw_up _ _ _ _ _) ?_
  exact r_vret F Rt dX9_gives_28 (by decide) ⟨rfl, rfl, rfl, rfl⟩
abbrev rm_X9_old : Room := { frames := 0, cells := 0, slots := 0, locals := 0 }
set_option maxRecDepth 100000 in
set_option maxHeartbeats 800000 in
theorem c_X9_old (l : Launch) (D : va_G) (cA : Nat → ClassId) (B : Nat) {lay : ja_Y} {n : Nat} {m : Nat} {G : ja_M} {v : Nat → Int} (hM : ja_LM lay m) {b : Int} (hR : N_R v) (hb : 1 ≤ b ∧ b ≤ v 12) : ja_Mt l D cA B yX9_old cX9_old 2 (some .int) rm_X9_old [.ref m, .int (ja_I b)] lay (ja_rw G (m + 1) v) n (ja_rd lay (ja_rw G (m + 1) v) n (some (.int (ja_I (N_ol v b))))) := by
  refine ja_enter [some (.ref m), some (.int (ja_I b))] (by decide) (Nat.le_of_ble_eq_true rfl) (fun q hq => hq) (fun C F Rt GC hnm => ?_)
  have hC := hR.C
  refine r_aload_n F rfl rfl dX9_old_0 rfl ?_
  refine r_getR F f_X9_7 (hM.1) rfl dX9_old_1 rfl ?_
  refine r_sipush F (by decide) dX9_old_4 rfl ?_
  refine r_aload_n F rfl rfl dX9_old_7 rfl ?_
  refine r_getR F f_X9_7 (hM.1) rfl dX9_old_8 rfl ?_
  refine r_bipush F (by decide) dX9_old_11 rfl ?_
  refine r_iald F (ja_LM_1 hM) (by omega) (by omega) (by decide) dX9_old_13 rfl ?_
  refine r_eqz (z := (v 12)) (by rw [ja_rw_s, show Int.toNat 12 = 12 from rfl]) ?_
  refine r_iload_n F rfl rfl dX9_old_14 rfl ?_
  refine r_isub F dX9_old_15 rfl ?_
  refine r_sipush F (by decide) dX9_old_16 rfl ?_
  refine r_iremP F ⟨by omega, by omega⟩ ⟨by omega, by omega⟩ (by omega) (by omega) dX9_old_19 rfl ?_
  refine r_iadd F dX9_old_20 rfl ?_
  refine r_iald F (ja_LM_1 hM) (by omega) (by omega) (by decide) dX9_old_21 rfl ?_
  refine r_eqz (z := (v (Int.toNat (2054 + (((v 12) - b) % 256))))) (by rw [ja_rw_s]) ?_
  exact r_iret F Rt dX9_old_22 (by decide) ⟨rfl, rfl, rfl, rfl⟩
