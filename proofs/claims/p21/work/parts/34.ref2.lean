abbrev rm_X9_begins : Room := { frames := 0, cells := 0, slots := 0, locals := 0 }
set_option maxRecDepth 100000 in
set_option maxHeartbeats 800000 in
theorem c_X9_begins (l : Launch) (D : va_G) (cA : Nat → ClassId) (B : Nat) {lay : ja_Y} {n : Nat} {m : Nat} {G : ja_M} {v : Nat → Int} (hM : ja_LM lay m) (hR : N_R v) : ja_Mt l D cA B yX9_begins cX9_begins 1 none rm_X9_begins [.ref m] lay (ja_rw G (m + 1) v) n (ja_rd lay (ja_rw G (m + 1) (N_be v)) n (none)) := by
  refine ja_enter [some (.ref m)] (by decide) (Nat.le_of_ble_eq_true rfl) (fun q hq => hq) (fun C F Rt GC hnm => ?_)
  have hC := hR.C
  have hS := hR.S
  refine r_aload_n F rfl rfl dX9_begins_0 rfl ?_
  refine r_getR F f_X9_7 (hM.1) rfl dX9_begins_1 rfl ?_
  refine r_bipush F (by decide) dX9_begins_4 rfl ?_
  refine r_iald F (ja_LM_1 hM) (by omega) (by omega) (by decide) dX9_begins_6 rfl ?_
  refine r_eqz (z := (v 10)) (by rw [ja_rw_s, show Int.toNat 10 = 10 from rfl]) ?_
  refine r_if_ge F (tgt := 31) ⟨by omega, by omega⟩ dX9_begins_7 rfl (by decide) (fun h_7 => ?_) (fun h_7 => ?_)
  ·
    exact r_vret F Rt dX9_begins_31 (by decide) ⟨rfl, rfl, by unfold N_be; first | rw [if_pos (by omega)] | rw [if_neg (by omega)], rfl⟩
  ·
    refine r_aload_n F rfl rfl dX9_begins_10 rfl ?_
    refine r_getR F f_X9_7 (hM.1) rfl dX9_begins_11 rfl ?_
    refine r_bipush F (by decide) dX9_begins_14 rfl ?_
    refine r_aload_n F rfl rfl dX9_begins_16 rfl ?_
    refine r_getR F f_X9_7 (hM.1) rfl dX9_begins_17 rfl ?_
    refine r_bipush F (by decide) dX9_begins_20 rfl ?_
    refine r_iald F (ja_LM_1 hM) (by omega) (by omega) (by decide) dX9_begins_22 rfl ?_
    refine r_eqz (z := (v 9)) (by rw [ja_rw_s, show Int.toNat 9 = 9 from rfl]) ?_
    refine r_aload_n F rfl rfl dX9_begins_23 rfl ?_
    refine r_getR F f_X9_7 (hM.1) rfl dX9_begins_24 rfl ?_
    refine r_iconst F dX9_begins_27 rfl ?_
    refine r_iald F (ja_LM_1 hM) (by omega) (by omega) (by decide) dX9_begins_28 rfl ?_
    refine r_eqz (z := (v 5)) (by rw [ja_rw_s, show Int.toNat 5 = 5 from rfl]) ?_
    refine r_iadd F dX9_begins_29 rfl ?_
    refine r_iast F (ja_LM_1 hM) (by omega) (by omega) (by decide) dX9_begins_30 rfl ?_
    refine r_mem (mem' := ja_rw G (m + 1) (ja_rs v 10 ((v 9) + (v 5)))) (ja_rw_up _ _ _ _ _) ?_
    exact r_vret F Rt dX9_begins_31 (by decide) ⟨rfl, rfl, by unfold N_be; first | rw [if_pos (by omega)] | rw [if_neg (by omega)], rfl⟩
abbrev rm_X9_sampleOf : Room := { frames := 0, cells := 0, slots := 0, locals := 0 }
set_option maxRecDepth 100000 in
set_option maxHeartbeats 800000 in
theorem c_X9_sampleOf (l : Launch) (D : va_G) (cA : Nat → ClassId) (B : Nat) {lay : ja_Y} {n : Nat} {m : Nat} {G : ja_M} {v : Nat → Int} (hM : ja_LM lay m) {x j : Int} (hS : N_S v) (hx : 0 ≤ x ∧ x ≤ 1000) (hj : 0 ≤ j ∧ j ≤ 16) : ja_Mt l D cA B yX9_sampleOf cX9_sampleOf 4 (some .int) rm_X9_sampleOf [.ref m, .int (ja_I x), .int (ja_I j)] lay (ja_rw G (m + 1) v) n (ja_rd lay (ja_rw G (m + 1) v) n (some (.int (ja_I (N_wv v x j))))) := by
  refine ja_enter [some (.ref m), some (.int (ja_I x)), some (.int (ja_I j)), none] (by decide) (Nat.le_of_ble_eq_true rfl) (fun q hq => hq) (fun C F Rt GC hnm => ?_)
  have hf := N_fxs hS hx
  obtain ⟨-, s1, s2, -⟩ := id hS
  refine r_iload_n F rfl rfl dX9_sampleOf_0 rfl ?_
  refine r_aload_n F rfl rfl dX9_sampleOf_1 rfl ?_
  refine r_getR F f_X9_7 (hM.1) rfl dX9_sampleOf_2 rfl ?_
  refine r_iconst F dX9_sampleOf_5 rfl ?_
  refine r_iald F (ja_LM_1 hM) (by omega) (by omega) (by decide) dX9_sampleOf_6 rfl ?_
  refine r_eqz (z := (v 0)) (by rw [ja_rw_s, show Int.toNat 0 = 0 from rfl]) ?_
  refine r_imul F dX9_sampleOf_7 rfl ?_
  refine r_iload_n F rfl rfl dX9_sampleOf_8 rfl ?_
  refine r_iadd F dX9_sampleOf_9 rfl ?_
  refine r_ist3 F (by decide) rfl dX9_sampleOf_10 rfl ?_
  refine r_aload_n F rfl rfl dX9_sampleOf_11 rfl ?_
  refine r_getR F f_X9_7 (hM.1) rfl dX9_sampleOf_12 rfl ?_
  refine r_iconst F dX9_sampleOf_15 rfl ?_
  refine r_iald F (ja_LM_1 hM) (by omega) (by omega) (by decide) dX9_sampleOf_16 rfl ?_
  refine r_eqz (z := (v 2)) (by rw [ja_rw_s, show Int.toNat 2 = 2 from rfl]) ?_
  refine r_iload_n F rfl rfl dX9_sampleOf_17 rfl ?_
  refine r_aload_n F rfl rfl dX9_sampleOf_18 rfl ?_
  refine r_getR F f_X9_7 (hM.1) rfl dX9_sampleOf_19 rfl ?_
  refine r_iconst F dX9_sampleOf_22 rfl ?_
  refine r_iald F (ja_LM_1 hM) (by omega) (by omega) (by decide) dX9_sampleOf_23 rfl ?_
  refine r_eqz (z := (v 1)) (by rw [ja_rw_s, show Int.toNat 1 = 1 from rfl]) ?_
  have e1 := Int.emod_nonneg (x * v 0 + j) (show v 1 ≠ 0 by omega)
  have e2 := Int.emod_lt_of_pos (x * v 0 + j) (show 0 < v 1 by omega)
  refine r_iremP F ⟨by omega, by omega⟩ ⟨by omega, by omega⟩ (by omega) (by omega) dX9_sampleOf_24 rfl ?_
  refine r_imul F dX9_sampleOf_25 rfl ?_
  refine r_sipush F (by decide) dX9_sampleOf_26 rfl ?_
  have e3 := ja_mulb (by omega : 0 ≤ v 2) s2.2 e1 (by omega : (x * v 0 + j) % v 1 ≤ 32)
  refine r_iremP F ⟨by omega, by omega⟩ ⟨by omega, by omega⟩ (by omega) (by omega) dX9_sampleOf_29 rfl ?_
  refine r_bipush F (by decide) dX9_sampleOf_30 rfl ?_
  refine r_isub F dX9_sampleOf_32 rfl ?_
  exact r_iret F Rt dX9_sampleOf_33 (by decide) ⟨rfl, rfl, rfl, rfl⟩
abbrev rm_X9_sees : Room := { frames := 0, cells := 0, slots := 0, locals := 0 }
set_option maxRecDepth 100000 in
set_option maxHeartbeats 800000 in
theorem c_X9_sees (l : Launch) (D : va_G) (cA : Nat → ClassId) (B : Nat) {lay : ja_Y} {n : Nat} {m : Nat} {G : ja_M} {v : Nat → Int} (hM : ja_LM lay m) {z : Int} (hR : N_R v) : ja_Mt l D cA B yX9_sees cX9_sees 3 none rm_X9_sees [.ref m, .int (ja_I z)] lay (ja_rw G (m + 1) v) n (ja_rd lay (ja_rw G (m + 1) (N_se v z)) n (none)) := by
  refine ja_enter [some (.ref m), some (.int (ja_I z)), none] (by decide) (Nat.le_of_ble_eq_true rfl) (fun q hq => hq) (fun C F Rt GC hnm => ?_)
  have hC := hR.C
  obtain ⟨r0, r1, -⟩ := N_s0_R hR
  have J52 : ja_W C 0 0 lay (ja_rw G (m + 1) (N_s0 v)) n 52 [some (.ref m), some (.int (ja_I z)), none] [] := by
    refine r_aload_n F rfl rfl dX9_sees_52 rfl ?_
    refine r_getR F f_X9_7 (hM.1) rfl dX9_sees_53 rfl ?_
    refine r_sipush F (by decide) dX9_sees_56 rfl ?_
    refine r_aload_n F rfl rfl dX9_sees_59 rfl ?_
    refine r_getR F f_X9_7 (hM.1) rfl dX9_sees_60 rfl ?_
    refine r_bipush F (by decide) dX9_sees_63 rfl ?_
    refine r_iald F (ja_LM_1 hM) (by omega) (by omega) (by decide) dX9_sees_65 rfl ?_
    refine r_eqz (z := ((N_s0 v) 24)) (by rw [ja_rw_s, show Int.toNat 24 = 24 from rfl]) ?_
    refine r_iadd F dX9_sees_66 rfl ?_
    refine r_iload_n F rfl rfl dX9_sees_67 rfl ?_
    refine r_iast F (ja_LM_1 hM) (by omega) (by omega) (by decide) dX9_sees_68 rfl ?_
    refine r_mem (mem' := ja_rw G (m + 1) (ja_rs (N_s0 v) (Int.toNat (2372 + ((N_s0 v) 24))) z)) (ja_rw_up _ _ _ _ _) ?_
    refine r_aload_n F rfl rfl dX9_sees_69 rfl ?_
    refine r_getR F f_X9_7 (hM.1) rfl dX9_sees_70 rfl ?_
    refine r_bipush F (by decide) dX9_sees_73 rfl ?_
    refine r_dup2 F rfl rfl dX9_sees_75 rfl ?_
    refine r_iald F (ja_LM_1 hM) (by omega) (by omega) (by decide) dX9_sees_76 rfl ?_
    refine r_eqz (z := ((N_s0 v) 24)) (by rw [ja_rw_s, show Int.toNat 24 = 24 from rfl, ja_rs_n (by omega)]) ?_
    refine r_iconst F dX9_sees_77 rfl ?_
    refine r_iadd F dX9_sees_78 rfl ?_
    refine r_iast F (ja_LM_1 hM) (by omega) (by omega) (by decide) dX9_sees_79 rfl ?_
    refine r_mem (mem' := ja_rw G (m + 1) (ja_rs (ja_rs (N_s0 v) (Int.toNat (2372 + ((N_s0 v) 24))) z) 24 (((N_s0 v) 24) + 1))) (ja_rw_up _ _ _ _ _) ?_
    exact r_vret F Rt dX9_sees_80 (by decide) ⟨rfl, rfl, rfl, rfl⟩
  refine r_aload_n F rfl rfl dX9_sees_0 rfl ?_
  refine r_getR F f_X9_7 (hM.1) rfl dX9_sees_1 rfl ?_
  refine r_bipush F (by decide) dX9_sees_4 rfl ?_
  refine r_iald F (ja_LM_1 hM) (by omega) (by omega) (by decide) dX9_sees_6 rfl ?_
  refine r_eqz (z := (v 24)) (by rw [ja_rw_s, show Int.toNat 24 = 24 from rfl]) ?_
  refine r_bipush F (by decide) dX9_sees_7 rfl ?_
  refine r_icmp_ne F (tgt := 52) ⟨by omega, by omega⟩ ⟨by omega, by omega⟩ dX9_sees_9 rfl (by decide) (fun h_9 => ?_) (fun h_9 => ?_)
  ·
    refine r_mem (mem' := ja_rw G (m + 1) (N_s0 v)) (by unfold N_s0; first | rw [if_neg h_9] | (obtain rfl : c = 15 := (by omega); rw [if_pos h9])) ?_
    refine r_msk [true, true, false] rfl ?_
    exact J52
  ·
    have h9 : v 24 = 16 := h_9
    refine r_sipush F (by decide) dX9_sees_12 rfl ?_
    refine r_ist2 F (by decide) rfl dX9_sees_15 rfl ?_
    have loop : ∀ (d c : Nat), c + d = 15 → ja_W C 0 0 lay (ja_rw G (m + 1) (N_sh v c)) n 16 [some (.ref (m)), some (.int (ja_I (z))), some (.int (ja_I ((2372 + (c : Int)))))] [] := by
      intro d
      induction d with
      | zero =>
        intro c hc
        refine r_iload_n F rfl rfl dX9_sees_16 rfl ?_
        refine r_sipush F (by decide) dX9_sees_17 rfl ?_
        refine r_icmp_ge F (tgt := 43) ⟨by omega, by omega⟩ ⟨by omega, by omega⟩ dX9_sees_20 rfl (by decide) (fun h_20 => ?_) (fun h_20 => ?_)
        ·
          refine r_aload_n F rfl rfl dX9_sees_43 rfl ?_
          refine r_getR F f_X9_7 (hM.1) rfl dX9_sees_44 rfl ?_
          refine r_bipush F (by decide) dX9_sees_47 rfl ?_
          refine r_bipush F (by decide) dX9_sees_49 rfl ?_
          refine r_iast F (ja_LM_1 hM) (by omega) (by omega) (by decide) dX9_sees_51 rfl ?_
          refine r_mem (mem' := ja_rw G (m + 1) (ja_rs (N_sh v c) 24 15)) (ja_rw_up _ _ _ _ _) ?_
          refine r_mem (mem' := ja_rw G (m + 1) (N_s0 v)) (by unfold N_s0; first | rw [if_neg h_9] | (obtain rfl : c = 15 := (by omega); rw [if_pos h9])) ?_
          refine r_msk [true, true, false] rfl ?_
          exact J52
        ·
          exfalso; omega
      | succ d ih =>
        intro c hc
        refine r_iload_n F rfl rfl dX9_sees_16 rfl ?_
        refine r_sipush F (by decide) dX9_sees_17 rfl ?_
        refine r_icmp_ge F (tgt := 43) ⟨by omega, by omega⟩ ⟨by omega, by omega⟩ dX9_sees_20 rfl (by decide) (fun h_20 => ?_) (fun h_20 => ?_)
        ·
          exfalso; omega
        ·
          refine r_aload_n F rfl rfl dX9_sees_23 rfl ?_
          refine r_getR F f_X9_7 (hM.1) rfl dX9_sees_24 rfl ?_
          refine r_iload_n F rfl rfl dX9_sees_27 rfl ?_
          refine r_aload_n F rfl rfl dX9_sees_28 rfl ?_
          refine r_getR F f_X9_7 (hM.1) rfl dX9_sees_29 rfl ?_
          refine r_iload_n F rfl rfl dX9_sees_32 rfl ?_
          refine r_iconst F dX9_sees_33 rfl ?_
          refine r_iadd F dX9_sees_34 rfl ?_
          refine r_iald F (ja_LM_1 hM) (by omega) (by omega) (by decide) dX9_sees_35 rfl ?_
          refine r_eqz (z := ((N_sh v c) (Int.toNat ((2372 + (c : Int)) + 1)))) (by rw [ja_rw_s]) ?_
          refine r_iast F (ja_LM_1 hM) (by omega) (by omega) (by decide) dX9_sees_36 rfl ?_
          refine r_mem (mem' := ja_rw G (m + 1) (ja_rs (N_sh v c) (Int.toNat (2372 + (c : Int))) ((N_sh v c) (Int.toNat ((2372 + (c : Int)) + 1))))) (ja_rw_up _ _ _ _ _) ?_
          refine r_inc2 F (by decide) rfl dX9_sees_37 rfl ?_
          refine r_goto F (tgt := 16) dX9_sees_40 (by decide) ?_
          have e1 : N_sh v c (Int.toNat (2372 + (c : Int) + 1)) = v (2372 + c + 1) := by rw [show Int.toNat (2372 + (c : Int) + 1) = 2372 + c + 1 by omega]; exact N_sh_n c (by omega)
          rw [e1, show (2372 + (c : Int)) + 1 = 2372 + ((c + 1 : Nat) : Int) by omega, show Int.toNat (2372 + (c : Int)) = 2372 + c by omega]
          exact ih (c + 1) (by omega)
    exact loop (15) 0 (by omega)
abbrev rm_X9_arrives : Room := { frames := 5, cells := 0, slots := 0, locals := 119 }
set_option maxRecDepth 100000 in
set_option maxHeartbeats 800000 in
theorem c_X9_arrives (l : Launch) (D : va_G) (cA : Nat → ClassId) (B : Nat) {lay : ja_Y} {n : Nat} {m : Nat} {G : ja_M} {v : Nat → Int} (hM : ja_LM lay m) {x : Int} {t : Int} (hO : N_O v t) (ht : t ≤ 900000) (hx : 0 ≤ x ∧ x ≤ 999) : ja_Mt l D cA B yX9_arrives cX9_arrives 2 (some .int) rm_X9_arrives [.ref m, .int (ja_I x)] lay (ja_rw G (m + 1) v) n (ja_rd lay (ja_rw G (m + 1) (N_av v x)) n (some (.int (ja_I (N_an v x))))) := by
  refine ja_enter [some (.ref m), some (.int (ja_I x))] (by decide) (Nat.le_of_ble_eq_true rfl) (fun q hq => hq) (fun C F Rt GC hnm => ?_)
  have hR := hO.1
  have hS := hR.S
  have hC := hR.C
  obtain ⟨o1, o2, o3, o4, o5, o6, o7⟩ := id hO.2.1
  have hb := N_be_O hO ht
  have hbC := hb.1.C
  have ha1 := N_a1_R hb.1 hx
  have hfx := N_fxs (x := x) hb.1.S ⟨by omega, by omega⟩
  have hw := N_aw_O hO ht hx
  have hws := N_aw_ss hO ht hx
  have har := N_ar_in hS
  have hB : N_hB (N_aw v x) (x / N_ar v) := hws.hB.mpr (N_blk hS hx)
  refine r_aload_n F rfl rfl dX9_arrives_0 rfl ?_
  refine r_iload_n F rfl rfl dX9_arrives_1 rfl ?_
  refine r_callV F GC (c_X9_isKnown _ _ _ _ hM hR ⟨by omega, by omega⟩) v_X9_59 rfl (hM.1) rfl (by decide) (by decide) (Nat.le_of_ble_eq_true rfl) rfl dX9_arrives_2 rfl (fun v lay' mem' n' hp => ?_)
  obtain ⟨q1, q2, q3, q4⟩ := hp
  subst q1; subst q2; subst q3; subst q4
  refine r_if_eq F (tgt := 21) ja_b_in dX9_arrives_5 rfl (by decide) (fun h_5 => ?_) (fun h_5 => ?_)
  ·
    have b_5 : ¬ (N_kn v x) := ja_b_0.mp h_5
    refine r_aload_n F rfl rfl dX9_arrives_21 rfl ?_
    refine r_callV F GC (c_X9_begins _ _ _ _ hM hR) v_X9_73 rfl (hM.1) rfl (by decide) (by decide) (Nat.le_of_ble_eq_true rfl) rfl dX9_arrives_22 rfl (fun v lay' mem' n' hp => ?_)
    obtain ⟨q1, q2, q3, q4⟩ := hp
    subst q1; subst q2; subst q3; subst q4
    refine r_aload_n F rfl rfl dX9_arrives_25 rfl ?_
    refine r_getR F f_X9_7 (hM.1) rfl dX9_arrives_26 rfl ?_
    refine r_bipush F (by decide) dX9_arrives_29 rfl ?_
    refine r_iload_n F rfl rfl dX9_arrives_31 rfl ?_
    refine r_iadd F dX9_arrives_32 rfl ?_
    refine r_iconst F dX9_arrives_33 rfl ?_
    refine r_iast F (ja_LM_1 hM) (by omega) (by omega) (by decide) dX9_arrives_34 rfl ?_
    refine r_mem (mem' := ja_rw G (m + 1) (ja_rs (N_be v) (Int.toNat (30 + x)) 2)) (ja_rw_up _ _ _ _ _) ?_
    refine r_aload_n F rfl rfl dX9_arrives_35 rfl ?_
    refine r_getR F f_X9_7 (hM.1) rfl dX9_arrives_36 rfl ?_
    refine r_bipush F (by decide) dX9_arrives_39 rfl ?_
    refine r_dup2 F rfl rfl dX9_arrives_41 rfl ?_
    refine r_iald F (ja_LM_1 hM) (by omega) (by omega) (by decide) dX9_arrives_42 rfl ?_
    refine r_eqz (z := ((N_be v) 17)) (by rw [ja_rw_s, show Int.toNat 17 = 17 from rfl, ja_rs_n (by omega)]) ?_
    have J59 : ja_W C 0 0 lay (ja_rw G (m + 1) (ja_rs (N_be v) (Int.toNat (30 + x)) 2)) n 59 [some (.ref (m)), some (.int (ja_I (x)))] [.int (ja_I (if x < N_be v 11 then 1 else 0)), .int (ja_I (((N_be v) 17))), .int (ja_I (17)), .ref ((m + 1))] := by
      refine r_iadd F dX9_arrives_59 rfl ?_
      refine r_iast F (ja_LM_1 hM) (by omega) (by omega) (by decide) dX9_arrives_60 rfl ?_
      refine r_mem (mem' := ja_rw G (m + 1) (ja_rs (ja_rs (N_be v) (Int.toNat (30 + x)) 2) 17 (((N_be v) 17) + (if x < N_be v 11 then 1 else 0)))) (ja_rw_up _ _ _ _ _) ?_
      refine r_mem (mem' := ja_rw G (m + 1) (N_a1 (N_be v) x)) rfl ?_
      refine r_aload_n F rfl rfl dX9_arrives_61 rfl ?_
      refine r_aload_n F rfl rfl dX9_arrives_62 rfl ?_
      refine r_getR F f_X9_7 (hM.1) rfl dX9_arrives_63 rfl ?_
      refine r_bipush F (by decide) dX9_arrives_66 rfl ?_
      refine r_iald F (ja_LM_1 hM) (by omega) (by omega) (by decide) dX9_arrives_68 rfl ?_
      refine r_eqz (z := ((N_a1 (N_be v) x) 9)) (by rw [ja_rw_s, show Int.toNat 9 = 9 from rfl]) ?_
      refine r_eqz (z := N_be v 9) (ha1.2 9 (by omega)) ?_
      refine r_iload_n F rfl rfl dX9_arrives_69 rfl ?_
      refine r_aload_n F rfl rfl dX9_arrives_70 rfl ?_
      refine r_getR F f_X9_7 (hM.1) rfl dX9_arrives_71 rfl ?_
      refine r_iconst F dX9_arrives_74 rfl ?_
      refine r_iald F (ja_LM_1 hM) (by omega) (by omega) (by decide) dX9_arrives_75 rfl ?_
      refine r_eqz (z := ((N_a1 (N_be v) x) 0)) (by rw [ja_rw_s, show Int.toNat 0 = 0 from rfl]) ?_
      refine r_eqz (z := N_be v 0) (ha1.2 0 (by omega)) ?_
      refine r_imul F dX9_arrives_76 rfl ?_
      refine r_isub F dX9_arrives_77 rfl ?_
      refine r_callV F GC (c_X9_sees _ _ _ _ hM ha1.1) v_X9_76 rfl (hM.1) rfl (by decide) (by decide) (Nat.le_of_ble_eq_true rfl) rfl dX9_arrives_78 rfl (fun v lay' mem' n' hp => ?_)
      obtain ⟨q1, q2, q3, q4⟩ := hp
      subst q1; subst q2; subst q3; subst q4
      refine r_mem (mem' := ja_rw G (m + 1) (N_aw v x)) rfl ?_
      refine r_iconst F dX9_arrives_81 rfl ?_
      refine r_aload_n F rfl rfl dX9_arrives_82 rfl ?_
      refine r_iload_n F rfl rfl dX9_arrives_83 rfl ?_
      refine r_aload_n F rfl rfl dX9_arrives_84 rfl ?_
      refine r_callV F GC (c_X9_area _ _ _ _ hM hw.1.S) v_X9_47 rfl (hM.1) rfl (by decide) (by decide) (Nat.le_of_ble_eq_true rfl) rfl dX9_arrives_85 rfl (fun v lay' mem' n' hp => ?_)
      obtain ⟨q1, q2, q3, q4⟩ := hp
      subst q1; subst q2; subst q3; subst q4
      refine r_eqz (z := N_ar v) hws.ar ?_
      refine r_idivP F ⟨by omega, by omega⟩ ⟨by omega, by omega⟩ (by omega) (by omega) dX9_arrives_88 rfl ?_
      refine r_iconst F dX9_arrives_89 rfl ?_
      refine r_callV F GC (c_X9_restores _ _ _ _ hM hw.1 hB ⟨by omega, by omega⟩) v_X9_80 rfl (hM.1) rfl (by decide) (by decide) (Nat.le_of_ble_eq_true rfl) rfl dX9_arrives_90 rfl (fun v lay' mem' n' hp => ?_)
      obtain ⟨q1, q2, q3, q4⟩ := hp
      subst q1; subst q2; subst q3; subst q4
      refine r_iadd F dX9_arrives_93 rfl ?_
      exact r_iret F Rt dX9_arrives_94 (by decide) ⟨by rw [N_an, if_neg b_5], rfl, by rw [N_av, if_neg b_5], rfl⟩
    refine r_iload_n F rfl rfl dX9_arrives_43 rfl ?_
    refine r_aload_n F rfl rfl dX9_arrives_44 rfl ?_
    refine r_getR F f_X9_7 (hM.1) rfl dX9_arrives_45 rfl ?_
    refine r_bipush F (by decide) dX9_arrives_48 rfl ?_
    refine r_iald F (ja_LM_1 hM) (by omega) (by omega) (by decide) dX9_arrives_50 rfl ?_
    refine r_eqz (z := ((N_be v) 11)) (by rw [ja_rw_s, show Int.toNat 11 = 11 from rfl, ja_rs_n (by omega)]) ?_
    refine r_icmp_ge F (tgt := 58) ⟨by omega, by omega⟩ ⟨by omega, by omega⟩ dX9_arrives_51 rfl (by decide) (fun h_51 => ?_) (fun h_51 => ?_)
    ·
      refine r_iconst F dX9_arrives_58 rfl ?_
      refine r_eqz (z := if x < N_be v 11 then 1 else 0) (by first | rw [if_pos (by omega)] | rw [if_neg (by omega)]) ?_
      exact J59
    ·
      refine r_iconst F dX9_arrives_54 rfl ?_
      refine r_goto F (tgt := 59) dX9_arrives_55 (by decide) ?_
      refine r_eqz (z := if x < N_be v 11 then 1 else 0) (by first | rw [if_pos (by omega)] | rw [if_neg (by omega)]) ?_
      exact J59
  ·
    have b_5 : (N_kn v x) := ja_b_1 h_5
    refine r_aload_n F rfl rfl dX9_arrives_8 rfl ?_
    refine r_getR F f_X9_7 (hM.1) rfl dX9_arrives_9 rfl ?_
    refine r_bipush F (by decide) dX9_arrives_12 rfl ?_
    refine r_dup2 F rfl rfl dX9_arrives_14 rfl ?_
    refine r_iald F (ja_LM_1 hM) (by omega) (by omega) (by decide) dX9_arrives_15 rfl ?_
    refine r_eqz (z := (v 18)) (by rw [ja_rw_s, show Int.toNat 18 = 18 from rfl]) ?_
    refine r_iconst F dX9_arrives_16 rfl ?_
    refine r_iadd F dX9_arrives_17 rfl ?_
    refine r_iast F (ja_LM_1 hM) (by omega) (by omega) (by decide) dX9_arrives_18 rfl ?_
    refine r_mem (mem' := ja_rw G (m + 1) (ja_rs v 18 ((v 18) + 1))) (ja_rw_up _ _ _ _ _) ?_
    refine r_iconst F dX9_arrives_19 rfl ?_
    exact r_iret F Rt dX9_arrives_20 (by decide) ⟨by rw [N_an, if_pos b_5], rfl, by rw [N_av, if_pos b_5], rfl⟩
abbrev rm_X9_arrivesParity : Room := { frames := 5, cells := 0, slots := 0, locals := 119 }
set_option maxRecDepth 100000 in
set_option maxHeartbeats 800000 in
theorem c_X9_arrivesParity (l : Launch) (D : va_G) (cA : Nat → ClassId) (B : Nat) {lay : ja_Y} {n : Nat} {m : Nat} {G : ja_M} {v : Nat → Int} (hM : ja_LM lay m) {r k i : Int} {t : Int} (hO : N_O v t) (ht : t ≤ 900000) (hr : 0 ≤ r ∧ r ≤ 1) (hk : N_hB v k) (hi : 0 ≤ i ∧ i ≤ 6) : ja_Mt l D cA B yX9_arrivesParity cX9_arrivesParity 5 (some .int) rm_X9_arrivesParity [.ref m, .int (ja_I r), .int (ja_I k), .int (ja_I i)] lay (ja_rw G (m + 1) v) n (ja_rd lay (ja_rw G (m + 1) (N_qv v r k i)) n (some (.int (ja_I (N_qn v r k i))))) := by
  refine ja_enter [some (.ref m), some (.int (ja_I r)), some (.int (ja_I k)), some (.int (ja_I i)), none] (by decide) (Nat.le_of_ble_eq_true rfl) (fun q hq => hq) (fun C F Rt GC hnm => ?_)
  have hR := hO.1
  have hS := hR.S
  have hC := hR.C
  obtain ⟨o1, o2, o3, o4, o5, o6, o7⟩ := id hO.2.1
  have hp0 := N_pk_in (r := r) hS hk hi
  have hpr := hR.K (j := (N_pk v r k i).toNat) (by omega) (by omega)
  obtain ⟨hw, hwk, hws⟩ := N_qw_O (r := r) hO ht hk hi
  refine r_aload_n F rfl rfl dX9_arrivesParity_0 rfl ?_
  refine r_iload_n F rfl rfl dX9_arrivesParity_1 rfl ?_
  refine r_iload_n F rfl rfl dX9_arrivesParity_2 rfl ?_
  refine r_iload_n F rfl rfl dX9_arrivesParity_3 rfl ?_
  refine r_callV F GC (c_X9_packet _ _ _ _ hM ⟨by omega, by omega⟩ hS hk ⟨by omega, by omega⟩) v_X9_67 rfl (hM.1) rfl (by decide) (by decide) (Nat.le_of_ble_eq_true rfl) rfl dX9_arrivesParity_4 rfl (fun v lay' mem' n' hp => ?_)
  obtain ⟨q1, q2, q3, q4⟩ := hp
  subst q1; subst q2; subst q3; subst q4
  refine r_ist4 F (by decide) rfl dX9_arrivesParity_7 rfl ?_
  refine r_aload_n F rfl rfl dX9_arrivesParity_9 rfl ?_
  refine r_getR F f_X9_7 (hM.1) rfl dX9_arrivesParity_10 rfl ?_
  refine r_iload F rfl dX9_arrivesParity_13 rfl ?_
  refine r_iald F (ja_LM_1 hM) (by omega) (by omega) (by decide) dX9_arrivesParity_15 rfl ?_
  refine r_eqz (z := (v (Int.toNat (N_pk v r k i)))) (by rw [ja_rw_s]) ?_
  refine r_iconst F dX9_arrivesParity_16 rfl ?_
  refine r_icmp_ne F (tgt := 33) ⟨by omega, by omega⟩ ⟨by omega, by omega⟩ dX9_arrivesParity_17 rfl (by decide) (fun h_17 => ?_) (fun h_17 => ?_)
  ·
    refine r_aload_n F rfl rfl dX9_arrivesParity_33 rfl ?_
    refine r_callV F GC (c_X9_begins _ _ _ _ hM hR) v_X9_73 rfl (hM.1) rfl (by decide) (by decide) (Nat.le_of_ble_eq_true rfl) rfl dX9_arrivesParity_34 rfl (fun v lay' mem' n' hp => ?_)
    obtain ⟨q1, q2, q3, q4⟩ := hp
    subst q1; subst q2; subst q3; subst q4
    refine r_aload_n F rfl rfl dX9_arrivesParity_37 rfl ?_
    refine r_getR F f_X9_7 (hM.1) rfl dX9_arrivesParity_38 rfl ?_
    refine r_iload F rfl dX9_arrivesParity_41 rfl ?_
    refine r_iconst F dX9_arrivesParity_43 rfl ?_
    refine r_iast F (ja_LM_1 hM) (by omega) (by omega) (by decide) dX9_arrivesParity_44 rfl ?_
    refine r_mem (mem' := ja_rw G (m + 1) (ja_rs (N_be v) (Int.toNat (N_pk v r k i)) 1)) (ja_rw_up _ _ _ _ _) ?_
    refine r_mem (mem' := ja_rw G (m + 1) (N_qw v r k i)) rfl ?_
    refine r_aload_n F rfl rfl dX9_arrivesParity_45 rfl ?_
    refine r_iload_n F rfl rfl dX9_arrivesParity_46 rfl ?_
    refine r_iconst F dX9_arrivesParity_47 rfl ?_
    refine r_callV F GC (c_X9_restores _ _ _ _ hM hw.1 (hws.hB.mpr hk) ⟨by omega, by omega⟩) v_X9_80 rfl (hM.1) rfl (by decide) (by decide) (Nat.le_of_ble_eq_true rfl) rfl dX9_arrivesParity_48 rfl (fun v lay' mem' n' hp => ?_)
    obtain ⟨q1, q2, q3, q4⟩ := hp
    subst q1; subst q2; subst q3; subst q4
    exact r_iret F Rt dX9_arrivesParity_51 (by decide) ⟨by rw [N_qn, if_neg h_17], rfl, by rw [N_qv, if_neg h_17], rfl⟩
  ·
    have h1v : v (Int.toNat (N_pk v r k i)) = 1 := h_17
    refine r_aload_n F rfl rfl dX9_arrivesParity_20 rfl ?_
    refine r_getR F f_X9_7 (hM.1) rfl dX9_arrivesParity_21 rfl ?_
    refine r_bipush F (by decide) dX9_arrivesParity_24 rfl ?_
    refine r_dup2 F rfl rfl dX9_arrivesParity_26 rfl ?_
    refine r_iald F (ja_LM_1 hM) (by omega) (by omega) (by decide) dX9_arrivesParity_27 rfl ?_
    refine r_eqz (z := (v 18)) (by rw [ja_rw_s, show Int.toNat 18 = 18 from rfl]) ?_
    refine r_iconst F dX9_arrivesParity_28 rfl ?_
    refine r_iadd F dX9_arrivesParity_29 rfl ?_
    refine r_iast F (ja_LM_1 hM) (by omega) (by omega) (by decide) dX9_arrivesParity_30 rfl ?_
    refine r_mem (mem' := ja_rw G (m + 1) (ja_rs v 18 ((v 18) + 1))) (ja_rw_up _ _ _ _ _) ?_
    refine r_iconst F dX9_arrivesParity_31 rfl ?_
    exact r_iret F Rt dX9_arrivesParity_32 (by decide) ⟨by rw [N_qn, if_pos h1v], rfl, by rw [N_qv, if_pos h1v], rfl⟩
abbrev rm_X9_sorts : Room := { frames := 0, cells := 0, slots := 0, locals := 0 }
set_option maxRecDepth 100000 in
set_option maxHeartbeats 800000 in
theorem c_X9_sorts (l : Launch) (D : va_G) (cA : Nat → ClassId) (B : Nat) {lay : ja_Y} {n : Nat} {m : Nat} {G : ja_M} {v : Nat → Int} (hM : ja_LM lay m) (hR : N_R v) : ja_Mt l D cA B yX9_sorts cX9_sorts 3 none rm_X9_sorts [.ref m] lay (ja_rw G (m + 1) v) n (fun w lay' mem' n' => none = w ∧ lay = lay' ∧ n = n' ∧ ∃ G', N_g6 m G G' ∧ mem' = ja_rw G' (m + 1) v ∧ ∀ j : Nat, (j : Int) < v 24 → G' (m + 6) j = N_so v (v 24).toNat j) := by
  refine ja_enter [some (.ref m), none, none] (by decide) (Nat.le_of_ble_eq_true rfl) (fun q hq => hq) (fun C F Rt GC hnm => ?_)
  have hC := hR.C
  refine r_iconst F dX9_sorts_0 rfl ?_
  refine r_ist1 F (by decide) rfl dX9_sorts_1 rfl ?_
  have loop : ∀ (d c : Nat), c + d = (v 24).toNat → ∀ g : Nat → Int, (∀ j, j < c → g j = N_so v c j) → ja_W C 0 0 lay (ja_rw (ja_rw G (m + 6) g) (m + 1) v) n 2 [some (.ref m), some (.int (ja_I (c : Int))), none] [] := by
    intro d
    induction d with
    | zero =>
      intro c hc g hg
      refine r_iload_n F rfl rfl dX9_sorts_2 rfl ?_
      refine r_aload_n F rfl rfl dX9_sorts_3 rfl ?_
      refine r_getR F f_X9_7 (hM.1) rfl dX9_sorts_4 rfl ?_
      refine r_bipush F (by decide) dX9_sorts_7 rfl ?_
      refine r_iald F (ja_LM_1 hM) (by omega) (by omega) (by decide) dX9_sorts_9 rfl ?_
      refine r_eqz (z := (v 24)) (by rw [ja_rw_s, show Int.toNat 24 = 24 from rfl]) ?_
      refine r_icmp_ge F (tgt := 82) ⟨by omega, by omega⟩ ⟨by omega, by omega⟩ dX9_sorts_10 rfl (by decide) (fun h_10 => ?_) (fun h_10 => ?_)
      ·
        exact r_vret F Rt dX9_sorts_82 (by decide) ⟨rfl, rfl, rfl, _, fun q h6 => ja_rw_n h6, rfl, fun j hj => by rw [ja_rw_s, hg j (by omega), show (v 24).toNat = c by omega]⟩
      ·
        exfalso; omega
    | succ d ih =>
      intro c hc g hg
      have hwr := hR.W (j := (2372 + (c : Int)).toNat) (by omega) (by omega)
      refine r_iload_n F rfl rfl dX9_sorts_2 rfl ?_
      refine r_aload_n F rfl rfl dX9_sorts_3 rfl ?_
      refine r_getR F f_X9_7 (hM.1) rfl dX9_sorts_4 rfl ?_
      refine r_bipush F (by decide) dX9_sorts_7 rfl ?_
      refine r_iald F (ja_LM_1 hM) (by omega) (by omega) (by decide) dX9_sorts_9 rfl ?_
      refine r_eqz (z := (v 24)) (by rw [ja_rw_s, show Int.toNat 24 = 24 from rfl]) ?_
      refine r_icmp_ge F (tgt := 82) ⟨by omega, by omega⟩ ⟨by omega, by omega⟩ dX9_sorts_10 rfl (by decide) (fun h_10 => ?_) (fun h_10 => ?_)
      ·
        exfalso; omega
      ·
        refine r_iload_n F rfl rfl dX9_sorts_13 rfl ?_
        refine r_ist2 F (by decide) rfl dX9_sorts_14 rfl ?_
        have lpi : ∀ (h : Nat), h ≤ c → ∀ g1 : Nat → Int, (∀ j, j < h → ja_sm (g1 j)) → (T_ins g1 (v (2372 + (c : Int)).toNat) h = T_ins g (v (2372 + (c : Int)).toNat) c) → ja_W C 0 0 lay (ja_rw (ja_rw G (m + 6) g1) (m + 1) v) n 15 [some (.ref m), some (.int (ja_I (c : Int))), some (.int (ja_I (h : Int)))] [] := by
          intro h
          induction h with
          | zero =>
            intro hh g1 hs1 ht1
            refine r_iload_n F rfl rfl dX9_sorts_15 rfl ?_
            refine r_if_le F (tgt := 60) ⟨by omega, by omega⟩ dX9_sorts_16 rfl (by decide) (fun h_16 => ?_) (fun h_16 => ?_)
            ·
              refine r_aload_n F rfl rfl dX9_sorts_60 rfl ?_
              refine r_getR F f_X9_26 (hM.1) rfl dX9_sorts_61 rfl ?_
              refine r_iload_n F rfl rfl dX9_sorts_64 rfl ?_
              refine r_aload_n F rfl rfl dX9_sorts_65 rfl ?_
              refine r_getR F f_X9_7 (hM.1) rfl dX9_sorts_66 rfl ?_
              refine r_sipush F (by decide) dX9_sorts_69 rfl ?_
              refine r_iload_n F rfl rfl dX9_sorts_72 rfl ?_
              refine r_iadd F dX9_sorts_73 rfl ?_
              refine r_iald F (ja_LM_1 hM) (by omega) (by omega) (by decide) dX9_sorts_74 rfl ?_
              refine r_eqz (z := (v (Int.toNat (2372 + (c : Int))))) (by rw [ja_rw_s]) ?_
              refine r_iast F (ja_LM_6 hM) (by omega) (by omega) (by decide) dX9_sorts_75 rfl ?_
              refine r_mem (mem' := ja_rw (ja_up (ja_rw G (m + 6) g1) (m + 6) (Int.toNat (((0 : Nat)) : Int)) (v (Int.toNat (2372 + (c : Int))))) (m + 1) v) (ja_up_rw (by omega)) ?_
              refine r_inc1 F (by decide) rfl dX9_sorts_76 rfl ?_
              refine r_goto F (tgt := 2) dX9_sorts_79 (by decide) ?_
              rw [ja_rw_up, T_cast0]
              refine r_msk [true, true, false] rfl ?_
              have e2 : ja_rs g1 0 (v (2372 + (c : Int)).toNat) = T_ins g (v (2372 + (c : Int)).toNat) c := by
                rw [← ht1]
                rfl
              rw [e2]
              refine ih (c + 1) (by omega) _ (fun j hj => ?_)
              exact T_ins_c c _ _ hg j (by omega)
            ·
              exfalso; omega
          | succ h ihh =>
            intro hh g1 hs1 ht1
            have hg1 := hs1 h (by omega)
            obtain ⟨u1, u2⟩ := id hg1
            refine r_iload_n F rfl rfl dX9_sorts_15 rfl ?_
            refine r_if_le F (tgt := 60) ⟨by omega, by omega⟩ dX9_sorts_16 rfl (by decide) (fun h_16 => ?_) (fun h_16 => ?_)
            ·
              exfalso; omega
            ·
              refine r_aload_n F rfl rfl dX9_sorts_19 rfl ?_
              refine r_getR F f_X9_26 (hM.1) rfl dX9_sorts_20 rfl ?_
              refine r_iload_n F rfl rfl dX9_sorts_23 rfl ?_
              refine r_iconst F dX9_sorts_24 rfl ?_
              refine r_isub F dX9_sorts_25 rfl ?_
              refine r_iald F (ja_LM_6 hM) (by omega) (by omega) (by decide) dX9_sorts_26 rfl ?_
              refine r_eqz (z := (g1 h)) (by rw [ja_rw_n (by omega), ja_rw_s]; congr 1; omega) ?_
              refine r_aload_n F rfl rfl dX9_sorts_27 rfl ?_
              refine r_getR F f_X9_7 (hM.1) rfl dX9_sorts_28 rfl ?_
              refine r_sipush F (by decide) dX9_sorts_31 rfl ?_
              refine r_iload_n F rfl rfl dX9_sorts_34 rfl ?_
              refine r_iadd F dX9_sorts_35 rfl ?_
              refine r_iald F (ja_LM_1 hM) (by omega) (by omega) (by decide) dX9_sorts_36 rfl ?_
              refine r_eqz (z := (v (Int.toNat (2372 + (c : Int))))) (by rw [ja_rw_s]) ?_
              refine r_icmp_le F (tgt := 60) ⟨by omega, by omega⟩ ⟨by omega, by omega⟩ dX9_sorts_37 rfl (by decide) (fun h_37 => ?_) (fun h_37 => ?_)
              ·
                refine r_aload_n F rfl rfl dX9_sorts_60 rfl ?_
                refine r_getR F f_X9_26 (hM.1) rfl dX9_sorts_61 rfl ?_
                refine r_iload_n F rfl rfl dX9_sorts_64 rfl ?_
                refine r_aload_n F rfl rfl dX9_sorts_65 rfl ?_
                refine r_getR F f_X9_7 (hM.1) rfl dX9_sorts_66 rfl ?_
                refine r_sipush F (by decide) dX9_sorts_69 rfl ?_
                refine r_iload_n F rfl rfl dX9_sorts_72 rfl ?_
                refine r_iadd F dX9_sorts_73 rfl ?_
                refine r_iald F (ja_LM_1 hM) (by omega) (by omega) (by decide) dX9_sorts_74 rfl ?_
                refine r_eqz (z := (v (Int.toNat (2372 + (c : Int))))) (by rw [ja_rw_s]) ?_
                refine r_iast F (ja_LM_6 hM) (by omega) (by omega) (by decide) dX9_sorts_75 rfl ?_
                refine r_mem (mem' := ja_rw (ja_up (ja_rw G (m + 6) g1) (m + 6) (Int.toNat ((h + 1 : Nat) : Int)) (v (Int.toNat (2372 + (c : Int))))) (m + 1) v) (ja_up_rw (by omega)) ?_
                refine r_inc1 F (by decide) rfl dX9_sorts_76 rfl ?_
                refine r_goto F (tgt := 2) dX9_sorts_79 (by decide) ?_
                rw [ja_rw_up, show Int.toNat ((h + 1 : Nat) : Int) = h + 1 by omega]
                refine r_msk [true, true, false] rfl ?_
                have e2 : ja_rs g1 (h + 1) (v (2372 + (c : Int)).toNat) = T_ins g (v (2372 + (c : Int)).toNat) c := by
                  rw [← ht1]
                  simp only [T_ins]
                  rw [if_neg (by omega)]
                rw [e2]
                refine ih (c + 1) (by omega) _ (fun j hj => ?_)
                exact T_ins_c c _ _ hg j (by omega)
              ·
                refine r_aload_n F rfl rfl dX9_sorts_40 rfl ?_
                refine r_getR F f_X9_26 (hM.1) rfl dX9_sorts_41 rfl ?_
                refine r_iload_n F rfl rfl dX9_sorts_44 rfl ?_
                refine r_aload_n F rfl rfl dX9_sorts_45 rfl ?_
                refine r_getR F f_X9_26 (hM.1) rfl dX9_sorts_46 rfl ?_
                refine r_iload_n F rfl rfl dX9_sorts_49 rfl ?_
                refine r_iconst F dX9_sorts_50 rfl ?_
                refine r_isub F dX9_sorts_51 rfl ?_
                refine r_iald F (ja_LM_6 hM) (by omega) (by omega) (by decide) dX9_sorts_52 rfl ?_
                refine r_eqz (z := (g1 h)) (by rw [ja_rw_n (by omega), ja_rw_s]; congr 1; omega) ?_
                refine r_iast F (ja_LM_6 hM) (by omega) (by omega) (by decide) dX9_sorts_53 rfl ?_
                refine r_mem (mem' := ja_rw (ja_up (ja_rw G (m + 6) g1) (m + 6) (Int.toNat ((h + 1 : Nat) : Int)) (g1 h)) (m + 1) v) (ja_up_rw (by omega)) ?_
                refine r_inc2 F (by decide) rfl dX9_sorts_54 rfl ?_
                refine r_goto F (tgt := 15) dX9_sorts_57 (by decide) ?_
                rw [ja_rw_up, show Int.toNat ((h + 1 : Nat) : Int) = h + 1 by omega, show ((h + 1 : Nat) : Int) + (-1) = (h : Int) by omega]
                refine ihh (by omega) _ (fun j hj => by rw [ja_rs_n (by omega)]; exact hs1 j (by omega)) ?_
                rw [← ht1]; simp only [T_ins]; rw [if_pos (by omega)]
        exact lpi c (by omega) g (fun j hj => by rw [hg j hj]; exact N_so_in hR c j (by omega)) rfl
  have h0 := loop (v 24).toNat 0 (by omega) (G (m + 6)) (fun j hj => by omega)
  rw [ja_rw_self] at h0
  exact h0
