abbrev rm_L_number : Room := { frames := 2, cells := 0, slots := 0, locals := 42 }
set_option maxRecDepth 100000 in
set_option maxHeartbeats 4000000 in
theorem c_L_number (l : Launch) (D : va_G) (cA : Nat → ClassId) (B : Nat) {lay : ja_Y} {mem : ja_M} {n : Nat} {y : Nat} {sl : Nat → Option Nat} {t : Int} {v : Nat → Int} {cs : List Int} {K : Nat} {m : Int} (h : X7 lay mem n y sl t v cs K) (hK : K ≤ 50) (hm : 0 ≤ m ∧ m ≤ 999) : ja_Mt l D cA B yL_number cL_number 2 none rm_L_number [.ref y, .int (ja_I m)] lay mem n (fun r lay' mem' n' => none = r ∧ lay = lay' ∧ n = n' ∧ X7 lay mem' n y sl t v (cs ++ dg m) (K + 3)) := by
  refine ja_enter [some (.ref y), some (.int (ja_I m))] (by decide) (Nat.le_of_ble_eq_true rfl) (fun q hq => hq) (fun C F Rt G hnm => ?_)
  have hB := h.1.L
  have hc := h
  refine r_iload_n F rfl rfl dL_number_0 rfl ?_
  refine r_bipush F (by decide) dL_number_1 rfl ?_
  refine r_icmp_le F (tgt := 18) ⟨by omega, by omega⟩ ⟨by omega, by omega⟩ dL_number_3 rfl (by decide) (fun h_3 => ?_) (fun h_3 => ?_)
  ·
    refine r_iload_n F rfl rfl dL_number_18 rfl ?_
    refine r_bipush F (by decide) dL_number_19 rfl ?_
    refine r_icmp_le F (tgt := 39) ⟨by omega, by omega⟩ ⟨by omega, by omega⟩ dL_number_21 rfl (by decide) (fun h_21 => ?_) (fun h_21 => ?_)
    ·
      refine r_aload_n F rfl rfl dL_number_39 rfl ?_
      refine r_bipush F (by decide) dL_number_40 rfl ?_
      refine r_iload_n F rfl rfl dL_number_42 rfl ?_
      refine r_bipush F (by decide) dL_number_43 rfl ?_
      refine r_iremP F ⟨by omega, by omega⟩ ⟨by omega, by omega⟩ (by omega) (by omega) dL_number_45 rfl ?_
      refine r_iadd F dL_number_46 rfl ?_
      refine r_callV F G (c_X8_append _ _ _ _ hB hc.1.O ⟨by omega, by omega⟩) v_L_103 rfl (hB.1) rfl (by decide) (by decide) (Nat.le_of_ble_eq_true rfl) rfl dL_number_47 rfl (fun v lay' mem' n' hp => ?_)
      obtain ⟨q1, q2, q3, q4⟩ := hp
      subst q1; subst q2; subst q4
      have hlen := hc.len (by omega)
      have hc2 := X7_a hc (c := 48 + m % 10) ⟨by omega, by omega⟩ (by omega)
      rw [show t_app _ y (48 + m % 10) = mem' from (if_pos ⟨by omega, by omega, hlen.1⟩).symm.trans q3] at hc2
      replace hc := hc2
      clear hc2 q3 hlen
      refine r_pop F rfl dL_number_50 rfl ?_
      exact r_vret F Rt dL_number_51 (by decide) ⟨rfl, rfl, rfl, by first | (exfalso; omega) | exact X7_K (by unfold dg; rw [if_pos (by omega)]; simp) hc (by omega) | exact X7_K (by unfold dg; rw [if_neg (by omega), if_pos (by omega)]; simp) hc (by omega) | exact X7_K (by unfold dg; rw [if_neg (by omega), if_neg (by omega)]) hc (by omega)⟩
    ·
      refine r_aload_n F rfl rfl dL_number_24 rfl ?_
      refine r_bipush F (by decide) dL_number_25 rfl ?_
      refine r_iload_n F rfl rfl dL_number_27 rfl ?_
      refine r_bipush F (by decide) dL_number_28 rfl ?_
      refine r_idivP F ⟨by omega, by omega⟩ ⟨by omega, by omega⟩ (by omega) (by omega) dL_number_30 rfl ?_
      refine r_bipush F (by decide) dL_number_31 rfl ?_
      refine r_iremP F ⟨by omega, by omega⟩ ⟨by omega, by omega⟩ (by omega) (by omega) dL_number_33 rfl ?_
      refine r_iadd F dL_number_34 rfl ?_
      refine r_callV F G (c_X8_append _ _ _ _ hB hc.1.O ⟨by omega, by omega⟩) v_L_103 rfl (hB.1) rfl (by decide) (by decide) (Nat.le_of_ble_eq_true rfl) rfl dL_number_35 rfl (fun v lay' mem' n' hp => ?_)
      obtain ⟨q1, q2, q3, q4⟩ := hp
      subst q1; subst q2; subst q4
      have hlen := hc.len (by omega)
      have hc2 := X7_a hc (c := 48 + m / 10 % 10) ⟨by omega, by omega⟩ (by omega)
      rw [show t_app _ y (48 + m / 10 % 10) = mem' from (if_pos ⟨by omega, by omega, hlen.1⟩).symm.trans q3] at hc2
      replace hc := hc2
      clear hc2 q3 hlen
      refine r_pop F rfl dL_number_38 rfl ?_
      refine r_aload_n F rfl rfl dL_number_39 rfl ?_
      refine r_bipush F (by decide) dL_number_40 rfl ?_
      refine r_iload_n F rfl rfl dL_number_42 rfl ?_
      refine r_bipush F (by decide) dL_number_43 rfl ?_
      refine r_iremP F ⟨by omega, by omega⟩ ⟨by omega, by omega⟩ (by omega) (by omega) dL_number_45 rfl ?_
      refine r_iadd F dL_number_46 rfl ?_
      refine r_callV F G (c_X8_append _ _ _ _ hB hc.1.O ⟨by omega, by omega⟩) v_L_103 rfl (hB.1) rfl (by decide) (by decide) (Nat.le_of_ble_eq_true rfl) rfl dL_number_47 rfl (fun v lay' mem' n' hp => ?_)
      obtain ⟨q1, q2, q3, q4⟩ := hp
      subst q1; subst q2; subst q4
      have hlen := hc.len (by omega)
      have hc2 := X7_a hc (c := 48 + m % 10) ⟨by omega, by omega⟩ (by omega)
      rw [show t_app _ y (48 + m % 10) = mem' from (if_pos ⟨by omega, by omega, hlen.1⟩).symm.trans q3] at hc2
      replace hc := hc2
      clear hc2 q3 hlen
      refine r_pop F rfl dL_number_50 rfl ?_
      exact r_vret F Rt dL_number_51 (by decide) ⟨rfl, rfl, rfl, by first | (exfalso; omega) | exact X7_K (by unfold dg; rw [if_pos (by omega)]; simp) hc (by omega) | exact X7_K (by unfold dg; rw [if_neg (by omega), if_pos (by omega)]; simp) hc (by omega) | exact X7_K (by unfold dg; rw [if_neg (by omega), if_neg (by omega)]) hc (by omega)⟩
  ·
    refine r_aload_n F rfl rfl dL_number_6 rfl ?_
    refine r_bipush F (by decide) dL_number_7 rfl ?_
    refine r_iload_n F rfl rfl dL_number_9 rfl ?_
    refine r_bipush F (by decide) dL_number_10 rfl ?_
    refine r_idivP F ⟨by omega, by omega⟩ ⟨by omega, by omega⟩ (by omega) (by omega) dL_number_12 rfl ?_
    refine r_iadd F dL_number_13 rfl ?_
    refine r_callV F G (c_X8_append _ _ _ _ hB hc.1.O ⟨by omega, by omega⟩) v_L_103 rfl (hB.1) rfl (by decide) (by decide) (Nat.le_of_ble_eq_true rfl) rfl dL_number_14 rfl (fun v lay' mem' n' hp => ?_)
    obtain ⟨q1, q2, q3, q4⟩ := hp
    subst q1; subst q2; subst q4
    have hlen := hc.len (by omega)
    have hc2 := X7_a hc (c := 48 + m / 100) ⟨by omega, by omega⟩ (by omega)
    rw [show t_app _ y (48 + m / 100) = mem' from (if_pos ⟨by omega, by omega, hlen.1⟩).symm.trans q3] at hc2
    replace hc := hc2
    clear hc2 q3 hlen
    refine r_pop F rfl dL_number_17 rfl ?_
    refine r_iload_n F rfl rfl dL_number_18 rfl ?_
    refine r_bipush F (by decide) dL_number_19 rfl ?_
    refine r_icmp_le F (tgt := 39) ⟨by omega, by omega⟩ ⟨by omega, by omega⟩ dL_number_21 rfl (by decide) (fun h_21 => ?_) (fun h_21 => ?_)
    ·
      refine r_aload_n F rfl rfl dL_number_39 rfl ?_
      refine r_bipush F (by decide) dL_number_40 rfl ?_
      refine r_iload_n F rfl rfl dL_number_42 rfl ?_
      refine r_bipush F (by decide) dL_number_43 rfl ?_
      refine r_iremP F ⟨by omega, by omega⟩ ⟨by omega, by omega⟩ (by omega) (by omega) dL_number_45 rfl ?_
      refine r_iadd F dL_number_46 rfl ?_
      refine r_callV F G (c_X8_append _ _ _ _ hB hc.1.O ⟨by omega, by omega⟩) v_L_103 rfl (hB.1) rfl (by decide) (by decide) (Nat.le_of_ble_eq_true rfl) rfl dL_number_47 rfl (fun v lay' mem' n' hp => ?_)
      obtain ⟨q1, q2, q3, q4⟩ := hp
      subst q1; subst q2; subst q4
      have hlen := hc.len (by omega)
      have hc2 := X7_a hc (c := 48 + m % 10) ⟨by omega, by omega⟩ (by omega)
      rw [show t_app _ y (48 + m % 10) = mem' from (if_pos ⟨by omega, by omega, hlen.1⟩).symm.trans q3] at hc2
      replace hc := hc2
      clear hc2 q3 hlen
      refine r_pop F rfl dL_number_50 rfl ?_
      exact r_vret F Rt dL_number_51 (by decide) ⟨rfl, rfl, rfl, by first | (exfalso; omega) | exact X7_K (by unfold dg; rw [if_pos (by omega)]; simp) hc (by omega) | exact X7_K (by unfold dg; rw [if_neg (by omega), if_pos (by omega)]; simp) hc (by omega) | exact X7_K (by unfold dg; rw [if_neg (by omega), if_neg (by omega)]) hc (by omega)⟩
    ·
      refine r_aload_n F rfl rfl dL_number_24 rfl ?_
      refine r_bipush F (by decide) dL_number_25 rfl ?_
      refine r_iload_n F rfl rfl dL_number_27 rfl ?_
      refine r_bipush F (by decide) dL_number_28 rfl ?_
      refine r_idivP F ⟨by omega, by omega⟩ ⟨by omega, by omega⟩ (by omega) (by omega) dL_number_30 rfl ?_
      refine r_bipush F (by decide) dL_number_31 rfl ?_
      refine r_iremP F ⟨by omega, by omega⟩ ⟨by omega, by omega⟩ (by omega) (by omega) dL_number_33 rfl ?_
      refine r_iadd F dL_number_34 rfl ?_
      refine r_callV F G (c_X8_append _ _ _ _ hB hc.1.O ⟨by omega, by omega⟩) v_L_103 rfl (hB.1) rfl (by decide) (by decide) (Nat.le_of_ble_eq_true rfl) rfl dL_number_35 rfl (fun v lay' mem' n' hp => ?_)
      obtain ⟨q1, q2, q3, q4⟩ := hp
      subst q1; subst q2; subst q4
      have hlen := hc.len (by omega)
      have hc2 := X7_a hc (c := 48 + m / 10 % 10) ⟨by omega, by omega⟩ (by omega)
      rw [show t_app _ y (48 + m / 10 % 10) = mem' from (if_pos ⟨by omega, by omega, hlen.1⟩).symm.trans q3] at hc2
      replace hc := hc2
      clear hc2 q3 hlen
      refine r_pop F rfl dL_number_38 rfl ?_
      refine r_aload_n F rfl rfl dL_number_39 rfl ?_
      refine r_bipush F (by decide) dL_number_40 rfl ?_
      refine r_iload_n F rfl rfl dL_number_42 rfl ?_
      refine r_bipush F (by decide) dL_number_43 rfl ?_
      refine r_iremP F ⟨by omega, by omega⟩ ⟨by omega, by omega⟩ (by omega) (by omega) dL_number_45 rfl ?_
      refine r_iadd F dL_number_46 rfl ?_
      refine r_callV F G (c_X8_append _ _ _ _ hB hc.1.O ⟨by omega, by omega⟩) v_L_103 rfl (hB.1) rfl (by decide) (by decide) (Nat.le_of_ble_eq_true rfl) rfl dL_number_47 rfl (fun v lay' mem' n' hp => ?_)
      obtain ⟨q1, q2, q3, q4⟩ := hp
      subst q1; subst q2; subst q4
      have hlen := hc.len (by omega)
      have hc2 := X7_a hc (c := 48 + m % 10) ⟨by omega, by omega⟩ (by omega)
      rw [show t_app _ y (48 + m % 10) = mem' from (if_pos ⟨by omega, by omega, hlen.1⟩).symm.trans q3] at hc2
      replace hc := hc2
      clear hc2 q3 hlen
      refine r_pop F rfl dL_number_50 rfl ?_
      exact r_vret F Rt dL_number_51 (by decide) ⟨rfl, rfl, rfl, by first | (exfalso; omega) | exact X7_K (by unfold dg; rw [if_pos (by omega)]; simp) hc (by omega) | exact X7_K (by unfold dg; rw [if_neg (by omega), if_pos (by omega)]; simp) hc (by omega) | exact X7_K (by unfold dg; rw [if_neg (by omega), if_neg (by omega)]) hc (by omega)⟩
