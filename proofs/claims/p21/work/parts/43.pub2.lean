abbrev rm_X9_unrestorable : Room := { frames := 5, cells := 0, slots := 0, locals := 119 }
set_option maxRecDepth 100000 in
set_option maxHeartbeats 800000 in
theorem c_X9_unrestorable (l : Launch) (D : va_G) (cA : Nat → ClassId) (B : Nat) {lay : ja_Y} {n : Nat} {m : Nat} {G : ja_M} {v : Nat → Int} (hM : ja_LM lay m) {k : Int} (hR : N_R v) (hk : ja_in k) : ja_Mt l D cA B yX9_unrestorable cX9_unrestorable 5 (some .int) rm_X9_unrestorable [.ref m, .int (ja_I k)] lay (ja_rw G (m + 1) v) n (N_pp lay m n G v (some (.int (ja_I (if N_hB v k then N_ur v k else -1001))))) := by
  refine ja_enter [some (.ref m), some (.int (ja_I k)), none, none, none] (by decide) (Nat.le_of_ble_eq_true rfl) (fun q hq => hq) (fun C F Rt GC hnm => ?_)
  have hC := hR.C
  have hS := hR.S
  obtain ⟨k1_, k2_⟩ := id hk
  have ha := N_ar_in hS
  have hd0 := Int.ediv_nonneg (show (0 : Int) ≤ 999 by omega) (show 0 ≤ N_ar v by omega)
  have hd1 := Int.ediv_le_self (N_ar v) (show (0 : Int) ≤ 999 by omega)
  refine r_iload_n F rfl rfl dX9_unrestorable_0 rfl ?_
  refine r_iconst F dX9_unrestorable_1 rfl ?_
  refine r_sipush F (by decide) dX9_unrestorable_2 rfl ?_
  refine r_aload_n F rfl rfl dX9_unrestorable_5 rfl ?_
  refine r_callV F GC (c_X9_area _ _ _ _ hM hS) v_X9_47 rfl (hM.1) rfl (by decide) (by decide) (Nat.le_of_ble_eq_true rfl) rfl dX9_unrestorable_6 rfl (fun v lay' mem' n' hp => ?_)
  obtain ⟨q1, q2, q3, q4⟩ := hp
  subst q1; subst q2; subst q3; subst q4
  refine r_idivP F ⟨by omega, by omega⟩ ⟨by omega, by omega⟩ (by omega) (by omega) dX9_unrestorable_9 rfl ?_
  refine r_callS F GC (c_X9_in _ _ _ _ ⟨by omega, by omega⟩ ⟨by omega, by omega⟩ ⟨by omega, by omega⟩) s_X9_35 rfl (by decide) (by decide) (Nat.le_of_ble_eq_true rfl) rfl dX9_unrestorable_10 rfl (fun v lay' mem' n' hp => ?_)
  obtain ⟨q1, q2, q3, q4⟩ := hp
  subst q1; subst q2; subst q3; subst q4
  refine r_if_ne F (tgt := 20) ja_b_in dX9_unrestorable_13 rfl (by decide) (fun h_13 => ?_) (fun h_13 => ?_)
  ·
    have b_13 : (0 ≤ k ∧ k ≤ (999 / (N_ar v))) := ja_b_1 h_13
    refine r_aload_n F rfl rfl dX9_unrestorable_20 rfl ?_
    refine r_callV F GC (c_X9_keeps _ _ _ _ hM) v_X9_144 rfl (hM.1) rfl (by decide) (by decide) (Nat.le_of_ble_eq_true rfl) rfl dX9_unrestorable_21 rfl (fun v lay' mem' n' hp => ?_)
    obtain ⟨q1, q2, q3, q4⟩ := hp
    subst q1; subst q2; subst q3; subst q4
    refine r_aload_n F rfl rfl dX9_unrestorable_24 rfl ?_
    refine r_iload_n F rfl rfl dX9_unrestorable_25 rfl ?_
    refine r_iconst F dX9_unrestorable_26 rfl ?_
    refine r_callV F GC (c_X9_restores _ _ _ _ hM hR b_13 ⟨by omega, by omega⟩) v_X9_80 rfl (hM.1) rfl (by decide) (by decide) (Nat.le_of_ble_eq_true rfl) rfl dX9_unrestorable_27 rfl (fun v lay' mem' n' hp => ?_)
    obtain ⟨q1, q2, q3, q4⟩ := hp
    subst q1; subst q2; subst q3; subst q4
    have hfr := N_rs_fr (a := 1) 40 0 v hS b_13
    have hur := hfr.R hR
    have hus := hfr.ss
    have hbk := N_bk hS b_13
    refine r_ist2 F (by decide) rfl dX9_unrestorable_30 rfl ?_
    refine r_iconst F dX9_unrestorable_31 rfl ?_
    refine r_ist3 F (by decide) rfl dX9_unrestorable_32 rfl ?_
    refine r_iconst F dX9_unrestorable_33 rfl ?_
    refine r_ist4 F (by decide) rfl dX9_unrestorable_34 rfl ?_
    have loop : ∀ (d c : Nat), c + d = (N_ar v).toNat → ja_W C 0 0 lay (ja_rw (ja_rw G (m + 2) v) (m + 1) ((N_rs 1 k 40 0 v).2)) n 36 [some (.ref (m)), some (.int (ja_I (k))), none, some (.int (ja_I (((N_un (N_rs 1 k 40 0 v).2 (N_ar v * k) c : Nat) : Int)))), some (.int (ja_I ((c : Int))))] [] := by
      intro d
      induction d with
      | zero =>
        intro c hc
        refine r_iload F rfl dX9_unrestorable_36 rfl ?_
        refine r_aload_n F rfl rfl dX9_unrestorable_38 rfl ?_
        refine r_callV F GC (c_X9_area _ _ _ _ hM hur.S) v_X9_47 rfl (hM.1) rfl (by decide) (by decide) (Nat.le_of_ble_eq_true rfl) rfl dX9_unrestorable_39 rfl (fun v lay' mem' n' hp => ?_)
        obtain ⟨q1, q2, q3, q4⟩ := hp
        subst q1; subst q2; subst q3; subst q4
        refine r_eqz (z := N_ar v) hus.ar ?_
        refine r_icmp_ge F (tgt := 75) ⟨by omega, by omega⟩ ⟨by omega, by omega⟩ dX9_unrestorable_42 rfl (by decide) (fun h_42 => ?_) (fun h_42 => ?_)
        ·
          refine r_aload_n F rfl rfl dX9_unrestorable_75 rfl ?_
          refine r_callV F GC (c_X9_brings _ _ _ _ hM (fun j _ => by rw [ja_rw_s])) v_X9_147 rfl (hM.1) rfl (by decide) (by decide) (Nat.le_of_ble_eq_true rfl) rfl dX9_unrestorable_76 rfl (fun v lay' mem' n' hp => ?_)
          obtain ⟨q1, q2, q3, q4⟩ := hp
          subst q1; subst q2; subst q3; subst q4
          refine r_iload_n F rfl rfl dX9_unrestorable_79 rfl ?_
          exact r_iret F Rt dX9_unrestorable_80 (by decide) ⟨by rw [if_pos (show N_hB v k from b_13), N_ur, show (N_ar v).toNat = c by omega], rfl, rfl, _, N_gp.rw2, rfl⟩
        ·
          exfalso; omega
      | succ d ih =>
        intro c hc
        refine r_iload F rfl dX9_unrestorable_36 rfl ?_
        refine r_aload_n F rfl rfl dX9_unrestorable_38 rfl ?_
        refine r_callV F GC (c_X9_area _ _ _ _ hM hur.S) v_X9_47 rfl (hM.1) rfl (by decide) (by decide) (Nat.le_of_ble_eq_true rfl) rfl dX9_unrestorable_39 rfl (fun v lay' mem' n' hp => ?_)
        obtain ⟨q1, q2, q3, q4⟩ := hp
        subst q1; subst q2; subst q3; subst q4
        refine r_eqz (z := N_ar v) hus.ar ?_
        refine r_icmp_ge F (tgt := 75) ⟨by omega, by omega⟩ ⟨by omega, by omega⟩ dX9_unrestorable_42 rfl (by decide) (fun h_42 => ?_) (fun h_42 => ?_)
        ·
          exfalso; omega
        ·
          refine r_iload_n F rfl rfl dX9_unrestorable_45 rfl ?_
          refine r_aload_n F rfl rfl dX9_unrestorable_46 rfl ?_
          refine r_aload_n F rfl rfl dX9_unrestorable_47 rfl ?_
          refine r_callV F GC (c_X9_area _ _ _ _ hM hur.S) v_X9_47 rfl (hM.1) rfl (by decide) (by decide) (Nat.le_of_ble_eq_true rfl) rfl dX9_unrestorable_48 rfl (fun v lay' mem' n' hp => ?_)
          obtain ⟨q1, q2, q3, q4⟩ := hp
          subst q1; subst q2; subst q3; subst q4
          refine r_eqz (z := N_ar v) hus.ar ?_
          refine r_iload_n F rfl rfl dX9_unrestorable_51 rfl ?_
          refine r_imul F dX9_unrestorable_52 rfl ?_
          refine r_iload F rfl dX9_unrestorable_53 rfl ?_
          refine r_iadd F dX9_unrestorable_55 rfl ?_
          refine r_callV F GC (c_X9_isKnown _ _ _ _ hM hur ⟨by omega, by omega⟩) v_X9_59 rfl (hM.1) rfl (by decide) (by decide) (Nat.le_of_ble_eq_true rfl) rfl dX9_unrestorable_56 rfl (fun v lay' mem' n' hp => ?_)
          obtain ⟨q1, q2, q3, q4⟩ := hp
          subst q1; subst q2; subst q3; subst q4
          refine r_if_eq F (tgt := 66) ja_b_in dX9_unrestorable_59 rfl (by decide) (fun h_59 => ?_) (fun h_59 => ?_)
          ·
            have b_59 : ¬ (N_kn (N_rs 1 k 40 0 v).2 ((N_ar v * k) + (c : Int))) := ja_b_0.mp h_59
            refine r_iconst F dX9_unrestorable_66 rfl ?_
            refine r_iadd F dX9_unrestorable_67 rfl ?_
            refine r_ist3 F (by decide) rfl dX9_unrestorable_68 rfl ?_
            refine r_inc4 F (by decide) rfl dX9_unrestorable_69 rfl ?_
            refine r_goto F (tgt := 36) dX9_unrestorable_72 (by decide) ?_
            have h0 := ih (c + 1) (by omega)
            simp only [N_un] at h0
            first
              | (rw [if_pos b_59, Nat.add_zero] at h0; rw [Int.add_zero]; exact h0)
              | (rw [if_neg b_59] at h0; rw [show ((N_un (N_rs 1 k 40 0 v).2 (N_ar v * k) c : Nat) : Int) + 1 = ((N_un (N_rs 1 k 40 0 v).2 (N_ar v * k) c + 1 : Nat) : Int) by omega]; exact h0)
          ·
            have b_59 : (N_kn (N_rs 1 k 40 0 v).2 ((N_ar v * k) + (c : Int))) := ja_b_1 h_59
            refine r_iconst F dX9_unrestorable_62 rfl ?_
            refine r_goto F (tgt := 67) dX9_unrestorable_63 (by decide) ?_
            refine r_iadd F dX9_unrestorable_67 rfl ?_
            refine r_ist3 F (by decide) rfl dX9_unrestorable_68 rfl ?_
            refine r_inc4 F (by decide) rfl dX9_unrestorable_69 rfl ?_
            refine r_goto F (tgt := 36) dX9_unrestorable_72 (by decide) ?_
            have h0 := ih (c + 1) (by omega)
            simp only [N_un] at h0
            first
              | (rw [if_pos b_59, Nat.add_zero] at h0; rw [Int.add_zero]; exact h0)
              | (rw [if_neg b_59] at h0; rw [show ((N_un (N_rs 1 k 40 0 v).2 (N_ar v * k) c : Nat) : Int) + 1 = ((N_un (N_rs 1 k 40 0 v).2 (N_ar v * k) c + 1 : Nat) : Int) by omega]; exact h0)
    refine r_msk [true, true, false, true, true] rfl ?_
    exact loop (N_ar v).toNat 0 (by omega)
  ·
    have b_13 : ¬ (0 ≤ k ∧ k ≤ (999 / (N_ar v))) := ja_b_0.mp h_13
    refine r_sipush F (by decide) dX9_unrestorable_16 rfl ?_
    exact r_iret F Rt dX9_unrestorable_19 (by decide) ⟨by rw [if_neg b_13], rfl, rfl, G, fun _ _ _ _ => rfl, rfl⟩
abbrev rm_X9_paritySample : Room := { frames := 2, cells := 0, slots := 0, locals := 45 }
set_option maxRecDepth 100000 in
set_option maxHeartbeats 800000 in
theorem c_X9_paritySample (l : Launch) (D : va_G) (cA : Nat → ClassId) (B : Nat) {lay : ja_Y} {n : Nat} {m : Nat} {G : ja_M} {v : Nat → Int} (hM : ja_LM lay m) {r k i p : Int} (hR : N_R v) (h01 : 0 ≤ r ∧ r ≤ 1) (hk : ja_in k) (hi : ja_in i) (hp : ja_in p) : ja_Mt l D cA B yX9_paritySample cX9_paritySample 8 (some .int) rm_X9_paritySample [.ref m, .int (ja_I r), .int (ja_I k), .int (ja_I i), .int (ja_I p)] lay (ja_rw G (m + 1) v) n (ja_rd lay (ja_rw G (m + 1) v) n (some (.int (ja_I (if N_hP v r k i ∧ 0 ≤ p ∧ p ≤ v 0 - 1 then N_ps v r k i p (N_cs v r).toNat else -1001))))) := by
  refine ja_enter [some (.ref m), some (.int (ja_I r)), some (.int (ja_I k)), some (.int (ja_I i)), some (.int (ja_I p)), none, none, none] (by decide) (Nat.le_of_ble_eq_true rfl) (fun q hq => hq) (fun C F Rt GC hnm => ?_)
  have hC := hR.C
  have hS := hR.S
  obtain ⟨k1_, k2_⟩ := id hk
  obtain ⟨i1_, i2_⟩ := id hi
  obtain ⟨p1_, p2_⟩ := id hp
  have hcs := @N_cs_in v r hS
  refine r_aload_n F rfl rfl dX9_paritySample_0 rfl ?_
  refine r_iload_n F rfl rfl dX9_paritySample_1 rfl ?_
  refine r_iload_n F rfl rfl dX9_paritySample_2 rfl ?_
  refine r_iload_n F rfl rfl dX9_paritySample_3 rfl ?_
  refine r_callV F GC (c_X9_isPacket _ _ _ _ hM hS h01 hk hi) v_X9_91 rfl (hM.1) rfl (by decide) (by decide) (Nat.le_of_ble_eq_true rfl) rfl dX9_paritySample_4 rfl (fun v lay' mem' n' hp => ?_)
  obtain ⟨q1, q2, q3, q4⟩ := hp
  subst q1; subst q2; subst q3; subst q4
  refine r_if_eq F (tgt := 27) ja_b_in dX9_paritySample_7 rfl (by decide) (fun h_7 => ?_) (fun h_7 => ?_)
  ·
    have b_7 : ¬ (N_hP v r k i) := ja_b_0.mp h_7
    have c2 : ¬ (N_hP v r k i ∧ 0 ≤ p ∧ p ≤ v 0 - 1) := fun q => b_7 q.1
    refine r_sipush F (by decide) dX9_paritySample_27 rfl ?_
    exact r_iret F Rt dX9_paritySample_30 (by decide) ⟨by rw [if_neg c2], rfl, rfl, rfl⟩
  ·
    have b_7 : (N_hP v r k i) := ja_b_1 h_7
    refine r_iload F rfl dX9_paritySample_10 rfl ?_
    refine r_iconst F dX9_paritySample_12 rfl ?_
    refine r_aload_n F rfl rfl dX9_paritySample_13 rfl ?_
    refine r_getR F f_X9_7 (hM.1) rfl dX9_paritySample_14 rfl ?_
    refine r_iconst F dX9_paritySample_17 rfl ?_
    refine r_iald F (ja_LM_1 hM) (by omega) (by omega) (by decide) dX9_paritySample_18 rfl ?_
    refine r_eqz (z := (v 0)) (by rw [ja_rw_s, show Int.toNat 0 = 0 from rfl]) ?_
    refine r_iconst F dX9_paritySample_19 rfl ?_
    refine r_isub F dX9_paritySample_20 rfl ?_
    refine r_callS F GC (c_X9_in _ _ _ _ ⟨by omega, by omega⟩ ⟨by omega, by omega⟩ ⟨by omega, by omega⟩) s_X9_35 rfl (by decide) (by decide) (Nat.le_of_ble_eq_true rfl) rfl dX9_paritySample_21 rfl (fun v lay' mem' n' hp => ?_)
    obtain ⟨q1, q2, q3, q4⟩ := hp
    subst q1; subst q2; subst q3; subst q4
    refine r_if_ne F (tgt := 31) ja_b_in dX9_paritySample_24 rfl (by decide) (fun h_24 => ?_) (fun h_24 => ?_)
    ·
      have b_24 : (0 ≤ p ∧ p ≤ ((v 0) - 1)) := ja_b_1 h_24
      have c2 : N_hP v r k i ∧ 0 ≤ p ∧ p ≤ v 0 - 1 := ⟨b_7, b_24⟩
      refine r_iconst F dX9_paritySample_31 rfl ?_
      refine r_ist5 F (by decide) rfl dX9_paritySample_32 rfl ?_
      refine r_iconst F dX9_paritySample_34 rfl ?_
      refine r_ist6 F (by decide) rfl dX9_paritySample_35 rfl ?_
      have loop : ∀ (d c : Nat), c + d = (N_cs v r).toNat → ja_W C 0 0 lay (ja_rw G (m + 1) (v)) n 37 [some (.ref (m)), some (.int (ja_I (r))), some (.int (ja_I (k))), some (.int (ja_I (i))), some (.int (ja_I (p))), some (.int (ja_I (N_ps v r k i p c))), some (.int (ja_I ((c : Int)))), none] [] := by
        intro d
        induction d with
        | zero =>
          intro c hc
          refine r_iload F rfl dX9_paritySample_37 rfl ?_
          refine r_aload_n F rfl rfl dX9_paritySample_39 rfl ?_
          refine r_iload_n F rfl rfl dX9_paritySample_40 rfl ?_
          refine r_callV F GC (c_X9_covers _ _ _ _ hM h01) v_X9_51 rfl (hM.1) rfl (by decide) (by decide) (Nat.le_of_ble_eq_true rfl) rfl dX9_paritySample_41 rfl (fun v lay' mem' n' hp => ?_)
          obtain ⟨q1, q2, q3, q4⟩ := hp
          subst q1; subst q2; subst q3; subst q4
          refine r_icmp_ge F (tgt := 93) ⟨by omega, by omega⟩ ⟨by omega, by omega⟩ dX9_paritySample_44 rfl (by decide) (fun h_44 => ?_) (fun h_44 => ?_)
          ·
            refine r_iload F rfl dX9_paritySample_93 rfl ?_
            exact r_iret F Rt dX9_paritySample_95 (by decide) ⟨by rw [if_pos c2, show (N_cs v r).toNat = c by omega], rfl, rfl, rfl⟩
          ·
            exfalso; omega
        | succ d ih =>
          intro c hc
          have hcv := N_cv_in (r := r) (j := (c : Int)) hS b_7.1 (N_hP_6 hS b_7) ⟨by omega, by omega⟩
          refine r_iload F rfl dX9_paritySample_37 rfl ?_
          refine r_aload_n F rfl rfl dX9_paritySample_39 rfl ?_
          refine r_iload_n F rfl rfl dX9_paritySample_40 rfl ?_
          refine r_callV F GC (c_X9_covers _ _ _ _ hM h01) v_X9_51 rfl (hM.1) rfl (by decide) (by decide) (Nat.le_of_ble_eq_true rfl) rfl dX9_paritySample_41 rfl (fun v lay' mem' n' hp => ?_)
          obtain ⟨q1, q2, q3, q4⟩ := hp
          subst q1; subst q2; subst q3; subst q4
          refine r_icmp_ge F (tgt := 93) ⟨by omega, by omega⟩ ⟨by omega, by omega⟩ dX9_paritySample_44 rfl (by decide) (fun h_44 => ?_) (fun h_44 => ?_)
          ·
            exfalso; omega
          ·
            refine r_aload_n F rfl rfl dX9_paritySample_47 rfl ?_
            refine r_iload_n F rfl rfl dX9_paritySample_48 rfl ?_
            refine r_iload_n F rfl rfl dX9_paritySample_49 rfl ?_
            refine r_iload_n F rfl rfl dX9_paritySample_50 rfl ?_
            refine r_iload F rfl dX9_paritySample_51 rfl ?_
            refine r_callV F GC (c_X9_covered _ _ _ _ hM hS h01) v_X9_55 rfl (hM.1) rfl (by decide) (by decide) (Nat.le_of_ble_eq_true rfl) rfl dX9_paritySample_53 rfl (fun v lay' mem' n' hp => ?_)
            obtain ⟨q1, q2, q3, q4⟩ := hp
            subst q1; subst q2; subst q3; subst q4
            refine r_ist7 F (by decide) rfl dX9_paritySample_56 rfl ?_
            refine r_iload F rfl dX9_paritySample_58 rfl ?_
            refine r_iload F rfl dX9_paritySample_60 rfl ?_
            refine r_sipush F (by decide) dX9_paritySample_62 rfl ?_
            refine r_icmp_le F (tgt := 72) ⟨by omega, by omega⟩ ⟨by omega, by omega⟩ dX9_paritySample_65 rfl (by decide) (fun h_65 => ?_) (fun h_65 => ?_)
            ·
              refine r_aload_n F rfl rfl dX9_paritySample_72 rfl ?_
              refine r_iload F rfl dX9_paritySample_73 rfl ?_
              refine r_iload F rfl dX9_paritySample_75 rfl ?_
              refine r_callV F GC (c_X9_sampleOf _ _ _ _ hM hS ⟨by omega, by omega⟩ ⟨by omega, by omega⟩) v_X9_104 rfl (hM.1) rfl (by decide) (by decide) (Nat.le_of_ble_eq_true rfl) rfl dX9_paritySample_77 rfl (fun v lay' mem' n' hp => ?_)
              obtain ⟨q1, q2, q3, q4⟩ := hp
              subst q1; subst q2; subst q3; subst q4
              refine r_sipush F (by decide) dX9_paritySample_80 rfl ?_
              refine r_iadd F dX9_paritySample_83 rfl ?_
              refine r_ixor F (ja_of' _) dX9_paritySample_84 rfl ?_
              refine r_ist5 F (by decide) rfl dX9_paritySample_85 rfl ?_
              refine r_inc6 F (by decide) rfl dX9_paritySample_87 rfl ?_
              refine r_goto F (tgt := 37) dX9_paritySample_90 (by decide) ?_
              refine r_msk [true, true, true, true, true, true, true, false] rfl ?_
              have h0 := ih (c + 1) (by omega)
              simp only [N_ps] at h0
              first
                | (rw [if_neg (by omega)] at h0; exact h0)
                | (rw [if_pos (by omega)] at h0; exact h0)
            ·
              refine r_iconst F dX9_paritySample_68 rfl ?_
              refine r_goto F (tgt := 84) dX9_paritySample_69 (by decide) ?_
              refine r_ixor F (ja_of' _) dX9_paritySample_84 rfl ?_
              refine r_ist5 F (by decide) rfl dX9_paritySample_85 rfl ?_
              refine r_inc6 F (by decide) rfl dX9_paritySample_87 rfl ?_
              refine r_goto F (tgt := 37) dX9_paritySample_90 (by decide) ?_
              refine r_msk [true, true, true, true, true, true, true, false] rfl ?_
              have h0 := ih (c + 1) (by omega)
              simp only [N_ps] at h0
              first
                | (rw [if_neg (by omega)] at h0; exact h0)
                | (rw [if_pos (by omega)] at h0; exact h0)
      exact loop ((N_cs v r).toNat) 0 (by omega)
    ·
      have b_24 : ¬ (0 ≤ p ∧ p ≤ ((v 0) - 1)) := ja_b_0.mp h_24
      have c2 : ¬ (N_hP v r k i ∧ 0 ≤ p ∧ p ≤ v 0 - 1) := fun q => b_24 q.2
      refine r_sipush F (by decide) dX9_paritySample_27 rfl ?_
      exact r_iret F Rt dX9_paritySample_30 (by decide) ⟨by rw [if_neg c2], rfl, rfl, rfl⟩
abbrev rm_X9_loss : Room := { frames := 0, cells := 0, slots := 0, locals := 0 }
set_option maxRecDepth 100000 in
set_option maxHeartbeats 800000 in
theorem c_X9_loss (l : Launch) (D : va_G) (cA : Nat → ClassId) (B : Nat) {lay : ja_Y} {n : Nat} {m : Nat} {G : ja_M} {v : Nat → Int} (hM : ja_LM lay m) {d : Int} (hR : N_R v) (hd : 0 ≤ d ∧ d ≤ 1) : ja_Mt l D cA B yX9_loss cX9_loss 6 (some .int) rm_X9_loss [.ref m, .int (ja_I d)] lay (ja_rw G (m + 1) v) n (ja_rd lay (ja_rw G (m + 1) v) n (some (.int (ja_I (N_ls v d))))) := by
  refine ja_enter [some (.ref m), some (.int (ja_I d)), none, none, none, none] (by decide) (Nat.le_of_ble_eq_true rfl) (fun q hq => hq) (fun C F Rt GC hnm => ?_)
  have hC := hR.C
  have hS := hR.S
  refine r_aload_n F rfl rfl dX9_loss_0 rfl ?_
  refine r_getR F f_X9_7 (hM.1) rfl dX9_loss_1 rfl ?_
  refine r_bipush F (by decide) dX9_loss_4 rfl ?_
  refine r_iald F (ja_LM_1 hM) (by omega) (by omega) (by decide) dX9_loss_6 rfl ?_
  refine r_eqz (z := (v 21)) (by rw [ja_rw_s, show Int.toNat 21 = 21 from rfl]) ?_
  refine r_ist2 F (by decide) rfl dX9_loss_7 rfl ?_
  refine r_iload_n F rfl rfl dX9_loss_8 rfl ?_
  refine r_if_ne F (tgt := 22) ⟨by omega, by omega⟩ dX9_loss_9 rfl (by decide) (fun h_9 => ?_) (fun h_9 => ?_)
  ·
    refine r_iload_n F rfl rfl dX9_loss_22 rfl ?_
    refine r_eqz (z := (((v 21).toNat : Nat) : Int)) (by omega) ?_
    refine r_ist3 F (by decide) rfl dX9_loss_23 rfl ?_
    refine r_aload_n F rfl rfl dX9_loss_24 rfl ?_
    refine r_getR F f_X9_7 (hM.1) rfl dX9_loss_25 rfl ?_
    refine r_bipush F (by decide) dX9_loss_28 rfl ?_
    refine r_iald F (ja_LM_1 hM) (by omega) (by omega) (by decide) dX9_loss_30 rfl ?_
    refine r_eqz (z := (v 11)) (by rw [ja_rw_s, show Int.toNat 11 = 11 from rfl]) ?_
    refine r_eqz (z := (((v 11).toNat : Nat) : Int)) (by omega) ?_
    refine r_ist4 F (by decide) rfl dX9_loss_31 rfl ?_
    have loop : ∀ (b a : Nat), a ≤ 1000 → b ≤ 1000 → Nat.gcd b a = Nat.gcd (v 11).toNat (v 21).toNat → ja_W C 0 0 lay (ja_rw G (m + 1) v) n 33 [some (.ref m), some (.int (ja_I d)), some (.int (ja_I (v 21))), some (.int (ja_I (a : Int))), some (.int (ja_I (b : Int))), none] [] := by
      intro b
      induction b using Nat.strongRecOn with
      | ind b ih =>
        intro a ha hb hg
        refine r_iload F rfl dX9_loss_33 rfl ?_
        refine r_if_eq F (tgt := 54) ⟨by omega, by omega⟩ dX9_loss_35 rfl (by decide) (fun h_35 => ?_) (fun h_35 => ?_)
        ·
          obtain rfl : b = 0 := by omega
          rw [Nat.gcd_zero_left] at hg
          have hgi := N_gcd_in (a := v 11) (b := v 21) ⟨by omega, by omega⟩
          rw [← hg] at hgi
          refine r_iload_n F rfl rfl dX9_loss_54 rfl ?_
          refine r_if_eq F (tgt := 70) ⟨by omega, by omega⟩ dX9_loss_55 rfl (by decide) (fun h_55 => ?_) (fun h_55 => ?_)
          ·
            refine r_iload_n F rfl rfl dX9_loss_70 rfl ?_
            refine r_iload_n F rfl rfl dX9_loss_71 rfl ?_
            refine r_idivP F ⟨by omega, by omega⟩ ⟨by omega, by omega⟩ (by omega) (by omega) dX9_loss_72 rfl ?_
            exact r_iret F Rt dX9_loss_73 (by decide) ⟨by rw [N_ls, if_neg h_9, ← hg]; first | rw [if_pos h_55] | rw [if_neg h_55], rfl, rfl, rfl⟩
          ·
            refine r_aload_n F rfl rfl dX9_loss_58 rfl ?_
            refine r_getR F f_X9_7 (hM.1) rfl dX9_loss_59 rfl ?_
            refine r_bipush F (by decide) dX9_loss_62 rfl ?_
            refine r_iald F (ja_LM_1 hM) (by omega) (by omega) (by decide) dX9_loss_64 rfl ?_
            refine r_eqz (z := (v 11)) (by rw [ja_rw_s, show Int.toNat 11 = 11 from rfl]) ?_
            refine r_iload_n F rfl rfl dX9_loss_65 rfl ?_
            refine r_idivP F ⟨by omega, by omega⟩ ⟨by omega, by omega⟩ (by omega) (by omega) dX9_loss_66 rfl ?_
            refine r_goto F (tgt := 73) dX9_loss_67 (by decide) ?_
            exact r_iret F Rt dX9_loss_73 (by decide) ⟨by rw [N_ls, if_neg h_9, ← hg]; first | rw [if_pos h_55] | rw [if_neg h_55], rfl, rfl, rfl⟩
        ·
          refine r_iload_n F rfl rfl dX9_loss_38 rfl ?_
          refine r_iload F rfl dX9_loss_39 rfl ?_
          refine r_iremP F ⟨by omega, by omega⟩ ⟨by omega, by omega⟩ (by omega) (by omega) dX9_loss_41 rfl ?_
          refine r_ist5 F (by decide) rfl dX9_loss_42 rfl ?_
          refine r_iload F rfl dX9_loss_44 rfl ?_
          refine r_ist3 F (by decide) rfl dX9_loss_46 rfl ?_
          refine r_iload F rfl dX9_loss_47 rfl ?_
          refine r_ist4 F (by decide) rfl dX9_loss_49 rfl ?_
          refine r_goto F (tgt := 33) dX9_loss_51 (by decide) ?_
          refine r_msk [true, true, true, true, true, false] rfl ?_
          have hlt := Nat.mod_lt a (show 0 < b by omega)
          rw [N_emod_c]
          exact ih (a % b) hlt b hb (by omega) (by rw [← hg]; exact (Nat.gcd_rec b a).symm)
    exact loop (v 11).toNat (v 21).toNat (by omega) (by omega) rfl
  ·
    refine r_iload_n F rfl rfl dX9_loss_12 rfl ?_
    refine r_if_eq F (tgt := 20) ⟨by omega, by omega⟩ dX9_loss_13 rfl (by decide) (fun h_13 => ?_) (fun h_13 => ?_)
    ·
      refine r_iconst F dX9_loss_20 rfl ?_
      exact r_iret F Rt dX9_loss_21 (by decide) ⟨by rw [N_ls, if_pos h_9]; first | rw [if_pos h_13] | rw [if_neg h_13], rfl, rfl, rfl⟩
    ·
      refine r_iconst F dX9_loss_16 rfl ?_
      refine r_goto F (tgt := 21) dX9_loss_17 (by decide) ?_
      exact r_iret F Rt dX9_loss_21 (by decide) ⟨by rw [N_ls, if_pos h_9]; first | rw [if_pos h_13] | rw [if_neg h_13], rfl, rfl, rfl⟩
abbrev rm_X9_ticksToGap : Room := { frames := 8, cells := 0, slots := 0, locals := 189 }
set_option maxRecDepth 100000 in
set_option maxHeartbeats 800000 in
theorem c_X9_ticksToGap (l : Launch) (D : va_G) (cA : Nat → ClassId) (B : Nat) {lay : ja_Y} {n : Nat} {m : Nat} {G : ja_M} {v : Nat → Int} (hM : ja_LM lay m) {t : Int} (hO : N_O v t) (ht : t ≤ 898000)  : ja_Mt l D cA B yX9_ticksToGap cX9_ticksToGap 4 (some .int) rm_X9_ticksToGap [.ref m] lay (ja_rw G (m + 1) v) n (N_pp lay m n G v (some (.int (ja_I (N_xg 1000 0 v))))) := by
  refine ja_enter [some (.ref m), none, none, none] (by decide) (Nat.le_of_ble_eq_true rfl) (fun q hq => hq) (fun C F Rt GC hnm => ?_)
  have hR := hO.1
  refine r_aload_n F rfl rfl dX9_ticksToGap_0 rfl ?_
  refine r_callV F GC (c_X9_keeps _ _ _ _ hM) v_X9_144 rfl (hM.1) rfl (by decide) (by decide) (Nat.le_of_ble_eq_true rfl) rfl dX9_ticksToGap_1 rfl (fun v lay' mem' n' hp => ?_)
  obtain ⟨q1, q2, q3, q4⟩ := hp
  subst q1; subst q2; subst q3; subst q4
  refine r_sipush F (by decide) dX9_ticksToGap_4 rfl ?_
  refine r_ist1 F (by decide) rfl dX9_ticksToGap_7 rfl ?_
  refine r_iconst F dX9_ticksToGap_8 rfl ?_
  refine r_ist2 F (by decide) rfl dX9_ticksToGap_9 rfl ?_
  have loop : ∀ (d k : Nat) (w : Nat → Int) (G1 : ja_M), k + d = 1000 → N_gp m G G1 → (∀ j : Nat, j < 2484 → G1 (m + 2) j = v j) → N_O w (t + k) → N_xg d k w = N_xg 1000 0 v → ja_W C 0 0 lay (ja_rw G1 (m + 1) w) n 10 [some (.ref m), some (.int (ja_I (-1004))), some (.int (ja_I (k : Int))), none] [] := by
    intro d
    induction d with
    | zero =>
      intro k w G1 hk hgp hsp hwO hl
      have hwR := hwO.1
      refine r_iload_n F rfl rfl dX9_ticksToGap_10 rfl ?_
      refine r_sipush F (by decide) dX9_ticksToGap_11 rfl ?_
      refine r_icmp_ge F (tgt := 49) ⟨by omega, by omega⟩ ⟨by omega, by omega⟩ dX9_ticksToGap_14 rfl (by decide) (fun h_14 => ?_) (fun h_14 => ?_)
      ·
        refine r_aload_n F rfl rfl dX9_ticksToGap_49 rfl ?_
        refine r_callV F GC (c_X9_brings _ _ _ _ hM hsp) v_X9_147 rfl (hM.1) rfl (by decide) (by decide) (Nat.le_of_ble_eq_true rfl) rfl dX9_ticksToGap_50 rfl (fun v lay' mem' n' hp => ?_)
        obtain ⟨q1, q2, q3, q4⟩ := hp
        subst q1; subst q2; subst q3; subst q4
        refine r_iload_n F rfl rfl dX9_ticksToGap_53 rfl ?_
        exact r_iret F Rt dX9_ticksToGap_54 (by decide) ⟨by rw [← hl]; rfl, rfl, rfl, G1, hgp, rfl⟩
      ·
        exfalso; omega
    | succ d ih =>
      intro k w G1 hk hgp hsp hwO hl
      have hwR := hwO.1
      refine r_iload_n F rfl rfl dX9_ticksToGap_10 rfl ?_
      refine r_sipush F (by decide) dX9_ticksToGap_11 rfl ?_
      refine r_icmp_ge F (tgt := 49) ⟨by omega, by omega⟩ ⟨by omega, by omega⟩ dX9_ticksToGap_14 rfl (by decide) (fun h_14 => ?_) (fun h_14 => ?_)
      ·
        exfalso; omega
      ·
        refine r_iload_n F rfl rfl dX9_ticksToGap_17 rfl ?_
        refine r_if_ge F (tgt := 49) ⟨by omega, by omega⟩ dX9_ticksToGap_18 rfl (by decide) (fun h_18 => ?_) (fun h_18 => ?_)
        ·
          exfalso; omega
        ·
          refine r_aload_n F rfl rfl dX9_ticksToGap_21 rfl ?_
          refine r_callV F GC (c_X9_tick _ _ _ _ hM hwO (by omega)) v_X9_141 rfl (hM.1) rfl (by decide) (by decide) (Nat.le_of_ble_eq_true rfl) rfl dX9_ticksToGap_22 rfl (fun v lay' mem' n' hp => ?_)
          obtain ⟨q1, q2, q3, G2, hG2, q4⟩ := hp
          subst q1; subst q2; subst q3; subst q4
          have hO2 := N_ti_O hwO (by omega)
          have hR2 := hO2.1
          have hC2 := hR2.C
          have hgp2 := hgp.tr hG2.gp
          have hsp2 : ∀ j : Nat, j < 2484 → G2 (m + 2) j = v j := fun j hj => by rw [hG2 (m + 2) (by omega) (by omega)]; exact hsp j hj
          refine r_ist3 F (by decide) rfl dX9_ticksToGap_25 rfl ?_
          refine r_aload_n F rfl rfl dX9_ticksToGap_26 rfl ?_
          refine r_getR F f_X9_7 (hM.1) rfl dX9_ticksToGap_27 rfl ?_
          refine r_bipush F (by decide) dX9_ticksToGap_30 rfl ?_
          refine r_iald F (ja_LM_1 hM) (by omega) (by omega) (by decide) dX9_ticksToGap_32 rfl ?_
          refine r_eqz (z := ((N_ti w) 27)) (by rw [ja_rw_s, show Int.toNat 27 = 27 from rfl]) ?_
          refine r_iconst F dX9_ticksToGap_33 rfl ?_
          refine r_icmp_ne F (tgt := 41) ⟨by omega, by omega⟩ ⟨by omega, by omega⟩ dX9_ticksToGap_34 rfl (by decide) (fun h_34 => ?_) (fun h_34 => ?_)
          ·
            refine r_iload_n F rfl rfl dX9_ticksToGap_41 rfl ?_
            refine r_ist1 F (by decide) rfl dX9_ticksToGap_42 rfl ?_
            refine r_inc2 F (by decide) rfl dX9_ticksToGap_43 rfl ?_
            refine r_goto F (tgt := 10) dX9_ticksToGap_46 (by decide) ?_
            refine r_msk [true, true, true, false] rfl ?_
            exact ih (k + 1) _ G2 (by omega) hgp2 hsp2 (by rw [show t + ((k + 1 : Nat) : Int) = t + k + 1 by omega]; exact hO2) (by rw [← hl]; simp only [N_xg]; rw [if_neg (by omega)])
          ·
            refine r_iload_n F rfl rfl dX9_ticksToGap_37 rfl ?_
            refine r_goto F (tgt := 42) dX9_ticksToGap_38 (by decide) ?_
            refine r_ist1 F (by decide) rfl dX9_ticksToGap_42 rfl ?_
            refine r_inc2 F (by decide) rfl dX9_ticksToGap_43 rfl ?_
            refine r_goto F (tgt := 10) dX9_ticksToGap_46 (by decide) ?_
            refine r_iload_n F rfl rfl dX9_ticksToGap_10 rfl ?_
            refine r_sipush F (by decide) dX9_ticksToGap_11 rfl ?_
            refine r_icmp_ge F (tgt := 49) ⟨by omega, by omega⟩ ⟨by omega, by omega⟩ dX9_ticksToGap_14 rfl (by decide) (fun h_14 => ?_) (fun h_14 => ?_)
            ·
              refine r_aload_n F rfl rfl dX9_ticksToGap_49 rfl ?_
              refine r_callV F GC (c_X9_brings _ _ _ _ hM hsp2) v_X9_147 rfl (hM.1) rfl (by decide) (by decide) (Nat.le_of_ble_eq_true rfl) rfl dX9_ticksToGap_50 rfl (fun v lay' mem' n' hp => ?_)
              obtain ⟨q1, q2, q3, q4⟩ := hp
              subst q1; subst q2; subst q3; subst q4
              refine r_iload_n F rfl rfl dX9_ticksToGap_53 rfl ?_
              exact r_iret F Rt dX9_ticksToGap_54 (by decide) ⟨by rw [← hl]; simp only [N_xg]; rw [if_pos (by omega)], rfl, rfl, G2, hgp2, rfl⟩
            ·
              refine r_iload_n F rfl rfl dX9_ticksToGap_17 rfl ?_
              refine r_if_ge F (tgt := 49) ⟨by omega, by omega⟩ dX9_ticksToGap_18 rfl (by decide) (fun h_18 => ?_) (fun h_18 => ?_)
              ·
                refine r_aload_n F rfl rfl dX9_ticksToGap_49 rfl ?_
                refine r_callV F GC (c_X9_brings _ _ _ _ hM hsp2) v_X9_147 rfl (hM.1) rfl (by decide) (by decide) (Nat.le_of_ble_eq_true rfl) rfl dX9_ticksToGap_50 rfl (fun v lay' mem' n' hp => ?_)
                obtain ⟨q1, q2, q3, q4⟩ := hp
                subst q1; subst q2; subst q3; subst q4
                refine r_iload_n F rfl rfl dX9_ticksToGap_53 rfl ?_
                exact r_iret F Rt dX9_ticksToGap_54 (by decide) ⟨by rw [← hl]; simp only [N_xg]; rw [if_pos (by omega)], rfl, rfl, G2, hgp2, rfl⟩
              ·
                exfalso; omega
  refine r_msk [true, true, true, false] rfl ?_
  exact loop 1000 0 v _ (by omega) N_gp.rw2 (fun j _ => by rw [ja_rw_s]) (by rw [show t + ((0 : Nat) : Int) = t by omega]; exact hO) rfl
abbrev rm_X9_ticksToFrame : Room := { frames := 8, cells := 0, slots := 0, locals := 189 }
set_option maxRecDepth 100000 in
set_option maxHeartbeats 800000 in
theorem c_X9_ticksToFrame (l : Launch) (D : va_G) (cA : Nat → ClassId) (B : Nat) {lay : ja_Y} {n : Nat} {m : Nat} {G : ja_M} {v : Nat → Int} (hM : ja_LM lay m) {x : Int} {t : Int} (hO : N_O v t) (ht : t ≤ 898000) (hx : ja_in x) : ja_Mt l D cA B yX9_ticksToFrame cX9_ticksToFrame 5 (some .int) rm_X9_ticksToFrame [.ref m, .int (ja_I x)] lay (ja_rw G (m + 1) v) n (N_pp lay m n G v (some (.int (ja_I (if N_isF x then (if x < v 11 then -1003 else N_xf x 2000 0 v) else -1001))))) := by
  refine ja_enter [some (.ref m), some (.int (ja_I x)), none, none, none] (by decide) (Nat.le_of_ble_eq_true rfl) (fun q hq => hq) (fun C F Rt GC hnm => ?_)
  have hR := hO.1
  have hC := hR.C
  obtain ⟨x1_, x2_⟩ := id hx
  refine r_iload_n F rfl rfl dX9_ticksToFrame_0 rfl ?_
  refine r_callS F GC (c_X9_isFrame _ _ _ _ ⟨by omega, by omega⟩) s_X9_84 rfl (by decide) (by decide) (Nat.le_of_ble_eq_true rfl) rfl dX9_ticksToFrame_1 rfl (fun v lay' mem' n' hp => ?_)
  obtain ⟨q1, q2, q3, q4⟩ := hp
  subst q1; subst q2; subst q3; subst q4
  refine r_if_ne F (tgt := 11) ja_b_in dX9_ticksToFrame_4 rfl (by decide) (fun h_4 => ?_) (fun h_4 => ?_)
  ·
    have b_4 : (0 ≤ x ∧ x ≤ 999) := ja_b_1 h_4
    refine r_iload_n F rfl rfl dX9_ticksToFrame_11 rfl ?_
    refine r_aload_n F rfl rfl dX9_ticksToFrame_12 rfl ?_
    refine r_getR F f_X9_7 (hM.1) rfl dX9_ticksToFrame_13 rfl ?_
    refine r_bipush F (by decide) dX9_ticksToFrame_16 rfl ?_
    refine r_iald F (ja_LM_1 hM) (by omega) (by omega) (by decide) dX9_ticksToFrame_18 rfl ?_
    refine r_eqz (z := (v 11)) (by rw [ja_rw_s, show Int.toNat 11 = 11 from rfl]) ?_
    refine r_icmp_ge F (tgt := 26) ⟨by omega, by omega⟩ ⟨by omega, by omega⟩ dX9_ticksToFrame_19 rfl (by decide) (fun h_19 => ?_) (fun h_19 => ?_)
    ·
      refine r_aload_n F rfl rfl dX9_ticksToFrame_26 rfl ?_
      refine r_callV F GC (c_X9_keeps _ _ _ _ hM) v_X9_144 rfl (hM.1) rfl (by decide) (by decide) (Nat.le_of_ble_eq_true rfl) rfl dX9_ticksToFrame_27 rfl (fun v lay' mem' n' hp => ?_)
      obtain ⟨q1, q2, q3, q4⟩ := hp
      subst q1; subst q2; subst q3; subst q4
      refine r_sipush F (by decide) dX9_ticksToFrame_30 rfl ?_
      refine r_ist2 F (by decide) rfl dX9_ticksToFrame_33 rfl ?_
      refine r_iconst F dX9_ticksToFrame_34 rfl ?_
      refine r_ist3 F (by decide) rfl dX9_ticksToFrame_35 rfl ?_
      have loop : ∀ (d k : Nat) (w : Nat → Int) (G1 : ja_M), k + d = 2000 → N_gp m G G1 → (∀ j : Nat, j < 2484 → G1 (m + 2) j = v j) → N_O w (t + k) → N_xf x d k w = N_xf x 2000 0 v → ja_W C 0 0 lay (ja_rw G1 (m + 1) w) n 36 [some (.ref m), some (.int (ja_I x)), some (.int (ja_I (-1004))), some (.int (ja_I (k : Int))), none] [] := by
        intro d
        induction d with
        | zero =>
          intro k w G1 hk hgp hsp hwO hl
          have hwR := hwO.1
          refine r_iload_n F rfl rfl dX9_ticksToFrame_36 rfl ?_
          refine r_sipush F (by decide) dX9_ticksToFrame_37 rfl ?_
          refine r_icmp_ge F (tgt := 76) ⟨by omega, by omega⟩ ⟨by omega, by omega⟩ dX9_ticksToFrame_40 rfl (by decide) (fun h_40 => ?_) (fun h_40 => ?_)
          ·
            refine r_aload_n F rfl rfl dX9_ticksToFrame_76 rfl ?_
            refine r_callV F GC (c_X9_brings _ _ _ _ hM hsp) v_X9_147 rfl (hM.1) rfl (by decide) (by decide) (Nat.le_of_ble_eq_true rfl) rfl dX9_ticksToFrame_77 rfl (fun v lay' mem' n' hp => ?_)
            obtain ⟨q1, q2, q3, q4⟩ := hp
            subst q1; subst q2; subst q3; subst q4
            refine r_iload_n F rfl rfl dX9_ticksToFrame_80 rfl ?_
            exact r_iret F Rt dX9_ticksToFrame_81 (by decide) ⟨by rw [if_pos b_4, if_neg (by omega)]; rw [← hl]; rfl, rfl, rfl, G1, hgp, rfl⟩
          ·
            exfalso; omega
        | succ d ih =>
          intro k w G1 hk hgp hsp hwO hl
          have hwR := hwO.1
          refine r_iload_n F rfl rfl dX9_ticksToFrame_36 rfl ?_
          refine r_sipush F (by decide) dX9_ticksToFrame_37 rfl ?_
          refine r_icmp_ge F (tgt := 76) ⟨by omega, by omega⟩ ⟨by omega, by omega⟩ dX9_ticksToFrame_40 rfl (by decide) (fun h_40 => ?_) (fun h_40 => ?_)
          ·
            exfalso; omega
          ·
            refine r_iload_n F rfl rfl dX9_ticksToFrame_43 rfl ?_
            refine r_if_ge F (tgt := 76) ⟨by omega, by omega⟩ dX9_ticksToFrame_44 rfl (by decide) (fun h_44 => ?_) (fun h_44 => ?_)
            ·
              exfalso; omega
            ·
              refine r_aload_n F rfl rfl dX9_ticksToFrame_47 rfl ?_
              refine r_callV F GC (c_X9_tick _ _ _ _ hM hwO (by omega)) v_X9_141 rfl (hM.1) rfl (by decide) (by decide) (Nat.le_of_ble_eq_true rfl) rfl dX9_ticksToFrame_48 rfl (fun v lay' mem' n' hp => ?_)
              obtain ⟨q1, q2, q3, G2, hG2, q4⟩ := hp
              subst q1; subst q2; subst q3; subst q4
              have hO2 := N_ti_O hwO (by omega)
              have hR2 := hO2.1
              have hC2 := hR2.C
              have hgp2 := hgp.tr hG2.gp
              have hsp2 : ∀ j : Nat, j < 2484 → G2 (m + 2) j = v j := fun j hj => by rw [hG2 (m + 2) (by omega) (by omega)]; exact hsp j hj
              refine r_ist4 F (by decide) rfl dX9_ticksToFrame_51 rfl ?_
              refine r_aload_n F rfl rfl dX9_ticksToFrame_53 rfl ?_
              refine r_getR F f_X9_7 (hM.1) rfl dX9_ticksToFrame_54 rfl ?_
              refine r_bipush F (by decide) dX9_ticksToFrame_57 rfl ?_
              refine r_iald F (ja_LM_1 hM) (by omega) (by omega) (by decide) dX9_ticksToFrame_59 rfl ?_
              refine r_eqz (z := ((N_ti w) 11)) (by rw [ja_rw_s, show Int.toNat 11 = 11 from rfl]) ?_
              refine r_iload_n F rfl rfl dX9_ticksToFrame_60 rfl ?_
              refine r_icmp_le F (tgt := 68) ⟨by omega, by omega⟩ ⟨by omega, by omega⟩ dX9_ticksToFrame_61 rfl (by decide) (fun h_61 => ?_) (fun h_61 => ?_)
              ·
                refine r_iload_n F rfl rfl dX9_ticksToFrame_68 rfl ?_
                refine r_ist2 F (by decide) rfl dX9_ticksToFrame_69 rfl ?_
                refine r_inc3 F (by decide) rfl dX9_ticksToFrame_70 rfl ?_
                refine r_goto F (tgt := 36) dX9_ticksToFrame_73 (by decide) ?_
                refine r_msk [true, true, true, true, false] rfl ?_
                exact ih (k + 1) _ G2 (by omega) hgp2 hsp2 (by rw [show t + ((k + 1 : Nat) : Int) = t + k + 1 by omega]; exact hO2) (by rw [← hl]; simp only [N_xf]; rw [if_neg (by omega)])
              ·
                refine r_iload_n F rfl rfl dX9_ticksToFrame_64 rfl ?_
                refine r_goto F (tgt := 69) dX9_ticksToFrame_65 (by decide) ?_
                refine r_ist2 F (by decide) rfl dX9_ticksToFrame_69 rfl ?_
                refine r_inc3 F (by decide) rfl dX9_ticksToFrame_70 rfl ?_
                refine r_goto F (tgt := 36) dX9_ticksToFrame_73 (by decide) ?_
                refine r_iload_n F rfl rfl dX9_ticksToFrame_36 rfl ?_
                refine r_sipush F (by decide) dX9_ticksToFrame_37 rfl ?_
                refine r_icmp_ge F (tgt := 76) ⟨by omega, by omega⟩ ⟨by omega, by omega⟩ dX9_ticksToFrame_40 rfl (by decide) (fun h_40 => ?_) (fun h_40 => ?_)
                ·
                  refine r_aload_n F rfl rfl dX9_ticksToFrame_76 rfl ?_
                  refine r_callV F GC (c_X9_brings _ _ _ _ hM hsp2) v_X9_147 rfl (hM.1) rfl (by decide) (by decide) (Nat.le_of_ble_eq_true rfl) rfl dX9_ticksToFrame_77 rfl (fun v lay' mem' n' hp => ?_)
                  obtain ⟨q1, q2, q3, q4⟩ := hp
                  subst q1; subst q2; subst q3; subst q4
                  refine r_iload_n F rfl rfl dX9_ticksToFrame_80 rfl ?_
                  exact r_iret F Rt dX9_ticksToFrame_81 (by decide) ⟨by rw [if_pos b_4, if_neg (by omega)]; rw [← hl]; simp only [N_xf]; rw [if_pos (by omega)], rfl, rfl, G2, hgp2, rfl⟩
                ·
                  refine r_iload_n F rfl rfl dX9_ticksToFrame_43 rfl ?_
                  refine r_if_ge F (tgt := 76) ⟨by omega, by omega⟩ dX9_ticksToFrame_44 rfl (by decide) (fun h_44 => ?_) (fun h_44 => ?_)
                  ·
                    refine r_aload_n F rfl rfl dX9_ticksToFrame_76 rfl ?_
                    refine r_callV F GC (c_X9_brings _ _ _ _ hM hsp2) v_X9_147 rfl (hM.1) rfl (by decide) (by decide) (Nat.le_of_ble_eq_true rfl) rfl dX9_ticksToFrame_77 rfl (fun v lay' mem' n' hp => ?_)
                    obtain ⟨q1, q2, q3, q4⟩ := hp
                    subst q1; subst q2; subst q3; subst q4
                    refine r_iload_n F rfl rfl dX9_ticksToFrame_80 rfl ?_
                    exact r_iret F Rt dX9_ticksToFrame_81 (by decide) ⟨by rw [if_pos b_4, if_neg (by omega)]; rw [← hl]; simp only [N_xf]; rw [if_pos (by omega)], rfl, rfl, G2, hgp2, rfl⟩
                  ·
                    exfalso; omega
      refine r_msk [true, true, true, true, false] rfl ?_
      exact loop 2000 0 v _ (by omega) N_gp.rw2 (fun j _ => by rw [ja_rw_s]) (by rw [show t + ((0 : Nat) : Int) = t by omega]; exact hO) rfl
    ·
      refine r_sipush F (by decide) dX9_ticksToFrame_22 rfl ?_
      exact r_iret F Rt dX9_ticksToFrame_25 (by decide) ⟨by rw [if_pos b_4, if_pos (by omega)], rfl, rfl, G, fun _ _ _ _ => rfl, rfl⟩
  ·
    have b_4 : ¬ (0 ≤ x ∧ x ≤ 999) := ja_b_0.mp h_4
    refine r_sipush F (by decide) dX9_ticksToFrame_7 rfl ?_
    exact r_iret F Rt dX9_ticksToFrame_10 (by decide) ⟨by rw [if_neg b_4], rfl, rfl, G, fun _ _ _ _ => rfl, rfl⟩
abbrev rm_X9_gapsIn : Room := { frames := 8, cells := 0, slots := 0, locals := 189 }
set_option maxRecDepth 100000 in
set_option maxHeartbeats 800000 in
theorem c_X9_gapsIn (l : Launch) (D : va_G) (cA : Nat → ClassId) (B : Nat) {lay : ja_Y} {n : Nat} {m : Nat} {G : ja_M} {v : Nat → Int} (hM : ja_LM lay m) {x : Int} {t : Int} (hO : N_O v t) (ht : t ≤ 898000) (hx : ja_in x) : ja_Mt l D cA B yX9_gapsIn cX9_gapsIn 5 (some .int) rm_X9_gapsIn [.ref m, .int (ja_I x)] lay (ja_rw G (m + 1) v) n (N_pp lay m n G v (some (.int (ja_I (if 1 ≤ x ∧ x ≤ 1000 then N_ag v x.toNat else -1001))))) := by
  refine ja_enter [some (.ref m), some (.int (ja_I x)), none, none, none] (by decide) (Nat.le_of_ble_eq_true rfl) (fun q hq => hq) (fun C F Rt GC hnm => ?_)
  have hR := hO.1
  obtain ⟨x1_, x2_⟩ := id hx
  refine r_iload_n F rfl rfl dX9_gapsIn_0 rfl ?_
  refine r_iconst F dX9_gapsIn_1 rfl ?_
  refine r_sipush F (by decide) dX9_gapsIn_2 rfl ?_
  refine r_callS F GC (c_X9_in _ _ _ _ ⟨by omega, by omega⟩ ⟨by omega, by omega⟩ ⟨by omega, by omega⟩) s_X9_35 rfl (by decide) (by decide) (Nat.le_of_ble_eq_true rfl) rfl dX9_gapsIn_5 rfl (fun v lay' mem' n' hp => ?_)
  obtain ⟨q1, q2, q3, q4⟩ := hp
  subst q1; subst q2; subst q3; subst q4
  refine r_if_ne F (tgt := 15) ja_b_in dX9_gapsIn_8 rfl (by decide) (fun h_8 => ?_) (fun h_8 => ?_)
  ·
    have b_8 : (1 ≤ x ∧ x ≤ 1000) := ja_b_1 h_8
    refine r_aload_n F rfl rfl dX9_gapsIn_15 rfl ?_
    refine r_callV F GC (c_X9_keeps _ _ _ _ hM) v_X9_144 rfl (hM.1) rfl (by decide) (by decide) (Nat.le_of_ble_eq_true rfl) rfl dX9_gapsIn_16 rfl (fun v lay' mem' n' hp => ?_)
    obtain ⟨q1, q2, q3, q4⟩ := hp
    subst q1; subst q2; subst q3; subst q4
    refine r_iconst F dX9_gapsIn_19 rfl ?_
    refine r_ist2 F (by decide) rfl dX9_gapsIn_20 rfl ?_
    refine r_iconst F dX9_gapsIn_21 rfl ?_
    refine r_ist3 F (by decide) rfl dX9_gapsIn_22 rfl ?_
    have loop : ∀ (d c : Nat) (G1 : ja_M), c + d = x.toNat → N_gp m G G1 → (∀ j : Nat, j < 2484 → G1 (m + 2) j = v j) → ja_W C 0 0 lay (ja_rw G1 (m + 1) (N_ad v c)) n 23 [some (.ref m), some (.int (ja_I x)), some (.int (ja_I (N_ag v c))), some (.int (ja_I (c : Int))), none] [] := by
      intro d
      induction d with
      | zero =>
        intro c G1 hc hgp hsp
        have hwO := N_ad_O hO c (by omega)
        have ha := @N_ag_in v c
        refine r_iload_n F rfl rfl dX9_gapsIn_23 rfl ?_
        refine r_iload_n F rfl rfl dX9_gapsIn_24 rfl ?_
        refine r_icmp_ge F (tgt := 59) ⟨by omega, by omega⟩ ⟨by omega, by omega⟩ dX9_gapsIn_25 rfl (by decide) (fun h_25 => ?_) (fun h_25 => ?_)
        ·
          refine r_aload_n F rfl rfl dX9_gapsIn_59 rfl ?_
          refine r_callV F GC (c_X9_brings _ _ _ _ hM hsp) v_X9_147 rfl (hM.1) rfl (by decide) (by decide) (Nat.le_of_ble_eq_true rfl) rfl dX9_gapsIn_60 rfl (fun v lay' mem' n' hp => ?_)
          obtain ⟨q1, q2, q3, q4⟩ := hp
          subst q1; subst q2; subst q3; subst q4
          refine r_iload_n F rfl rfl dX9_gapsIn_63 rfl ?_
          exact r_iret F Rt dX9_gapsIn_64 (by decide) ⟨by rw [if_pos b_8, show x.toNat = c by omega], rfl, rfl, G1, hgp, rfl⟩
        ·
          exfalso; omega
      | succ d ih =>
        intro c G1 hc hgp hsp
        have hwO := N_ad_O hO c (by omega)
        have ha := @N_ag_in v c
        refine r_iload_n F rfl rfl dX9_gapsIn_23 rfl ?_
        refine r_iload_n F rfl rfl dX9_gapsIn_24 rfl ?_
        refine r_icmp_ge F (tgt := 59) ⟨by omega, by omega⟩ ⟨by omega, by omega⟩ dX9_gapsIn_25 rfl (by decide) (fun h_25 => ?_) (fun h_25 => ?_)
        ·
          exfalso; omega
        ·
          refine r_aload_n F rfl rfl dX9_gapsIn_28 rfl ?_
          refine r_callV F GC (c_X9_tick _ _ _ _ hM hwO (by omega)) v_X9_141 rfl (hM.1) rfl (by decide) (by decide) (Nat.le_of_ble_eq_true rfl) rfl dX9_gapsIn_29 rfl (fun v lay' mem' n' hp => ?_)
          obtain ⟨q1, q2, q3, G2, hG2, q4⟩ := hp
          subst q1; subst q2; subst q3; subst q4
          have hO2 := N_ti_O hwO (by omega)
          have hR2 := hO2.1
          have hC2 := hR2.C
          have hgp2 := hgp.tr hG2.gp
          have hsp2 : ∀ j : Nat, j < 2484 → G2 (m + 2) j = v j := fun j hj => by rw [hG2 (m + 2) (by omega) (by omega)]; exact hsp j hj
          refine r_ist4 F (by decide) rfl dX9_gapsIn_32 rfl ?_
          refine r_iload_n F rfl rfl dX9_gapsIn_34 rfl ?_
          refine r_aload_n F rfl rfl dX9_gapsIn_35 rfl ?_
          refine r_getR F f_X9_7 (hM.1) rfl dX9_gapsIn_36 rfl ?_
          refine r_bipush F (by decide) dX9_gapsIn_39 rfl ?_
          refine r_iald F (ja_LM_1 hM) (by omega) (by omega) (by decide) dX9_gapsIn_41 rfl ?_
          refine r_eqz (z := ((N_ti (N_ad v c)) 27)) (by rw [ja_rw_s, show Int.toNat 27 = 27 from rfl]) ?_
          refine r_iconst F dX9_gapsIn_42 rfl ?_
          refine r_icmp_ne F (tgt := 50) ⟨by omega, by omega⟩ ⟨by omega, by omega⟩ dX9_gapsIn_43 rfl (by decide) (fun h_43 => ?_) (fun h_43 => ?_)
          ·
            refine r_iconst F dX9_gapsIn_50 rfl ?_
            refine r_iadd F dX9_gapsIn_51 rfl ?_
            refine r_ist2 F (by decide) rfl dX9_gapsIn_52 rfl ?_
            refine r_inc3 F (by decide) rfl dX9_gapsIn_53 rfl ?_
            refine r_goto F (tgt := 23) dX9_gapsIn_56 (by decide) ?_
            refine r_msk [true, true, true, true, false] rfl ?_
            have h0 := ih (c + 1) G2 (by omega) hgp2 hsp2
            simp only [N_ag] at h0
            first
              | (rw [if_pos h_43] at h0; exact h0)
              | (rw [if_neg h_43] at h0; exact h0)
          ·
            refine r_iconst F dX9_gapsIn_46 rfl ?_
            refine r_goto F (tgt := 51) dX9_gapsIn_47 (by decide) ?_
            refine r_iadd F dX9_gapsIn_51 rfl ?_
            refine r_ist2 F (by decide) rfl dX9_gapsIn_52 rfl ?_
            refine r_inc3 F (by decide) rfl dX9_gapsIn_53 rfl ?_
            refine r_goto F (tgt := 23) dX9_gapsIn_56 (by decide) ?_
            refine r_msk [true, true, true, true, false] rfl ?_
            have h0 := ih (c + 1) G2 (by omega) hgp2 hsp2
            simp only [N_ag] at h0
            first
              | (rw [if_pos h_43] at h0; exact h0)
              | (rw [if_neg h_43] at h0; exact h0)
    refine r_msk [true, true, true, true, false] rfl ?_
    exact loop x.toNat 0 _ (by omega) N_gp.rw2 (fun j _ => by rw [ja_rw_s])
  ·
    have b_8 : ¬ (1 ≤ x ∧ x ≤ 1000) := ja_b_0.mp h_8
    refine r_sipush F (by decide) dX9_gapsIn_11 rfl ?_
    exact r_iret F Rt dX9_gapsIn_14 (by decide) ⟨by rw [if_neg b_8], rfl, rfl, G, fun _ _ _ _ => rfl, rfl⟩
abbrev rm_X9_keep : Room := { frames := 1, cells := 0, slots := 0, locals := 22 }
set_option maxRecDepth 100000 in
set_option maxHeartbeats 800000 in
theorem c_X9_keep (l : Launch) (D : va_G) (cA : Nat → ClassId) (B : Nat) {lay : ja_Y} {n : Nat} {m : Nat} {G : ja_M} {v : Nat → Int} (hM : ja_LM lay m) {k : Int} (hR : N_R v) (hk : ja_in k) : ja_Mt l D cA B yX9_keep cX9_keep 3 (some .int) rm_X9_keep [.ref m, .int (ja_I k)] lay (ja_rw G (m + 1) v) n (ja_rd lay (if 0 ≤ k ∧ k ≤ 1 then ja_rw (ja_up (ja_rw G (m + 3) (N_kr (G (m + 3)) v k 2484)) (m + 4) k.toNat 1) (m + 1) v else ja_rw G (m + 1) v) n (some (.int (ja_I (if 0 ≤ k ∧ k ≤ 1 then v 9 else -1001))))) := by
  refine ja_enter [some (.ref m), some (.int (ja_I k)), none] (by decide) (Nat.le_of_ble_eq_true rfl) (fun q hq => hq) (fun C F Rt GC hnm => ?_)
  have hC := hR.C
  have hS := hR.S
  obtain ⟨k1_, k2_⟩ := id hk
  refine r_iload_n F rfl rfl dX9_keep_0 rfl ?_
  refine r_iconst F dX9_keep_1 rfl ?_
  refine r_iconst F dX9_keep_2 rfl ?_
  refine r_callS F GC (c_X9_in _ _ _ _ ⟨by omega, by omega⟩ ⟨by omega, by omega⟩ ⟨by omega, by omega⟩) s_X9_35 rfl (by decide) (by decide) (Nat.le_of_ble_eq_true rfl) rfl dX9_keep_3 rfl (fun v lay' mem' n' hp => ?_)
  obtain ⟨q1, q2, q3, q4⟩ := hp
  subst q1; subst q2; subst q3; subst q4
  refine r_if_ne F (tgt := 13) ja_b_in dX9_keep_6 rfl (by decide) (fun h_6 => ?_) (fun h_6 => ?_)
  ·
    have b_6 : (0 ≤ k ∧ k ≤ 1) := ja_b_1 h_6
    refine r_iconst F dX9_keep_13 rfl ?_
    refine r_ist2 F (by decide) rfl dX9_keep_14 rfl ?_
    have loop : ∀ (d c : Nat), c + d = 2484 → ja_W C 0 0 lay (ja_rw (ja_rw G (m + 3) (N_kr (G (m + 3)) v k c)) (m + 1) (v)) n 15 [some (.ref (m)), some (.int (ja_I (k))), some (.int (ja_I ((c : Int))))] [] := by
      intro d
      induction d with
      | zero =>
        intro c hc
        refine r_iload_n F rfl rfl dX9_keep_15 rfl ?_
        refine r_sipush F (by decide) dX9_keep_16 rfl ?_
        refine r_icmp_ge F (tgt := 46) ⟨by omega, by omega⟩ ⟨by omega, by omega⟩ dX9_keep_19 rfl (by decide) (fun h_19 => ?_) (fun h_19 => ?_)
        ·
          obtain rfl : c = 2484 := by omega
          refine r_aload_n F rfl rfl dX9_keep_46 rfl ?_
          refine r_getR F f_X9_19 (hM.1) rfl dX9_keep_47 rfl ?_
          refine r_iload_n F rfl rfl dX9_keep_50 rfl ?_
          refine r_iconst F dX9_keep_51 rfl ?_
          refine r_zast F (Or.inr rfl) (ja_LM_4 hM) (by omega) (by omega) (by decide) dX9_keep_52 rfl ?_
          refine r_mem (mem' := ja_rw (ja_up (ja_rw G (m + 3) (N_kr (G (m + 3)) v k 2484)) (m + 4) (Int.toNat k) 1) (m + 1) (v)) (ja_up_rw (by omega)) ?_
          refine r_aload_n F rfl rfl dX9_keep_53 rfl ?_
          refine r_getR F f_X9_7 (hM.1) rfl dX9_keep_54 rfl ?_
          refine r_bipush F (by decide) dX9_keep_57 rfl ?_
          refine r_iald F (ja_LM_1 hM) (by omega) (by omega) (by decide) dX9_keep_59 rfl ?_
          refine r_eqz (z := ((v) 9)) (by rw [ja_rw_s, show Int.toNat 9 = 9 from rfl]) ?_
          exact r_iret F Rt dX9_keep_60 (by decide) ⟨by rw [if_pos b_6], rfl, by rw [if_pos b_6], rfl⟩
        ·
          exfalso; omega
      | succ d ih =>
        intro c hc
        refine r_iload_n F rfl rfl dX9_keep_15 rfl ?_
        refine r_sipush F (by decide) dX9_keep_16 rfl ?_
        refine r_icmp_ge F (tgt := 46) ⟨by omega, by omega⟩ ⟨by omega, by omega⟩ dX9_keep_19 rfl (by decide) (fun h_19 => ?_) (fun h_19 => ?_)
        ·
          exfalso; omega
        ·
          refine r_aload_n F rfl rfl dX9_keep_22 rfl ?_
          refine r_getR F f_X9_16 (hM.1) rfl dX9_keep_23 rfl ?_
          refine r_sipush F (by decide) dX9_keep_26 rfl ?_
          refine r_iload_n F rfl rfl dX9_keep_29 rfl ?_
          refine r_imul F dX9_keep_30 rfl ?_
          refine r_iload_n F rfl rfl dX9_keep_31 rfl ?_
          refine r_iadd F dX9_keep_32 rfl ?_
          refine r_aload_n F rfl rfl dX9_keep_33 rfl ?_
          refine r_getR F f_X9_7 (hM.1) rfl dX9_keep_34 rfl ?_
          refine r_iload_n F rfl rfl dX9_keep_37 rfl ?_
          refine r_iald F (ja_LM_1 hM) (by omega) (by omega) (by decide) dX9_keep_38 rfl ?_
          refine r_eqz (z := ((v) (Int.toNat (c : Int)))) (by rw [ja_rw_s]) ?_
          refine r_iast F (ja_LM_3 hM) (by omega) (by omega) (by decide) dX9_keep_39 rfl ?_
          refine r_mem (mem' := ja_rw (ja_up (ja_rw G (m + 3) (N_kr (G (m + 3)) v k c)) (m + 3) (Int.toNat ((2484 * k) + (c : Int))) ((v) (Int.toNat (c : Int)))) (m + 1) (v)) (ja_up_rw (by omega)) ?_
          refine r_inc2 F (by decide) rfl dX9_keep_40 rfl ?_
          refine r_goto F (tgt := 15) dX9_keep_43 (by decide) ?_
          rw [ja_rw_up, show Int.toNat ((2484 * k) + (c : Int)) = (2484 * k).toNat + c by omega, ja_nat, N_kr_s]
          exact ih (c + 1) (by omega)
    have h0 := loop 2484 0 (by omega)
    rw [N_kr_0, ja_rw_self] at h0
    exact h0
  ·
    have b_6 : ¬ (0 ≤ k ∧ k ≤ 1) := ja_b_0.mp h_6
    refine r_sipush F (by decide) dX9_keep_9 rfl ?_
    exact r_iret F Rt dX9_keep_12 (by decide) ⟨by rw [if_neg b_6], rfl, by rw [if_neg b_6], rfl⟩
abbrev rm_X9_restore : Room := { frames := 1, cells := 0, slots := 0, locals := 22 }
set_option maxRecDepth 100000 in
set_option maxHeartbeats 800000 in
theorem c_X9_restore (l : Launch) (D : va_G) (cA : Nat → ClassId) (B : Nat) {lay : ja_Y} {n : Nat} {m : Nat} {G : ja_M} {v : Nat → Int} (hM : ja_LM lay m) {k : Int} (hR : N_R v) (hz : ∀ j, 0 ≤ G (m + 4) j ∧ G (m + 4) j ≤ 1) (hk : ja_in k) : ja_Mt l D cA B yX9_restore cX9_restore 3 (some .int) rm_X9_restore [.ref m, .int (ja_I k)] lay (ja_rw G (m + 1) v) n (ja_rd lay (ja_rw G (m + 1) (if (0 ≤ k ∧ k ≤ 1) ∧ ¬ G (m + 4) k.toNat = 0 then fun j => G (m + 3) ((2484 * k).toNat + j) else v)) n (some (.int (ja_I (if 0 ≤ k ∧ k ≤ 1 then (if G (m + 4) k.toNat = 0 then -1003 else G (m + 3) ((2484 * k).toNat + 9)) else -1001))))) := by
  refine ja_enter [some (.ref m), some (.int (ja_I k)), none] (by decide) (Nat.le_of_ble_eq_true rfl) (fun q hq => hq) (fun C F Rt GC hnm => ?_)
  have hC := hR.C
  have hS := hR.S
  obtain ⟨k1_, k2_⟩ := id hk
  have hz0 := hz k.toNat
  refine r_iload_n F rfl rfl dX9_restore_0 rfl ?_
  refine r_iconst F dX9_restore_1 rfl ?_
  refine r_iconst F dX9_restore_2 rfl ?_
  refine r_callS F GC (c_X9_in _ _ _ _ ⟨by omega, by omega⟩ ⟨by omega, by omega⟩ ⟨by omega, by omega⟩) s_X9_35 rfl (by decide) (by decide) (Nat.le_of_ble_eq_true rfl) rfl dX9_restore_3 rfl (fun v lay' mem' n' hp => ?_)
  obtain ⟨q1, q2, q3, q4⟩ := hp
  subst q1; subst q2; subst q3; subst q4
  refine r_if_ne F (tgt := 13) ja_b_in dX9_restore_6 rfl (by decide) (fun h_6 => ?_) (fun h_6 => ?_)
  ·
    have b_6 : (0 ≤ k ∧ k ≤ 1) := ja_b_1 h_6
    refine r_aload_n F rfl rfl dX9_restore_13 rfl ?_
    refine r_getR F f_X9_19 (hM.1) rfl dX9_restore_14 rfl ?_
    refine r_iload_n F rfl rfl dX9_restore_17 rfl ?_
    refine r_zald F (ja_LM_4 hM) (by omega) (by omega) (by decide) dX9_restore_18 rfl ?_
    refine r_eqz (z := (G (m + 4) (Int.toNat k))) (by rw [ja_rw_n (by omega)]) ?_
    refine r_if_ne F (tgt := 26) ⟨by omega, by omega⟩ dX9_restore_19 rfl (by decide) (fun h_19 => ?_) (fun h_19 => ?_)
    ·
      have c2 : (0 ≤ k ∧ k ≤ 1) ∧ ¬ G (m + 4) k.toNat = 0 := ⟨b_6, h_19⟩
      refine r_iconst F dX9_restore_26 rfl ?_
      refine r_ist2 F (by decide) rfl dX9_restore_27 rfl ?_
      have loop : ∀ (d c : Nat), c + d = 2484 → ja_W C 0 0 lay (ja_rw G (m + 1) (N_mix (fun j => G (m + 3) ((2484 * k).toNat + j)) v c)) n 28 [some (.ref (m)), some (.int (ja_I (k))), some (.int (ja_I ((c : Int))))] [] := by
        intro d
        induction d with
        | zero =>
          intro c hc
          refine r_iload_n F rfl rfl dX9_restore_28 rfl ?_
          refine r_sipush F (by decide) dX9_restore_29 rfl ?_
          refine r_icmp_ge F (tgt := 59) ⟨by omega, by omega⟩ ⟨by omega, by omega⟩ dX9_restore_32 rfl (by decide) (fun h_32 => ?_) (fun h_32 => ?_)
          ·
            obtain rfl : c = 2484 := by omega
            refine r_ext (ja_LM_1 hM) (g := fun j => G (m + 3) ((2484 * k).toNat + j)) (fun j hj => N_mix_in hj) ?_
            refine r_aload_n F rfl rfl dX9_restore_59 rfl ?_
            refine r_getR F f_X9_7 (hM.1) rfl dX9_restore_60 rfl ?_
            refine r_bipush F (by decide) dX9_restore_63 rfl ?_
            refine r_iald F (ja_LM_1 hM) (by omega) (by omega) (by decide) dX9_restore_65 rfl ?_
            refine r_eqz (z := (G (m + 3) ((2484 * k).toNat + 9))) (by rw [ja_rw_s]; rfl) ?_
            exact r_iret F Rt dX9_restore_66 (by decide) ⟨by rw [if_pos b_6, if_neg h_19], rfl, by rw [if_pos c2], rfl⟩
          ·
            exfalso; omega
        | succ d ih =>
          intro c hc
          refine r_iload_n F rfl rfl dX9_restore_28 rfl ?_
          refine r_sipush F (by decide) dX9_restore_29 rfl ?_
          refine r_icmp_ge F (tgt := 59) ⟨by omega, by omega⟩ ⟨by omega, by omega⟩ dX9_restore_32 rfl (by decide) (fun h_32 => ?_) (fun h_32 => ?_)
          ·
            exfalso; omega
          ·
            refine r_aload_n F rfl rfl dX9_restore_35 rfl ?_
            refine r_getR F f_X9_7 (hM.1) rfl dX9_restore_36 rfl ?_
            refine r_iload_n F rfl rfl dX9_restore_39 rfl ?_
            refine r_aload_n F rfl rfl dX9_restore_40 rfl ?_
            refine r_getR F f_X9_16 (hM.1) rfl dX9_restore_41 rfl ?_
            refine r_sipush F (by decide) dX9_restore_44 rfl ?_
            refine r_iload_n F rfl rfl dX9_restore_47 rfl ?_
            refine r_imul F dX9_restore_48 rfl ?_
            refine r_iload_n F rfl rfl dX9_restore_49 rfl ?_
            refine r_iadd F dX9_restore_50 rfl ?_
            refine r_iald F (ja_LM_3 hM) (by omega) (by omega) (by decide) dX9_restore_51 rfl ?_
            refine r_eqz (z := (G (m + 3) ((2484 * k).toNat + c))) (by rw [ja_rw_n (by omega)]; congr 1; omega) ?_
            refine r_iast F (ja_LM_1 hM) (by omega) (by omega) (by decide) dX9_restore_52 rfl ?_
            refine r_mem (mem' := ja_rw G (m + 1) (ja_rs (N_mix (fun j => G (m + 3) ((2484 * k).toNat + j)) v c) (Int.toNat (c : Int)) (G (m + 3) ((2484 * k).toNat + c)))) (ja_rw_up _ _ _ _ _) ?_
            refine r_inc2 F (by decide) rfl dX9_restore_53 rfl ?_
            refine r_goto F (tgt := 28) dX9_restore_56 (by decide) ?_
            rw [ja_nat, show G (m + 3) ((2484 * k).toNat + c) = (fun j => G (m + 3) ((2484 * k).toNat + j)) c from rfl, N_mix_s]
            exact ih (c + 1) (by omega)
      have h0 := loop 2484 0 (by omega)
      rw [N_mix_0] at h0
      exact h0
    ·
      have c2 : ¬ ((0 ≤ k ∧ k ≤ 1) ∧ ¬ G (m + 4) k.toNat = 0) := fun q => q.2 h_19
      refine r_sipush F (by decide) dX9_restore_22 rfl ?_
      exact r_iret F Rt dX9_restore_25 (by decide) ⟨by rw [if_pos b_6, if_pos h_19], rfl, by rw [if_neg c2], rfl⟩
  ·
    have b_6 : ¬ (0 ≤ k ∧ k ≤ 1) := ja_b_0.mp h_6
    have c2 : ¬ ((0 ≤ k ∧ k ≤ 1) ∧ ¬ G (m + 4) k.toNat = 0) := fun q => b_6 q.1
    refine r_sipush F (by decide) dX9_restore_9 rfl ?_
    exact r_iret F Rt dX9_restore_12 (by decide) ⟨by rw [if_neg b_6], rfl, by rw [if_neg c2], rfl⟩
abbrev rm_X9_more : Room := { frames := 0, cells := 0, slots := 0, locals := 0 }
set_option maxRecDepth 100000 in
set_option maxHeartbeats 800000 in
theorem c_X9_more (l : Launch) (D : va_G) (cA : Nat → ClassId) (B : Nat) {lay : ja_Y} {n : Nat} {mem : ja_M} {h : Int64} {z : Int} : ja_Mt l D cA B yX9_more cX9_more 3 (some .long) rm_X9_more [.long h, .int (ja_I z)] lay (mem) n (ja_rd lay mem n (some (.long (B_m h z)))) := by
  refine ja_enter [some (.long h), none, some (.int (ja_I z))] (by decide) (Nat.le_of_ble_eq_true rfl) (fun q hq => hq) (fun C F Rt GC hnm => ?_)
  refine r_ldc2 F l_X9_177 dX9_more_0 rfl ?_
  refine r_lload_n F rfl rfl dX9_more_3 rfl ?_
  refine r_lmul F dX9_more_4 rfl ?_
  refine r_iload_n F rfl rfl dX9_more_5 rfl ?_
  refine r_i2l F dX9_more_6 rfl ?_
  refine r_ladd F dX9_more_7 rfl ?_
  exact r_lret F Rt dX9_more_8 (by decide) ⟨rfl, rfl, rfl, rfl⟩
abbrev rm_X9_checksum : Room := { frames := 3, cells := 0, slots := 0, locals := 63 }
set_option maxRecDepth 100000 in
set_option maxHeartbeats 800000 in
theorem c_X9_checksum (l : Launch) (D : va_G) (cA : Nat → ClassId) (B : Nat) {lay : ja_Y} {n : Nat} {m : Nat} {G : ja_M} {v : Nat → Int} (hM : ja_LM lay m) (hR : N_R v) : ja_Mt l D cA B yX9_checksum cX9_checksum 4 (some .long) rm_X9_checksum [.ref m] lay (ja_rw G (m + 1) v) n (N_pg lay m n G (v) (some (.long (N_ck v)))) := by
  refine ja_enter [some (.ref m), none, none, none] (by decide) (Nat.le_of_ble_eq_true rfl) (fun q hq => hq) (fun C F Rt GC hnm => ?_)
  have hC := hR.C
  have hS := hR.S
  refine r_ldc2 F l_X9_179 dX9_checksum_0 rfl ?_
  refine r_aload_n F rfl rfl dX9_checksum_3 rfl ?_
  refine r_getR F f_X9_7 (hM.1) rfl dX9_checksum_4 rfl ?_
  refine r_bipush F (by decide) dX9_checksum_7 rfl ?_
  refine r_iald F (ja_LM_1 hM) (by omega) (by omega) (by decide) dX9_checksum_9 rfl ?_
  refine r_eqz (z := (v 9)) (by rw [ja_rw_s, show Int.toNat 9 = 9 from rfl]) ?_
  refine r_callS F GC (c_X9_more _ _ _ _ ) s_X9_181 rfl (by decide) (by decide) (Nat.le_of_ble_eq_true rfl) rfl dX9_checksum_10 rfl (fun v lay' mem' n' hp => ?_)
  obtain ⟨q1, q2, q3, q4⟩ := hp
  subst q1; subst q2; subst q3; subst q4
  refine r_aload_n F rfl rfl dX9_checksum_13 rfl ?_
  refine r_callV F GC (c_X9_start _ _ _ _ hM hR) v_X9_185 rfl (hM.1) rfl (by decide) (by decide) (Nat.le_of_ble_eq_true rfl) rfl dX9_checksum_14 rfl (fun v lay' mem' n' hp => ?_)
  obtain ⟨q1, q2, q3, q4⟩ := hp
  subst q1; subst q2; subst q3; subst q4
  refine r_callS F GC (c_X9_more _ _ _ _ ) s_X9_181 rfl (by decide) (by decide) (Nat.le_of_ble_eq_true rfl) rfl dX9_checksum_17 rfl (fun v lay' mem' n' hp => ?_)
  obtain ⟨q1, q2, q3, q4⟩ := hp
  subst q1; subst q2; subst q3; subst q4
  refine r_aload_n F rfl rfl dX9_checksum_20 rfl ?_
  refine r_getR F f_X9_7 (hM.1) rfl dX9_checksum_21 rfl ?_
  refine r_bipush F (by decide) dX9_checksum_24 rfl ?_
  refine r_iald F (ja_LM_1 hM) (by omega) (by omega) (by decide) dX9_checksum_26 rfl ?_
  refine r_eqz (z := (v 12)) (by rw [ja_rw_s, show Int.toNat 12 = 12 from rfl]) ?_
  refine r_callS F GC (c_X9_more _ _ _ _ ) s_X9_181 rfl (by decide) (by decide) (Nat.le_of_ble_eq_true rfl) rfl dX9_checksum_27 rfl (fun v lay' mem' n' hp => ?_)
  obtain ⟨q1, q2, q3, q4⟩ := hp
  subst q1; subst q2; subst q3; subst q4
  refine r_lst1 F (by decide) rfl dX9_checksum_30 rfl ?_
  refine r_lload_n F rfl rfl dX9_checksum_31 rfl ?_
  refine r_aload_n F rfl rfl dX9_checksum_32 rfl ?_
  refine r_callV F GC (c_X9_left _ _ _ _ hM hR) v_X9_188 rfl (hM.1) rfl (by decide) (by decide) (Nat.le_of_ble_eq_true rfl) rfl dX9_checksum_33 rfl (fun v lay' mem' n' hp => ?_)
  obtain ⟨q1, q2, q3, q4⟩ := hp
  subst q1; subst q2; subst q3; subst q4
  refine r_callS F GC (c_X9_more _ _ _ _ ) s_X9_181 rfl (by decide) (by decide) (Nat.le_of_ble_eq_true rfl) rfl dX9_checksum_36 rfl (fun v lay' mem' n' hp => ?_)
  obtain ⟨q1, q2, q3, q4⟩ := hp
  subst q1; subst q2; subst q3; subst q4
  refine r_aload_n F rfl rfl dX9_checksum_39 rfl ?_
  refine r_callV F GC (c_X9_next _ _ _ _ hM hR) v_X9_191 rfl (hM.1) rfl (by decide) (by decide) (Nat.le_of_ble_eq_true rfl) rfl dX9_checksum_40 rfl (fun v lay' mem' n' hp => ?_)
  obtain ⟨q1, q2, q3, q4⟩ := hp
  subst q1; subst q2; subst q3; subst q4
  refine r_callS F GC (c_X9_more _ _ _ _ ) s_X9_181 rfl (by decide) (by decide) (Nat.le_of_ble_eq_true rfl) rfl dX9_checksum_43 rfl (fun v lay' mem' n' hp => ?_)
  obtain ⟨q1, q2, q3, q4⟩ := hp
  subst q1; subst q2; subst q3; subst q4
  refine r_aload_n F rfl rfl dX9_checksum_46 rfl ?_
  refine r_callV F GC (c_X9_targetNow _ _ _ _ hM hR) v_X9_110 rfl (hM.1) rfl (by decide) (by decide) (Nat.le_of_ble_eq_true rfl) rfl dX9_checksum_47 rfl (fun v lay' mem' n' hp => ?_)
  obtain ⟨q1, q2, q3, G1, hG1, q4⟩ := hp
  subst q1; subst q2; subst q3; subst q4
  refine r_callS F GC (c_X9_more _ _ _ _ ) s_X9_181 rfl (by decide) (by decide) (Nat.le_of_ble_eq_true rfl) rfl dX9_checksum_50 rfl (fun v lay' mem' n' hp => ?_)
  obtain ⟨q1, q2, q3, q4⟩ := hp
  subst q1; subst q2; subst q3; subst q4
  refine r_lst1 F (by decide) rfl dX9_checksum_53 rfl ?_
  refine r_lload_n F rfl rfl dX9_checksum_54 rfl ?_
  refine r_aload_n F rfl rfl dX9_checksum_55 rfl ?_
  refine r_callV F GC (c_X9_level _ _ _ _ hM hR) v_X9_194 rfl (hM.1) rfl (by decide) (by decide) (Nat.le_of_ble_eq_true rfl) rfl dX9_checksum_56 rfl (fun v lay' mem' n' hp => ?_)
  obtain ⟨q1, q2, q3, q4⟩ := hp
  subst q1; subst q2; subst q3; subst q4
  refine r_callS F GC (c_X9_more _ _ _ _ ) s_X9_181 rfl (by decide) (by decide) (Nat.le_of_ble_eq_true rfl) rfl dX9_checksum_59 rfl (fun v lay' mem' n' hp => ?_)
  obtain ⟨q1, q2, q3, q4⟩ := hp
  subst q1; subst q2; subst q3; subst q4
  refine r_aload_n F rfl rfl dX9_checksum_62 rfl ?_
  refine r_getR F f_X9_7 (hM.1) rfl dX9_checksum_63 rfl ?_
  refine r_bipush F (by decide) dX9_checksum_66 rfl ?_
  refine r_iald F (ja_LM_1 hM) (by omega) (by omega) (by decide) dX9_checksum_68 rfl ?_
  refine r_eqz (z := (v 24)) (by rw [ja_rw_s, show Int.toNat 24 = 24 from rfl]) ?_
  refine r_callS F GC (c_X9_more _ _ _ _ ) s_X9_181 rfl (by decide) (by decide) (Nat.le_of_ble_eq_true rfl) rfl dX9_checksum_69 rfl (fun v lay' mem' n' hp => ?_)
  obtain ⟨q1, q2, q3, q4⟩ := hp
  subst q1; subst q2; subst q3; subst q4
  refine r_lst1 F (by decide) rfl dX9_checksum_72 rfl ?_
  refine r_lload_n F rfl rfl dX9_checksum_73 rfl ?_
  refine r_aload_n F rfl rfl dX9_checksum_74 rfl ?_
  refine r_getR F f_X9_7 (hM.1) rfl dX9_checksum_75 rfl ?_
  refine r_bipush F (by decide) dX9_checksum_78 rfl ?_
  refine r_iald F (ja_LM_1 hM) (by omega) (by omega) (by decide) dX9_checksum_80 rfl ?_
  refine r_eqz (z := (v 19)) (by rw [ja_rw_s, show Int.toNat 19 = 19 from rfl]) ?_
  refine r_callS F GC (c_X9_more _ _ _ _ ) s_X9_181 rfl (by decide) (by decide) (Nat.le_of_ble_eq_true rfl) rfl dX9_checksum_81 rfl (fun v lay' mem' n' hp => ?_)
  obtain ⟨q1, q2, q3, q4⟩ := hp
  subst q1; subst q2; subst q3; subst q4
  refine r_aload_n F rfl rfl dX9_checksum_84 rfl ?_
  refine r_getR F f_X9_7 (hM.1) rfl dX9_checksum_85 rfl ?_
  refine r_bipush F (by decide) dX9_checksum_88 rfl ?_
  refine r_iald F (ja_LM_1 hM) (by omega) (by omega) (by decide) dX9_checksum_90 rfl ?_
  refine r_eqz (z := (v 20)) (by rw [ja_rw_s, show Int.toNat 20 = 20 from rfl]) ?_
  refine r_callS F GC (c_X9_more _ _ _ _ ) s_X9_181 rfl (by decide) (by decide) (Nat.le_of_ble_eq_true rfl) rfl dX9_checksum_91 rfl (fun v lay' mem' n' hp => ?_)
  obtain ⟨q1, q2, q3, q4⟩ := hp
  subst q1; subst q2; subst q3; subst q4
  refine r_aload_n F rfl rfl dX9_checksum_94 rfl ?_
  refine r_getR F f_X9_7 (hM.1) rfl dX9_checksum_95 rfl ?_
  refine r_bipush F (by decide) dX9_checksum_98 rfl ?_
  refine r_iald F (ja_LM_1 hM) (by omega) (by omega) (by decide) dX9_checksum_100 rfl ?_
  refine r_eqz (z := (v 21)) (by rw [ja_rw_s, show Int.toNat 21 = 21 from rfl]) ?_
  refine r_callS F GC (c_X9_more _ _ _ _ ) s_X9_181 rfl (by decide) (by decide) (Nat.le_of_ble_eq_true rfl) rfl dX9_checksum_101 rfl (fun v lay' mem' n' hp => ?_)
  obtain ⟨q1, q2, q3, q4⟩ := hp
  subst q1; subst q2; subst q3; subst q4
  refine r_lst1 F (by decide) rfl dX9_checksum_104 rfl ?_
  refine r_lload_n F rfl rfl dX9_checksum_105 rfl ?_
  refine r_aload_n F rfl rfl dX9_checksum_106 rfl ?_
  refine r_getR F f_X9_7 (hM.1) rfl dX9_checksum_107 rfl ?_
  refine r_bipush F (by decide) dX9_checksum_110 rfl ?_
  refine r_iald F (ja_LM_1 hM) (by omega) (by omega) (by decide) dX9_checksum_112 rfl ?_
  refine r_eqz (z := (v 15)) (by rw [ja_rw_s, show Int.toNat 15 = 15 from rfl]) ?_
  refine r_callS F GC (c_X9_more _ _ _ _ ) s_X9_181 rfl (by decide) (by decide) (Nat.le_of_ble_eq_true rfl) rfl dX9_checksum_113 rfl (fun v lay' mem' n' hp => ?_)
  obtain ⟨q1, q2, q3, q4⟩ := hp
  subst q1; subst q2; subst q3; subst q4
  refine r_aload_n F rfl rfl dX9_checksum_116 rfl ?_
  refine r_getR F f_X9_7 (hM.1) rfl dX9_checksum_117 rfl ?_
  refine r_bipush F (by decide) dX9_checksum_120 rfl ?_
  refine r_iald F (ja_LM_1 hM) (by omega) (by omega) (by decide) dX9_checksum_122 rfl ?_
  refine r_eqz (z := (v 16)) (by rw [ja_rw_s, show Int.toNat 16 = 16 from rfl]) ?_
  refine r_callS F GC (c_X9_more _ _ _ _ ) s_X9_181 rfl (by decide) (by decide) (Nat.le_of_ble_eq_true rfl) rfl dX9_checksum_123 rfl (fun v lay' mem' n' hp => ?_)
  obtain ⟨q1, q2, q3, q4⟩ := hp
  subst q1; subst q2; subst q3; subst q4
  refine r_aload_n F rfl rfl dX9_checksum_126 rfl ?_
  refine r_getR F f_X9_7 (hM.1) rfl dX9_checksum_127 rfl ?_
  refine r_bipush F (by decide) dX9_checksum_130 rfl ?_
  refine r_iald F (ja_LM_1 hM) (by omega) (by omega) (by decide) dX9_checksum_132 rfl ?_
  refine r_eqz (z := (v 17)) (by rw [ja_rw_s, show Int.toNat 17 = 17 from rfl]) ?_
  refine r_callS F GC (c_X9_more _ _ _ _ ) s_X9_181 rfl (by decide) (by decide) (Nat.le_of_ble_eq_true rfl) rfl dX9_checksum_133 rfl (fun v lay' mem' n' hp => ?_)
  obtain ⟨q1, q2, q3, q4⟩ := hp
  subst q1; subst q2; subst q3; subst q4
  refine r_lst1 F (by decide) rfl dX9_checksum_136 rfl ?_
  refine r_lload_n F rfl rfl dX9_checksum_137 rfl ?_
  refine r_aload_n F rfl rfl dX9_checksum_138 rfl ?_
  refine r_getR F f_X9_7 (hM.1) rfl dX9_checksum_139 rfl ?_
  refine r_bipush F (by decide) dX9_checksum_142 rfl ?_
  refine r_iald F (ja_LM_1 hM) (by omega) (by omega) (by decide) dX9_checksum_144 rfl ?_
  refine r_eqz (z := (v 18)) (by rw [ja_rw_s, show Int.toNat 18 = 18 from rfl]) ?_
  refine r_callS F GC (c_X9_more _ _ _ _ ) s_X9_181 rfl (by decide) (by decide) (Nat.le_of_ble_eq_true rfl) rfl dX9_checksum_145 rfl (fun v lay' mem' n' hp => ?_)
  obtain ⟨q1, q2, q3, q4⟩ := hp
  subst q1; subst q2; subst q3; subst q4
  refine r_aload_n F rfl rfl dX9_checksum_148 rfl ?_
  refine r_getR F f_X9_7 (hM.1) rfl dX9_checksum_149 rfl ?_
  refine r_bipush F (by decide) dX9_checksum_152 rfl ?_
  refine r_iald F (ja_LM_1 hM) (by omega) (by omega) (by decide) dX9_checksum_154 rfl ?_
  refine r_eqz (z := (v 14)) (by rw [ja_rw_s, show Int.toNat 14 = 14 from rfl]) ?_
  refine r_callS F GC (c_X9_more _ _ _ _ ) s_X9_181 rfl (by decide) (by decide) (Nat.le_of_ble_eq_true rfl) rfl dX9_checksum_155 rfl (fun v lay' mem' n' hp => ?_)
  obtain ⟨q1, q2, q3, q4⟩ := hp
  subst q1; subst q2; subst q3; subst q4
  refine r_aload_n F rfl rfl dX9_checksum_158 rfl ?_
  refine r_getR F f_X9_7 (hM.1) rfl dX9_checksum_159 rfl ?_
  refine r_bipush F (by decide) dX9_checksum_162 rfl ?_
  refine r_iald F (ja_LM_1 hM) (by omega) (by omega) (by decide) dX9_checksum_164 rfl ?_
  refine r_eqz (z := (v 25)) (by rw [ja_rw_s, show Int.toNat 25 = 25 from rfl]) ?_
  refine r_callS F GC (c_X9_more _ _ _ _ ) s_X9_181 rfl (by decide) (by decide) (Nat.le_of_ble_eq_true rfl) rfl dX9_checksum_165 rfl (fun v lay' mem' n' hp => ?_)
  obtain ⟨q1, q2, q3, q4⟩ := hp
  subst q1; subst q2; subst q3; subst q4
  refine r_lst1 F (by decide) rfl dX9_checksum_168 rfl ?_
  refine r_iconst F dX9_checksum_169 rfl ?_
  refine r_ist3 F (by decide) rfl dX9_checksum_170 rfl ?_
  have lp1 : ∀ (d c : Nat), c + d = 64 → ja_W C 0 0 lay (ja_rw G1 (m + 1) (v)) n 171 [some (.ref (m)), some (.long (B_cf (N_k6 v) (fun k => N_ou v ((k : Int) + 1)) c)), none, some (.int (ja_I (((c : Int) + 1))))] [] := by
    intro d
    induction d with
    | zero =>
      intro c hc
      refine r_iload_n F rfl rfl dX9_checksum_171 rfl ?_
      refine r_bipush F (by decide) dX9_checksum_172 rfl ?_
      refine r_icmp_gt F (tgt := 193) ⟨by omega, by omega⟩ ⟨by omega, by omega⟩ dX9_checksum_174 rfl (by decide) (fun h_174 => ?_) (fun h_174 => ?_)
      ·
        obtain rfl : c = 64 := by omega
        refine r_iconst F dX9_checksum_193 rfl ?_
        refine r_ist3 F (by decide) rfl dX9_checksum_194 rfl ?_
        have lp2 : ∀ (d c : Nat), c + d = 16 → ja_W C 0 0 lay (ja_rw G1 (m + 1) (v)) n 195 [some (.ref (m)), some (.long (B_cf (N_k7 v) (fun k => N_ki v ((k : Int) + 1)) c)), none, some (.int (ja_I (((c : Int) + 1))))] [] := by
          intro d
          induction d with
          | zero =>
            intro c hc
            refine r_iload_n F rfl rfl dX9_checksum_195 rfl ?_
            refine r_bipush F (by decide) dX9_checksum_196 rfl ?_
            refine r_icmp_gt F (tgt := 217) ⟨by omega, by omega⟩ ⟨by omega, by omega⟩ dX9_checksum_198 rfl (by decide) (fun h_198 => ?_) (fun h_198 => ?_)
            ·
              obtain rfl : c = 16 := by omega
              refine r_iconst F dX9_checksum_217 rfl ?_
              refine r_ist3 F (by decide) rfl dX9_checksum_218 rfl ?_
              have lp3 : ∀ (d c : Nat), c + d = 100 → ja_W C 0 0 lay (ja_rw G1 (m + 1) (v)) n 219 [some (.ref (m)), some (.long (B_cf (N_k8 v) (fun k => v (30 + (k : Int)).toNat) c)), none, some (.int (ja_I ((c : Int))))] [] := by
                intro d
                induction d with
                | zero =>
                  intro c hc
                  refine r_iload_n F rfl rfl dX9_checksum_219 rfl ?_
                  refine r_bipush F (by decide) dX9_checksum_220 rfl ?_
                  refine r_icmp_ge F (tgt := 245) ⟨by omega, by omega⟩ ⟨by omega, by omega⟩ dX9_checksum_222 rfl (by decide) (fun h_222 => ?_) (fun h_222 => ?_)
                  ·
                    obtain rfl : c = 100 := by omega
                    refine r_lload_n F rfl rfl dX9_checksum_245 rfl ?_
                    exact r_lret F Rt dX9_checksum_246 (by decide) ⟨by rw [N_ck], rfl, rfl, G1, hG1.ge, rfl⟩
                  ·
                    exfalso; omega
                | succ d ih =>
                  intro c hc
                  refine r_iload_n F rfl rfl dX9_checksum_219 rfl ?_
                  refine r_bipush F (by decide) dX9_checksum_220 rfl ?_
                  refine r_icmp_ge F (tgt := 245) ⟨by omega, by omega⟩ ⟨by omega, by omega⟩ dX9_checksum_222 rfl (by decide) (fun h_222 => ?_) (fun h_222 => ?_)
                  ·
                    exfalso; omega
                  ·
                    refine r_lload_n F rfl rfl dX9_checksum_225 rfl ?_
                    refine r_aload_n F rfl rfl dX9_checksum_226 rfl ?_
                    refine r_getR F f_X9_7 (hM.1) rfl dX9_checksum_227 rfl ?_
                    refine r_bipush F (by decide) dX9_checksum_230 rfl ?_
                    refine r_iload_n F rfl rfl dX9_checksum_232 rfl ?_
                    refine r_iadd F dX9_checksum_233 rfl ?_
                    refine r_iald F (ja_LM_1 hM) (by omega) (by omega) (by decide) dX9_checksum_234 rfl ?_
                    refine r_eqz (z := ((v) (Int.toNat (30 + (c : Int))))) (by rw [ja_rw_s]) ?_
                    refine r_callS F GC (c_X9_more _ _ _ _ ) s_X9_181 rfl (by decide) (by decide) (Nat.le_of_ble_eq_true rfl) rfl dX9_checksum_235 rfl (fun v lay' mem' n' hp => ?_)
                    obtain ⟨q1, q2, q3, q4⟩ := hp
                    subst q1; subst q2; subst q3; subst q4
                    refine r_lst1 F (by decide) rfl dX9_checksum_238 rfl ?_
                    refine r_inc3 F (by decide) rfl dX9_checksum_239 rfl ?_
                    refine r_goto F (tgt := 219) dX9_checksum_242 (by decide) ?_
                    rw [show (c : Int) + 1 = ((c + 1 : Nat) : Int) by omega]
                    have h0 := ih (c + 1) (by omega)
                    rw [B_cf_s] at h0
                    exact h0
              have h0 := lp3 100 0 (by omega)
              rw [B_cf_0] at h0
              simp only [N_k8] at h0
              exact h0
            ·
              exfalso; omega
          | succ d ih =>
            intro c hc
            refine r_iload_n F rfl rfl dX9_checksum_195 rfl ?_
            refine r_bipush F (by decide) dX9_checksum_196 rfl ?_
            refine r_icmp_gt F (tgt := 217) ⟨by omega, by omega⟩ ⟨by omega, by omega⟩ dX9_checksum_198 rfl (by decide) (fun h_198 => ?_) (fun h_198 => ?_)
            ·
              exfalso; omega
            ·
              refine r_lload_n F rfl rfl dX9_checksum_201 rfl ?_
              refine r_aload_n F rfl rfl dX9_checksum_202 rfl ?_
              refine r_iload_n F rfl rfl dX9_checksum_203 rfl ?_
              refine r_callV F GC (c_X9_kind _ _ _ _ hM hR ⟨by omega, by omega⟩) v_X9_200 rfl (hM.1) rfl (by decide) (by decide) (Nat.le_of_ble_eq_true rfl) rfl dX9_checksum_204 rfl (fun v lay' mem' n' hp => ?_)
              obtain ⟨q1, q2, q3, q4⟩ := hp
              subst q1; subst q2; subst q3; subst q4
              refine r_eqz (z := N_ki v ((c : Int) + 1)) rfl ?_
              refine r_callS F GC (c_X9_more _ _ _ _ ) s_X9_181 rfl (by decide) (by decide) (Nat.le_of_ble_eq_true rfl) rfl dX9_checksum_207 rfl (fun v lay' mem' n' hp => ?_)
              obtain ⟨q1, q2, q3, q4⟩ := hp
              subst q1; subst q2; subst q3; subst q4
              refine r_lst1 F (by decide) rfl dX9_checksum_210 rfl ?_
              refine r_inc3 F (by decide) rfl dX9_checksum_211 rfl ?_
              refine r_goto F (tgt := 195) dX9_checksum_214 (by decide) ?_
              rw [show (c : Int) + 1 + 1 = ((c + 1 : Nat) : Int) + 1 by omega]
              have h0 := ih (c + 1) (by omega)
              rw [B_cf_s] at h0
              exact h0
        have h0 := lp2 16 0 (by omega)
        rw [B_cf_0] at h0
        simp only [N_k7] at h0
        exact h0
      ·
        exfalso; omega
    | succ d ih =>
      intro c hc
      refine r_iload_n F rfl rfl dX9_checksum_171 rfl ?_
      refine r_bipush F (by decide) dX9_checksum_172 rfl ?_
      refine r_icmp_gt F (tgt := 193) ⟨by omega, by omega⟩ ⟨by omega, by omega⟩ dX9_checksum_174 rfl (by decide) (fun h_174 => ?_) (fun h_174 => ?_)
      ·
        exfalso; omega
      ·
        refine r_lload_n F rfl rfl dX9_checksum_177 rfl ?_
        refine r_aload_n F rfl rfl dX9_checksum_178 rfl ?_
        refine r_iload_n F rfl rfl dX9_checksum_179 rfl ?_
        refine r_callV F GC (c_X9_output _ _ _ _ hM hR ⟨by omega, by omega⟩) v_X9_197 rfl (hM.1) rfl (by decide) (by decide) (Nat.le_of_ble_eq_true rfl) rfl dX9_checksum_180 rfl (fun v lay' mem' n' hp => ?_)
        obtain ⟨q1, q2, q3, q4⟩ := hp
        subst q1; subst q2; subst q3; subst q4
        refine r_eqz (z := N_ou v ((c : Int) + 1)) rfl ?_
        refine r_callS F GC (c_X9_more _ _ _ _ ) s_X9_181 rfl (by decide) (by decide) (Nat.le_of_ble_eq_true rfl) rfl dX9_checksum_183 rfl (fun v lay' mem' n' hp => ?_)
        obtain ⟨q1, q2, q3, q4⟩ := hp
        subst q1; subst q2; subst q3; subst q4
        refine r_lst1 F (by decide) rfl dX9_checksum_186 rfl ?_
        refine r_inc3 F (by decide) rfl dX9_checksum_187 rfl ?_
        refine r_goto F (tgt := 171) dX9_checksum_190 (by decide) ?_
        rw [show (c : Int) + 1 + 1 = ((c + 1 : Nat) : Int) + 1 by omega]
        have h0 := ih (c + 1) (by omega)
        rw [B_cf_s] at h0
        exact h0
  have h0 := lp1 64 0 (by omega)
  rw [B_cf_0] at h0
  simp only [N_k6, N_k5, N_k4, N_k3, N_k2, N_k1, B_m] at h0
  exact h0
