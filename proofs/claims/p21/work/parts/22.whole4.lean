abbrev rm_X8_paritySample : Room := { frames := 3, cells := 0, slots := 0, locals := 64 }
set_option maxRecDepth 100000 in
set_option maxHeartbeats 4000000 in
theorem c_X8_paritySample (l : Launch) (D : va_G) (cA : Nat → ClassId) (B : Nat) {lay : ja_Y} {mem : ja_M} {n : Nat} {r k i p : Int} {y : Nat} {sl : Nat → Option Nat} {t : Int} (hB : ja_LB lay y sl) (hO : ja_BO mem y sl t) (hr : ja_in r) (hk : ja_in k) (hi : ja_in i) (hp : ja_in p) (h01 : 0 ≤ r ∧ r ≤ 1) : ja_Mt l D cA B yX8_paritySample cX8_paritySample 10 (some .int) rm_X8_paritySample [.ref y, .int (ja_I r), .int (ja_I k), .int (ja_I i), .int (ja_I p)] lay mem n (ja_rd lay mem n (some (.int (ja_I (if ja_hasP mem (y + 1 + 1) r k i ∧ 0 ≤ p ∧ p < mem (y + 1 + 1) 0 then B_par mem (y + 1 + 1) r k i p (if r = 0 then mem (y + 1 + 1) 4 else mem (y + 1 + 1) 3).toNat else -1001))))) := by
  refine ja_enter [some (.ref y), some (.int (ja_I r)), some (.int (ja_I k)), some (.int (ja_I i)), some (.int (ja_I p)), none, none, none, none, none] (by decide) (Nat.le_of_ble_eq_true rfl) (fun q hq => hq) (fun C F Rt G hnm => ?_)
  obtain ⟨b1, b2, b3, b4, b5⟩ := id hO
  obtain ⟨g1, g2, g3, g4, g5, g6, g7, g8, g9, g10, g11, g12⟩ := id b1
  obtain ⟨p1, p2, p3, p4, p5, p6⟩ := id g3
  obtain ⟨s0, s1, s2, s3, s4, s5, s6, s7, s8⟩ := id g1
  have tt := g2.1
  have a0 := g4.1
  obtain ⟨r1_, r2_⟩ := id hr
  obtain ⟨k1_, k2_⟩ := id hk
  obtain ⟨i1_, i2_⟩ := id hi
  obtain ⟨p1_, p2_⟩ := id hp
  have hbp : ja_b (ja_hasP mem (y + 1 + 1) r k i) = 0 ↔ ¬ ja_hasP mem (y + 1 + 1) r k i := ja_b_0
  have hbr : 0 ≤ ja_b (ja_hasP mem (y + 1 + 1) r k i) ∧ ja_b (ja_hasP mem (y + 1 + 1) r k i) ≤ 1 := ja_b_r
  refine r_aload_n F rfl rfl dX8_paritySample_0 rfl ?_
  refine r_getR F f_X8_10 (hB.1) rfl dX8_paritySample_1 rfl ?_
  refine r_getR F f_X8_43 ((ja_LB_1 hB).1) rfl dX8_paritySample_4 rfl ?_
  refine r_ast5 F (by decide) rfl dX8_paritySample_7 rfl ?_
  refine r_aload F rfl dX8_paritySample_9 rfl ?_
  refine r_iload_n F rfl rfl dX8_paritySample_11 rfl ?_
  refine r_iload_n F rfl rfl dX8_paritySample_12 rfl ?_
  refine r_iload_n F rfl rfl dX8_paritySample_13 rfl ?_
  refine r_callV F G (c_X6_hasPacket _ _ _ _ (ja_LR_1 (ja_LB_1 hB)) g1 h01 hk hi) v_X8_84 rfl (ja_LR_1 (ja_LB_1 hB)) rfl (by decide) (by decide) (Nat.le_of_ble_eq_true rfl) rfl dX8_paritySample_14 rfl (fun v lay' mem' n' hp => ?_)
  obtain ⟨q1, q2, q3, q4⟩ := hp
  subst q1; subst q2; subst q3; subst q4
  refine r_if_eq F (tgt := 35) ⟨by omega, by omega⟩ dX8_paritySample_17 rfl (by decide) (fun h_17 => ?_) (fun h_17 => ?_)
  ·
    refine r_sipush F (by decide) dX8_paritySample_35 rfl ?_
    exact r_iret F Rt dX8_paritySample_38 (by decide) ⟨by first | rw [if_neg (fun q => hbp.mp h_17 q.1)] | rw [if_neg (by omega)], rfl, rfl, rfl⟩
  ·
    have hp : ja_hasP mem (y + 1 + 1) r k i := Decidable.byContradiction fun q => h_17 (hbp.mpr q)
    refine r_iload F rfl dX8_paritySample_20 rfl ?_
    refine r_if_lt F (tgt := 35) ⟨by omega, by omega⟩ dX8_paritySample_22 rfl (by decide) (fun h_22 => ?_) (fun h_22 => ?_)
    ·
      refine r_sipush F (by decide) dX8_paritySample_35 rfl ?_
      exact r_iret F Rt dX8_paritySample_38 (by decide) ⟨by first | rw [if_neg (fun q => hbp.mp h_17 q.1)] | rw [if_neg (by omega)], rfl, rfl, rfl⟩
    ·
      refine r_iload F rfl dX8_paritySample_25 rfl ?_
      refine r_aload F rfl dX8_paritySample_27 rfl ?_
      refine r_getI F f_X8_47 (ja_LR_1 (ja_LB_1 hB)) rfl dX8_paritySample_29 rfl ?_
      refine r_icmp_lt F (tgt := 39) ⟨by omega, by omega⟩ ⟨by omega, by omega⟩ dX8_paritySample_32 rfl (by decide) (fun h_32 => ?_) (fun h_32 => ?_)
      ·
        have hp1 : 0 ≤ p := by omega
        have hp2 : p < mem (y + 1 + 1) 0 := h_32
        refine r_iload_n F rfl rfl dX8_paritySample_39 rfl ?_
        refine r_if_eq F (tgt := 51) ⟨by omega, by omega⟩ dX8_paritySample_40 rfl (by decide) (fun h_40 => ?_) (fun h_40 => ?_)
        ·
          refine r_aload F rfl dX8_paritySample_51 rfl ?_
          refine r_getI F f_X8_60 (ja_LR_1 (ja_LB_1 hB)) rfl dX8_paritySample_53 rfl ?_
          refine r_eqz (z := if r = 0 then mem (y + 1 + 1) 4 else mem (y + 1 + 1) 3) (by first | rw [if_pos (by omega)] | rw [if_neg (by omega)]) ?_
          generalize hln : (if r = 0 then mem (y + 1 + 1) 4 else mem (y + 1 + 1) 3) = ln
          have hl6 : 2 ≤ ln ∧ ln ≤ 6 := by rw [← hln]; split <;> omega
          refine r_ist6 F (by decide) rfl dX8_paritySample_56 rfl ?_
          refine r_iconst F dX8_paritySample_58 rfl ?_
          refine r_ist7 F (by decide) rfl dX8_paritySample_59 rfl ?_
          refine r_iconst F dX8_paritySample_61 rfl ?_
          refine r_ist8 F (by decide) rfl dX8_paritySample_62 rfl ?_
          have loop : ∀ (d j : Nat), j + d = ln.toNat → ja_W C 0 0 lay mem n 64 [some (.ref y), some (.int (ja_I r)), some (.int (ja_I k)), some (.int (ja_I i)), some (.int (ja_I p)), some (.ref (y + 1 + 1)), some (.int (ja_I ln)), some (.int (ja_I (B_par mem (y + 1 + 1) r k i p j))), some (.int (ja_I (j : Int))), none] [] := by
            intro d
            induction d with
            | zero =>
              intro j hj
              refine r_iload F rfl dX8_paritySample_64 rfl ?_
              refine r_iload F rfl dX8_paritySample_66 rfl ?_
              refine r_icmp_ge F (tgt := 115) ⟨by omega, by omega⟩ ⟨by omega, by omega⟩ dX8_paritySample_68 rfl (by decide) (fun h_68 => ?_) (fun h_68 => ?_)
              ·
                refine r_iload F rfl dX8_paritySample_115 rfl ?_
                exact r_iret F Rt dX8_paritySample_117 (by decide) ⟨by rw [if_pos ⟨hp, hp1, hp2⟩, hln, show ln.toNat = j by omega], rfl, rfl, rfl⟩
              ·
                exfalso; omega
            | succ d ih =>
              intro j hj
              have hc := ja_cov_in (j := (j : Int)) g1 hp ⟨by omega, by omega⟩
              refine r_iload F rfl dX8_paritySample_64 rfl ?_
              refine r_iload F rfl dX8_paritySample_66 rfl ?_
              refine r_icmp_ge F (tgt := 115) ⟨by omega, by omega⟩ ⟨by omega, by omega⟩ dX8_paritySample_68 rfl (by decide) (fun h_68 => ?_) (fun h_68 => ?_)
              ·
                exfalso; omega
              ·
                refine r_aload F rfl dX8_paritySample_71 rfl ?_
                refine r_iload_n F rfl rfl dX8_paritySample_73 rfl ?_
                refine r_iload_n F rfl rfl dX8_paritySample_74 rfl ?_
                refine r_iload_n F rfl rfl dX8_paritySample_75 rfl ?_
                refine r_iload F rfl dX8_paritySample_76 rfl ?_
                refine r_callV F G (c_X6_coveredFrame _ _ _ _ (ja_LR_1 (ja_LB_1 hB)) h01) v_X8_150 rfl (ja_LR_1 (ja_LB_1 hB)) rfl (by decide) (by decide) (Nat.le_of_ble_eq_true rfl) rfl dX8_paritySample_78 rfl (fun v lay' mem' n' hp => ?_)
                obtain ⟨q1, q2, q3, q4⟩ := hp
                subst q1; subst q2; subst q3; subst q4
                refine r_ist9 F (by decide) rfl dX8_paritySample_81 rfl ?_
                refine r_iload F rfl dX8_paritySample_83 rfl ?_
                refine r_sipush F (by decide) dX8_paritySample_85 rfl ?_
                refine r_icmp_gt F (tgt := 109) ⟨by omega, by omega⟩ ⟨by omega, by omega⟩ dX8_paritySample_88 rfl (by decide) (fun h_88 => ?_) (fun h_88 => ?_)
                ·
                  refine r_inc8 F (by decide) rfl dX8_paritySample_109 rfl ?_
                  refine r_goto F (tgt := 64) dX8_paritySample_112 (by decide) ?_
                  refine r_msk [true, true, true, true, true, true, true, true, true, false] rfl ?_
                  have h0 := ih (j + 1) (by omega)
                  simp only [B_par] at h0
                  first
                    | (rw [if_pos h_88] at h0; exact h0)
                    | (rw [if_neg h_88] at h0; exact h0)
                ·
                  refine r_iload F rfl dX8_paritySample_91 rfl ?_
                  refine r_aload F rfl dX8_paritySample_93 rfl ?_
                  refine r_iload F rfl dX8_paritySample_95 rfl ?_
                  refine r_iload F rfl dX8_paritySample_97 rfl ?_
                  refine r_callV F G (c_X6_waveAt _ _ _ _ (ja_LR_1 (ja_LB_1 hB)) g1 ⟨by omega, by omega⟩ ⟨by omega, by omega⟩) v_X8_136 rfl (ja_LR_1 (ja_LB_1 hB)) rfl (by decide) (by decide) (Nat.le_of_ble_eq_true rfl) rfl dX8_paritySample_99 rfl (fun v lay' mem' n' hp => ?_)
                  obtain ⟨q1, q2, q3, q4⟩ := hp
                  subst q1; subst q2; subst q3; subst q4
                  refine r_sipush F (by decide) dX8_paritySample_102 rfl ?_
                  refine r_iadd F dX8_paritySample_105 rfl ?_
                  refine r_ixor F (ja_of' _) dX8_paritySample_106 rfl ?_
                  refine r_ist7 F (by decide) rfl dX8_paritySample_107 rfl ?_
                  refine r_inc8 F (by decide) rfl dX8_paritySample_109 rfl ?_
                  refine r_goto F (tgt := 64) dX8_paritySample_112 (by decide) ?_
                  refine r_msk [true, true, true, true, true, true, true, true, true, false] rfl ?_
                  have h0 := ih (j + 1) (by omega)
                  simp only [B_par] at h0
                  first
                    | (rw [if_pos h_88] at h0; exact h0)
                    | (rw [if_neg h_88] at h0; exact h0)
          exact loop ln.toNat 0 (by omega)
        ·
          refine r_aload F rfl dX8_paritySample_43 rfl ?_
          refine r_getI F f_X8_57 (ja_LR_1 (ja_LB_1 hB)) rfl dX8_paritySample_45 rfl ?_
          refine r_goto F (tgt := 56) dX8_paritySample_48 (by decide) ?_
          refine r_eqz (z := if r = 0 then mem (y + 1 + 1) 4 else mem (y + 1 + 1) 3) (by first | rw [if_pos (by omega)] | rw [if_neg (by omega)]) ?_
          generalize hln : (if r = 0 then mem (y + 1 + 1) 4 else mem (y + 1 + 1) 3) = ln
          have hl6 : 2 ≤ ln ∧ ln ≤ 6 := by rw [← hln]; split <;> omega
          refine r_ist6 F (by decide) rfl dX8_paritySample_56 rfl ?_
          refine r_iconst F dX8_paritySample_58 rfl ?_
          refine r_ist7 F (by decide) rfl dX8_paritySample_59 rfl ?_
          refine r_iconst F dX8_paritySample_61 rfl ?_
          refine r_ist8 F (by decide) rfl dX8_paritySample_62 rfl ?_
          have loop : ∀ (d j : Nat), j + d = ln.toNat → ja_W C 0 0 lay mem n 64 [some (.ref y), some (.int (ja_I r)), some (.int (ja_I k)), some (.int (ja_I i)), some (.int (ja_I p)), some (.ref (y + 1 + 1)), some (.int (ja_I ln)), some (.int (ja_I (B_par mem (y + 1 + 1) r k i p j))), some (.int (ja_I (j : Int))), none] [] := by
            intro d
            induction d with
            | zero =>
              intro j hj
              refine r_iload F rfl dX8_paritySample_64 rfl ?_
              refine r_iload F rfl dX8_paritySample_66 rfl ?_
              refine r_icmp_ge F (tgt := 115) ⟨by omega, by omega⟩ ⟨by omega, by omega⟩ dX8_paritySample_68 rfl (by decide) (fun h_68 => ?_) (fun h_68 => ?_)
              ·
                refine r_iload F rfl dX8_paritySample_115 rfl ?_
                exact r_iret F Rt dX8_paritySample_117 (by decide) ⟨by rw [if_pos ⟨hp, hp1, hp2⟩, hln, show ln.toNat = j by omega], rfl, rfl, rfl⟩
              ·
                exfalso; omega
            | succ d ih =>
              intro j hj
              have hc := ja_cov_in (j := (j : Int)) g1 hp ⟨by omega, by omega⟩
              refine r_iload F rfl dX8_paritySample_64 rfl ?_
              refine r_iload F rfl dX8_paritySample_66 rfl ?_
              refine r_icmp_ge F (tgt := 115) ⟨by omega, by omega⟩ ⟨by omega, by omega⟩ dX8_paritySample_68 rfl (by decide) (fun h_68 => ?_) (fun h_68 => ?_)
              ·
                exfalso; omega
              ·
                refine r_aload F rfl dX8_paritySample_71 rfl ?_
                refine r_iload_n F rfl rfl dX8_paritySample_73 rfl ?_
                refine r_iload_n F rfl rfl dX8_paritySample_74 rfl ?_
                refine r_iload_n F rfl rfl dX8_paritySample_75 rfl ?_
                refine r_iload F rfl dX8_paritySample_76 rfl ?_
                refine r_callV F G (c_X6_coveredFrame _ _ _ _ (ja_LR_1 (ja_LB_1 hB)) h01) v_X8_150 rfl (ja_LR_1 (ja_LB_1 hB)) rfl (by decide) (by decide) (Nat.le_of_ble_eq_true rfl) rfl dX8_paritySample_78 rfl (fun v lay' mem' n' hp => ?_)
                obtain ⟨q1, q2, q3, q4⟩ := hp
                subst q1; subst q2; subst q3; subst q4
                refine r_ist9 F (by decide) rfl dX8_paritySample_81 rfl ?_
                refine r_iload F rfl dX8_paritySample_83 rfl ?_
                refine r_sipush F (by decide) dX8_paritySample_85 rfl ?_
                refine r_icmp_gt F (tgt := 109) ⟨by omega, by omega⟩ ⟨by omega, by omega⟩ dX8_paritySample_88 rfl (by decide) (fun h_88 => ?_) (fun h_88 => ?_)
                ·
                  refine r_inc8 F (by decide) rfl dX8_paritySample_109 rfl ?_
                  refine r_goto F (tgt := 64) dX8_paritySample_112 (by decide) ?_
                  refine r_msk [true, true, true, true, true, true, true, true, true, false] rfl ?_
                  have h0 := ih (j + 1) (by omega)
                  simp only [B_par] at h0
                  first
                    | (rw [if_pos h_88] at h0; exact h0)
                    | (rw [if_neg h_88] at h0; exact h0)
                ·
                  refine r_iload F rfl dX8_paritySample_91 rfl ?_
                  refine r_aload F rfl dX8_paritySample_93 rfl ?_
                  refine r_iload F rfl dX8_paritySample_95 rfl ?_
                  refine r_iload F rfl dX8_paritySample_97 rfl ?_
                  refine r_callV F G (c_X6_waveAt _ _ _ _ (ja_LR_1 (ja_LB_1 hB)) g1 ⟨by omega, by omega⟩ ⟨by omega, by omega⟩) v_X8_136 rfl (ja_LR_1 (ja_LB_1 hB)) rfl (by decide) (by decide) (Nat.le_of_ble_eq_true rfl) rfl dX8_paritySample_99 rfl (fun v lay' mem' n' hp => ?_)
                  obtain ⟨q1, q2, q3, q4⟩ := hp
                  subst q1; subst q2; subst q3; subst q4
                  refine r_sipush F (by decide) dX8_paritySample_102 rfl ?_
                  refine r_iadd F dX8_paritySample_105 rfl ?_
                  refine r_ixor F (ja_of' _) dX8_paritySample_106 rfl ?_
                  refine r_ist7 F (by decide) rfl dX8_paritySample_107 rfl ?_
                  refine r_inc8 F (by decide) rfl dX8_paritySample_109 rfl ?_
                  refine r_goto F (tgt := 64) dX8_paritySample_112 (by decide) ?_
                  refine r_msk [true, true, true, true, true, true, true, true, true, false] rfl ?_
                  have h0 := ih (j + 1) (by omega)
                  simp only [B_par] at h0
                  first
                    | (rw [if_pos h_88] at h0; exact h0)
                    | (rw [if_neg h_88] at h0; exact h0)
          exact loop ln.toNat 0 (by omega)
      ·
        refine r_sipush F (by decide) dX8_paritySample_35 rfl ?_
        exact r_iret F Rt dX8_paritySample_38 (by decide) ⟨by first | rw [if_neg (fun q => hbp.mp h_17 q.1)] | rw [if_neg (by omega)], rfl, rfl, rfl⟩
abbrev rm_X8_commonDivisor : Room := { frames := 0, cells := 0, slots := 0, locals := 0 }
set_option maxRecDepth 100000 in
set_option maxHeartbeats 4000000 in
theorem c_X8_commonDivisor (l : Launch) (D : va_G) (cA : Nat → ClassId) (B : Nat) {lay : ja_Y} {mem : ja_M} {n : Nat} {a0 b0 : Int} (ha : 0 ≤ a0 ∧ a0 ≤ 100000) (hb : 0 ≤ b0 ∧ b0 ≤ 100000) : ja_Mt l D cA B yX8_commonDivisor cX8_commonDivisor 6 (some .int) rm_X8_commonDivisor [.int (ja_I a0), .int (ja_I b0)] lay mem n (ja_rd lay mem n (some (.int (ja_I (B_cd 64 a0 b0))))) := by
  refine ja_enter [some (.int (ja_I a0)), some (.int (ja_I b0)), none, none, none, none] (by decide) (Nat.le_of_ble_eq_true rfl) (fun q hq => hq) (fun C F Rt G hnm => ?_)
  refine r_iload_n F rfl rfl dX8_commonDivisor_0 rfl ?_
  refine r_ist2 F (by decide) rfl dX8_commonDivisor_1 rfl ?_
  refine r_iload_n F rfl rfl dX8_commonDivisor_2 rfl ?_
  refine r_ist3 F (by decide) rfl dX8_commonDivisor_3 rfl ?_
  refine r_iconst F dX8_commonDivisor_4 rfl ?_
  refine r_ist4 F (by decide) rfl dX8_commonDivisor_5 rfl ?_
  have loop : ∀ (d k : Nat) (a b : Int), k + d = 64 → (0 ≤ a ∧ a ≤ 100000) → (0 ≤ b ∧ b ≤ 100000) → B_cd d a b = B_cd 64 a0 b0 → ja_W C 0 0 lay mem n 7 [some (.int (ja_I a0)), some (.int (ja_I b0)), some (.int (ja_I a)), some (.int (ja_I b)), some (.int (ja_I (k : Int))), none] [] := by
    intro d
    induction d with
    | zero =>
      intro k a b hk ha hb hl
      refine r_iload F rfl dX8_commonDivisor_7 rfl ?_
      refine r_bipush F (by decide) dX8_commonDivisor_9 rfl ?_
      refine r_icmp_ge F (tgt := 34) ⟨by omega, by omega⟩ ⟨by omega, by omega⟩ dX8_commonDivisor_11 rfl (by decide) (fun h_11 => ?_) (fun h_11 => ?_)
      ·
        refine r_iload_n F rfl rfl dX8_commonDivisor_34 rfl ?_
        exact r_iret F Rt dX8_commonDivisor_35 (by decide) ⟨by rw [← hl]; rfl, rfl, rfl, rfl⟩
      ·
        exfalso; omega
    | succ d ih =>
      intro k a b hk ha hb hl
      refine r_iload F rfl dX8_commonDivisor_7 rfl ?_
      refine r_bipush F (by decide) dX8_commonDivisor_9 rfl ?_
      refine r_icmp_ge F (tgt := 34) ⟨by omega, by omega⟩ ⟨by omega, by omega⟩ dX8_commonDivisor_11 rfl (by decide) (fun h_11 => ?_) (fun h_11 => ?_)
      ·
        exfalso; omega
      ·
        refine r_iload_n F rfl rfl dX8_commonDivisor_14 rfl ?_
        refine r_if_eq F (tgt := 34) ⟨by omega, by omega⟩ dX8_commonDivisor_15 rfl (by decide) (fun h_15 => ?_) (fun h_15 => ?_)
        ·
          refine r_iload_n F rfl rfl dX8_commonDivisor_34 rfl ?_
          exact r_iret F Rt dX8_commonDivisor_35 (by decide) ⟨by rw [← hl]; simp only [B_cd]; rw [if_pos h_15], rfl, rfl, rfl⟩
        ·
          refine r_iload_n F rfl rfl dX8_commonDivisor_18 rfl ?_
          refine r_iload_n F rfl rfl dX8_commonDivisor_19 rfl ?_
          refine r_iremP F ⟨by omega, by omega⟩ ⟨by omega, by omega⟩ (by omega) (by omega) dX8_commonDivisor_20 rfl ?_
          refine r_ist5 F (by decide) rfl dX8_commonDivisor_21 rfl ?_
          refine r_iload_n F rfl rfl dX8_commonDivisor_23 rfl ?_
          refine r_ist2 F (by decide) rfl dX8_commonDivisor_24 rfl ?_
          refine r_iload F rfl dX8_commonDivisor_25 rfl ?_
          refine r_ist3 F (by decide) rfl dX8_commonDivisor_27 rfl ?_
          refine r_inc4 F (by decide) rfl dX8_commonDivisor_28 rfl ?_
          refine r_goto F (tgt := 7) dX8_commonDivisor_31 (by decide) ?_
          refine r_msk [true, true, true, true, true, false] rfl ?_
          have e1 := Int.emod_nonneg a (show b ≠ 0 from h_15)
          have e2 := Int.emod_lt_of_pos a (show 0 < b by omega)
          exact ih (k + 1) b (a % b) (by omega) hb ⟨e1, by omega⟩ (by rw [← hl]; simp only [B_cd]; rw [if_neg h_15])
  exact loop 64 0 a0 b0 (by omega) ha hb rfl
abbrev rm_X8_loss : Room := { frames := 1, cells := 0, slots := 0, locals := 25 }
set_option maxRecDepth 100000 in
set_option maxHeartbeats 4000000 in
theorem c_X8_loss (l : Launch) (D : va_G) (cA : Nat → ClassId) (B : Nat) {lay : ja_Y} {mem : ja_M} {n : Nat} {d : Int} {y : Nat} {sl : Nat → Option Nat} {t : Int} (hB : ja_LB lay y sl) (hO : ja_BO mem y sl t) (hd : 0 ≤ d ∧ d ≤ 1) : ja_Mt l D cA B yX8_loss cX8_loss 5 (some .int) rm_X8_loss [.ref y, .int (ja_I d)] lay mem n (ja_rd lay mem n (some (.int (ja_I (B_los mem y d))))) := by
  refine ja_enter [some (.ref y), some (.int (ja_I d)), none, none, none] (by decide) (Nat.le_of_ble_eq_true rfl) (fun q hq => hq) (fun C F Rt G hnm => ?_)
  obtain ⟨b1, b2, b3, b4, b5⟩ := id hO
  obtain ⟨g1, g2, g3, g4, g5, g6, g7, g8, g9, g10, g11, g12⟩ := id b1
  obtain ⟨p1, p2, p3, p4, p5, p6⟩ := id g3
  obtain ⟨s0, s1, s2, s3, s4, s5, s6, s7, s8⟩ := id g1
  have tt := g2.1
  have a0 := g4.1
  have hcd := B_cd_in 64 (mem (y + 1 + 9) 6) (mem (y + 1 + 14) 2) (by omega) (by omega)
  refine r_aload_n F rfl rfl dX8_loss_0 rfl ?_
  refine r_getR F f_X8_10 (hB.1) rfl dX8_loss_1 rfl ?_
  refine r_getR F f_X8_177 ((ja_LB_1 hB).1) rfl dX8_loss_4 rfl ?_
  refine r_getI F f_X8_198 (ja_LR_14 (ja_LB_1 hB)) rfl dX8_loss_7 rfl ?_
  refine r_ist2 F (by decide) rfl dX8_loss_10 rfl ?_
  refine r_aload_n F rfl rfl dX8_loss_11 rfl ?_
  refine r_getR F f_X8_10 (hB.1) rfl dX8_loss_12 rfl ?_
  refine r_getR F f_X8_92 ((ja_LB_1 hB).1) rfl dX8_loss_15 rfl ?_
  refine r_getI F f_X8_120 ((ja_LR_9 (ja_LB_1 hB)).1) rfl dX8_loss_18 rfl ?_
  refine r_ist3 F (by decide) rfl dX8_loss_21 rfl ?_
  refine r_iload_n F rfl rfl dX8_loss_22 rfl ?_
  refine r_if_ne F (tgt := 36) ⟨by omega, by omega⟩ dX8_loss_23 rfl (by decide) (fun h_23 => ?_) (fun h_23 => ?_)
  ·
    refine r_iconst F dX8_loss_36 rfl ?_
    refine r_iload_n F rfl rfl dX8_loss_37 rfl ?_
    refine r_iload_n F rfl rfl dX8_loss_38 rfl ?_
    refine r_callS F G (c_X8_commonDivisor _ _ _ _ ⟨by omega, by omega⟩ ⟨by omega, by omega⟩) s_X8_201 rfl (by decide) (by decide) (Nat.le_of_ble_eq_true rfl) rfl dX8_loss_39 rfl (fun v lay' mem' n' hp => ?_)
    obtain ⟨q1, q2, q3, q4⟩ := hp
    subst q1; subst q2; subst q3; subst q4
    refine r_mmax F ⟨by omega, by omega⟩ ⟨by omega, by omega⟩ s_X8_166 (Nat.le_of_ble_eq_true rfl) (by decide) (by decide) (by decide) dX8_loss_42 rfl ?_
    generalize hdv : (if 1 < B_cd 64 (mem (y + 1 + 9) 6) (mem (y + 1 + 14) 2) then B_cd 64 (mem (y + 1 + 9) 6) (mem (y + 1 + 14) 2) else 1) = dv
    have hdr : 1 ≤ dv ∧ dv ≤ 1000 := by rw [← hdv]; split <;> omega
    refine r_ist4 F (by decide) rfl dX8_loss_45 rfl ?_
    refine r_iload_n F rfl rfl dX8_loss_47 rfl ?_
    refine r_if_eq F (tgt := 55) ⟨by omega, by omega⟩ dX8_loss_48 rfl (by decide) (fun h_48 => ?_) (fun h_48 => ?_)
    ·
      refine r_iload_n F rfl rfl dX8_loss_55 rfl ?_
      refine r_iload F rfl dX8_loss_56 rfl ?_
      refine r_idivP F ⟨by omega, by omega⟩ ⟨by omega, by omega⟩ (by omega) (by omega) dX8_loss_58 rfl ?_
      exact r_iret F Rt dX8_loss_59 (by decide) ⟨by rw [B_los, if_neg h_23, hdv]; first | rw [if_pos h_48] | rw [if_neg h_48], rfl, rfl, rfl⟩
    ·
      refine r_iload_n F rfl rfl dX8_loss_51 rfl ?_
      refine r_goto F (tgt := 56) dX8_loss_52 (by decide) ?_
      refine r_iload F rfl dX8_loss_56 rfl ?_
      refine r_idivP F ⟨by omega, by omega⟩ ⟨by omega, by omega⟩ (by omega) (by omega) dX8_loss_58 rfl ?_
      exact r_iret F Rt dX8_loss_59 (by decide) ⟨by rw [B_los, if_neg h_23, hdv]; first | rw [if_pos h_48] | rw [if_neg h_48], rfl, rfl, rfl⟩
  ·
    refine r_iload_n F rfl rfl dX8_loss_26 rfl ?_
    refine r_if_eq F (tgt := 34) ⟨by omega, by omega⟩ dX8_loss_27 rfl (by decide) (fun h_27 => ?_) (fun h_27 => ?_)
    ·
      refine r_iconst F dX8_loss_34 rfl ?_
      exact r_iret F Rt dX8_loss_35 (by decide) ⟨by rw [B_los, if_pos h_23]; first | rw [if_pos h_27] | rw [if_neg h_27], rfl, rfl, rfl⟩
    ·
      refine r_iconst F dX8_loss_30 rfl ?_
      refine r_goto F (tgt := 35) dX8_loss_31 (by decide) ?_
      exact r_iret F Rt dX8_loss_35 (by decide) ⟨by rw [B_los, if_pos h_23]; first | rw [if_pos h_27] | rw [if_neg h_27], rfl, rfl, rfl⟩
abbrev rm_X8_restore : Room := { frames := 4, cells := 0, slots := 0, locals := 88 }
set_option maxRecDepth 100000 in
set_option maxHeartbeats 4000000 in
theorem c_X8_restore (l : Launch) (D : va_G) (cA : Nat → ClassId) (B : Nat) {lay : ja_Y} {mem : ja_M} {n : Nat} {k : Int} {y : Nat} {sl : Nat → Option Nat} {t : Int} (hB : ja_LB lay y sl) (hO : ja_BO mem y sl t) (hk : ja_in k)  : ja_Mt l D cA B yX8_restore cX8_restore 2 (some .int) rm_X8_restore [.ref y, .int (ja_I k)] lay mem n (fun v lay' mem' n' => lay = lay' ∧ n = n' ∧ ((¬ (0 ≤ k ∧ k ≤ 1) ∧ some (.int (ja_I (-1001))) = v ∧ mem = mem') ∨ ((0 ≤ k ∧ k ≤ 1) ∧ sl k.toNat = none ∧ some (.int (ja_I (-1003))) = v ∧ mem = mem') ∨ ∃ o, (0 ≤ k ∧ k ≤ 1) ∧ sl k.toNat = some o ∧ some (.int (ja_I (mem o 6))) = v ∧ R_cp mem (y + 1) o = mem')) := by
  refine ja_enter [some (.ref y), some (.int (ja_I k))] (by decide) (Nat.le_of_ble_eq_true rfl) (fun q hq => hq) (fun C F Rt G hnm => ?_)
  obtain ⟨b1, b2, b3, b4, b5⟩ := id hO
  obtain ⟨g1, g2, g3, g4, g5, g6, g7, g8, g9, g10, g11, g12⟩ := id b1
  obtain ⟨p1, p2, p3, p4, p5, p6⟩ := id g3
  obtain ⟨s0, s1, s2, s3, s4, s5, s6, s7, s8⟩ := id g1
  have tt := g2.1
  have a0 := g4.1
  obtain ⟨k1_, k2_⟩ := id hk
  refine r_iload_n F rfl rfl dX8_restore_0 rfl ?_
  refine r_if_lt F (tgt := 9) ⟨by omega, by omega⟩ dX8_restore_1 rfl (by decide) (fun h_1 => ?_) (fun h_1 => ?_)
  ·
    refine r_sipush F (by decide) dX8_restore_9 rfl ?_
    exact r_iret F Rt dX8_restore_12 (by decide) ⟨rfl, rfl, Or.inl ⟨by omega, rfl, rfl⟩⟩
  ·
    refine r_iload_n F rfl rfl dX8_restore_4 rfl ?_
    refine r_iconst F dX8_restore_5 rfl ?_
    refine r_icmp_lt F (tgt := 13) ⟨by omega, by omega⟩ ⟨by omega, by omega⟩ dX8_restore_6 rfl (by decide) (fun h_6 => ?_) (fun h_6 => ?_)
    ·
      refine r_aload_n F rfl rfl dX8_restore_13 rfl ?_
      refine r_getR F f_X8_19 (hB.1) rfl dX8_restore_14 rfl ?_
      refine r_iload_n F rfl rfl dX8_restore_17 rfl ?_
      refine r_aald F (ja_LB_41 hB) (by omega) (by omega) (by decide) dX8_restore_18 rfl ?_
      cases hsl : sl k.toNat with
      | none =>
        refine r_nonnullN F dX8_restore_19 rfl ?_
        refine r_sipush F (by decide) dX8_restore_22 rfl ?_
        exact r_iret F Rt dX8_restore_25 (by decide) ⟨rfl, rfl, Or.inr (Or.inl ⟨⟨by omega, by omega⟩, hsl, rfl, rfl⟩)⟩
      | some o =>
        obtain ⟨hyo, hLo⟩ := hB.2.2.2.2.2.2 k.toNat o (by omega) hsl
        have hRo := b5 k.toNat o (by omega) hsl
        refine r_nonnull F (tgt := 26) dX8_restore_19 (by decide) ?_
        refine r_aload_n F rfl rfl dX8_restore_26 rfl ?_
        refine r_getR F f_X8_10 (hB.1) rfl dX8_restore_27 rfl ?_
        refine r_aload_n F rfl rfl dX8_restore_30 rfl ?_
        refine r_getR F f_X8_19 (hB.1) rfl dX8_restore_31 rfl ?_
        refine r_iload_n F rfl rfl dX8_restore_34 rfl ?_
        refine r_aald F (ja_LB_41 hB) (by omega) (by omega) (by decide) dX8_restore_35 rfl ?_
        rw [hsl]
        refine r_callV F G (c_X5_copyFrom _ _ _ _ (ja_LB_1 hB) hLo hRo (by omega)) v_X8_207 rfl ((ja_LB_1 hB).1) rfl (by decide) (by decide) (Nat.le_of_ble_eq_true rfl) rfl dX8_restore_36 rfl (fun v lay' mem' n' hp => ?_)
        obtain ⟨q1, q2, q3, q4⟩ := hp
        subst q1; subst q2; subst q3; subst q4
        refine r_aload_n F rfl rfl dX8_restore_39 rfl ?_
        refine r_getR F f_X8_10 (hB.1) rfl dX8_restore_40 rfl ?_
        refine r_getI F f_X8_104 ((ja_LB_1 hB).1) rfl dX8_restore_43 rfl ?_
        refine r_eqz (z := mem o 6) (by rw [R_cp_6 (by omega)]) ?_
        exact r_iret F Rt dX8_restore_46 (by decide) ⟨rfl, rfl, Or.inr (Or.inr ⟨o, ⟨by omega, by omega⟩, hsl, rfl, rfl⟩)⟩
    ·
      refine r_sipush F (by decide) dX8_restore_9 rfl ?_
      exact r_iret F Rt dX8_restore_12 (by decide) ⟨rfl, rfl, Or.inl ⟨by omega, rfl, rfl⟩⟩
