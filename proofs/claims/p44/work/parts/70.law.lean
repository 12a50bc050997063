section
set_option maxRecDepth 100000 in
set_option maxHeartbeats 800000 in
theorem law_loop {C : ja_C} {D : va_G} {cA : Nat → ClassId} {l : Launch} {B b L y : Nat} {xs : Nat → Int32} (F : ja_F C RL cL_law 4 room_1) (GC : ja_G C l D cA B) (X : ja_X C b L xs) (hL : L ≤ 2560) (hE : ∀ (lay : ja_Y) (mem : ja_M) (n cells slots pc : Nat) (ls : List (Option Value)), cells ≤ 600000 → slots ≤ 7302250 → decode code pc = .ok (.ireturn, 1) → ja_W C cells slots lay mem n pc ls [.int (ja_I 1)]) : ∀ (d k : Nat) (i : Int) (lay : ja_Y) (mem : ja_M) (n cells slots : Nat) (sl : Nat → Option Nat), L < 5 * k + 5 * d → i = 5 * (k : Int) → 5 * k ≤ L + 5 → L_In S0 lay mem n y sl (500 * (k : Int)) → cells ≤ 1000 + 20 * k → slots ≤ 40000 + 1269 * k → ja_W C cells slots lay mem n 18 [some (.ref b), some (.ref y), some (.ref (y + 49)), some (.int (ja_I i))] [] := by
  intro d
  induction d with
  | zero =>
    intro k i lay mem n cells slots sl hd hi hkL h hc hs
    have hc6 : cells ≤ 600000 := by omega
    have hs6 : slots ≤ 7302250 := by omega
    refine r_iload_n F rfl rfl dL_law_18 rfl ?_
    refine r_aload_n F rfl rfl dL_law_19 rfl ?_
    refine r_slen F X dL_law_20 rfl ?_
    refine r_iconst F dL_law_21 rfl ?_
    refine r_isub F dL_law_22 rfl ?_
    refine r_icmp_gt F (tgt := 1232) ⟨by omega, by omega⟩ ⟨by omega, by omega⟩ dL_law_23 rfl (by decide) (fun h1 => ?_) (fun h1 => ?_)
    ·
      refine r_iconst F dL_law_1232 rfl ?_
      exact hE _ _ _ _ _ _ _ hc6 hs6 dL_law_1233
    · exfalso; omega
  | succ d ih =>
    intro k i lay mem n cells slots sl hd hi hkL h hc hs
    have hc6 : cells ≤ 600000 := by omega
    have hs6 : slots ≤ 7302250 := by omega
    refine r_iload_n F rfl rfl dL_law_18 rfl ?_
    refine r_aload_n F rfl rfl dL_law_19 rfl ?_
    refine r_slen F X dL_law_20 rfl ?_
    refine r_iconst F dL_law_21 rfl ?_
    refine r_isub F dL_law_22 rfl ?_
    refine r_icmp_gt F (tgt := 1232) ⟨by omega, by omega⟩ ⟨by omega, by omega⟩ dL_law_23 rfl (by decide) (fun h1 => ?_) (fun h1 => ?_)
    ·
      refine r_iconst F dL_law_1232 rfl ?_
      exact hE _ _ _ _ _ _ _ hc6 hs6 dL_law_1233
    ·
      have J : ∀ (lay2 : ja_Y) (mem2 : ja_M) (n2 : Nat) (sl2 : Nat → Option Nat) (cells2 slots2 : Nat), L_In S0 lay2 mem2 n2 y sl2 (500 * (k : Int) + 500) → cells2 ≤ 1000 + 20 * k + 20 → slots2 ≤ 40000 + 1269 * k + 1269 → ja_W C cells2 slots2 lay2 mem2 n2 1226 [some (.ref b), some (.ref y), some (.ref (y + 49)), some (.int (ja_I i))] [] := by
        intro lay2 mem2 n2 sl2 cells2 slots2 h2 hc2 hs2
        refine r_inc3 F (by decide) rfl dL_law_1226 rfl ?_
        refine r_goto F (tgt := 18) dL_law_1229 (by decide) ?_
        exact ih (k + 1) (i + 5) lay2 mem2 n2 cells2 slots2 sl2 (by omega) (by omega) (by omega) (by rw [show 500 * ((k + 1 : Nat) : Int) = 500 * (k : Int) + 500 by omega]; exact h2) (by omega) (by omega)
      have hk5 : 5 * k + 5 ≤ L := by omega
      refine r_aload_n F rfl rfl dL_law_26 rfl ?_
      refine r_iload_n F rfl rfl dL_law_27 rfl ?_
      refine r_sld F X (by omega) (by omega) (by omega) dL_law_28 rfl ?_
      refine r_bipush F (by decide) dL_law_29 rfl ?_
      have hz := J_and63 (ja_I (xs (Int.toNat i)).toInt)
      refine r_iand F (ja_of' _) dL_law_31 rfl ?_
      generalize (ja_I (xs (Int.toNat i)).toInt &&& ja_I 63).toInt = z at hz ⊢
      have g0 : 0 ≤ z := hz.1
      rcases (show z = 0 ∨ 1 ≤ z by omega) with h0 | g1
      · exact r_tableIn F (off := 192) (tgt := 224) ⟨by omega, by omega⟩ dL_law_32 (by omega) (by omega) (by rw [h0]; rfl) (by decide) (K_0 F GC X hL hi hk5 h hc hs J)
      rcases (show z = 1 ∨ 2 ≤ z by omega) with h1 | g2
      · exact r_tableIn F (off := 215) (tgt := 247) ⟨by omega, by omega⟩ dL_law_32 (by omega) (by omega) (by rw [h1]; rfl) (by decide) (K_1 F GC X hL hi hk5 h hc hs J)
      rcases (show z = 2 ∨ 3 ≤ z by omega) with h2 | g3
      · exact r_tableIn F (off := 248) (tgt := 280) ⟨by omega, by omega⟩ dL_law_32 (by omega) (by omega) (by rw [h2]; rfl) (by decide) (K_2 F GC X hL hi hk5 h hc hs J)
      rcases (show z = 3 ∨ 4 ≤ z by omega) with h3 | g4
      · exact r_tableIn F (off := 281) (tgt := 313) ⟨by omega, by omega⟩ dL_law_32 (by omega) (by omega) (by rw [h3]; rfl) (by decide) (K_3 F GC X hL hi hk5 h hc hs J)
      rcases (show z = 4 ∨ 5 ≤ z by omega) with h4 | g5
      · exact r_tableIn F (off := 304) (tgt := 336) ⟨by omega, by omega⟩ dL_law_32 (by omega) (by omega) (by rw [h4]; rfl) (by decide) (K_4 F GC X hL hi hk5 h hc hs J)
      rcases (show z = 5 ∨ 6 ≤ z by omega) with h5 | g6
      · exact r_tableIn F (off := 327) (tgt := 359) ⟨by omega, by omega⟩ dL_law_32 (by omega) (by omega) (by rw [h5]; rfl) (by decide) (K_5 F GC X hL hi hk5 h hc hs J)
      rcases (show z = 6 ∨ 7 ≤ z by omega) with h6 | g7
      · exact r_tableIn F (off := 350) (tgt := 382) ⟨by omega, by omega⟩ dL_law_32 (by omega) (by omega) (by rw [h6]; rfl) (by decide) (K_6 F GC X hL hi hk5 h hc hs J)
      rcases (show z = 7 ∨ 8 ≤ z by omega) with h7 | g8
      · exact r_tableIn F (off := 389) (tgt := 421) ⟨by omega, by omega⟩ dL_law_32 (by omega) (by omega) (by rw [h7]; rfl) (by decide) (K_7 F GC X hL hi hk5 h hc hs J)
      rcases (show z = 8 ∨ 9 ≤ z by omega) with h8 | g9
      · exact r_tableIn F (off := 412) (tgt := 444) ⟨by omega, by omega⟩ dL_law_32 (by omega) (by omega) (by rw [h8]; rfl) (by decide) (K_8 F GC X hL hi hk5 h hc hs J)
      rcases (show z = 9 ∨ 10 ≤ z by omega) with h9 | g10
      · exact r_tableIn F (off := 471) (tgt := 503) ⟨by omega, by omega⟩ dL_law_32 (by omega) (by omega) (by rw [h9]; rfl) (by decide) (K_9 F GC X hL hi hk5 h hc hs J)
      rcases (show z = 10 ∨ 11 ≤ z by omega) with h10 | g11
      · exact r_tableIn F (off := 494) (tgt := 526) ⟨by omega, by omega⟩ dL_law_32 (by omega) (by omega) (by rw [h10]; rfl) (by decide) (K_10 F GC X hL hi hk5 h hc hs J)
      rcases (show z = 11 ∨ 12 ≤ z by omega) with h11 | g12
      · exact r_tableIn F (off := 507) (tgt := 539) ⟨by omega, by omega⟩ dL_law_32 (by omega) (by omega) (by rw [h11]; rfl) (by decide) (K_11 F GC X hL hi hk5 h hc hs J)
      rcases (show z = 12 ∨ 13 ≤ z by omega) with h12 | g13
      · exact r_tableIn F (off := 520) (tgt := 552) ⟨by omega, by omega⟩ dL_law_32 (by omega) (by omega) (by rw [h12]; rfl) (by decide) (K_12 F GC X hL hi hk5 h hc hs J)
      rcases (show z = 13 ∨ 14 ≤ z by omega) with h13 | g14
      · exact r_tableIn F (off := 543) (tgt := 575) ⟨by omega, by omega⟩ dL_law_32 (by omega) (by omega) (by rw [h13]; rfl) (by decide) (K_13 F GC X hL hi hk5 h hc hs J)
      rcases (show z = 14 ∨ 15 ≤ z by omega) with h14 | g15
      · exact r_tableIn F (off := 556) (tgt := 588) ⟨by omega, by omega⟩ dL_law_32 (by omega) (by omega) (by rw [h14]; rfl) (by decide) (K_14 F GC X hL hi hk5 h hc hs J)
      rcases (show z = 15 ∨ 16 ≤ z by omega) with h15 | g16
      · exact r_tableIn F (off := 569) (tgt := 601) ⟨by omega, by omega⟩ dL_law_32 (by omega) (by omega) (by rw [h15]; rfl) (by decide) (K_15 F GC X hL hi hk5 h hc hs J)
      rcases (show z = 16 ∨ 17 ≤ z by omega) with h16 | g17
      · exact r_tableIn F (off := 582) (tgt := 614) ⟨by omega, by omega⟩ dL_law_32 (by omega) (by omega) (by rw [h16]; rfl) (by decide) (K_16 F GC X hL hi hk5 h hc hs J)
      rcases (show z = 17 ∨ 18 ≤ z by omega) with h17 | g18
      · exact r_tableIn F (off := 605) (tgt := 637) ⟨by omega, by omega⟩ dL_law_32 (by omega) (by omega) (by rw [h17]; rfl) (by decide) (K_17 F GC X hL hi hk5 h hc hs J)
      rcases (show z = 18 ∨ 19 ≤ z by omega) with h18 | g19
      · exact r_tableIn F (off := 628) (tgt := 660) ⟨by omega, by omega⟩ dL_law_32 (by omega) (by omega) (by rw [h18]; rfl) (by decide) (K_18 F GC X hL hi hk5 h hc hs J)
      rcases (show z = 19 ∨ 20 ≤ z by omega) with h19 | g20
      · exact r_tableIn F (off := 661) (tgt := 693) ⟨by omega, by omega⟩ dL_law_32 (by omega) (by omega) (by rw [h19]; rfl) (by decide) (K_19 F GC X hL hi hk5 h hc hs J)
      rcases (show z = 20 ∨ 21 ≤ z by omega) with h20 | g21
      · exact r_tableIn F (off := 720) (tgt := 752) ⟨by omega, by omega⟩ dL_law_32 (by omega) (by omega) (by rw [h20]; rfl) (by decide) (K_20 F GC X hL hi hk5 h hc hs J)
      rcases (show z = 21 ∨ 22 ≤ z by omega) with h21 | g22
      · exact r_tableIn F (off := 743) (tgt := 775) ⟨by omega, by omega⟩ dL_law_32 (by omega) (by omega) (by rw [h21]; rfl) (by decide) (K_21 F GC X hL hi hk5 h hc hs J)
      rcases (show z = 22 ∨ 23 ≤ z by omega) with h22 | g23
      · exact r_tableIn F (off := 812) (tgt := 844) ⟨by omega, by omega⟩ dL_law_32 (by omega) (by omega) (by rw [h22]; rfl) (by decide) (K_22 F GC X hL hi hk5 h hc hs J)
      rcases (show z = 23 ∨ 24 ≤ z by omega) with h23 | g24
      · exact r_tableIn F (off := 825) (tgt := 857) ⟨by omega, by omega⟩ dL_law_32 (by omega) (by omega) (by rw [h23]; rfl) (by decide) (K_23 F GC X hL hi hk5 h hc hs J)
      rcases (show z = 24 ∨ 25 ≤ z by omega) with h24 | g25
      · exact r_tableIn F (off := 848) (tgt := 880) ⟨by omega, by omega⟩ dL_law_32 (by omega) (by omega) (by rw [h24]; rfl) (by decide) (K_24 F GC X hL hi hk5 h hc hs J)
      rcases (show z = 25 ∨ 26 ≤ z by omega) with h25 | g26
      · exact r_tableIn F (off := 861) (tgt := 893) ⟨by omega, by omega⟩ dL_law_32 (by omega) (by omega) (by rw [h25]; rfl) (by decide) (K_25 F GC X hL hi hk5 h hc hs J)
      rcases (show z = 26 ∨ 27 ≤ z by omega) with h26 | g27
      · exact r_tableIn F (off := 874) (tgt := 906) ⟨by omega, by omega⟩ dL_law_32 (by omega) (by omega) (by rw [h26]; rfl) (by decide) (K_26 F GC X hL hi hk5 h hc hs J)
      rcases (show z = 27 ∨ 28 ≤ z by omega) with h27 | g28
      · exact r_tableIn F (off := 897) (tgt := 929) ⟨by omega, by omega⟩ dL_law_32 (by omega) (by omega) (by rw [h27]; rfl) (by decide) (K_27 F GC X hL hi hk5 h hc hs J)
      rcases (show z = 28 ∨ 29 ≤ z by omega) with h28 | g29
      · exact r_tableIn F (off := 910) (tgt := 942) ⟨by omega, by omega⟩ dL_law_32 (by omega) (by omega) (by rw [h28]; rfl) (by decide) (K_28 F GC X hL hi hk5 h hc hs J)
      rcases (show z = 29 ∨ 30 ≤ z by omega) with h29 | g30
      · exact r_tableIn F (off := 923) (tgt := 955) ⟨by omega, by omega⟩ dL_law_32 (by omega) (by omega) (by rw [h29]; rfl) (by decide) (K_29 F GC X hL hi hk5 h hc hs J)
      rcases (show z = 30 ∨ 31 ≤ z by omega) with h30 | g31
      · exact r_tableIn F (off := 936) (tgt := 968) ⟨by omega, by omega⟩ dL_law_32 (by omega) (by omega) (by rw [h30]; rfl) (by decide) (K_30 F GC X hL hi hk5 h hc hs J)
      rcases (show z = 31 ∨ 32 ≤ z by omega) with h31 | g32
      · exact r_tableIn F (off := 949) (tgt := 981) ⟨by omega, by omega⟩ dL_law_32 (by omega) (by omega) (by rw [h31]; rfl) (by decide) (K_31 F GC X hL hi hk5 h hc hs J)
      rcases (show z = 32 ∨ 33 ≤ z by omega) with h32 | g33
      · exact r_tableIn F (off := 988) (tgt := 1020) ⟨by omega, by omega⟩ dL_law_32 (by omega) (by omega) (by rw [h32]; rfl) (by decide) (K_32 F GC X hL hi hk5 h hc hs J)
      rcases (show z = 33 ∨ 34 ≤ z by omega) with h33 | g34
      · exact r_tableIn F (off := 1001) (tgt := 1033) ⟨by omega, by omega⟩ dL_law_32 (by omega) (by omega) (by rw [h33]; rfl) (by decide) (K_33 F GC X hL hi hk5 h hc hs J)
      rcases (show z = 34 ∨ 35 ≤ z by omega) with h34 | g35
      · exact r_tableIn F (off := 1014) (tgt := 1046) ⟨by omega, by omega⟩ dL_law_32 (by omega) (by omega) (by rw [h34]; rfl) (by decide) (K_34 F GC X hL hi hk5 h hc hs J)
      rcases (show z = 35 ∨ 36 ≤ z by omega) with h35 | g36
      · exact r_tableIn F (off := 1037) (tgt := 1069) ⟨by omega, by omega⟩ dL_law_32 (by omega) (by omega) (by rw [h35]; rfl) (by decide) (K_35 F GC X hL hi hk5 h hc hs J)
      rcases (show z = 36 ∨ 37 ≤ z by omega) with h36 | g37
      · exact r_tableIn F (off := 1060) (tgt := 1092) ⟨by omega, by omega⟩ dL_law_32 (by omega) (by omega) (by rw [h36]; rfl) (by decide) (K_36 F GC X hL hi hk5 h hc hs J)
      rcases (show z = 37 ∨ 38 ≤ z by omega) with h37 | g38
      · exact r_tableIn F (off := 1083) (tgt := 1115) ⟨by omega, by omega⟩ dL_law_32 (by omega) (by omega) (by rw [h37]; rfl) (by decide) (K_37 F GC X hL hi hk5 h hc hs J)
      rcases (show z = 38 ∨ 39 ≤ z by omega) with h38 | g39
      · exact r_tableIn F (off := 1096) (tgt := 1128) ⟨by omega, by omega⟩ dL_law_32 (by omega) (by omega) (by rw [h38]; rfl) (by decide) (K_38 F GC X hL hi hk5 h hc hs J)
      rcases (show z = 39 ∨ 40 ≤ z by omega) with h39 | g40
      · exact r_tableIn F (off := 1109) (tgt := 1141) ⟨by omega, by omega⟩ dL_law_32 (by omega) (by omega) (by rw [h39]; rfl) (by decide) (K_39 F GC X hL hi hk5 h hc hs J)
      rcases (show z = 40 ∨ 41 ≤ z by omega) with h40 | g41
      · exact r_tableIn F (off := 1122) (tgt := 1154) ⟨by omega, by omega⟩ dL_law_32 (by omega) (by omega) (by rw [h40]; rfl) (by decide) (K_40 F GC X hL hi hk5 h hc hs J)
      rcases (show z = 41 ∨ 42 ≤ z by omega) with h41 | g42
      · exact r_tableIn F (off := 1135) (tgt := 1167) ⟨by omega, by omega⟩ dL_law_32 (by omega) (by omega) (by rw [h41]; rfl) (by decide) (K_41 F GC X hL hi hk5 h hc hs J)
      rcases (show z = 42 ∨ 43 ≤ z by omega) with h42 | g43
      · exact r_tableIn F (off := 1158) (tgt := 1190) ⟨by omega, by omega⟩ dL_law_32 (by omega) (by omega) (by rw [h42]; rfl) (by decide) (K_42 F GC X hL hi hk5 h hc hs J)
      rcases (show z = 43 ∨ 44 ≤ z by omega) with h43 | g44
      · exact r_tableIn F (off := 1181) (tgt := 1213) ⟨by omega, by omega⟩ dL_law_32 (by omega) (by omega) (by rw [h43]; rfl) (by decide) (K_43 F GC X hL hi hk5 h hc hs J)
      obtain ⟨⟨hB, hO, hn, hso, hsd⟩, ⟨hM, hN, hTO, hz4, hkp⟩, hT, hx, hsl⟩ := id h
      exact r_tableOut F (tgt := 1226) ⟨by omega, by omega⟩ dL_law_32 (by omega) (by decide) (J _ _ _ _ _ _ (by have hIn := In_step S0_ok h (fun q _ => rfl) rfl rfl (BO_cg (by omega) hO (fun _ _ _ => rfl) (fun _ _ _ _ _ _ _ => rfl)) N_rf.rf (hN.mono (by omega)) hT; rw [ja_rw_self] at hIn; exact hIn) (by omega) (by omega))
end
section
set_option maxRecDepth 100000 in
set_option maxHeartbeats 800000 in
theorem law_all {C : ja_C} {D : va_G} {cA : Nat → ClassId} {l : Launch} {B b L n0 : Nat} {xs : Nat → Int32} (F : ja_F C RL cL_law 4 room_1) (GC : ja_G C l D cA B) (X : ja_X C b L xs) (hL : L ≤ 2560) (hE : ∀ (lay : ja_Y) (mem : ja_M) (n cells slots pc : Nat) (ls : List (Option Value)), cells ≤ 600000 → slots ≤ 7302250 → decode code pc = .ok (.ireturn, 1) → ja_W C cells slots lay mem n pc ls [.int (ja_I 1)]) : ja_W C 0 0 (fun _ => none) (fun _ _ => 0) n0 0 [some (.ref b), none, none, none] [] := by
  refine r_new F n_L_7 (Nat.le_of_ble_eq_true rfl) (Nat.le_of_ble_eq_true rfl) dL_law_0 rfl ?_
  refine r_dup F rfl dL_law_3 rfl ?_
  refine r_callI F GC (c_X8_init l D cA B (a := n0) (ja_ly_s _ _ _) (fun j => ja_zr_s _ _ j)) i_L_9 rfl ⟨(Nat.le_of_ble_eq_true rfl), (Nat.le_of_ble_eq_true rfl)⟩ ⟨(Nat.le_of_ble_eq_true rfl), (Nat.le_of_ble_eq_true rfl)⟩ (Nat.le_of_ble_eq_true rfl) rfl dL_law_4 rfl (fun v L1 M1 n1 hp => ?_)
  obtain ⟨q1, q2, hB, hL1, hM1, hS1, hS2, hZ⟩ := hp
  subst q1; subst q2
  refine r_ast1 F (by decide) rfl dL_law_7 rfl ?_
  refine r_new F n_L_10 (Nat.le_of_ble_eq_true rfl) (Nat.le_of_ble_eq_true rfl) dL_law_8 rfl ?_
  refine r_dup F rfl dL_law_11 rfl ?_
  refine r_callI F GC (c_X9_init l D cA B (a := n0 + 49) (ja_ly_s _ _ _) (fun j => ja_zr_s _ _ j)) i_L_12 rfl ⟨(Nat.le_of_ble_eq_true rfl), (Nat.le_of_ble_eq_true rfl)⟩ ⟨(Nat.le_of_ble_eq_true rfl), (Nat.le_of_ble_eq_true rfl)⟩ (Nat.le_of_ble_eq_true rfl) rfl dL_law_12 rfl (fun v L2 M2 n2 hp => ?_)
  obtain ⟨q1, q2, hM, hL2, hM2, hv, hZ2⟩ := hp
  subst q1; subst q2
  refine r_ast2 F (by decide) rfl dL_law_15 rfl ?_
  refine r_iconst F dL_law_16 rfl ?_
  refine r_ist3 F (by decide) rfl dL_law_17 rfl ?_
  have hLq : ∀ q, q < n0 + 49 → L2 q = L1 q := fun q hq => (hL2 q hq).trans (ja_ly_n (by omega))
  have hMq : ∀ q, q < n0 + 49 → M2 q = M1 q := fun q hq => (hM2 q hq).trans (ja_zr_n (by omega))
  have h : L_fr L2 M2 (n0 + 49 + 9) n0 (n0 + 49) := ⟨rfl, by omega, ja_LB_c (fun q a1 a2 _ => hLq q (by omega)) ((hLq _ (by omega)).trans hB.2.2.2.1) (fun i o _ q => by cases q) hB, hM, by unfold ja_S0; rw [hMq (n0 + 1 + 1) (by omega)]; exact hS1, by unfold ja_S0; rw [hMq (n0 + 21 + 1) (by omega)]; exact hS2, fun q j a1 a2 a3 a4 => by rw [hMq q (by omega)]; exact hZ q j a1 a2 a3 a4, funext hv, fun q j a1 a2 a3 => hZ2 q j a1 a2 a3⟩
  refine law_loop F GC X hL hE 513 0 0 _ _ _ _ _ (fun _ => none) (by omega) rfl (by omega) (In_fresh S0_ok h) (Nat.le_of_ble_eq_true rfl) (Nat.le_of_ble_eq_true rfl)
end
