abbrev rm_X4_remaining : Room := { frames := 0, cells := 0, slots := 0, locals := 0 }
set_option maxRecDepth 100000 in
set_option maxHeartbeats 4000000 in
theorem c_X4_remaining (l : Launch) (D : va_G) (cA : Nat → ClassId) (B : Nat) {lay : ja_Y} {mem : ja_M} {n : Nat} {a : Nat} (hP : ja_LP lay a)  : ja_Mt l D cA B yX4_remaining cX4_remaining 1 (some .int) rm_X4_remaining [.ref a] lay mem n (ja_rd lay mem n (some (.int (ja_I (mem a 1 - mem a 2))))) := by
  refine ja_enter [some (.ref a)] (by decide) (Nat.le_of_ble_eq_true rfl) (fun q hq => hq) (fun C F Rt G hnm => ?_)
  refine r_aload_n F rfl rfl dX4_remaining_0 rfl ?_
  refine r_getI F f_X4_30 (hP.1) rfl dX4_remaining_1 rfl ?_
  refine r_aload_n F rfl rfl dX4_remaining_4 rfl ?_
  refine r_getI F f_X4_34 (hP.1) rfl dX4_remaining_5 rfl ?_
  refine r_isub F dX4_remaining_8 rfl ?_
  exact r_iret F Rt dX4_remaining_9 (by decide) ⟨rfl, rfl, rfl, rfl⟩
abbrev rm_X4_outputAt : Room := { frames := 0, cells := 0, slots := 0, locals := 0 }
set_option maxRecDepth 100000 in
set_option maxHeartbeats 4000000 in
theorem c_X4_outputAt (l : Launch) (D : va_G) (cA : Nat → ClassId) (B : Nat) {lay : ja_Y} {mem : ja_M} {n : Nat} {a : Nat} {b : Int} (hP : ja_LP lay a) (h4 : 0 ≤ mem a 4 ∧ mem a 4 ≤ 1000000) (hb : 1 ≤ b ∧ b ≤ mem a 4) : ja_Mt l D cA B yX4_outputAt cX4_outputAt 2 (some .int) rm_X4_outputAt [.ref a, .int (ja_I b)] lay mem n (ja_rd lay mem n (some (.int (ja_I (mem (a + 2) ((mem a 4 - b) % 256).toNat))))) := by
  refine ja_enter [some (.ref a), some (.int (ja_I b))] (by decide) (Nat.le_of_ble_eq_true rfl) (fun q hq => hq) (fun C F Rt G hnm => ?_)
  refine r_aload_n F rfl rfl dX4_outputAt_0 rfl ?_
  refine r_getR F f_X4_15 (hP.1) rfl dX4_outputAt_1 rfl ?_
  refine r_aload_n F rfl rfl dX4_outputAt_4 rfl ?_
  refine r_getI F f_X4_37 (hP.1) rfl dX4_outputAt_5 rfl ?_
  refine r_iload_n F rfl rfl dX4_outputAt_8 rfl ?_
  refine r_isub F dX4_outputAt_9 rfl ?_
  refine r_sipush F (by decide) dX4_outputAt_10 rfl ?_
  refine r_iremP F ⟨by omega, by omega⟩ ⟨by omega, by omega⟩ (by omega) (by omega) dX4_outputAt_13 rfl ?_
  refine r_iald F (ja_LP_2 hP) (by omega) (by omega) (by decide) dX4_outputAt_14 rfl ?_
  exact r_iret F Rt dX4_outputAt_15 (by decide) ⟨rfl, rfl, rfl, rfl⟩
abbrev rm_X4_kindAt : Room := { frames := 0, cells := 0, slots := 0, locals := 0 }
set_option maxRecDepth 100000 in
set_option maxHeartbeats 4000000 in
theorem c_X4_kindAt (l : Launch) (D : va_G) (cA : Nat → ClassId) (B : Nat) {lay : ja_Y} {mem : ja_M} {n : Nat} {a : Nat} {b : Int} (hP : ja_LP lay a) (h6 : 0 ≤ mem a 6 ∧ mem a 6 ≤ 1000) (hb : 1 ≤ b ∧ b ≤ mem a 6) : ja_Mt l D cA B yX4_kindAt cX4_kindAt 2 (some .int) rm_X4_kindAt [.ref a, .int (ja_I b)] lay mem n (ja_rd lay mem n (some (.int (ja_I (mem (a + 3) ((mem a 6 - b) % 32).toNat))))) := by
  refine ja_enter [some (.ref a), some (.int (ja_I b))] (by decide) (Nat.le_of_ble_eq_true rfl) (fun q hq => hq) (fun C F Rt G hnm => ?_)
  refine r_aload_n F rfl rfl dX4_kindAt_0 rfl ?_
  refine r_getR F f_X4_18 (hP.1) rfl dX4_kindAt_1 rfl ?_
  refine r_aload_n F rfl rfl dX4_kindAt_4 rfl ?_
  refine r_getI F f_X4_40 (hP.1) rfl dX4_kindAt_5 rfl ?_
  refine r_iload_n F rfl rfl dX4_kindAt_8 rfl ?_
  refine r_isub F dX4_kindAt_9 rfl ?_
  refine r_bipush F (by decide) dX4_kindAt_10 rfl ?_
  refine r_iremP F ⟨by omega, by omega⟩ ⟨by omega, by omega⟩ (by omega) (by omega) dX4_kindAt_12 rfl ?_
  refine r_iald F (ja_LP_3 hP) (by omega) (by omega) (by decide) dX4_kindAt_13 rfl ?_
  exact r_iret F Rt dX4_kindAt_14 (by decide) ⟨rfl, rfl, rfl, rfl⟩
abbrev rm_X4_put : Room := { frames := 0, cells := 0, slots := 0, locals := 0 }
set_option maxRecDepth 100000 in
set_option maxHeartbeats 4000000 in
theorem c_X4_put (l : Launch) (D : va_G) (cA : Nat → ClassId) (B : Nat) {lay : ja_Y} {mem : ja_M} {n : Nat} {a : Nat} {v : Int} (hP : ja_LP lay a) (h1 : 0 ≤ mem a 1 ∧ mem a 1 ≤ 24) : ja_Mt l D cA B yX4_put cX4_put 2 none rm_X4_put [.ref a, .int (ja_I v)] lay mem n (ja_rd lay (P_put mem a v) n (none)) := by
  refine ja_enter [some (.ref a), some (.int (ja_I v))] (by decide) (Nat.le_of_ble_eq_true rfl) (fun q hq => hq) (fun C F Rt G hnm => ?_)
  refine r_aload_n F rfl rfl dX4_put_0 rfl ?_
  refine r_getI F f_X4_30 (hP.1) rfl dX4_put_1 rfl ?_
  refine r_bipush F (by decide) dX4_put_4 rfl ?_
  refine r_icmp_ge F (tgt := 29) ⟨by omega, by omega⟩ ⟨by omega, by omega⟩ dX4_put_6 rfl (by decide) (fun h_6 => ?_) (fun h_6 => ?_)
  ·
    exact r_vret F Rt dX4_put_29 (by decide) ⟨rfl, rfl, by unfold P_put; first | rw [if_pos (by omega)] | rw [if_neg (by omega)], rfl⟩
  ·
    refine r_aload_n F rfl rfl dX4_put_9 rfl ?_
    refine r_getR F f_X4_11 (hP.1) rfl dX4_put_10 rfl ?_
    refine r_aload_n F rfl rfl dX4_put_13 rfl ?_
    refine r_getI F f_X4_30 (hP.1) rfl dX4_put_14 rfl ?_
    refine r_iload_n F rfl rfl dX4_put_17 rfl ?_
    refine r_iast F (ja_LP_1 hP) (by omega) (by omega) (by decide) dX4_put_18 rfl ?_
    refine r_aload_n F rfl rfl dX4_put_19 rfl ?_
    refine r_dup F rfl dX4_put_20 rfl ?_
    refine r_getI F f_X4_30 (hP.1) rfl dX4_put_21 rfl ?_
    refine r_eqz (z := mem a 1) (by simp [ja_up]) ?_
    refine r_iconst F dX4_put_24 rfl ?_
    refine r_iadd F dX4_put_25 rfl ?_
    refine r_putI F f_X4_30 (hP.1) rfl dX4_put_26 rfl ?_
    exact r_vret F Rt dX4_put_29 (by decide) ⟨rfl, rfl, by unfold P_put; first | rw [if_pos (by omega)] | rw [if_neg (by omega)], rfl⟩
abbrev rm_X4_putSource : Room := { frames := 1, cells := 0, slots := 0, locals := 21 }
set_option maxRecDepth 100000 in
set_option maxHeartbeats 4000000 in
theorem c_X4_putSource (l : Launch) (D : va_G) (cA : Nat → ClassId) (B : Nat) {lay : ja_Y} {mem : ja_M} {n : Nat} {a : Nat} {f t : Int} (hP : ja_LP lay a) (h1 : 0 ≤ mem a 1 ∧ mem a 1 ≤ 24) (hf : 0 ≤ f ∧ f ≤ 32) (ht : t ≤ 32 ∧ 0 ≤ t) : ja_Mt l D cA B yX4_putSource cX4_putSource 4 none rm_X4_putSource [.ref a, .int (ja_I f), .int (ja_I t)] lay mem n (ja_rd lay (P_pts mem a (fun i => mem (a + 4) (f.toNat + i)) (t - f).toNat) n (none)) := by
  refine ja_enter [some (.ref a), some (.int (ja_I f)), some (.int (ja_I t)), none] (by decide) (Nat.le_of_ble_eq_true rfl) (fun q hq => hq) (fun C F Rt G hnm => ?_)
  refine r_iload_n F rfl rfl dX4_putSource_0 rfl ?_
  refine r_ist3 F (by decide) rfl dX4_putSource_1 rfl ?_
  have loop : ∀ (d k : Nat), k + d = (t - f).toNat → ja_W C 0 0 lay (P_pts mem a (fun i => mem (a + 4) (f.toNat + i)) k) n 2 [some (.ref a), some (.int (ja_I f)), some (.int (ja_I t)), some (.int (ja_I (f + (k : Int))))] [] := by
    intro d
    induction d with
    | zero =>
      intro k hk
      refine r_iload_n F rfl rfl dX4_putSource_2 rfl ?_
      refine r_iload_n F rfl rfl dX4_putSource_3 rfl ?_
      refine r_icmp_ge F (tgt := 23) ⟨by omega, by omega⟩ ⟨by omega, by omega⟩ dX4_putSource_4 rfl (by decide) (fun h_4 => ?_) (fun h_4 => ?_)
      ·
        exact r_vret F Rt dX4_putSource_23 (by decide) ⟨rfl, rfl, by rw [show (t - f).toNat = k by omega], rfl⟩
      ·
        exfalso; omega
    | succ d ih =>
      intro k hk
      refine r_iload_n F rfl rfl dX4_putSource_2 rfl ?_
      refine r_iload_n F rfl rfl dX4_putSource_3 rfl ?_
      refine r_icmp_ge F (tgt := 23) ⟨by omega, by omega⟩ ⟨by omega, by omega⟩ dX4_putSource_4 rfl (by decide) (fun h_4 => ?_) (fun h_4 => ?_)
      ·
        exfalso; omega
      ·
        refine r_aload_n F rfl rfl dX4_putSource_7 rfl ?_
        refine r_aload_n F rfl rfl dX4_putSource_8 rfl ?_
        refine r_getR F f_X4_21 (hP.1) rfl dX4_putSource_9 rfl ?_
        refine r_iload_n F rfl rfl dX4_putSource_12 rfl ?_
        refine r_iald F (ja_LP_4 hP) (by omega) (by omega) (by decide) dX4_putSource_13 rfl ?_
        refine r_eqz (z := mem (a + 4) (f.toNat + k)) (by rw [P_pts_o ⟨by omega, by omega⟩]; congr 1; omega) ?_
        refine r_callV F G (c_X4_put _ _ _ _ hP (P_pts_r h1 k)) v_X4_58 rfl (hP.1) rfl (by decide) (by decide) (Nat.le_of_ble_eq_true rfl) rfl dX4_putSource_14 rfl (fun v lay' mem' n' hp => ?_)
        obtain ⟨q1, q2, q3, q4⟩ := hp
        subst q1; subst q2; subst q3; subst q4
        refine r_inc3 F (by decide) rfl dX4_putSource_17 rfl ?_
        refine r_goto F (tgt := 2) dX4_putSource_20 (by decide) ?_
        rw [show f + (k : Int) + 1 = f + ((k + 1 : Nat) : Int) by omega]
        exact ih (k + 1) (by omega)
  have h0 := loop (t - f).toNat 0 (by omega)
  rw [show f + ((0 : Nat) : Int) = f by omega] at h0
  exact h0
abbrev rm_X4_putAsItIs : Room := { frames := 2, cells := 0, slots := 0, locals := 44 }
set_option maxRecDepth 100000 in
set_option maxHeartbeats 4000000 in
theorem c_X4_putAsItIs (l : Launch) (D : va_G) (cA : Nat → ClassId) (B : Nat) {lay : ja_Y} {mem : ja_M} {n : Nat} {a : Nat} {t : Int} (hP : ja_LP lay a) (h1 : 0 ≤ mem a 1 ∧ mem a 1 ≤ 24) (ht : t ≤ 32 ∧ 0 ≤ t) : ja_Mt l D cA B yX4_putAsItIs cX4_putAsItIs 2 none rm_X4_putAsItIs [.ref a, .int (ja_I t)] lay mem n (ja_rd lay (P_pts mem a (fun i => mem (a + 4) (0 + i)) t.toNat) n (none)) := by
  refine ja_enter [some (.ref a), some (.int (ja_I t))] (by decide) (Nat.le_of_ble_eq_true rfl) (fun q hq => hq) (fun C F Rt G hnm => ?_)
  refine r_aload_n F rfl rfl dX4_putAsItIs_0 rfl ?_
  refine r_iconst F dX4_putAsItIs_1 rfl ?_
  refine r_iload_n F rfl rfl dX4_putAsItIs_2 rfl ?_
  refine r_callV F G (c_X4_putSource _ _ _ _ hP ⟨by omega, by omega⟩ ⟨by omega, by omega⟩ ⟨by omega, by omega⟩) v_X4_50 rfl (hP.1) rfl (by decide) (by decide) (Nat.le_of_ble_eq_true rfl) rfl dX4_putAsItIs_3 rfl (fun v lay' mem' n' hp => ?_)
  obtain ⟨q1, q2, q3, q4⟩ := hp
  subst q1; subst q2; subst q3; subst q4
  exact r_vret F Rt dX4_putAsItIs_6 (by decide) ⟨rfl, rfl, by rw [show t.toNat = (t - 0).toNat by omega]; rfl, rfl⟩
abbrev rm_X4_differences : Room := { frames := 1, cells := 0, slots := 0, locals := 21 }
set_option maxRecDepth 100000 in
set_option maxHeartbeats 4000000 in
theorem c_X4_differences (l : Launch) (D : va_G) (cA : Nat → ClassId) (B : Nat) {lay : ja_Y} {mem : ja_M} {n : Nat} {a : Nat} {p : Int} (hP : ja_LP lay a) (hg : ∀ j, ja_sp (mem (a + 4) j)) (hp : 0 ≤ p ∧ p ≤ 16) : ja_Mt l D cA B yX4_differences cX4_differences 4 (some .int) rm_X4_differences [.ref a, .int (ja_I p)] lay mem n (ja_rd lay mem n (some (.int (ja_I (P_dif (mem (a + 4)) p.toNat p.toNat))))) := by
  refine ja_enter [some (.ref a), some (.int (ja_I p)), none, none] (by decide) (Nat.le_of_ble_eq_true rfl) (fun q hq => hq) (fun C F Rt G hnm => ?_)
  refine r_iconst F dX4_differences_0 rfl ?_
  refine r_ist2 F (by decide) rfl dX4_differences_1 rfl ?_
  refine r_iconst F dX4_differences_2 rfl ?_
  refine r_ist3 F (by decide) rfl dX4_differences_3 rfl ?_
  have loop : ∀ (d k : Nat), k + d = p.toNat → ja_W C 0 0 lay (mem) n 4 [some (.ref a), some (.int (ja_I p)), some (.int (ja_I (P_dif (mem (a + 4)) p.toNat k))), some (.int (ja_I (k : Int)))] [] := by
    intro d
    induction d with
    | zero =>
      intro k hk
      refine r_iload_n F rfl rfl dX4_differences_4 rfl ?_
      refine r_iload_n F rfl rfl dX4_differences_5 rfl ?_
      refine r_icmp_ge F (tgt := 36) ⟨by omega, by omega⟩ ⟨by omega, by omega⟩ dX4_differences_6 rfl (by decide) (fun h_6 => ?_) (fun h_6 => ?_)
      ·
        refine r_iload_n F rfl rfl dX4_differences_36 rfl ?_
        exact r_iret F Rt dX4_differences_37 (by decide) ⟨by rw [show P_dif (mem (a + 4)) p.toNat p.toNat = P_dif (mem (a + 4)) p.toNat k by congr 1; omega], rfl, rfl, rfl⟩
      ·
        exfalso; omega
    | succ d ih =>
      intro k hk
      refine r_iload_n F rfl rfl dX4_differences_4 rfl ?_
      refine r_iload_n F rfl rfl dX4_differences_5 rfl ?_
      refine r_icmp_ge F (tgt := 36) ⟨by omega, by omega⟩ ⟨by omega, by omega⟩ dX4_differences_6 rfl (by decide) (fun h_6 => ?_) (fun h_6 => ?_)
      ·
        exfalso; omega
      ·
        refine r_iload_n F rfl rfl dX4_differences_9 rfl ?_
        refine r_aload_n F rfl rfl dX4_differences_10 rfl ?_
        refine r_getR F f_X4_21 (hP.1) rfl dX4_differences_11 rfl ?_
        refine r_iload_n F rfl rfl dX4_differences_14 rfl ?_
        refine r_iald F (ja_LP_4 hP) (by omega) (by omega) (by decide) dX4_differences_15 rfl ?_
        refine r_eqz (z := mem (a + 4) k) (by rw [ja_nat]) ?_
        refine r_aload_n F rfl rfl dX4_differences_16 rfl ?_
        refine r_getR F f_X4_21 (hP.1) rfl dX4_differences_17 rfl ?_
        refine r_iload_n F rfl rfl dX4_differences_20 rfl ?_
        refine r_iload_n F rfl rfl dX4_differences_21 rfl ?_
        refine r_iadd F dX4_differences_22 rfl ?_
        refine r_iald F (ja_LP_4 hP) (by omega) (by omega) (by decide) dX4_differences_23 rfl ?_
        refine r_eqz (z := mem (a + 4) (k + p.toNat)) (by congr 1; omega) ?_
        refine r_isub F dX4_differences_24 rfl ?_
        refine r_mabs F ⟨by have := hg k; have h2 := hg (k + p.toNat); have := this.1; have := h2.2; omega, by have := hg k; have h2 := hg (k + p.toNat); have := this.2; have := h2.1; omega⟩ s_X4_77 (Nat.le_of_ble_eq_true rfl) (by decide) (by decide) (by decide) dX4_differences_25 rfl ?_
        refine r_iadd F dX4_differences_28 rfl ?_
        refine r_ist2 F (by decide) rfl dX4_differences_29 rfl ?_
        refine r_inc3 F (by decide) rfl dX4_differences_30 rfl ?_
        refine r_goto F (tgt := 4) dX4_differences_33 (by decide) ?_
        exact ih (k + 1) (by omega)
  exact loop p.toNat 0 (by omega)
abbrev rm_X4_bestLag : Room := { frames := 2, cells := 0, slots := 0, locals := 44 }
set_option maxRecDepth 100000 in
set_option maxHeartbeats 4000000 in
theorem c_X4_bestLag (l : Launch) (D : va_G) (cA : Nat → ClassId) (B : Nat) {lay : ja_Y} {mem : ja_M} {n : Nat} {a : Nat} {m x : Int} (hP : ja_LP lay a) (hg : ∀ j, ja_sp (mem (a + 4) j)) (hm : 2 ≤ m ∧ m ≤ 16) (hx : 0 ≤ x ∧ x ≤ 1) : ja_Mt l D cA B yX4_bestLag cX4_bestLag 7 (some .int) rm_X4_bestLag [.ref a, .int (ja_I m), .int (ja_I x)] lay mem n (ja_rd lay mem n (some (.int (ja_I (P_lg (mem (a + 4)) x (m - 2).toNat).1)))) := by
  refine ja_enter [some (.ref a), some (.int (ja_I m)), some (.int (ja_I x)), none, none, none, none] (by decide) (Nat.le_of_ble_eq_true rfl) (fun q hq => hq) (fun C F Rt G hnm => ?_)
  refine r_iconst F dX4_bestLag_0 rfl ?_
  refine r_ist3 F (by decide) rfl dX4_bestLag_1 rfl ?_
  refine r_aload_n F rfl rfl dX4_bestLag_2 rfl ?_
  refine r_iload_n F rfl rfl dX4_bestLag_3 rfl ?_
  refine r_callV F G (c_X4_differences _ _ _ _ hP hg ⟨by omega, by omega⟩) v_X4_74 rfl (hP.1) rfl (by decide) (by decide) (Nat.le_of_ble_eq_true rfl) rfl dX4_bestLag_4 rfl (fun v lay' mem' n' hp => ?_)
  obtain ⟨q1, q2, q3, q4⟩ := hp
  subst q1; subst q2; subst q3; subst q4
  refine r_ist4 F (by decide) rfl dX4_bestLag_7 rfl ?_
  refine r_iconst F dX4_bestLag_9 rfl ?_
  refine r_ist5 F (by decide) rfl dX4_bestLag_10 rfl ?_
  have loop : ∀ (d k : Nat), k + d = (m - 2).toNat → ja_W C 0 0 lay (mem) n 12 [some (.ref a), some (.int (ja_I m)), some (.int (ja_I x)), some (.int (ja_I (P_lg (mem (a + 4)) x k).1)), some (.int (ja_I (P_lg (mem (a + 4)) x k).2)), some (.int (ja_I ((k : Int) + 3))), none] [] := by
    intro d
    induction d with
    | zero =>
      intro k hk
      have b1 := P_lg_in (ex := x) hg k (by omega)
      have b2 := P_dif_in hg (k + 3) (k + 3)
      have b3 := ja_mulb b2.1 (by omega : P_dif (mem (a + 4)) (k + 3) (k + 3) ≤ 3400) (by omega : 0 ≤ (P_lg (mem (a + 4)) x k).1) (by omega : (P_lg (mem (a + 4)) x k).1 ≤ 16)
      have b4 := ja_mulb b1.2.1 b1.2.2 (by omega : 0 ≤ (k : Int) + 3) (by omega : (k : Int) + 3 ≤ 17)
      refine r_iload F rfl dX4_bestLag_12 rfl ?_
      refine r_iload_n F rfl rfl dX4_bestLag_14 rfl ?_
      refine r_icmp_gt F (tgt := 70) ⟨by omega, by omega⟩ ⟨by omega, by omega⟩ dX4_bestLag_15 rfl (by decide) (fun h_15 => ?_) (fun h_15 => ?_)
      ·
        refine r_iload_n F rfl rfl dX4_bestLag_70 rfl ?_
        exact r_iret F Rt dX4_bestLag_71 (by decide) ⟨by rw [show (m - 2).toNat = k by omega], rfl, rfl, rfl⟩
      ·
        exfalso; omega
    | succ d ih =>
      intro k hk
      have b1 := P_lg_in (ex := x) hg k (by omega)
      have b2 := P_dif_in hg (k + 3) (k + 3)
      have b3 := ja_mulb b2.1 (by omega : P_dif (mem (a + 4)) (k + 3) (k + 3) ≤ 3400) (by omega : 0 ≤ (P_lg (mem (a + 4)) x k).1) (by omega : (P_lg (mem (a + 4)) x k).1 ≤ 16)
      have b4 := ja_mulb b1.2.1 b1.2.2 (by omega : 0 ≤ (k : Int) + 3) (by omega : (k : Int) + 3 ≤ 17)
      refine r_iload F rfl dX4_bestLag_12 rfl ?_
      refine r_iload_n F rfl rfl dX4_bestLag_14 rfl ?_
      refine r_icmp_gt F (tgt := 70) ⟨by omega, by omega⟩ ⟨by omega, by omega⟩ dX4_bestLag_15 rfl (by decide) (fun h_15 => ?_) (fun h_15 => ?_)
      ·
        exfalso; omega
      ·
        refine r_aload_n F rfl rfl dX4_bestLag_18 rfl ?_
        refine r_iload F rfl dX4_bestLag_19 rfl ?_
        refine r_callV F G (c_X4_differences _ _ _ _ hP hg ⟨by omega, by omega⟩) v_X4_74 rfl (hP.1) rfl (by decide) (by decide) (Nat.le_of_ble_eq_true rfl) rfl dX4_bestLag_21 rfl (fun v lay' mem' n' hp => ?_)
        obtain ⟨q1, q2, q3, q4⟩ := hp
        subst q1; subst q2; subst q3; subst q4
        rw [show ((k : Int) + 3).toNat = k + 3 by omega]
        refine r_ist6 F (by decide) rfl dX4_bestLag_24 rfl ?_
        refine r_iload_n F rfl rfl dX4_bestLag_26 rfl ?_
        refine r_if_eq F (tgt := 45) ⟨by omega, by omega⟩ dX4_bestLag_27 rfl (by decide) (fun h_27 => ?_) (fun h_27 => ?_)
        ·
          refine r_iload F rfl dX4_bestLag_45 rfl ?_
          refine r_iload F rfl dX4_bestLag_47 rfl ?_
          have b5 := ja_tdiv_in (a := P_dif (mem (a + 4)) (k + 3) (k + 3)) (b := (k : Int) + 3) ⟨by omega, by omega⟩ (by omega)
          rw [Int.tdiv_eq_ediv_of_nonneg b2.1] at b5
          refine r_idivP F ⟨by omega, by omega⟩ ⟨by omega, by omega⟩ (by omega) (by omega) dX4_bestLag_49 rfl ?_
          refine r_iload F rfl dX4_bestLag_50 rfl ?_
          refine r_iload_n F rfl rfl dX4_bestLag_52 rfl ?_
          have b6 := ja_tdiv_in (a := (P_lg (mem (a + 4)) x k).2) (b := (P_lg (mem (a + 4)) x k).1) ⟨by omega, by omega⟩ (by omega)
          rw [Int.tdiv_eq_ediv_of_nonneg b1.2.1] at b6
          refine r_idivP F ⟨by omega, by omega⟩ ⟨by omega, by omega⟩ (by omega) (by omega) dX4_bestLag_53 rfl ?_
          refine r_icmp_ge F (tgt := 64) b5 b6 dX4_bestLag_54 rfl (by decide) (fun h_54 => ?_) (fun h_54 => ?_)
          ·
            refine r_inc5 F (by decide) rfl dX4_bestLag_64 rfl ?_
            refine r_goto F (tgt := 12) dX4_bestLag_67 (by decide) ?_
            rw [show (k : Int) + 3 + 1 = ((k + 1 : Nat) : Int) + 3 by omega]
            refine r_msk [true, true, true, true, true, true, false] rfl ?_
            have h0 := ih (k + 1) (by omega)
            first
              | (rw [P_lg_a h_27 h_39] at h0; exact h0)
              | (rw [P_lg_b h_27 h_39] at h0; exact h0)
              | (rw [P_lg_c h_27 h_54] at h0; exact h0)
              | (rw [P_lg_d h_27 h_54] at h0; exact h0)
          ·
            refine r_iload F rfl dX4_bestLag_57 rfl ?_
            refine r_ist3 F (by decide) rfl dX4_bestLag_59 rfl ?_
            refine r_iload F rfl dX4_bestLag_60 rfl ?_
            refine r_ist4 F (by decide) rfl dX4_bestLag_62 rfl ?_
            refine r_inc5 F (by decide) rfl dX4_bestLag_64 rfl ?_
            refine r_goto F (tgt := 12) dX4_bestLag_67 (by decide) ?_
            rw [show (k : Int) + 3 + 1 = ((k + 1 : Nat) : Int) + 3 by omega]
            refine r_msk [true, true, true, true, true, true, false] rfl ?_
            have h0 := ih (k + 1) (by omega)
            first
              | (rw [P_lg_a h_27 h_39] at h0; exact h0)
              | (rw [P_lg_b h_27 h_39] at h0; exact h0)
              | (rw [P_lg_c h_27 h_54] at h0; exact h0)
              | (rw [P_lg_d h_27 h_54] at h0; exact h0)
        ·
          refine r_iload F rfl dX4_bestLag_30 rfl ?_
          refine r_iload_n F rfl rfl dX4_bestLag_32 rfl ?_
          refine r_imul F dX4_bestLag_33 rfl ?_
          refine r_iload F rfl dX4_bestLag_34 rfl ?_
          refine r_iload F rfl dX4_bestLag_36 rfl ?_
          refine r_imul F dX4_bestLag_38 rfl ?_
          refine r_icmp_ge F (tgt := 64) ⟨by omega, by omega⟩ ⟨by omega, by omega⟩ dX4_bestLag_39 rfl (by decide) (fun h_39 => ?_) (fun h_39 => ?_)
          ·
            refine r_inc5 F (by decide) rfl dX4_bestLag_64 rfl ?_
            refine r_goto F (tgt := 12) dX4_bestLag_67 (by decide) ?_
            rw [show (k : Int) + 3 + 1 = ((k + 1 : Nat) : Int) + 3 by omega]
            refine r_msk [true, true, true, true, true, true, false] rfl ?_
            have h0 := ih (k + 1) (by omega)
            first
              | (rw [P_lg_a h_27 h_39] at h0; exact h0)
              | (rw [P_lg_b h_27 h_39] at h0; exact h0)
              | (rw [P_lg_c h_27 h_54] at h0; exact h0)
              | (rw [P_lg_d h_27 h_54] at h0; exact h0)
          ·
            refine r_goto F (tgt := 57) dX4_bestLag_42 (by decide) ?_
            refine r_iload F rfl dX4_bestLag_57 rfl ?_
            refine r_ist3 F (by decide) rfl dX4_bestLag_59 rfl ?_
            refine r_iload F rfl dX4_bestLag_60 rfl ?_
            refine r_ist4 F (by decide) rfl dX4_bestLag_62 rfl ?_
            refine r_inc5 F (by decide) rfl dX4_bestLag_64 rfl ?_
            refine r_goto F (tgt := 12) dX4_bestLag_67 (by decide) ?_
            rw [show (k : Int) + 3 + 1 = ((k + 1 : Nat) : Int) + 3 by omega]
            refine r_msk [true, true, true, true, true, true, false] rfl ?_
            have h0 := ih (k + 1) (by omega)
            first
              | (rw [P_lg_a h_27 h_39] at h0; exact h0)
              | (rw [P_lg_b h_27 h_39] at h0; exact h0)
              | (rw [P_lg_c h_27 h_54] at h0; exact h0)
              | (rw [P_lg_d h_27 h_54] at h0; exact h0)
  exact loop (m - 2).toNat 0 (by omega)
abbrev rm_X4_faded : Room := { frames := 0, cells := 0, slots := 0, locals := 0 }
set_option maxRecDepth 100000 in
set_option maxHeartbeats 4000000 in
theorem c_X4_faded (l : Launch) (D : va_G) (cA : Nat → ClassId) (B : Nat) {lay : ja_Y} {mem : ja_M} {n : Nat} {x g : Int} (hx : ja_sp x) (hg : 0 ≤ g ∧ g ≤ 100000) : ja_Mt l D cA B yX4_faded cX4_faded 4 (some .int) rm_X4_faded [.int (ja_I x), .int (ja_I g)] lay mem n (ja_rd lay mem n (some (.int (ja_I (P_fd g.toNat x))))) := by
  refine ja_enter [some (.int (ja_I x)), some (.int (ja_I g)), none, none] (by decide) (Nat.le_of_ble_eq_true rfl) (fun q hq => hq) (fun C F Rt G hnm => ?_)
  refine r_iload_n F rfl rfl dX4_faded_0 rfl ?_
  refine r_ist2 F (by decide) rfl dX4_faded_1 rfl ?_
  refine r_iconst F dX4_faded_2 rfl ?_
  refine r_ist3 F (by decide) rfl dX4_faded_3 rfl ?_
  have loop : ∀ (d k : Nat), k + d = g.toNat → ∀ y : Int, ja_sp y → P_fd d y = P_fd g.toNat x → ja_W C 0 0 lay mem n 4 [some (.int (ja_I x)), some (.int (ja_I g)), some (.int (ja_I y)), some (.int (ja_I (k : Int)))] [] := by
    intro d
    induction d with
    | zero =>
      intro k hk y hy hy2
      obtain ⟨u1, u2⟩ := id hy
      refine r_iload_n F rfl rfl dX4_faded_4 rfl ?_
      refine r_iload_n F rfl rfl dX4_faded_5 rfl ?_
      refine r_icmp_ge F (tgt := 25) ⟨by omega, by omega⟩ ⟨by omega, by omega⟩ dX4_faded_6 rfl (by decide) (fun h_6 => ?_) (fun h_6 => ?_)
      ·
        refine r_iload_n F rfl rfl dX4_faded_25 rfl ?_
        exact r_iret F Rt dX4_faded_26 (by decide) ⟨by rw [← hy2]; rfl, rfl, rfl, rfl⟩
      ·
        exfalso; omega
    | succ d ih =>
      intro k hk y hy hy2
      obtain ⟨u1, u2⟩ := id hy
      refine r_iload_n F rfl rfl dX4_faded_4 rfl ?_
      refine r_iload_n F rfl rfl dX4_faded_5 rfl ?_
      refine r_icmp_ge F (tgt := 25) ⟨by omega, by omega⟩ ⟨by omega, by omega⟩ dX4_faded_6 rfl (by decide) (fun h_6 => ?_) (fun h_6 => ?_)
      ·
        exfalso; omega
      ·
        refine r_iload_n F rfl rfl dX4_faded_9 rfl ?_
        refine r_if_eq F (tgt := 25) ⟨by omega, by omega⟩ dX4_faded_10 rfl (by decide) (fun h_10 => ?_) (fun h_10 => ?_)
        ·
          refine r_iload_n F rfl rfl dX4_faded_25 rfl ?_
          exact r_iret F Rt dX4_faded_26 (by decide) ⟨by rw [← hy2]; simp only [P_fd]; rw [if_pos h_10], rfl, rfl, rfl⟩
        ·
          refine r_iload_n F rfl rfl dX4_faded_13 rfl ?_
          refine r_iconst F dX4_faded_14 rfl ?_
          refine r_imul F dX4_faded_15 rfl ?_
          refine r_iconst F dX4_faded_16 rfl ?_
          refine r_idiv F ⟨by omega, by omega⟩ ⟨by omega, by omega⟩ (by omega) dX4_faded_17 rfl ?_
          refine r_ist2 F (by decide) rfl dX4_faded_18 rfl ?_
          refine r_inc3 F (by decide) rfl dX4_faded_19 rfl ?_
          refine r_goto F (tgt := 4) dX4_faded_22 (by decide) ?_
          exact ih (k + 1) (by omega) _ (P_fd1 hy) (by rw [← hy2]; simp only [P_fd]; rw [if_neg h_10])
  exact loop g.toNat 0 (by omega) x hx rfl
abbrev rm_X4_loadWave : Room := { frames := 1, cells := 0, slots := 0, locals := 23 }
set_option maxRecDepth 100000 in
set_option maxHeartbeats 4000000 in
theorem c_X4_loadWave (l : Launch) (D : va_G) (cA : Nat → ClassId) (B : Nat) {lay : ja_Y} {mem : ja_M} {n : Nat} {a s : Nat} {f : Int} (hP : ja_LP lay a) (hS : ja_LS lay s) (hO : ja_SO mem s) (hf : 0 ≤ f ∧ f ≤ 1000) (hsa : s + 1 ≤ a) : ja_Mt l D cA B yX4_loadWave cX4_loadWave 4 none rm_X4_loadWave [.ref a, .ref s, .int (ja_I f)] lay mem n (ja_rd lay (ja_rw mem (a + 4) (P_ldr mem s f (mem (a + 4)) (mem s 0).toNat)) n (none)) := by
  refine ja_enter [some (.ref a), some (.ref s), some (.int (ja_I f)), none] (by decide) (Nat.le_of_ble_eq_true rfl) (fun q hq => hq) (fun C F Rt G hnm => ?_)
  have hO0 := hO.1
  refine r_iconst F dX4_loadWave_0 rfl ?_
  refine r_ist3 F (by decide) rfl dX4_loadWave_1 rfl ?_
  have loop : ∀ (d k : Nat), k + d = (mem s 0).toNat → ja_W C 0 0 lay (ja_rw mem (a + 4) (P_ldr mem s f (mem (a + 4)) k)) n 2 [some (.ref a), some (.ref s), some (.int (ja_I f)), some (.int (ja_I (k : Int)))] [] := by
    intro d
    induction d with
    | zero =>
      intro k hk
      refine r_iload_n F rfl rfl dX4_loadWave_2 rfl ?_
      refine r_aload_n F rfl rfl dX4_loadWave_3 rfl ?_
      refine r_getI F f_X4_43 hS rfl dX4_loadWave_4 rfl ?_
      refine r_eqz (z := mem s 0) (by rw [ja_rw_n (by omega)]) ?_
      refine r_icmp_ge F (tgt := 28) ⟨by omega, by omega⟩ ⟨by omega, by omega⟩ dX4_loadWave_7 rfl (by decide) (fun h_7 => ?_) (fun h_7 => ?_)
      ·
        exact r_vret F Rt dX4_loadWave_28 (by decide) ⟨rfl, rfl, by rw [show (mem s 0).toNat = k by omega], rfl⟩
      ·
        exfalso; omega
    | succ d ih =>
      intro k hk
      refine r_iload_n F rfl rfl dX4_loadWave_2 rfl ?_
      refine r_aload_n F rfl rfl dX4_loadWave_3 rfl ?_
      refine r_getI F f_X4_43 hS rfl dX4_loadWave_4 rfl ?_
      refine r_eqz (z := mem s 0) (by rw [ja_rw_n (by omega)]) ?_
      refine r_icmp_ge F (tgt := 28) ⟨by omega, by omega⟩ ⟨by omega, by omega⟩ dX4_loadWave_7 rfl (by decide) (fun h_7 => ?_) (fun h_7 => ?_)
      ·
        exfalso; omega
      ·
        refine r_aload_n F rfl rfl dX4_loadWave_10 rfl ?_
        refine r_getR F f_X4_21 (hP.1) rfl dX4_loadWave_11 rfl ?_
        refine r_iload_n F rfl rfl dX4_loadWave_14 rfl ?_
        refine r_aload_n F rfl rfl dX4_loadWave_15 rfl ?_
        refine r_iload_n F rfl rfl dX4_loadWave_16 rfl ?_
        refine r_iload_n F rfl rfl dX4_loadWave_17 rfl ?_
        refine r_callV F G (c_X6_waveAt _ _ _ _ hS (ja_SO_c (ja_rw_n (by omega)) hO) ⟨by omega, by omega⟩ ⟨by omega, by omega⟩) v_X4_46 rfl hS rfl (by decide) (by decide) (Nat.le_of_ble_eq_true rfl) rfl dX4_loadWave_18 rfl (fun v lay' mem' n' hp => ?_)
        obtain ⟨q1, q2, q3, q4⟩ := hp
        subst q1; subst q2; subst q3; subst q4
        rw [show ja_wave (ja_rw mem (a + 4) (P_ldr mem s f (mem (a + 4)) k)) s f (k : Int) = ja_wave mem s f (k : Int) by unfold ja_wave; rw [ja_rw_n (by omega)]]
        refine r_iast F (ja_LP_4 hP) (by omega) (by omega) (by decide) dX4_loadWave_21 rfl ?_
        refine r_inc3 F (by decide) rfl dX4_loadWave_22 rfl ?_
        refine r_goto F (tgt := 2) dX4_loadWave_25 (by decide) ?_
        refine r_mem (mem' := ja_rw mem (a + 4) (P_ldr mem s f (mem (a + 4)) (k + 1))) (by rw [ja_rw_up]; rfl) ?_
        exact ih (k + 1) (by omega)
  have h0 := loop (mem s 0).toNat 0 (by omega)
  rw [show ja_rw mem (a + 4) (P_ldr mem s f (mem (a + 4)) 0) = mem from ja_rw_self mem (a + 4)] at h0
  exact h0
abbrev rm_X4_begin : Room := { frames := 0, cells := 0, slots := 0, locals := 0 }
set_option maxRecDepth 100000 in
set_option maxHeartbeats 4000000 in
theorem c_X4_begin (l : Launch) (D : va_G) (cA : Nat → ClassId) (B : Nat) {lay : ja_Y} {mem : ja_M} {n : Nat} {a : Nat} {k : Int} (hP : ja_LP lay a) (h6 : 0 ≤ mem a 6 ∧ mem a 6 ≤ 1000) : ja_Mt l D cA B yX4_begin cX4_begin 2 none rm_X4_begin [.ref a, .int (ja_I k)] lay mem n (ja_rd lay (P_beg mem a k) n (none)) := by
  refine ja_enter [some (.ref a), some (.int (ja_I k))] (by decide) (Nat.le_of_ble_eq_true rfl) (fun q hq => hq) (fun C F Rt G hnm => ?_)
  refine r_aload_n F rfl rfl dX4_begin_0 rfl ?_
  refine r_getR F f_X4_18 (hP.1) rfl dX4_begin_1 rfl ?_
  refine r_aload_n F rfl rfl dX4_begin_4 rfl ?_
  refine r_getI F f_X4_40 (hP.1) rfl dX4_begin_5 rfl ?_
  refine r_bipush F (by decide) dX4_begin_8 rfl ?_
  refine r_iremP F ⟨by omega, by omega⟩ ⟨by omega, by omega⟩ (by omega) (by omega) dX4_begin_10 rfl ?_
  refine r_iload_n F rfl rfl dX4_begin_11 rfl ?_
  refine r_iast F (ja_LP_3 hP) (by omega) (by omega) (by decide) dX4_begin_12 rfl ?_
  refine r_aload_n F rfl rfl dX4_begin_13 rfl ?_
  refine r_dup F rfl dX4_begin_14 rfl ?_
  refine r_getI F f_X4_40 (hP.1) rfl dX4_begin_15 rfl ?_
  refine r_eqz (z := mem a 6) (by simp [ja_up]) ?_
  refine r_iconst F dX4_begin_18 rfl ?_
  refine r_iadd F dX4_begin_19 rfl ?_
  refine r_putI F f_X4_40 (hP.1) rfl dX4_begin_20 rfl ?_
  refine r_aload_n F rfl rfl dX4_begin_23 rfl ?_
  refine r_iconst F dX4_begin_24 rfl ?_
  refine r_putI F f_X4_30 (hP.1) rfl dX4_begin_25 rfl ?_
  refine r_aload_n F rfl rfl dX4_begin_28 rfl ?_
  refine r_iconst F dX4_begin_29 rfl ?_
  refine r_putI F f_X4_34 (hP.1) rfl dX4_begin_30 rfl ?_
  exact r_vret F Rt dX4_begin_33 (by decide) ⟨rfl, rfl, rfl, rfl⟩
abbrev rm_X4_putOut : Room := { frames := 0, cells := 0, slots := 0, locals := 0 }
set_option maxRecDepth 100000 in
set_option maxHeartbeats 4000000 in
theorem c_X4_putOut (l : Launch) (D : va_G) (cA : Nat → ClassId) (B : Nat) {lay : ja_Y} {mem : ja_M} {n : Nat} {a : Nat} (hP : ja_LP lay a) (hO : ja_PO mem a) : ja_Mt l D cA B yX4_putOut cX4_putOut 1 none rm_X4_putOut [.ref a] lay mem n (ja_rd lay (P_out mem a) n (none)) := by
  refine ja_enter [some (.ref a)] (by decide) (Nat.le_of_ble_eq_true rfl) (fun q hq => hq) (fun C F Rt G hnm => ?_)
  obtain ⟨h12, h4, h6, -⟩ := hO
  refine r_aload_n F rfl rfl dX4_putOut_0 rfl ?_
  refine r_getI F f_X4_34 (hP.1) rfl dX4_putOut_1 rfl ?_
  refine r_aload_n F rfl rfl dX4_putOut_4 rfl ?_
  refine r_getI F f_X4_30 (hP.1) rfl dX4_putOut_5 rfl ?_
  refine r_icmp_ge F (tgt := 53) ⟨by omega, by omega⟩ ⟨by omega, by omega⟩ dX4_putOut_8 rfl (by decide) (fun h_8 => ?_) (fun h_8 => ?_)
  ·
    exact r_vret F Rt dX4_putOut_53 (by decide) ⟨rfl, rfl, by unfold P_out; first | rw [if_pos (by omega)] | rw [if_neg (by omega)], rfl⟩
  ·
    refine r_aload_n F rfl rfl dX4_putOut_11 rfl ?_
    refine r_getR F f_X4_15 (hP.1) rfl dX4_putOut_12 rfl ?_
    refine r_aload_n F rfl rfl dX4_putOut_15 rfl ?_
    refine r_getI F f_X4_37 (hP.1) rfl dX4_putOut_16 rfl ?_
    refine r_sipush F (by decide) dX4_putOut_19 rfl ?_
    refine r_iremP F ⟨by omega, by omega⟩ ⟨by omega, by omega⟩ (by omega) (by omega) dX4_putOut_22 rfl ?_
    refine r_aload_n F rfl rfl dX4_putOut_23 rfl ?_
    refine r_getR F f_X4_11 (hP.1) rfl dX4_putOut_24 rfl ?_
    refine r_aload_n F rfl rfl dX4_putOut_27 rfl ?_
    refine r_getI F f_X4_34 (hP.1) rfl dX4_putOut_28 rfl ?_
    refine r_iald F (ja_LP_1 hP) (by omega) (by omega) (by decide) dX4_putOut_31 rfl ?_
    refine r_iast F (ja_LP_2 hP) (by omega) (by omega) (by decide) dX4_putOut_32 rfl ?_
    refine r_aload_n F rfl rfl dX4_putOut_33 rfl ?_
    refine r_dup F rfl dX4_putOut_34 rfl ?_
    refine r_getI F f_X4_37 (hP.1) rfl dX4_putOut_35 rfl ?_
    refine r_eqz (z := mem a 4) (by simp [ja_up]) ?_
    refine r_iconst F dX4_putOut_38 rfl ?_
    refine r_iadd F dX4_putOut_39 rfl ?_
    refine r_putI F f_X4_37 (hP.1) rfl dX4_putOut_40 rfl ?_
    refine r_aload_n F rfl rfl dX4_putOut_43 rfl ?_
    refine r_dup F rfl dX4_putOut_44 rfl ?_
    refine r_getI F f_X4_34 (hP.1) rfl dX4_putOut_45 rfl ?_
    refine r_eqz (z := mem a 2) (by simp [ja_up]) ?_
    refine r_iconst F dX4_putOut_48 rfl ?_
    refine r_iadd F dX4_putOut_49 rfl ?_
    refine r_putI F f_X4_34 (hP.1) rfl dX4_putOut_50 rfl ?_
    exact r_vret F Rt dX4_putOut_53 (by decide) ⟨rfl, rfl, by unfold P_out; first | rw [if_pos (by omega)] | rw [if_neg (by omega)], rfl⟩
abbrev rm_X4_putCompressed : Room := { frames := 3, cells := 0, slots := 0, locals := 70 }
set_option maxRecDepth 100000 in
set_option maxHeartbeats 4000000 in
theorem c_X4_putCompressed (l : Launch) (D : va_G) (cA : Nat → ClassId) (B : Nat) {lay : ja_Y} {mem : ja_M} {n : Nat} {a : Nat} {m : Int} (hP : ja_LP lay a) (hO : ja_PO mem a) (hm : 4 ≤ m ∧ m ≤ 16) : ja_Mt l D cA B yX4_putCompressed cX4_putCompressed 4 none rm_X4_putCompressed [.ref a, .int (ja_I m)] lay mem n (ja_rd lay (P_cpr mem a m) n (none)) := by
  refine ja_enter [some (.ref a), some (.int (ja_I m)), none, none] (by decide) (Nat.le_of_ble_eq_true rfl) (fun q hq => hq) (fun C F Rt G hnm => ?_)
  have hO2 := hO
  obtain ⟨h12, h4, h6, b1, b2, b4⟩ := hO2
  have c1 := P_lg_in (ex := 1) b4 (m / 2 - 2).toNat (by omega)
  have e4 : ∀ (M : ja_M) (h : Nat → Int) (k : Nat), P_pts M a h k (a + 4) = M (a + 4) := fun M h k => P_pts_o ⟨by omega, by omega⟩ k
  refine r_aload_n F rfl rfl dX4_putCompressed_0 rfl ?_
  refine r_iload_n F rfl rfl dX4_putCompressed_1 rfl ?_
  refine r_iconst F dX4_putCompressed_2 rfl ?_
  refine r_idivP F ⟨by omega, by omega⟩ ⟨by omega, by omega⟩ (by omega) (by omega) dX4_putCompressed_3 rfl ?_
  refine r_iconst F dX4_putCompressed_4 rfl ?_
  refine r_callV F G (c_X4_bestLag _ _ _ _ hP b4 ⟨by omega, by omega⟩ ⟨by omega, by omega⟩) v_X4_54 rfl (hP.1) rfl (by decide) (by decide) (Nat.le_of_ble_eq_true rfl) rfl dX4_putCompressed_5 rfl (fun v lay' mem' n' hp => ?_)
  obtain ⟨q1, q2, q3, q4⟩ := hp
  subst q1; subst q2; subst q3; subst q4
  refine r_ist2 F (by decide) rfl dX4_putCompressed_8 rfl ?_
  generalize hlg : (P_lg (mem (a + 4)) 1 (m / 2 - 2).toNat).1 = lg at *
  refine r_iconst F dX4_putCompressed_9 rfl ?_
  refine r_ist3 F (by decide) rfl dX4_putCompressed_10 rfl ?_
  have loop : ∀ (d k : Nat), k + d = lg.toNat → ja_W C 0 0 lay (P_pts mem a (fun i => P_mx (mem (a + 4) i) (mem (a + 4) (i + lg.toNat)) lg i) k) n 11 [some (.ref a), some (.int (ja_I m)), some (.int (ja_I lg)), some (.int (ja_I (k : Int)))] [] := by
    intro d
    induction d with
    | zero =>
      intro k hk
      refine r_iload_n F rfl rfl dX4_putCompressed_11 rfl ?_
      refine r_iload_n F rfl rfl dX4_putCompressed_12 rfl ?_
      refine r_icmp_ge F (tgt := 49) ⟨by omega, by omega⟩ ⟨by omega, by omega⟩ dX4_putCompressed_13 rfl (by decide) (fun h_13 => ?_) (fun h_13 => ?_)
      ·
        refine r_aload_n F rfl rfl dX4_putCompressed_49 rfl ?_
        refine r_iconst F dX4_putCompressed_50 rfl ?_
        refine r_iload_n F rfl rfl dX4_putCompressed_51 rfl ?_
        refine r_imul F dX4_putCompressed_52 rfl ?_
        refine r_iload_n F rfl rfl dX4_putCompressed_53 rfl ?_
        refine r_callV F G (c_X4_putSource _ _ _ _ hP (P_pts_r (by omega) _) ⟨by omega, by omega⟩ ⟨by omega, by omega⟩) v_X4_50 rfl (hP.1) rfl (by decide) (by decide) (Nat.le_of_ble_eq_true rfl) rfl dX4_putCompressed_54 rfl (fun v lay' mem' n' hp => ?_)
        obtain ⟨q1, q2, q3, q4⟩ := hp
        subst q1; subst q2; subst q3; subst q4
        exact r_vret F Rt dX4_putCompressed_57 (by decide) ⟨rfl, rfl, by simp only [P_cpr, hlg, show lg.toNat = k by omega, e4], rfl⟩
      ·
        exfalso; omega
    | succ d ih =>
      intro k hk
      refine r_iload_n F rfl rfl dX4_putCompressed_11 rfl ?_
      refine r_iload_n F rfl rfl dX4_putCompressed_12 rfl ?_
      refine r_icmp_ge F (tgt := 49) ⟨by omega, by omega⟩ ⟨by omega, by omega⟩ dX4_putCompressed_13 rfl (by decide) (fun h_13 => ?_) (fun h_13 => ?_)
      ·
        exfalso; omega
      ·
        refine r_aload_n F rfl rfl dX4_putCompressed_16 rfl ?_
        refine r_aload_n F rfl rfl dX4_putCompressed_17 rfl ?_
        refine r_getR F f_X4_21 (hP.1) rfl dX4_putCompressed_18 rfl ?_
        refine r_iload_n F rfl rfl dX4_putCompressed_21 rfl ?_
        refine r_iald F (ja_LP_4 hP) (by omega) (by omega) (by decide) dX4_putCompressed_22 rfl ?_
        refine r_eqz (z := mem (a + 4) k) (by rw [P_pts_o ⟨by omega, by omega⟩, ja_nat]) ?_
        refine r_iload_n F rfl rfl dX4_putCompressed_23 rfl ?_
        refine r_iload_n F rfl rfl dX4_putCompressed_24 rfl ?_
        refine r_isub F dX4_putCompressed_25 rfl ?_
        refine r_imul F dX4_putCompressed_26 rfl ?_
        refine r_aload_n F rfl rfl dX4_putCompressed_27 rfl ?_
        refine r_getR F f_X4_21 (hP.1) rfl dX4_putCompressed_28 rfl ?_
        refine r_iload_n F rfl rfl dX4_putCompressed_31 rfl ?_
        refine r_iload_n F rfl rfl dX4_putCompressed_32 rfl ?_
        refine r_iadd F dX4_putCompressed_33 rfl ?_
        refine r_iald F (ja_LP_4 hP) (by omega) (by omega) (by decide) dX4_putCompressed_34 rfl ?_
        refine r_eqz (z := mem (a + 4) (k + lg.toNat)) (by rw [P_pts_o ⟨by omega, by omega⟩]; congr 1; omega) ?_
        refine r_iload_n F rfl rfl dX4_putCompressed_35 rfl ?_
        refine r_imul F dX4_putCompressed_36 rfl ?_
        refine r_iadd F dX4_putCompressed_37 rfl ?_
        refine r_iload_n F rfl rfl dX4_putCompressed_38 rfl ?_
        have q1 := b4 k
        have q2 := b4 (k + lg.toNat)
        refine r_idiv F ⟨by have := P_mxr q1 q2 (i := (k : Int)) (p := lg) (by omega) (by omega); omega, by have := P_mxr q1 q2 (i := (k : Int)) (p := lg) (by omega) (by omega); omega⟩ ⟨by omega, by omega⟩ (by omega) dX4_putCompressed_39 rfl ?_
        refine r_callV F G (c_X4_put _ _ _ _ hP (P_pts_r (by omega) k)) v_X4_58 rfl (hP.1) rfl (by decide) (by decide) (Nat.le_of_ble_eq_true rfl) rfl dX4_putCompressed_40 rfl (fun v lay' mem' n' hp => ?_)
        obtain ⟨q1, q2, q3, q4⟩ := hp
        subst q1; subst q2; subst q3; subst q4
        refine r_inc3 F (by decide) rfl dX4_putCompressed_43 rfl ?_
        refine r_goto F (tgt := 11) dX4_putCompressed_46 (by decide) ?_
        exact ih (k + 1) (by omega)
  exact loop lg.toNat 0 (by omega)
abbrev rm_X4_putStretched : Room := { frames := 3, cells := 0, slots := 0, locals := 70 }
set_option maxRecDepth 100000 in
set_option maxHeartbeats 4000000 in
theorem c_X4_putStretched (l : Launch) (D : va_G) (cA : Nat → ClassId) (B : Nat) {lay : ja_Y} {mem : ja_M} {n : Nat} {a : Nat} {m : Int} (hP : ja_LP lay a) (hO : ja_PO mem a) (hm : 4 ≤ m ∧ m ≤ 16) : ja_Mt l D cA B yX4_putStretched cX4_putStretched 4 none rm_X4_putStretched [.ref a, .int (ja_I m)] lay mem n (ja_rd lay (P_str mem a m) n (none)) := by
  refine ja_enter [some (.ref a), some (.int (ja_I m)), none, none] (by decide) (Nat.le_of_ble_eq_true rfl) (fun q hq => hq) (fun C F Rt G hnm => ?_)
  have hO2 := hO
  obtain ⟨h12, h4, h6, b1, b2, b4⟩ := hO2
  have c1 := P_lg_in (ex := 1) b4 (m / 2 - 2).toNat (by omega)
  have e4 : ∀ (M : ja_M) (h : Nat → Int) (k : Nat), P_pts M a h k (a + 4) = M (a + 4) := fun M h k => P_pts_o ⟨by omega, by omega⟩ k
  refine r_aload_n F rfl rfl dX4_putStretched_0 rfl ?_
  refine r_iload_n F rfl rfl dX4_putStretched_1 rfl ?_
  refine r_iconst F dX4_putStretched_2 rfl ?_
  refine r_idivP F ⟨by omega, by omega⟩ ⟨by omega, by omega⟩ (by omega) (by omega) dX4_putStretched_3 rfl ?_
  refine r_iconst F dX4_putStretched_4 rfl ?_
  refine r_callV F G (c_X4_bestLag _ _ _ _ hP b4 ⟨by omega, by omega⟩ ⟨by omega, by omega⟩) v_X4_54 rfl (hP.1) rfl (by decide) (by decide) (Nat.le_of_ble_eq_true rfl) rfl dX4_putStretched_5 rfl (fun v lay' mem' n' hp => ?_)
  obtain ⟨q1, q2, q3, q4⟩ := hp
  subst q1; subst q2; subst q3; subst q4
  refine r_ist2 F (by decide) rfl dX4_putStretched_8 rfl ?_
  generalize hlg : (P_lg (mem (a + 4)) 1 (m / 2 - 2).toNat).1 = lg at *
  refine r_aload_n F rfl rfl dX4_putStretched_9 rfl ?_
  refine r_iconst F dX4_putStretched_10 rfl ?_
  refine r_iload_n F rfl rfl dX4_putStretched_11 rfl ?_
  refine r_callV F G (c_X4_putSource _ _ _ _ hP ⟨by omega, by omega⟩ ⟨by omega, by omega⟩ ⟨by omega, by omega⟩) v_X4_50 rfl (hP.1) rfl (by decide) (by decide) (Nat.le_of_ble_eq_true rfl) rfl dX4_putStretched_12 rfl (fun v lay' mem' n' hp => ?_)
  obtain ⟨q1, q2, q3, q4⟩ := hp
  subst q1; subst q2; subst q3; subst q4
  refine r_mem (mem' := P_pts mem a (fun i => mem (a + 4) (0 + i)) lg.toNat) (by rw [show (lg - 0).toNat = lg.toNat by omega]; rfl) ?_
  refine r_iconst F dX4_putStretched_15 rfl ?_
  refine r_ist3 F (by decide) rfl dX4_putStretched_16 rfl ?_
  have loop : ∀ (d k : Nat), k + d = lg.toNat → ja_W C 0 0 lay (P_pts (P_pts mem a (fun i => mem (a + 4) (0 + i)) lg.toNat) a (fun i => P_mx (mem (a + 4) (i + lg.toNat)) (mem (a + 4) i) lg i) k) n 17 [some (.ref a), some (.int (ja_I m)), some (.int (ja_I lg)), some (.int (ja_I (k : Int)))] [] := by
    intro d
    induction d with
    | zero =>
      intro k hk
      refine r_iload_n F rfl rfl dX4_putStretched_17 rfl ?_
      refine r_iload_n F rfl rfl dX4_putStretched_18 rfl ?_
      refine r_icmp_ge F (tgt := 55) ⟨by omega, by omega⟩ ⟨by omega, by omega⟩ dX4_putStretched_19 rfl (by decide) (fun h_19 => ?_) (fun h_19 => ?_)
      ·
        refine r_aload_n F rfl rfl dX4_putStretched_55 rfl ?_
        refine r_iload_n F rfl rfl dX4_putStretched_56 rfl ?_
        refine r_iload_n F rfl rfl dX4_putStretched_57 rfl ?_
        refine r_callV F G (c_X4_putSource _ _ _ _ hP (P_pts_r (P_pts_r (by omega) _) _) ⟨by omega, by omega⟩ ⟨by omega, by omega⟩) v_X4_50 rfl (hP.1) rfl (by decide) (by decide) (Nat.le_of_ble_eq_true rfl) rfl dX4_putStretched_58 rfl (fun v lay' mem' n' hp => ?_)
        obtain ⟨q1, q2, q3, q4⟩ := hp
        subst q1; subst q2; subst q3; subst q4
        exact r_vret F Rt dX4_putStretched_61 (by decide) ⟨rfl, rfl, by simp only [P_str, hlg, show lg.toNat = k by omega, e4], rfl⟩
      ·
        exfalso; omega
    | succ d ih =>
      intro k hk
      refine r_iload_n F rfl rfl dX4_putStretched_17 rfl ?_
      refine r_iload_n F rfl rfl dX4_putStretched_18 rfl ?_
      refine r_icmp_ge F (tgt := 55) ⟨by omega, by omega⟩ ⟨by omega, by omega⟩ dX4_putStretched_19 rfl (by decide) (fun h_19 => ?_) (fun h_19 => ?_)
      ·
        exfalso; omega
      ·
        refine r_aload_n F rfl rfl dX4_putStretched_22 rfl ?_
        refine r_aload_n F rfl rfl dX4_putStretched_23 rfl ?_
        refine r_getR F f_X4_21 (hP.1) rfl dX4_putStretched_24 rfl ?_
        refine r_iload_n F rfl rfl dX4_putStretched_27 rfl ?_
        refine r_iload_n F rfl rfl dX4_putStretched_28 rfl ?_
        refine r_iadd F dX4_putStretched_29 rfl ?_
        refine r_iald F (ja_LP_4 hP) (by omega) (by omega) (by decide) dX4_putStretched_30 rfl ?_
        refine r_eqz (z := mem (a + 4) (k + lg.toNat)) (by rw [P_pts_o ⟨by omega, by omega⟩, P_pts_o ⟨by omega, by omega⟩]; congr 1; omega) ?_
        refine r_iload_n F rfl rfl dX4_putStretched_31 rfl ?_
        refine r_iload_n F rfl rfl dX4_putStretched_32 rfl ?_
        refine r_isub F dX4_putStretched_33 rfl ?_
        refine r_imul F dX4_putStretched_34 rfl ?_
        refine r_aload_n F rfl rfl dX4_putStretched_35 rfl ?_
        refine r_getR F f_X4_21 (hP.1) rfl dX4_putStretched_36 rfl ?_
        refine r_iload_n F rfl rfl dX4_putStretched_39 rfl ?_
        refine r_iald F (ja_LP_4 hP) (by omega) (by omega) (by decide) dX4_putStretched_40 rfl ?_
        refine r_eqz (z := mem (a + 4) k) (by rw [P_pts_o ⟨by omega, by omega⟩, P_pts_o ⟨by omega, by omega⟩, ja_nat]) ?_
        refine r_iload_n F rfl rfl dX4_putStretched_41 rfl ?_
        refine r_imul F dX4_putStretched_42 rfl ?_
        refine r_iadd F dX4_putStretched_43 rfl ?_
        refine r_iload_n F rfl rfl dX4_putStretched_44 rfl ?_
        have q2 := b4 k
        have q1 := b4 (k + lg.toNat)
        refine r_idiv F ⟨by have := P_mxr q1 q2 (i := (k : Int)) (p := lg) (by omega) (by omega); omega, by have := P_mxr q1 q2 (i := (k : Int)) (p := lg) (by omega) (by omega); omega⟩ ⟨by omega, by omega⟩ (by omega) dX4_putStretched_45 rfl ?_
        refine r_callV F G (c_X4_put _ _ _ _ hP (P_pts_r (P_pts_r (by omega) _) k)) v_X4_58 rfl (hP.1) rfl (by decide) (by decide) (Nat.le_of_ble_eq_true rfl) rfl dX4_putStretched_46 rfl (fun v lay' mem' n' hp => ?_)
        obtain ⟨q1, q2, q3, q4⟩ := hp
        subst q1; subst q2; subst q3; subst q4
        refine r_inc3 F (by decide) rfl dX4_putStretched_49 rfl ?_
        refine r_goto F (tgt := 17) dX4_putStretched_52 (by decide) ?_
        exact ih (k + 1) (by omega)
  exact loop lg.toNat 0 (by omega)
abbrev rm_X4_putConcealed : Room := { frames := 3, cells := 0, slots := 0, locals := 70 }
set_option maxRecDepth 100000 in
set_option maxHeartbeats 4000000 in
theorem c_X4_putConcealed (l : Launch) (D : va_G) (cA : Nat → ClassId) (B : Nat) {lay : ja_Y} {mem : ja_M} {n : Nat} {a : Nat} {m g : Int} (hP : ja_LP lay a) (hO : ja_PO mem a) (hm : 4 ≤ m ∧ m ≤ 16) (hg : 0 ≤ g ∧ g ≤ 100000) : ja_Mt l D cA B yX4_putConcealed cX4_putConcealed 6 none rm_X4_putConcealed [.ref a, .int (ja_I m), .int (ja_I g)] lay mem n (ja_rd lay (P_con mem a m g) n (none)) := by
  refine ja_enter [some (.ref a), some (.int (ja_I m)), some (.int (ja_I g)), none, none, none] (by decide) (Nat.le_of_ble_eq_true rfl) (fun q hq => hq) (fun C F Rt G hnm => ?_)
  have hO2 := hO
  obtain ⟨h12, h4, h6, b1, b2, b4⟩ := hO2
  have c0 : 0 ≤ P_pst mem a ∧ P_pst mem a ≤ 32 ∧ P_pst mem a ≤ mem a 4 := by unfold P_pst; split <;> omega
  have c1 := P_clg_in h4.1 b2 b4
  have c2 := P_srr_in b2 b4 (P_pst mem a).toNat
  refine r_aload_n F rfl rfl dX4_putConcealed_0 rfl ?_
  refine r_getI F f_X4_37 (hP.1) rfl dX4_putConcealed_1 rfl ?_
  refine r_bipush F (by decide) dX4_putConcealed_4 rfl ?_
  refine r_mmin F ⟨by omega, by omega⟩ ⟨by omega, by omega⟩ s_X4_62 (Nat.le_of_ble_eq_true rfl) (by decide) (by decide) (by decide) dX4_putConcealed_6 rfl ?_
  refine r_eqz (z := P_pst mem a) (by unfold P_pst; rfl) ?_
  refine r_ist3 F (by decide) rfl dX4_putConcealed_9 rfl ?_
  refine r_iconst F dX4_putConcealed_10 rfl ?_
  refine r_ist4 F (by decide) rfl dX4_putConcealed_11 rfl ?_
  have loop : ∀ (d k : Nat), k + d = (P_pst mem a).toNat → ja_W C 0 0 lay (ja_rw mem (a + 4) (P_srr mem a k)) n 13 [some (.ref a), some (.int (ja_I m)), some (.int (ja_I g)), some (.int (ja_I (P_pst mem a))), some (.int (ja_I (k : Int))), none] [] := by
    intro d
    induction d with
    | zero =>
      intro k hk
      refine r_iload F rfl dX4_putConcealed_13 rfl ?_
      refine r_iload_n F rfl rfl dX4_putConcealed_15 rfl ?_
      refine r_icmp_ge F (tgt := 40) ⟨by omega, by omega⟩ ⟨by omega, by omega⟩ dX4_putConcealed_16 rfl (by decide) (fun h_16 => ?_) (fun h_16 => ?_)
      ·
        rw [show k = (P_pst mem a).toNat by omega]
        refine r_iload_n F rfl rfl dX4_putConcealed_40 rfl ?_
        refine r_iconst F dX4_putConcealed_41 rfl ?_
        refine r_icmp_ge F (tgt := 49) ⟨by omega, by omega⟩ ⟨by omega, by omega⟩ dX4_putConcealed_42 rfl (by decide) (fun h_42 => ?_) (fun h_42 => ?_)
        ·
          refine r_aload_n F rfl rfl dX4_putConcealed_49 rfl ?_
          refine r_iload_n F rfl rfl dX4_putConcealed_50 rfl ?_
          refine r_iconst F dX4_putConcealed_51 rfl ?_
          refine r_idivP F ⟨by omega, by omega⟩ ⟨by omega, by omega⟩ (by omega) (by omega) dX4_putConcealed_52 rfl ?_
          refine r_iconst F dX4_putConcealed_53 rfl ?_
          refine r_callV F G (c_X4_bestLag _ _ _ _ hP (fun j => by rw [ja_rw_s]; exact c2 j) ⟨by omega, by omega⟩ ⟨by omega, by omega⟩) v_X4_54 rfl (hP.1) rfl (by decide) (by decide) (Nat.le_of_ble_eq_true rfl) rfl dX4_putConcealed_54 rfl (fun v lay' mem' n' hp => ?_)
          obtain ⟨q1, q2, q3, q4⟩ := hp
          subst q1; subst q2; subst q3; subst q4
          refine r_eqz (z := P_clg mem a) (by unfold P_clg; first | rw [if_pos (by omega)] | (rw [if_neg (by omega), ja_rw_s])) ?_
          refine r_ist4 F (by decide) rfl dX4_putConcealed_57 rfl ?_
          refine r_msk [true, true, true, false, true, false] rfl ?_
          refine r_iconst F dX4_putConcealed_59 rfl ?_
          refine r_ist5 F (by decide) rfl dX4_putConcealed_60 rfl ?_
          have loop2 : ∀ (d k : Nat), k + d = m.toNat → ja_W C 0 0 lay (P_pts (ja_rw mem (a + 4) (P_srr mem a (P_pst mem a).toNat)) a (P_csm mem a g) k) n 62 [some (.ref a), some (.int (ja_I m)), some (.int (ja_I g)), none, some (.int (ja_I (P_clg mem a))), some (.int (ja_I (k : Int)))] [] := by
            intro d
            induction d with
            | zero =>
              intro k hk
              refine r_iload F rfl dX4_putConcealed_62 rfl ?_
              refine r_iload_n F rfl rfl dX4_putConcealed_64 rfl ?_
              refine r_icmp_ge F (tgt := 106) ⟨by omega, by omega⟩ ⟨by omega, by omega⟩ dX4_putConcealed_65 rfl (by decide) (fun h_65 => ?_) (fun h_65 => ?_)
              ·
                exact r_vret F Rt dX4_putConcealed_106 (by decide) ⟨rfl, rfl, by rw [show k = m.toNat by omega]; rfl, rfl⟩
              ·
                exfalso; omega
            | succ d ih =>
              intro k hk
              refine r_iload F rfl dX4_putConcealed_62 rfl ?_
              refine r_iload_n F rfl rfl dX4_putConcealed_64 rfl ?_
              refine r_icmp_ge F (tgt := 106) ⟨by omega, by omega⟩ ⟨by omega, by omega⟩ dX4_putConcealed_65 rfl (by decide) (fun h_65 => ?_) (fun h_65 => ?_)
              ·
                exfalso; omega
              ·
                refine r_aload_n F rfl rfl dX4_putConcealed_68 rfl ?_
                refine r_iload F rfl dX4_putConcealed_69 rfl ?_
                refine r_if_ne F (tgt := 78) ⟨by omega, by omega⟩ dX4_putConcealed_71 rfl (by decide) (fun h_71 => ?_) (fun h_71 => ?_)
                ·
                  refine r_aload_n F rfl rfl dX4_putConcealed_78 rfl ?_
                  refine r_getR F f_X4_21 (hP.1) rfl dX4_putConcealed_79 rfl ?_
                  refine r_iload F rfl dX4_putConcealed_82 rfl ?_
                  refine r_iconst F dX4_putConcealed_84 rfl ?_
                  refine r_isub F dX4_putConcealed_85 rfl ?_
                  refine r_iload F rfl dX4_putConcealed_86 rfl ?_
                  refine r_iload F rfl dX4_putConcealed_88 rfl ?_
                  refine r_iremP F ⟨by omega, by omega⟩ ⟨by omega, by omega⟩ (by omega) (by omega) dX4_putConcealed_90 rfl ?_
                  have e0 := Int.emod_nonneg (k : Int) (by omega : P_clg mem a ≠ 0)
                  have e1 := Int.emod_lt_of_pos (k : Int) (by omega : 0 < P_clg mem a)
                  refine r_isub F dX4_putConcealed_91 rfl ?_
                  refine r_iald F (ja_LP_4 hP) (by omega) (by omega) (by decide) dX4_putConcealed_92 rfl ?_
                  refine r_eqz (z := P_srr mem a (P_pst mem a).toNat (P_clg mem a - 1 - (k : Int) % P_clg mem a).toNat) (by rw [P_pts_o ⟨by omega, by omega⟩, ja_rw_s]) ?_
                  refine r_iload_n F rfl rfl dX4_putConcealed_93 rfl ?_
                  refine r_callS F G (c_X4_faded _ _ _ _ (c2 _) ⟨by omega, by omega⟩) s_X4_71 rfl (by decide) (by decide) (Nat.le_of_ble_eq_true rfl) rfl dX4_putConcealed_94 rfl (fun v lay' mem' n' hp => ?_)
                  obtain ⟨q1, q2, q3, q4⟩ := hp
                  subst q1; subst q2; subst q3; subst q4
                  refine r_eqz (z := P_csm mem a g k) (by unfold P_csm; first | rw [if_pos h_71] | rw [if_neg h_71]) ?_
                  refine r_callV F G (c_X4_put _ _ _ _ hP (P_pts_r (by rw [ja_rw_n (by omega)]; omega) k)) v_X4_58 rfl (hP.1) rfl (by decide) (by decide) (Nat.le_of_ble_eq_true rfl) rfl dX4_putConcealed_97 rfl (fun v lay' mem' n' hp => ?_)
                  obtain ⟨q1, q2, q3, q4⟩ := hp
                  subst q1; subst q2; subst q3; subst q4
                  refine r_inc5 F (by decide) rfl dX4_putConcealed_100 rfl ?_
                  refine r_goto F (tgt := 62) dX4_putConcealed_103 (by decide) ?_
                  exact ih (k + 1) (by omega)
                ·
                  refine r_iconst F dX4_putConcealed_74 rfl ?_
                  refine r_goto F (tgt := 97) dX4_putConcealed_75 (by decide) ?_
                  refine r_eqz (z := P_csm mem a g k) (by unfold P_csm; first | rw [if_pos h_71] | rw [if_neg h_71]) ?_
                  refine r_callV F G (c_X4_put _ _ _ _ hP (P_pts_r (by rw [ja_rw_n (by omega)]; omega) k)) v_X4_58 rfl (hP.1) rfl (by decide) (by decide) (Nat.le_of_ble_eq_true rfl) rfl dX4_putConcealed_97 rfl (fun v lay' mem' n' hp => ?_)
                  obtain ⟨q1, q2, q3, q4⟩ := hp
                  subst q1; subst q2; subst q3; subst q4
                  refine r_inc5 F (by decide) rfl dX4_putConcealed_100 rfl ?_
                  refine r_goto F (tgt := 62) dX4_putConcealed_103 (by decide) ?_
                  exact ih (k + 1) (by omega)
          exact loop2 m.toNat 0 (by omega)
        ·
          refine r_iconst F dX4_putConcealed_45 rfl ?_
          refine r_goto F (tgt := 57) dX4_putConcealed_46 (by decide) ?_
          refine r_eqz (z := P_clg mem a) (by unfold P_clg; first | rw [if_pos (by omega)] | (rw [if_neg (by omega), ja_rw_s])) ?_
          refine r_ist4 F (by decide) rfl dX4_putConcealed_57 rfl ?_
          refine r_msk [true, true, true, false, true, false] rfl ?_
          refine r_iconst F dX4_putConcealed_59 rfl ?_
          refine r_ist5 F (by decide) rfl dX4_putConcealed_60 rfl ?_
          have loop2 : ∀ (d k : Nat), k + d = m.toNat → ja_W C 0 0 lay (P_pts (ja_rw mem (a + 4) (P_srr mem a (P_pst mem a).toNat)) a (P_csm mem a g) k) n 62 [some (.ref a), some (.int (ja_I m)), some (.int (ja_I g)), none, some (.int (ja_I (P_clg mem a))), some (.int (ja_I (k : Int)))] [] := by
            intro d
            induction d with
            | zero =>
              intro k hk
              refine r_iload F rfl dX4_putConcealed_62 rfl ?_
              refine r_iload_n F rfl rfl dX4_putConcealed_64 rfl ?_
              refine r_icmp_ge F (tgt := 106) ⟨by omega, by omega⟩ ⟨by omega, by omega⟩ dX4_putConcealed_65 rfl (by decide) (fun h_65 => ?_) (fun h_65 => ?_)
              ·
                exact r_vret F Rt dX4_putConcealed_106 (by decide) ⟨rfl, rfl, by rw [show k = m.toNat by omega]; rfl, rfl⟩
              ·
                exfalso; omega
            | succ d ih =>
              intro k hk
              refine r_iload F rfl dX4_putConcealed_62 rfl ?_
              refine r_iload_n F rfl rfl dX4_putConcealed_64 rfl ?_
              refine r_icmp_ge F (tgt := 106) ⟨by omega, by omega⟩ ⟨by omega, by omega⟩ dX4_putConcealed_65 rfl (by decide) (fun h_65 => ?_) (fun h_65 => ?_)
              ·
                exfalso; omega
              ·
                refine r_aload_n F rfl rfl dX4_putConcealed_68 rfl ?_
                refine r_iload F rfl dX4_putConcealed_69 rfl ?_
                refine r_if_ne F (tgt := 78) ⟨by omega, by omega⟩ dX4_putConcealed_71 rfl (by decide) (fun h_71 => ?_) (fun h_71 => ?_)
                ·
                  refine r_aload_n F rfl rfl dX4_putConcealed_78 rfl ?_
                  refine r_getR F f_X4_21 (hP.1) rfl dX4_putConcealed_79 rfl ?_
                  refine r_iload F rfl dX4_putConcealed_82 rfl ?_
                  refine r_iconst F dX4_putConcealed_84 rfl ?_
                  refine r_isub F dX4_putConcealed_85 rfl ?_
                  refine r_iload F rfl dX4_putConcealed_86 rfl ?_
                  refine r_iload F rfl dX4_putConcealed_88 rfl ?_
                  refine r_iremP F ⟨by omega, by omega⟩ ⟨by omega, by omega⟩ (by omega) (by omega) dX4_putConcealed_90 rfl ?_
                  have e0 := Int.emod_nonneg (k : Int) (by omega : P_clg mem a ≠ 0)
                  have e1 := Int.emod_lt_of_pos (k : Int) (by omega : 0 < P_clg mem a)
                  refine r_isub F dX4_putConcealed_91 rfl ?_
                  refine r_iald F (ja_LP_4 hP) (by omega) (by omega) (by decide) dX4_putConcealed_92 rfl ?_
                  refine r_eqz (z := P_srr mem a (P_pst mem a).toNat (P_clg mem a - 1 - (k : Int) % P_clg mem a).toNat) (by rw [P_pts_o ⟨by omega, by omega⟩, ja_rw_s]) ?_
                  refine r_iload_n F rfl rfl dX4_putConcealed_93 rfl ?_
                  refine r_callS F G (c_X4_faded _ _ _ _ (c2 _) ⟨by omega, by omega⟩) s_X4_71 rfl (by decide) (by decide) (Nat.le_of_ble_eq_true rfl) rfl dX4_putConcealed_94 rfl (fun v lay' mem' n' hp => ?_)
                  obtain ⟨q1, q2, q3, q4⟩ := hp
                  subst q1; subst q2; subst q3; subst q4
                  refine r_eqz (z := P_csm mem a g k) (by unfold P_csm; first | rw [if_pos h_71] | rw [if_neg h_71]) ?_
                  refine r_callV F G (c_X4_put _ _ _ _ hP (P_pts_r (by rw [ja_rw_n (by omega)]; omega) k)) v_X4_58 rfl (hP.1) rfl (by decide) (by decide) (Nat.le_of_ble_eq_true rfl) rfl dX4_putConcealed_97 rfl (fun v lay' mem' n' hp => ?_)
                  obtain ⟨q1, q2, q3, q4⟩ := hp
                  subst q1; subst q2; subst q3; subst q4
                  refine r_inc5 F (by decide) rfl dX4_putConcealed_100 rfl ?_
                  refine r_goto F (tgt := 62) dX4_putConcealed_103 (by decide) ?_
                  exact ih (k + 1) (by omega)
                ·
                  refine r_iconst F dX4_putConcealed_74 rfl ?_
                  refine r_goto F (tgt := 97) dX4_putConcealed_75 (by decide) ?_
                  refine r_eqz (z := P_csm mem a g k) (by unfold P_csm; first | rw [if_pos h_71] | rw [if_neg h_71]) ?_
                  refine r_callV F G (c_X4_put _ _ _ _ hP (P_pts_r (by rw [ja_rw_n (by omega)]; omega) k)) v_X4_58 rfl (hP.1) rfl (by decide) (by decide) (Nat.le_of_ble_eq_true rfl) rfl dX4_putConcealed_97 rfl (fun v lay' mem' n' hp => ?_)
                  obtain ⟨q1, q2, q3, q4⟩ := hp
                  subst q1; subst q2; subst q3; subst q4
                  refine r_inc5 F (by decide) rfl dX4_putConcealed_100 rfl ?_
                  refine r_goto F (tgt := 62) dX4_putConcealed_103 (by decide) ?_
                  exact ih (k + 1) (by omega)
          exact loop2 m.toNat 0 (by omega)
      ·
        exfalso; omega
    | succ d ih =>
      intro k hk
      refine r_iload F rfl dX4_putConcealed_13 rfl ?_
      refine r_iload_n F rfl rfl dX4_putConcealed_15 rfl ?_
      refine r_icmp_ge F (tgt := 40) ⟨by omega, by omega⟩ ⟨by omega, by omega⟩ dX4_putConcealed_16 rfl (by decide) (fun h_16 => ?_) (fun h_16 => ?_)
      ·
        exfalso; omega
      ·
        refine r_aload_n F rfl rfl dX4_putConcealed_19 rfl ?_
        refine r_getR F f_X4_21 (hP.1) rfl dX4_putConcealed_20 rfl ?_
        refine r_iload F rfl dX4_putConcealed_23 rfl ?_
        refine r_aload_n F rfl rfl dX4_putConcealed_25 rfl ?_
        refine r_iload F rfl dX4_putConcealed_26 rfl ?_
        refine r_iconst F dX4_putConcealed_28 rfl ?_
        refine r_iadd F dX4_putConcealed_29 rfl ?_
        refine r_callV F G (c_X4_outputAt _ _ _ _ hP (by rw [ja_rw_n (by omega)]; omega) (by rw [ja_rw_n (by omega)]; omega)) v_X4_67 rfl (hP.1) rfl (by decide) (by decide) (Nat.le_of_ble_eq_true rfl) rfl dX4_putConcealed_30 rfl (fun v lay' mem' n' hp => ?_)
        obtain ⟨q1, q2, q3, q4⟩ := hp
        subst q1; subst q2; subst q3; subst q4
        refine r_eqz (z := mem (a + 2) ((mem a 4 - ((k : Int) + 1)) % 256).toNat) (by rw [ja_rw_n (by omega), ja_rw_n (by omega)]) ?_
        refine r_iast F (ja_LP_4 hP) (by omega) (by omega) (by decide) dX4_putConcealed_33 rfl ?_
        refine r_inc4 F (by decide) rfl dX4_putConcealed_34 rfl ?_
        refine r_goto F (tgt := 13) dX4_putConcealed_37 (by decide) ?_
        refine r_mem (mem' := ja_rw mem (a + 4) (P_srr mem a (k + 1))) (by rw [ja_rw_up]; rfl) ?_
        exact ih (k + 1) (by omega)
  have h0 := loop (P_pst mem a).toNat 0 (by omega)
  rw [show ja_rw mem (a + 4) (P_srr mem a 0) = mem from ja_rw_self mem (a + 4)] at h0
  exact h0
abbrev rm_X4_copyFrom : Room := { frames := 1, cells := 0, slots := 0, locals := 40 }
set_option maxRecDepth 100000 in
set_option maxHeartbeats 4000000 in
theorem c_X4_copyFrom (l : Launch) (D : va_G) (cA : Nat → ClassId) (B : Nat) {lay : ja_Y} {mem : ja_M} {n : Nat} {a o : Nat} (hP : ja_LP lay a) (hPo : ja_LP lay o) (hao : a + 5 ≤ o ∨ o + 5 ≤ a) : ja_Mt l D cA B yX4_copyFrom cX4_copyFrom 2 none rm_X4_copyFrom [.ref a, .ref o] lay mem n (ja_rd lay (P_cp2 mem a o) n (none)) := by
  refine ja_enter [some (.ref a), some (.ref o)] (by decide) (Nat.le_of_ble_eq_true rfl) (fun q hq => hq) (fun C F Rt G hnm => ?_)
  refine r_aload_n F rfl rfl dX4_copyFrom_0 rfl ?_
  refine r_getR F f_X4_11 (hPo.1) rfl dX4_copyFrom_1 rfl ?_
  refine r_iconst F dX4_copyFrom_4 rfl ?_
  refine r_aload_n F rfl rfl dX4_copyFrom_5 rfl ?_
  refine r_getR F f_X4_11 (hP.1) rfl dX4_copyFrom_6 rfl ?_
  refine r_iconst F dX4_copyFrom_9 rfl ?_
  refine r_bipush F (by decide) dX4_copyFrom_10 rfl ?_
  refine r_copy0 F s_X4_24 (ja_LP_1 hPo) (ja_LP_1 hP) (by decide) (by decide) (by decide) (by decide) (Nat.le_of_ble_eq_true rfl) (by decide) (by decide) dX4_copyFrom_12 rfl ?_
  refine r_aload_n F rfl rfl dX4_copyFrom_15 rfl ?_
  refine r_aload_n F rfl rfl dX4_copyFrom_16 rfl ?_
  refine r_getI F f_X4_30 (hPo.1) rfl dX4_copyFrom_17 rfl ?_
  refine r_eqz (z := mem o 1) (by rw [ja_cp_o _ (by omega)]) ?_
  refine r_putI F f_X4_30 (hP.1) rfl dX4_copyFrom_20 rfl ?_
  refine r_aload_n F rfl rfl dX4_copyFrom_23 rfl ?_
  refine r_aload_n F rfl rfl dX4_copyFrom_24 rfl ?_
  refine r_getI F f_X4_34 (hPo.1) rfl dX4_copyFrom_25 rfl ?_
  refine r_eqz (z := mem o 2) (by rw [ja_up_a (by omega), ja_cp_o _ (by omega)]) ?_
  refine r_putI F f_X4_34 (hP.1) rfl dX4_copyFrom_28 rfl ?_
  refine r_aload_n F rfl rfl dX4_copyFrom_31 rfl ?_
  refine r_getR F f_X4_15 (hPo.1) rfl dX4_copyFrom_32 rfl ?_
  refine r_iconst F dX4_copyFrom_35 rfl ?_
  refine r_aload_n F rfl rfl dX4_copyFrom_36 rfl ?_
  refine r_getR F f_X4_15 (hP.1) rfl dX4_copyFrom_37 rfl ?_
  refine r_iconst F dX4_copyFrom_40 rfl ?_
  refine r_sipush F (by decide) dX4_copyFrom_41 rfl ?_
  refine r_copy0 F s_X4_24 (ja_LP_2 hPo) (ja_LP_2 hP) (by decide) (by decide) (by decide) (by decide) (Nat.le_of_ble_eq_true rfl) (by decide) (by decide) dX4_copyFrom_44 rfl ?_
  refine r_aload_n F rfl rfl dX4_copyFrom_47 rfl ?_
  refine r_aload_n F rfl rfl dX4_copyFrom_48 rfl ?_
  refine r_getI F f_X4_37 (hPo.1) rfl dX4_copyFrom_49 rfl ?_
  refine r_eqz (z := mem o 4) (by rw [ja_cp_o _ (by omega), ja_up_a (by omega), ja_up_a (by omega), ja_cp_o _ (by omega)]) ?_
  refine r_putI F f_X4_37 (hP.1) rfl dX4_copyFrom_52 rfl ?_
  refine r_aload_n F rfl rfl dX4_copyFrom_55 rfl ?_
  refine r_getR F f_X4_18 (hPo.1) rfl dX4_copyFrom_56 rfl ?_
  refine r_iconst F dX4_copyFrom_59 rfl ?_
  refine r_aload_n F rfl rfl dX4_copyFrom_60 rfl ?_
  refine r_getR F f_X4_18 (hP.1) rfl dX4_copyFrom_61 rfl ?_
  refine r_iconst F dX4_copyFrom_64 rfl ?_
  refine r_bipush F (by decide) dX4_copyFrom_65 rfl ?_
  refine r_copy0 F s_X4_24 (ja_LP_3 hPo) (ja_LP_3 hP) (by decide) (by decide) (by decide) (by decide) (Nat.le_of_ble_eq_true rfl) (by decide) (by decide) dX4_copyFrom_67 rfl ?_
  refine r_aload_n F rfl rfl dX4_copyFrom_70 rfl ?_
  refine r_aload_n F rfl rfl dX4_copyFrom_71 rfl ?_
  refine r_getI F f_X4_40 (hPo.1) rfl dX4_copyFrom_72 rfl ?_
  refine r_eqz (z := mem o 6) (by rw [ja_cp_o _ (by omega), ja_up_a (by omega), ja_cp_o _ (by omega), ja_up_a (by omega), ja_up_a (by omega), ja_cp_o _ (by omega)]) ?_
  refine r_putI F f_X4_40 (hP.1) rfl dX4_copyFrom_75 rfl ?_
  exact r_vret F Rt dX4_copyFrom_78 (by decide) ⟨rfl, rfl, rfl, rfl⟩
