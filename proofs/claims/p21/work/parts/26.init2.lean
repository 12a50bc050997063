abbrev rm_X5_init : Room := { frames := 2, cells := 19, slots := 1260, locals := 40 }
set_option maxRecDepth 100000 in
set_option maxHeartbeats 4000000 in
theorem c_X5_init (l : Launch) (D : va_G) (cA : Nat → ClassId) (B : Nat) {lay : ja_Y} {mem : ja_M} {a : Nat} (h0 : lay a = some (.inl (5, [some .null, some .null, some .null, some .null, some .null, some .null, none, none, none]))) (hz : ∀ j, mem a j = 0) : ja_Mt l D cA B yX5_init cX5_init 1 none rm_X5_init [.ref a] lay mem (a + 1) (fun v lay' mem' n' => none = v ∧ n' = a + 20 ∧ ja_LR lay' a ∧ (∀ q, q < a → lay' q = lay q) ∧ (∀ q, q < a → mem' q = mem q) ∧ ja_S0 mem' (a + 1) ∧ ∀ q j, a ≤ q → q < a + 20 → q ≠ a + 1 → mem' q j = 0) := by
  refine ja_enter [some (.ref a)] (by decide) (Nat.le_of_ble_eq_true rfl) (fun q hq => hq) (fun C F Rt G hnm => ?_)
  refine r_aload_n F rfl rfl dX5_init_0 rfl ?_
  refine r_objinit F i_X5_3 (Nat.le_of_ble_eq_true rfl) (by decide) (by decide) dX5_init_1 rfl ?_
  have hb0 := h0
  refine r_aload_n F rfl rfl dX5_init_4 rfl ?_
  refine r_new F n_X5_9 (by decide) (by decide) dX5_init_5 rfl ?_
  refine r_dup F rfl dX5_init_8 rfl ?_
  refine r_callIN F G (c_X6_init _ _ _ _ (a := a + 1) (ja_ly_s _ _ _) (fun j => ja_zr_s _ _ j)) i_X5_11 rfl (by decide) (by decide) (Nat.le_of_ble_eq_true rfl) rfl dX5_init_9 rfl (fun v L1 M1 n1 hp => ?_)
  obtain ⟨q1, q2, hL1, hK1, hM1, hZ1⟩ := hp
  subst q1; subst q2
  replace hK1 : ∀ q, q < a + 1 → L1 q = lay q := fun q hq => (hK1 q hq).trans (ja_ly_n (by omega))
  replace hM1 : ∀ q, q < a + 1 → M1 q = mem q := fun q hq => (hM1 q hq).trans (ja_zr_n (by omega))
  have hbb1 : L1 a = some (.inl (5, [some .null, some .null, some .null, some .null, some .null, some .null, none, none, none])) := by rw [hK1 a (by omega)]; exact hb0
  refine r_putF F hnm rfl rfl rfl f_X5_12 (ds := [some .null, some .null, some .null, some .null, some .null, some .null, none, none, none]) hbb1 (Nat.le_of_ble_eq_true rfl) dX5_init_12 rfl ?_
  generalize hG1 : ja_ly L1 a _ = G1
  have hb1 : G1 a = some (.inl (5, [some (.ref (a + 1)), some .null, some .null, some .null, some .null, some .null, none, none, none])) := by rw [← hG1]; exact ja_ly_s _ _ _
  have hq1 : ∀ q, q ≠ a → G1 q = L1 q := fun q hq => by rw [← hG1]; exact ja_ly_n hq
  refine r_aload_n F rfl rfl dX5_init_15 rfl ?_
  refine r_new F n_X5_18 (by decide) (by decide) dX5_init_16 rfl ?_
  refine r_dup F rfl dX5_init_19 rfl ?_
  refine r_callIN F G (c_X3_init _ _ _ _ (a := a + 1 + 1) (ja_ly_s _ _ _) (fun j => ja_zr_s _ _ j)) i_X5_20 rfl (by decide) (by decide) (Nat.le_of_ble_eq_true rfl) rfl dX5_init_20 rfl (fun v L2 M2 n2 hp => ?_)
  obtain ⟨q1, q2, hL2, hK2, hM2, hZ2⟩ := hp
  subst q1; subst q2
  replace hK2 : ∀ q, q < a + 1 + 1 → L2 q = G1 q := fun q hq => (hK2 q hq).trans (ja_ly_n (by omega))
  replace hM2 : ∀ q, q < a + 1 + 1 → M2 q = M1 q := fun q hq => (hM2 q hq).trans (ja_zr_n (by omega))
  have hbb2 : L2 a = some (.inl (5, [some (.ref (a + 1)), some .null, some .null, some .null, some .null, some .null, none, none, none])) := by rw [hK2 a (by omega)]; exact hb1
  refine r_putF F hnm rfl rfl rfl f_X5_21 (ds := [some (.ref (a + 1)), some .null, some .null, some .null, some .null, some .null, none, none, none]) hbb2 (Nat.le_of_ble_eq_true rfl) dX5_init_23 rfl ?_
  generalize hG2 : ja_ly L2 a _ = G2
  have hb2 : G2 a = some (.inl (5, [some (.ref (a + 1)), some (.ref (a + 1 + 1)), some .null, some .null, some .null, some .null, none, none, none])) := by rw [← hG2]; exact ja_ly_s _ _ _
  have hq2 : ∀ q, q ≠ a → G2 q = L2 q := fun q hq => by rw [← hG2]; exact ja_ly_n hq
  refine r_aload_n F rfl rfl dX5_init_26 rfl ?_
  refine r_new F n_X5_25 (by decide) (by decide) dX5_init_27 rfl ?_
  refine r_dup F rfl dX5_init_30 rfl ?_
  refine r_callIN F G (c_X7_init _ _ _ _ (a := a + 1 + 1 + 4) (ja_ly_s _ _ _) (fun j => ja_zr_s _ _ j)) i_X5_27 rfl (by decide) (by decide) (Nat.le_of_ble_eq_true rfl) rfl dX5_init_31 rfl (fun v L3 M3 n3 hp => ?_)
  obtain ⟨q1, q2, hL3, hK3, hM3, hZ3⟩ := hp
  subst q1; subst q2
  replace hK3 : ∀ q, q < a + 1 + 1 + 4 → L3 q = G2 q := fun q hq => (hK3 q hq).trans (ja_ly_n (by omega))
  replace hM3 : ∀ q, q < a + 1 + 1 + 4 → M3 q = M2 q := fun q hq => (hM3 q hq).trans (ja_zr_n (by omega))
  have hbb3 : L3 a = some (.inl (5, [some (.ref (a + 1)), some (.ref (a + 1 + 1)), some .null, some .null, some .null, some .null, none, none, none])) := by rw [hK3 a (by omega)]; exact hb2
  refine r_putF F hnm rfl rfl rfl f_X5_28 (ds := [some (.ref (a + 1)), some (.ref (a + 1 + 1)), some .null, some .null, some .null, some .null, none, none, none]) hbb3 (Nat.le_of_ble_eq_true rfl) dX5_init_34 rfl ?_
  generalize hG3 : ja_ly L3 a _ = G3
  have hb3 : G3 a = some (.inl (5, [some (.ref (a + 1)), some (.ref (a + 1 + 1)), some (.ref (a + 1 + 1 + 4)), some .null, some .null, some .null, none, none, none])) := by rw [← hG3]; exact ja_ly_s _ _ _
  have hq3 : ∀ q, q ≠ a → G3 q = L3 q := fun q hq => by rw [← hG3]; exact ja_ly_n hq
  refine r_aload_n F rfl rfl dX5_init_37 rfl ?_
  refine r_new F n_X5_32 (by decide) (by decide) dX5_init_38 rfl ?_
  refine r_dup F rfl dX5_init_41 rfl ?_
  refine r_callIN F G (c_X4_init _ _ _ _ (a := a + 1 + 1 + 4 + 3) (ja_ly_s _ _ _) (fun j => ja_zr_s _ _ j)) i_X5_34 rfl (by decide) (by decide) (Nat.le_of_ble_eq_true rfl) rfl dX5_init_42 rfl (fun v L4 M4 n4 hp => ?_)
  obtain ⟨q1, q2, hL4, hK4, hM4, hZ4⟩ := hp
  subst q1; subst q2
  replace hK4 : ∀ q, q < a + 1 + 1 + 4 + 3 → L4 q = G3 q := fun q hq => (hK4 q hq).trans (ja_ly_n (by omega))
  replace hM4 : ∀ q, q < a + 1 + 1 + 4 + 3 → M4 q = M3 q := fun q hq => (hM4 q hq).trans (ja_zr_n (by omega))
  have hbb4 : L4 a = some (.inl (5, [some (.ref (a + 1)), some (.ref (a + 1 + 1)), some (.ref (a + 1 + 1 + 4)), some .null, some .null, some .null, none, none, none])) := by rw [hK4 a (by omega)]; exact hb3
  refine r_putF F hnm rfl rfl rfl f_X5_35 (ds := [some (.ref (a + 1)), some (.ref (a + 1 + 1)), some (.ref (a + 1 + 1 + 4)), some .null, some .null, some .null, none, none, none]) hbb4 (Nat.le_of_ble_eq_true rfl) dX5_init_45 rfl ?_
  generalize hG4 : ja_ly L4 a _ = G4
  have hb4 : G4 a = some (.inl (5, [some (.ref (a + 1)), some (.ref (a + 1 + 1)), some (.ref (a + 1 + 1 + 4)), some (.ref (a + 1 + 1 + 4 + 3)), some .null, some .null, none, none, none])) := by rw [← hG4]; exact ja_ly_s _ _ _
  have hq4 : ∀ q, q ≠ a → G4 q = L4 q := fun q hq => by rw [← hG4]; exact ja_ly_n hq
  refine r_aload_n F rfl rfl dX5_init_48 rfl ?_
  refine r_new F n_X5_39 (by decide) (by decide) dX5_init_49 rfl ?_
  refine r_dup F rfl dX5_init_52 rfl ?_
  refine r_callIN F G (c_X2_init _ _ _ _ (a := a + 1 + 1 + 4 + 3 + 5) (ja_ly_s _ _ _) (fun j => ja_zr_s _ _ j)) i_X5_41 rfl (by decide) (by decide) (Nat.le_of_ble_eq_true rfl) rfl dX5_init_53 rfl (fun v L5 M5 n5 hp => ?_)
  obtain ⟨q1, q2, hL5, hK5, hM5, hZ5⟩ := hp
  subst q1; subst q2
  replace hK5 : ∀ q, q < a + 1 + 1 + 4 + 3 + 5 → L5 q = G4 q := fun q hq => (hK5 q hq).trans (ja_ly_n (by omega))
  replace hM5 : ∀ q, q < a + 1 + 1 + 4 + 3 + 5 → M5 q = M4 q := fun q hq => (hM5 q hq).trans (ja_zr_n (by omega))
  have hbb5 : L5 a = some (.inl (5, [some (.ref (a + 1)), some (.ref (a + 1 + 1)), some (.ref (a + 1 + 1 + 4)), some (.ref (a + 1 + 1 + 4 + 3)), some .null, some .null, none, none, none])) := by rw [hK5 a (by omega)]; exact hb4
  refine r_putF F hnm rfl rfl rfl f_X5_42 (ds := [some (.ref (a + 1)), some (.ref (a + 1 + 1)), some (.ref (a + 1 + 1 + 4)), some (.ref (a + 1 + 1 + 4 + 3)), some .null, some .null, none, none, none]) hbb5 (Nat.le_of_ble_eq_true rfl) dX5_init_56 rfl ?_
  generalize hG5 : ja_ly L5 a _ = G5
  have hb5 : G5 a = some (.inl (5, [some (.ref (a + 1)), some (.ref (a + 1 + 1)), some (.ref (a + 1 + 1 + 4)), some (.ref (a + 1 + 1 + 4 + 3)), some (.ref (a + 1 + 1 + 4 + 3 + 5)), some .null, none, none, none])) := by rw [← hG5]; exact ja_ly_s _ _ _
  have hq5 : ∀ q, q ≠ a → G5 q = L5 q := fun q hq => by rw [← hG5]; exact ja_ly_n hq
  refine r_aload_n F rfl rfl dX5_init_59 rfl ?_
  refine r_new F n_X5_46 (by decide) (by decide) dX5_init_60 rfl ?_
  refine r_dup F rfl dX5_init_63 rfl ?_
  refine r_callIN F G (c_X1_init _ _ _ _ (a := a + 1 + 1 + 4 + 3 + 5 + 1) (ja_ly_s _ _ _) (fun j => ja_zr_s _ _ j)) i_X5_48 rfl (by decide) (by decide) (Nat.le_of_ble_eq_true rfl) rfl dX5_init_64 rfl (fun v L6 M6 n6 hp => ?_)
  obtain ⟨q1, q2, hL6, hK6, hM6, hZ6⟩ := hp
  subst q1; subst q2
  replace hK6 : ∀ q, q < a + 1 + 1 + 4 + 3 + 5 + 1 → L6 q = G5 q := fun q hq => (hK6 q hq).trans (ja_ly_n (by omega))
  replace hM6 : ∀ q, q < a + 1 + 1 + 4 + 3 + 5 + 1 → M6 q = M5 q := fun q hq => (hM6 q hq).trans (ja_zr_n (by omega))
  have hbb6 : L6 a = some (.inl (5, [some (.ref (a + 1)), some (.ref (a + 1 + 1)), some (.ref (a + 1 + 1 + 4)), some (.ref (a + 1 + 1 + 4 + 3)), some (.ref (a + 1 + 1 + 4 + 3 + 5)), some .null, none, none, none])) := by rw [hK6 a (by omega)]; exact hb5
  refine r_putF F hnm rfl rfl rfl f_X5_49 (ds := [some (.ref (a + 1)), some (.ref (a + 1 + 1)), some (.ref (a + 1 + 1 + 4)), some (.ref (a + 1 + 1 + 4 + 3)), some (.ref (a + 1 + 1 + 4 + 3 + 5)), some .null, none, none, none]) hbb6 (Nat.le_of_ble_eq_true rfl) dX5_init_67 rfl ?_
  generalize hG6 : ja_ly L6 a _ = G6
  have hb6 : G6 a = some (.inl (5, [some (.ref (a + 1)), some (.ref (a + 1 + 1)), some (.ref (a + 1 + 1 + 4)), some (.ref (a + 1 + 1 + 4 + 3)), some (.ref (a + 1 + 1 + 4 + 3 + 5)), some (.ref (a + 1 + 1 + 4 + 3 + 5 + 1)), none, none, none])) := by rw [← hG6]; exact ja_ly_s _ _ _
  have hq6 : ∀ q, q ≠ a → G6 q = L6 q := fun q hq => by rw [← hG6]; exact ja_ly_n hq
  have e1 : ∀ q, q ≠ a → q < a + 1 + 1 → G6 q = L1 q := fun q hq hlt => ((((((((((hq6 q hq).trans (hK6 q (by omega))).trans (hq5 q hq)).trans (hK5 q (by omega))).trans (hq4 q hq)).trans (hK4 q (by omega))).trans (hq3 q hq)).trans (hK3 q (by omega))).trans (hq2 q hq)).trans (hK2 q (by omega))).trans (hq1 q hq)
  have f1 : ∀ q, q < a + 1 + 1 → M6 q = M1 q := fun q hlt => ((((hM6 q (by omega)).trans (hM5 q (by omega))).trans (hM4 q (by omega))).trans (hM3 q (by omega))).trans (hM2 q (by omega))
  have e2 : ∀ q, q ≠ a → q < a + 1 + 1 + 4 → G6 q = L2 q := fun q hq hlt => ((((((((hq6 q hq).trans (hK6 q (by omega))).trans (hq5 q hq)).trans (hK5 q (by omega))).trans (hq4 q hq)).trans (hK4 q (by omega))).trans (hq3 q hq)).trans (hK3 q (by omega))).trans (hq2 q hq)
  have f2 : ∀ q, q < a + 1 + 1 + 4 → M6 q = M2 q := fun q hlt => (((hM6 q (by omega)).trans (hM5 q (by omega))).trans (hM4 q (by omega))).trans (hM3 q (by omega))
  have e3 : ∀ q, q ≠ a → q < a + 1 + 1 + 4 + 3 → G6 q = L3 q := fun q hq hlt => ((((((hq6 q hq).trans (hK6 q (by omega))).trans (hq5 q hq)).trans (hK5 q (by omega))).trans (hq4 q hq)).trans (hK4 q (by omega))).trans (hq3 q hq)
  have f3 : ∀ q, q < a + 1 + 1 + 4 + 3 → M6 q = M3 q := fun q hlt => ((hM6 q (by omega)).trans (hM5 q (by omega))).trans (hM4 q (by omega))
  have e4 : ∀ q, q ≠ a → q < a + 1 + 1 + 4 + 3 + 5 → G6 q = L4 q := fun q hq hlt => ((((hq6 q hq).trans (hK6 q (by omega))).trans (hq5 q hq)).trans (hK5 q (by omega))).trans (hq4 q hq)
  have f4 : ∀ q, q < a + 1 + 1 + 4 + 3 + 5 → M6 q = M4 q := fun q hlt => (hM6 q (by omega)).trans (hM5 q (by omega))
  have e5 : ∀ q, q ≠ a → q < a + 1 + 1 + 4 + 3 + 5 + 1 → G6 q = L5 q := fun q hq hlt => ((hq6 q hq).trans (hK6 q (by omega))).trans (hq5 q hq)
  have f5 : ∀ q, q < a + 1 + 1 + 4 + 3 + 5 + 1 → M6 q = M5 q := fun q hlt => hM6 q (by omega)
  have e6 : ∀ q, q ≠ a → q < a + 1 + 1 + 4 + 3 + 5 + 1 + 5 → G6 q = L6 q := fun q hq hlt => hq6 q hq
  have f6 : ∀ q, q < a + 1 + 1 + 4 + 3 + 5 + 1 + 5 → M6 q = M6 q := fun q hlt => rfl
  have e0 : ∀ q, q < a → G6 q = lay q := fun q hq => (e1 q (by omega) (by omega)).trans (hK1 q (by omega))
  have f0 : ∀ q, q < a + 1 → M6 q = mem q := fun q hq => (f1 q (by omega)).trans (hM1 q (by omega))
  refine r_vret F Rt dX5_init_70 (by decide) ⟨rfl, rfl, ⟨hb6, ja_LS_c (e1 _ (by omega) (by omega)) hL1, ja_LF_c (fun q q1 q2 => e2 q (by omega) (by omega)) hL2, ja_LT_c (fun q q1 q2 => e3 q (by omega) (by omega)) hL3, ja_LP_c (fun q q1 q2 => e4 q (by omega) (by omega)) hL4, ja_LC_c (e5 _ (by omega) (by omega)) hL5, ja_LA_c (fun q q1 q2 => e6 q (by omega) (by omega)) hL6⟩, e0, fun q hq => f0 q (by omega), ?_, ?_⟩
  · unfold ja_S0
    rw [f1 (a + 1) (by omega)]
    exact hZ1
  · intro q j q1 q2 q3
    rcases (show q = a ∨ (a + 2 ≤ q ∧ q < a + 6) ∨ (a + 6 ≤ q ∧ q < a + 9) ∨ (a + 9 ≤ q ∧ q < a + 14) ∨ q = a + 14 ∨ (a + 15 ≤ q ∧ q < a + 20) by omega) with h | h | h | h | h | h
    · rw [h, f0 a (by omega)]
      exact hz j
    · rw [f2 q (by omega)]
      exact hZ2 q j (by omega) (by omega)
    · rw [f3 q (by omega)]
      exact hZ3 q j (by omega) (by omega)
    · rw [f4 q (by omega)]
      exact hZ4 q j (by omega) (by omega)
    · rw [f5 q (by omega)]
      exact hZ5 q j (by omega) (by omega)
    · exact hZ6 q j (by omega) (by omega)
abbrev rm_X8_init : Room := { frames := 3, cells := 48, slots := 2769, locals := 60 }
set_option maxRecDepth 100000 in
set_option maxHeartbeats 4000000 in
theorem c_X8_init (l : Launch) (D : va_G) (cA : Nat → ClassId) (B : Nat) {lay : ja_Y} {mem : ja_M} {a : Nat} (h0 : lay a = some (.inl (8, [some .null, some .null, some .null, some .null, some .null]))) (hz : ∀ j, mem a j = 0) : ja_Mt l D cA B yX8_init cX8_init 1 none rm_X8_init [.ref a] lay mem (a + 1) (fun v lay' mem' n' => none = v ∧ n' = a + 49 ∧ ja_LB lay' a (fun _ => none) ∧ (∀ q, q < a → lay' q = lay q) ∧ (∀ q, q < a → mem' q = mem q) ∧ ja_S0 mem' (a + 1 + 1) ∧ ja_S0 mem' (a + 21 + 1) ∧ ∀ q j, a ≤ q → q < a + 49 → q ≠ a + 1 + 1 → q ≠ a + 21 + 1 → mem' q j = 0) := by
  refine ja_enter [some (.ref a)] (by decide) (Nat.le_of_ble_eq_true rfl) (fun q hq => hq) (fun C F Rt G hnm => ?_)
  refine r_aload_n F rfl rfl dX8_init_0 rfl ?_
  refine r_objinit F i_X8_1 (Nat.le_of_ble_eq_true rfl) (by decide) (by decide) dX8_init_1 rfl ?_
  have hb0 := h0
  refine r_aload_n F rfl rfl dX8_init_4 rfl ?_
  refine r_new F n_X8_7 (by decide) (by decide) dX8_init_5 rfl ?_
  refine r_dup F rfl dX8_init_8 rfl ?_
  refine r_callIN F G (c_X5_init _ _ _ _ (a := a + 1) (ja_ly_s _ _ _) (fun j => ja_zr_s _ _ j)) i_X8_9 rfl (by decide) (by decide) (Nat.le_of_ble_eq_true rfl) rfl dX8_init_9 rfl (fun v L1 M1 n1 hp => ?_)
  obtain ⟨q1, q2, hL1, hK1, hM1, hS1, hZ1⟩ := hp
  subst q1; subst q2
  replace hK1 : ∀ q, q < a + 1 → L1 q = lay q := fun q hq => (hK1 q hq).trans (ja_ly_n (by omega))
  replace hM1 : ∀ q, q < a + 1 → M1 q = mem q := fun q hq => (hM1 q hq).trans (ja_zr_n (by omega))
  have hbb1 : L1 a = some (.inl (8, [some .null, some .null, some .null, some .null, some .null])) := by rw [hK1 a (by omega)]; exact hb0
  refine r_putF F hnm rfl rfl rfl f_X8_10 (ds := [some .null, some .null, some .null, some .null, some .null]) hbb1 (Nat.le_of_ble_eq_true rfl) dX8_init_12 rfl ?_
  generalize hG1 : ja_ly L1 a _ = G1
  have hb1 : G1 a = some (.inl (8, [some (.ref (a + 1)), some .null, some .null, some .null, some .null])) := by rw [← hG1]; exact ja_ly_s _ _ _
  have hq1 : ∀ q, q ≠ a → G1 q = L1 q := fun q hq => by rw [← hG1]; exact ja_ly_n hq
  refine r_aload_n F rfl rfl dX8_init_15 rfl ?_
  refine r_new F n_X8_7 (by decide) (by decide) dX8_init_16 rfl ?_
  refine r_dup F rfl dX8_init_19 rfl ?_
  refine r_callIN F G (c_X5_init _ _ _ _ (a := a + 1 + 20) (ja_ly_s _ _ _) (fun j => ja_zr_s _ _ j)) i_X8_9 rfl (by decide) (by decide) (Nat.le_of_ble_eq_true rfl) rfl dX8_init_20 rfl (fun v L2 M2 n2 hp => ?_)
  obtain ⟨q1, q2, hL2, hK2, hM2, hS2, hZ2⟩ := hp
  subst q1; subst q2
  replace hK2 : ∀ q, q < a + 1 + 20 → L2 q = G1 q := fun q hq => (hK2 q hq).trans (ja_ly_n (by omega))
  replace hM2 : ∀ q, q < a + 1 + 20 → M2 q = M1 q := fun q hq => (hM2 q hq).trans (ja_zr_n (by omega))
  have hbb2 : L2 a = some (.inl (8, [some (.ref (a + 1)), some .null, some .null, some .null, some .null])) := by rw [hK2 a (by omega)]; exact hb1
  refine r_putF F hnm rfl rfl rfl f_X8_16 (ds := [some (.ref (a + 1)), some .null, some .null, some .null, some .null]) hbb2 (Nat.le_of_ble_eq_true rfl) dX8_init_23 rfl ?_
  generalize hG2 : ja_ly L2 a _ = G2
  have hb2 : G2 a = some (.inl (8, [some (.ref (a + 1)), some (.ref (a + 1 + 20)), some .null, some .null, some .null])) := by rw [← hG2]; exact ja_ly_s _ _ _
  have hq2 : ∀ q, q ≠ a → G2 q = L2 q := fun q hq => by rw [← hG2]; exact ja_ly_n hq
  refine r_aload_n F rfl rfl dX8_init_26 rfl ?_
  refine r_iconst F dX8_init_27 rfl ?_
  refine r_newq F q_X8_7 (by decide) (by decide) (by decide) (by decide) dX8_init_28 rfl ?_
  generalize hLa3 : ja_ly G2 (a + 1 + 20 + 20) (.inr (3, Int.toNat 2, fun _ => none)) = L3
  generalize hMa3 : ja_zr M2 (a + 1 + 20 + 20) = M3
  have hL3 : L3 (a + 1 + 20 + 20) = some (.inr (3, 2, fun _ => none)) := by rw [← hLa3]; exact ja_ly_s _ _ _
  have hK3 : ∀ q, q < a + 1 + 20 + 20 → L3 q = G2 q := fun q hq => by rw [← hLa3]; exact ja_ly_n (by omega)
  have hM3 : ∀ q, q < a + 1 + 20 + 20 → M3 q = M2 q := fun q hq => by rw [← hMa3]; exact ja_zr_n (by omega)
  have hZ3 : ∀ q j, a + 1 + 20 + 20 ≤ q → q < a + 1 + 20 + 20 + 1 → M3 q j = 0 := fun q j q1 q2 => by rw [← hMa3, show q = a + 1 + 20 + 20 by omega]; exact ja_zr_s _ _ _
  have hbb3 : L3 a = some (.inl (8, [some (.ref (a + 1)), some (.ref (a + 1 + 20)), some .null, some .null, some .null])) := by rw [hK3 a (by omega)]; exact hb2
  refine r_putF F hnm rfl rfl rfl f_X8_19 (ds := [some (.ref (a + 1)), some (.ref (a + 1 + 20)), some .null, some .null, some .null]) hbb3 (Nat.le_of_ble_eq_true rfl) dX8_init_31 rfl ?_
  generalize hG3 : ja_ly L3 a _ = G3
  have hb3 : G3 a = some (.inl (8, [some (.ref (a + 1)), some (.ref (a + 1 + 20)), some (.ref (a + 1 + 20 + 20)), some .null, some .null])) := by rw [← hG3]; exact ja_ly_s _ _ _
  have hq3 : ∀ q, q ≠ a → G3 q = L3 q := fun q hq => by rw [← hG3]; exact ja_ly_n hq
  refine r_aload_n F rfl rfl dX8_init_34 rfl ?_
  refine r_new F n_X8_23 (by decide) (by decide) dX8_init_35 rfl ?_
  refine r_dup F rfl dX8_init_38 rfl ?_
  refine r_callIN F G (c_X0_init _ _ _ _ (a := a + 1 + 20 + 20 + 1) (ja_ly_s _ _ _) (fun j => ja_zr_s _ _ j)) i_X8_25 rfl (by decide) (by decide) (Nat.le_of_ble_eq_true rfl) rfl dX8_init_39 rfl (fun v L4 M4 n4 hp => ?_)
  obtain ⟨q1, q2, hL4, hK4, hM4, hZ4⟩ := hp
  subst q1; subst q2
  replace hK4 : ∀ q, q < a + 1 + 20 + 20 + 1 → L4 q = G3 q := fun q hq => (hK4 q hq).trans (ja_ly_n (by omega))
  replace hM4 : ∀ q, q < a + 1 + 20 + 20 + 1 → M4 q = M3 q := fun q hq => (hM4 q hq).trans (ja_zr_n (by omega))
  have hbb4 : L4 a = some (.inl (8, [some (.ref (a + 1)), some (.ref (a + 1 + 20)), some (.ref (a + 1 + 20 + 20)), some .null, some .null])) := by rw [hK4 a (by omega)]; exact hb3
  refine r_putF F hnm rfl rfl rfl f_X8_26 (ds := [some (.ref (a + 1)), some (.ref (a + 1 + 20)), some (.ref (a + 1 + 20 + 20)), some .null, some .null]) hbb4 (Nat.le_of_ble_eq_true rfl) dX8_init_42 rfl ?_
  generalize hG4 : ja_ly L4 a _ = G4
  have hb4 : G4 a = some (.inl (8, [some (.ref (a + 1)), some (.ref (a + 1 + 20)), some (.ref (a + 1 + 20 + 20)), some (.ref (a + 1 + 20 + 20 + 1)), some .null])) := by rw [← hG4]; exact ja_ly_s _ _ _
  have hq4 : ∀ q, q ≠ a → G4 q = L4 q := fun q hq => by rw [← hG4]; exact ja_ly_n hq
  refine r_aload_n F rfl rfl dX8_init_45 rfl ?_
  refine r_new F n_X8_30 (by decide) (by decide) dX8_init_46 rfl ?_
  refine r_dup F rfl dX8_init_49 rfl ?_
  refine r_callIN F G (c_X1_init _ _ _ _ (a := a + 1 + 20 + 20 + 1 + 2) (ja_ly_s _ _ _) (fun j => ja_zr_s _ _ j)) i_X8_32 rfl (by decide) (by decide) (Nat.le_of_ble_eq_true rfl) rfl dX8_init_50 rfl (fun v L5 M5 n5 hp => ?_)
  obtain ⟨q1, q2, hL5, hK5, hM5, hZ5⟩ := hp
  subst q1; subst q2
  replace hK5 : ∀ q, q < a + 1 + 20 + 20 + 1 + 2 → L5 q = G4 q := fun q hq => (hK5 q hq).trans (ja_ly_n (by omega))
  replace hM5 : ∀ q, q < a + 1 + 20 + 20 + 1 + 2 → M5 q = M4 q := fun q hq => (hM5 q hq).trans (ja_zr_n (by omega))
  have hbb5 : L5 a = some (.inl (8, [some (.ref (a + 1)), some (.ref (a + 1 + 20)), some (.ref (a + 1 + 20 + 20)), some (.ref (a + 1 + 20 + 20 + 1)), some .null])) := by rw [hK5 a (by omega)]; exact hb4
  refine r_putF F hnm rfl rfl rfl f_X8_33 (ds := [some (.ref (a + 1)), some (.ref (a + 1 + 20)), some (.ref (a + 1 + 20 + 20)), some (.ref (a + 1 + 20 + 20 + 1)), some .null]) hbb5 (Nat.le_of_ble_eq_true rfl) dX8_init_53 rfl ?_
  generalize hG5 : ja_ly L5 a _ = G5
  have hb5 : G5 a = some (.inl (8, [some (.ref (a + 1)), some (.ref (a + 1 + 20)), some (.ref (a + 1 + 20 + 20)), some (.ref (a + 1 + 20 + 20 + 1)), some (.ref (a + 1 + 20 + 20 + 1 + 2))])) := by rw [← hG5]; exact ja_ly_s _ _ _
  have hq5 : ∀ q, q ≠ a → G5 q = L5 q := fun q hq => by rw [← hG5]; exact ja_ly_n hq
  have e1 : ∀ q, q ≠ a → q < a + 1 + 20 → G5 q = L1 q := fun q hq hlt => ((((((((hq5 q hq).trans (hK5 q (by omega))).trans (hq4 q hq)).trans (hK4 q (by omega))).trans (hq3 q hq)).trans (hK3 q (by omega))).trans (hq2 q hq)).trans (hK2 q (by omega))).trans (hq1 q hq)
  have f1 : ∀ q, q < a + 1 + 20 → M5 q = M1 q := fun q hlt => (((hM5 q (by omega)).trans (hM4 q (by omega))).trans (hM3 q (by omega))).trans (hM2 q (by omega))
  have e2 : ∀ q, q ≠ a → q < a + 1 + 20 + 20 → G5 q = L2 q := fun q hq hlt => ((((((hq5 q hq).trans (hK5 q (by omega))).trans (hq4 q hq)).trans (hK4 q (by omega))).trans (hq3 q hq)).trans (hK3 q (by omega))).trans (hq2 q hq)
  have f2 : ∀ q, q < a + 1 + 20 + 20 → M5 q = M2 q := fun q hlt => ((hM5 q (by omega)).trans (hM4 q (by omega))).trans (hM3 q (by omega))
  have e3 : ∀ q, q ≠ a → q < a + 1 + 20 + 20 + 1 → G5 q = L3 q := fun q hq hlt => ((((hq5 q hq).trans (hK5 q (by omega))).trans (hq4 q hq)).trans (hK4 q (by omega))).trans (hq3 q hq)
  have f3 : ∀ q, q < a + 1 + 20 + 20 + 1 → M5 q = M3 q := fun q hlt => (hM5 q (by omega)).trans (hM4 q (by omega))
  have e4 : ∀ q, q ≠ a → q < a + 1 + 20 + 20 + 1 + 2 → G5 q = L4 q := fun q hq hlt => ((hq5 q hq).trans (hK5 q (by omega))).trans (hq4 q hq)
  have f4 : ∀ q, q < a + 1 + 20 + 20 + 1 + 2 → M5 q = M4 q := fun q hlt => hM5 q (by omega)
  have e5 : ∀ q, q ≠ a → q < a + 1 + 20 + 20 + 1 + 2 + 5 → G5 q = L5 q := fun q hq hlt => hq5 q hq
  have f5 : ∀ q, q < a + 1 + 20 + 20 + 1 + 2 + 5 → M5 q = M5 q := fun q hlt => rfl
  have e0 : ∀ q, q < a → G5 q = lay q := fun q hq => (e1 q (by omega) (by omega)).trans (hK1 q (by omega))
  have f0 : ∀ q, q < a + 1 → M5 q = mem q := fun q hq => (f1 q (by omega)).trans (hM1 q (by omega))
  refine r_vret F Rt dX8_init_56 (by decide) ⟨rfl, rfl, ⟨hb5, ja_LR_c (fun q q1 q2 => e1 q (by omega) (by omega)) hL1, ja_LR_c (fun q q1 q2 => e2 q (by omega) (by omega)) hL2, (e3 _ (by omega) (by omega)).trans hL3, ja_LX_c (fun q q1 q2 => e4 q (by omega) (by omega)) hL4, ja_LA_c (fun q q1 q2 => e5 q (by omega) (by omega)) hL5, fun i o _ h => by cases h⟩, e0, fun q hq => f0 q (by omega), ?_, ?_, ?_⟩
  · unfold ja_S0
    rw [f1 (a + 1 + 1) (by omega)]
    exact hS1
  · unfold ja_S0
    rw [f2 (a + 21 + 1) (by omega)]
    exact hS2
  · intro q j q1 q2 q3 q4
    rcases (show q = a ∨ (a + 1 ≤ q ∧ q < a + 21) ∨ (a + 21 ≤ q ∧ q < a + 41) ∨ q = a + 41 ∨ (a + 42 ≤ q ∧ q < a + 44) ∨ (a + 44 ≤ q ∧ q < a + 49) by omega) with h | h | h | h | h | h
    · rw [h, f0 a (by omega)]
      exact hz j
    · rw [f1 q (by omega)]
      exact hZ1 q j (by omega) (by omega) (by omega)
    · rw [f2 q (by omega)]
      exact hZ2 q j (by omega) (by omega) (by omega)
    · rw [f3 q (by omega)]
      exact hZ3 q j (by omega) (by omega)
    · rw [f4 q (by omega)]
      exact hZ4 q j (by omega) (by omega)
    · exact hZ5 q j (by omega) (by omega)
