set_option maxRecDepth 100000 in
set_option maxHeartbeats 800000 in
theorem law_all {C : ja_C} {D : va_G} {cA : Nat → ClassId} {l : Launch} {B b L n0 : Nat} {xs : Nat → Int32} (F : ja_F C RL cL_law 4 room_1) (GC : ja_G C l D cA B) (X : ja_X C b L xs) (hL : L ≤ 2560) (hE : ∀ (lay : ja_Y) (mem : ja_M) (n cells slots pc : Nat) (ls : List (Option Value)), cells ≤ 600000 → slots ≤ 7302250 → decode code pc = .ok (.ireturn, 1) → ja_W C cells slots lay mem n pc ls [.int (ja_I 1)]) : ja_W C 0 0 (fun _ => none) (fun _ _ => 0) n0 0 [some (.ref b), none, none, none] [] := by
  refine r_new F n_L_7 (Nat.le_of_ble_eq_true rfl) (Nat.le_of_ble_eq_true rfl) dL_law_0 rfl ?_
  refine r_dup F rfl dL_law_3 rfl ?_
  refine r_callI F GC (c_X8_init l D cA B (a := n0) (ja_ly_s _ _ _) (fun j => ja_zr_s _ _ j)) i_L_9 rfl ⟨(Nat.le_of_ble_eq_true rfl), (Nat.le_of_ble_eq_true rfl)⟩ ⟨(Nat.le_of_ble_eq_true rfl), (Nat.le_of_ble_eq_true rfl)⟩ (Nat.le_of_ble_eq_true rfl) rfl dL_law_4 rfl (fun v L1 M1 n1 hp => ?_)
  obtain ⟨q1, q2, hB, hL1, hM1, hS1, hS2, hZ⟩ := hp
  subst q1; subst q2
  refine r_ast1 F (by decide) rfl dL_law_7 rfl ?_
  refine r_new F n_L_10 (Nat.le_of_ble_eq_true rfl) (Nat.le_of_ble_eq_true rfl) dL_law_8 rfl ?_
  refine r_dup F rfl dL_law_11 rfl ?_
  refine r_callI F GC (c_X9_init l D cA B (a := n0 + 49) (ja_ly_s _ _ _) (fun j => ja_zr_s _ _ j)) i_L_12 rfl ⟨(Nat.le_of_ble_eq_true rfl), (Nat.le_of_ble_eq_true rfl)⟩ ⟨(Nat.le_of_ble_eq_true rfl), (Nat.le_of_ble_eq_true rfl)⟩ (Nat.le_of_ble_eq_true rfl) rfl dL_law_12 rfl (fun v L2 M2 n2 hp => ?_)
  obtain ⟨q1, q2, hM, hL2, hM2, hv, hZ2⟩ := hp
  subst q1; subst q2
  refine r_ast2 F (by decide) rfl dL_law_15 rfl ?_
  refine r_iconst F dL_law_16 rfl ?_
  refine r_ist3 F (by decide) rfl dL_law_17 rfl ?_
  have hLq : ∀ q, q < n0 + 49 → L2 q = L1 q := fun q hq => (hL2 q hq).trans (ja_ly_n (by omega))
  have hMq : ∀ q, q < n0 + 49 → M2 q = M1 q := fun q hq => (hM2 q hq).trans (ja_zr_n (by omega))
  have h : L_fr L2 M2 (n0 + 49 + 9) n0 (n0 + 49) := ⟨rfl, by omega, ja_LB_c (fun q a1 a2 _ => hLq q (by omega)) ((hLq _ (by omega)).trans hB.2.2.2.1) (fun i o _ q => by cases q) hB, hM, by unfold ja_S0; rw [hMq (n0 + 1 + 1) (by omega)]; exact hS1, by unfold ja_S0; rw [hMq (n0 + 21 + 1) (by omega)]; exact hS2, fun q j a1 a2 a3 a4 => by rw [hMq q (by omega)]; exact hZ q j a1 a2 a3 a4, funext hv, fun q j a1 a2 a3 => hZ2 q j a1 a2 a3⟩
  refine law_loop F GC X hL hE 513 0 0 _ _ _ _ _ (fun _ => none) (by omega) rfl (by omega) (In_fresh S1_ok h) (Nat.le_of_ble_eq_true rfl) (Nat.le_of_ble_eq_true rfl)
