set_option maxRecDepth 100000 in
set_option maxHeartbeats 4000000 in
theorem law_end {C : ja_C} {D : va_G} {cA : Nat → ClassId} {l : Launch} {B b L y : Nat} {xs : Nat → Int32} (F : ja_F C RL cL_law 12 room_1) (G : ja_G C l D cA B) (X : ja_X C b L xs) (hL : L ≤ 260) (hE : ∀ (lay : ja_Y) (mem : ja_M) (n cells slots pc : Nat) (ls : List (Option Value)), cells ≤ 600000 → slots ≤ 7302250 → decode code pc = .ok (.ireturn, 1) → ja_W C cells slots lay mem n pc ls [.int (ja_I 1)]) {lay : ja_Y} {mem : ja_M} {n : Nat} {sl : Nat → Option Nat} {t : Int} {v : Nat → Int} {cells slots : Nat} {y0 nn kc kr : Int} (h : I7 lay mem n y sl t v) (ht : t ≤ 1900) (h0 : v 0 = nn) (hc : cells ≤ 200 + 20 * 18) (hs : slots ≤ 20000 + 1269 * 18) : ja_W C cells slots lay mem n 443 [some (.ref b), some (.ref y), some (.int (ja_I y0)), some (.int (ja_I nn)), some (.int (ja_I kc)), some (.int (ja_I kr)), some (.int (ja_I 1)), none, none, none, none, none] [] := by
  have hB := h.L
  refine r_iload F rfl dL_law_443 rfl ?_
  refine r_if_eq F (tgt := 473) ⟨by omega, by omega⟩ dL_law_445 rfl (by decide) (fun h_445 => ?_) (fun h_445 => ?_)
  ·
    exfalso; omega
  ·
    refine r_aload_n F rfl rfl dL_law_448 rfl ?_
    refine r_aload_n F rfl rfl dL_law_449 rfl ?_
    refine r_bipush F (by decide) dL_law_450 rfl ?_
    refine r_callSX F G X (c_L_cell _ _ _ _ (k := 20) (by omega) hL) s_L_144 rfl ⟨(Nat.le_of_ble_eq_true rfl), (Nat.le_of_ble_eq_true rfl)⟩ ⟨by have e1 : rm_L_cell.cells = 0 := rfl; have e2 : room_1.cells = 600000 := rfl; omega, by have e1 : rm_L_cell.slots = 0 := rfl; have e2 : room_1.slots = 7302250 := rfl; omega⟩ (Nat.le_of_ble_eq_true rfl) rfl dL_law_452 rfl (fun rv L' M' n' hp => ?_)
    obtain ⟨q1, q2, q3, zc, hzc, q4⟩ := hp
    subst q1; subst q2; subst q3; subst q4
    refine r_gen (A := 200 + 20 * 18) (B := 20000 + 1269 * 18) (by have e1 : rm_L_cell.cells = 0 := rfl; omega) (by have e2 : rm_L_cell.slots = 0 := rfl; omega) (fun c2 s2 hc hs => ?_)
    refine r_callS F G (c_L_predicts _ _ _ _ h (by omega) hzc) s_L_156 rfl ⟨(Nat.le_of_ble_eq_true rfl), (Nat.le_of_ble_eq_true rfl)⟩ ⟨by have e1 : rm_L_predicts.cells = 20 := rfl; have e2 : room_1.cells = 600000 := rfl; omega, by have e1 : rm_L_predicts.slots = 1269 := rfl; have e2 : room_1.slots = 7302250 := rfl; omega⟩ (Nat.le_of_ble_eq_true rfl) rfl dL_law_455 rfl (fun rv L1 M1 n1 hp => ?_)
    obtain ⟨q1, sl1, h1⟩ := hp
    subst q1
    have hB := h1.L
    refine r_gen (A := 200 + 20 * 18 + 20) (B := 20000 + 1269 * 18 + 1269) (by have e1 : rm_L_predicts.cells = 20 := rfl; omega) (by have e2 : rm_L_predicts.slots = 1269 := rfl; omega) (fun c2 s2 hc hs => ?_)
    refine r_if_eq F (tgt := 473) ⟨by omega, by omega⟩ dL_law_458 rfl (by decide) (fun h_458 => ?_) (fun h_458 => ?_)
    ·
      exfalso; omega
    ·
      refine r_aload_n F rfl rfl dL_law_461 rfl ?_
      refine r_iload_n F rfl rfl dL_law_462 rfl ?_
      refine r_callS F G (c_L_sound _ _ _ _ h1 ((h1.set 0 (by omega)).trans h0)) s_L_169 rfl ⟨(Nat.le_of_ble_eq_true rfl), (Nat.le_of_ble_eq_true rfl)⟩ ⟨by have e1 : rm_L_sound.cells = 0 := rfl; have e2 : room_1.cells = 600000 := rfl; omega, by have e1 : rm_L_sound.slots = 0 := rfl; have e2 : room_1.slots = 7302250 := rfl; omega⟩ (Nat.le_of_ble_eq_true rfl) rfl dL_law_463 rfl (fun rv L' M' n' hp => ?_)
      obtain ⟨q1, q2, q3, q4⟩ := hp
      subst q1; subst q2; subst q3; subst q4
      refine r_gen (A := 200 + 20 * 18 + 20) (B := 20000 + 1269 * 18 + 1269) (by have e1 : rm_L_sound.cells = 0 := rfl; omega) (by have e2 : rm_L_sound.slots = 0 := rfl; omega) (fun c2 s2 hc hs => ?_)
      refine r_if_eq F (tgt := 473) ⟨by omega, by omega⟩ dL_law_466 rfl (by decide) (fun h_466 => ?_) (fun h_466 => ?_)
      ·
        exfalso; omega
      ·
        refine r_iconst F dL_law_469 rfl ?_
        refine r_goto F (tgt := 474) dL_law_470 (by decide) ?_
        exact hE _ _ _ _ _ _ _ (by omega) (by omega) dL_law_474
