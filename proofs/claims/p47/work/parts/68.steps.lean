set_option maxRecDepth 100000 in
set_option maxHeartbeats 4000000 in
theorem law_arrives {C : ja_C} {D : va_G} {cA : Nat → ClassId} {l : Launch} {B b L y : Nat} {xs : Nat → Int32} (F : ja_F C RL cL_law 12 room_1) (G : ja_G C l D cA B) (X : ja_X C b L xs) (hL : L ≤ 260) {lay : ja_Y} {mem : ja_M} {n k : Nat} {sl : Nat → Option Nat} {v : Nat → Int} {cells slots : Nat} {y0 nn kc kr z : Int} (hk : k < 18) (h : I7 lay mem n y sl (40 * (k : Int)) v) (h0 : v 0 = nn) (h3 : v 3 = kc) (h4 : v 4 = kr) (h18a : 0 ≤ v 18) (h18b : v 18 ≤ 1000 * (k : Int)) (hc : cells ≤ 100 + 20 * k) (hs : slots ≤ 10000 + 1269 * k) (hz : 0 ≤ z ∧ z ≤ 2147483647) (J : ∀ (lay2 : ja_Y) (mem2 : ja_M) (n2 : Nat) (sl2 : Nat → Option Nat) (v2 : Nat → Int) (cells2 slots2 : Nat), I7 lay2 mem2 n2 y sl2 (40 * (k : Int) + 40) v2 → v2 0 = nn → v2 3 = kc → v2 4 = kr → 0 ≤ v2 18 → v2 18 ≤ 1000 * (k : Int) + 1000 → cells2 ≤ 100 + 20 * k + 20 → slots2 ≤ 10000 + 1269 * k + 1269 → ja_W C cells2 slots2 lay2 mem2 n2 417 [some (.ref b), some (.ref y), some (.int (ja_I y0)), some (.int (ja_I nn)), some (.int (ja_I kc)), some (.int (ja_I kr)), some (.int (ja_I 1)), some (.int (ja_I (k : Int))), none, none, none, none] []) : ja_W C cells slots lay mem n 256 [some (.ref b), some (.ref y), some (.int (ja_I y0)), some (.int (ja_I nn)), some (.int (ja_I kc)), some (.int (ja_I kr)), some (.int (ja_I 1)), some (.int (ja_I (k : Int))), some (.int (ja_I z)), none, none, none] [] := by
  have hB := h.L
  have hO := h.O
  refine r_aload_n F rfl rfl dL_law_256 rfl ?_
  refine r_iconst F dL_law_257 rfl ?_
  refine r_iload F rfl dL_law_258 rfl ?_
  refine r_imul F dL_law_260 rfl ?_
  refine r_iload F rfl dL_law_261 rfl ?_
  refine r_iconst F dL_law_263 rfl ?_
  refine r_ishr F (J_shr32 (k := 3) (p := 8) ⟨by omega, by omega⟩ rfl (by decide) (by decide)) dL_law_264 rfl ?_
  refine r_bipush F (by decide) dL_law_265 rfl ?_
  refine r_iremP F ⟨by omega, by omega⟩ ⟨by omega, by omega⟩ (by omega) (by omega) dL_law_267 rfl ?_
  refine r_iadd F dL_law_268 rfl ?_
  refine r_callS F G (c_L_arrives _ _ _ _ h (by omega) (by omega)) s_L_148 rfl ⟨(Nat.le_of_ble_eq_true rfl), (Nat.le_of_ble_eq_true rfl)⟩ ⟨by have e1 : rm_L_arrives.cells = 0 := rfl; have e2 : room_1.cells = 600000 := rfl; omega, by have e1 : rm_L_arrives.slots = 0 := rfl; have e2 : room_1.slots = 7302250 := rfl; omega⟩ (Nat.le_of_ble_eq_true rfl) rfl dL_law_269 rfl (fun rv L1 M1 n1 hp => ?_)
  obtain ⟨q1, q2, q3, v1, hI, h9, g1, g2⟩ := hp
  subst q1; subst q2; subst q3
  have hJ : I7 _ M1 n y sl (40 * (k : Int) + 40) v1 ∧ v1 0 = nn ∧ v1 3 = kc ∧ v1 4 = kr ∧ 0 ≤ v1 18 ∧ v1 18 ≤ 1000 * (k : Int) + 1000 := ⟨hI.mono (by omega), by rw [h9 0 (by omega)]; exact h0, by rw [h9 3 (by omega)]; exact h3, by rw [h9 4 (by omega)]; exact h4, by omega, by omega⟩
  refine r_gen (A := 100 + 20 * k) (B := 10000 + 1269 * k) (by have e1 : rm_L_arrives.cells = 0 := rfl; omega) (by have e2 : rm_L_arrives.slots = 0 := rfl; omega) (fun c2 s2 hc hs => ?_)
  refine r_ist6 F (by decide) rfl dL_law_272 rfl ?_
  refine r_goto F (tgt := 417) dL_law_274 (by decide) ?_
  refine r_msk [true, true, true, true, true, true, true, true, false, false, false, false] rfl ?_
  exact J _ _ _ _ _ _ _ hJ.1 hJ.2.1 hJ.2.2.1 hJ.2.2.2.1 hJ.2.2.2.2.1 hJ.2.2.2.2.2 (by omega) (by omega)
set_option maxRecDepth 100000 in
set_option maxHeartbeats 4000000 in
theorem law_packets {C : ja_C} {D : va_G} {cA : Nat → ClassId} {l : Launch} {B b L y : Nat} {xs : Nat → Int32} (F : ja_F C RL cL_law 12 room_1) (G : ja_G C l D cA B) (X : ja_X C b L xs) (hL : L ≤ 260) {lay : ja_Y} {mem : ja_M} {n k : Nat} {sl : Nat → Option Nat} {v : Nat → Int} {cells slots : Nat} {y0 nn kc kr z : Int} (hk : k < 18) (h : I7 lay mem n y sl (40 * (k : Int)) v) (h0 : v 0 = nn) (h3 : v 3 = kc) (h4 : v 4 = kr) (h18a : 0 ≤ v 18) (h18b : v 18 ≤ 1000 * (k : Int)) (hc : cells ≤ 100 + 20 * k) (hs : slots ≤ 10000 + 1269 * k) (hz : 0 ≤ z ∧ z ≤ 2147483647) (J : ∀ (lay2 : ja_Y) (mem2 : ja_M) (n2 : Nat) (sl2 : Nat → Option Nat) (v2 : Nat → Int) (cells2 slots2 : Nat), I7 lay2 mem2 n2 y sl2 (40 * (k : Int) + 40) v2 → v2 0 = nn → v2 3 = kc → v2 4 = kr → 0 ≤ v2 18 → v2 18 ≤ 1000 * (k : Int) + 1000 → cells2 ≤ 100 + 20 * k + 20 → slots2 ≤ 10000 + 1269 * k + 1269 → ja_W C cells2 slots2 lay2 mem2 n2 417 [some (.ref b), some (.ref y), some (.int (ja_I y0)), some (.int (ja_I nn)), some (.int (ja_I kc)), some (.int (ja_I kr)), some (.int (ja_I 1)), some (.int (ja_I (k : Int))), none, none, none, none] []) : ja_W C cells slots lay mem n 277 [some (.ref b), some (.ref y), some (.int (ja_I y0)), some (.int (ja_I nn)), some (.int (ja_I kc)), some (.int (ja_I kr)), some (.int (ja_I 1)), some (.int (ja_I (k : Int))), some (.int (ja_I z)), none, none, none] [] := by
  have hB := h.L
  have hO := h.O
  refine r_aload_n F rfl rfl dL_law_277 rfl ?_
  refine r_iload F rfl dL_law_278 rfl ?_
  refine r_iload F rfl dL_law_280 rfl ?_
  refine r_iload F rfl dL_law_282 rfl ?_
  refine r_iconst F dL_law_284 rfl ?_
  refine r_ishr F (J_shr32 (k := 3) (p := 8) ⟨by omega, by omega⟩ rfl (by decide) (by decide)) dL_law_285 rfl ?_
  refine r_callS F G (c_L_packets _ _ _ _ h (by omega) ((h.set 3 (by omega)).trans h3) ((h.set 4 (by omega)).trans h4) (by omega) (by omega)) s_L_152 rfl ⟨(Nat.le_of_ble_eq_true rfl), (Nat.le_of_ble_eq_true rfl)⟩ ⟨by have e1 : rm_L_packets.cells = 0 := rfl; have e2 : room_1.cells = 600000 := rfl; omega, by have e1 : rm_L_packets.slots = 0 := rfl; have e2 : room_1.slots = 7302250 := rfl; omega⟩ (Nat.le_of_ble_eq_true rfl) rfl dL_law_286 rfl (fun rv L1 M1 n1 hp => ?_)
  obtain ⟨q1, q2, q3, v1, hI, h9, g1, g2⟩ := hp
  subst q1; subst q2; subst q3
  have hJ : I7 _ M1 n y sl (40 * (k : Int) + 40) v1 ∧ v1 0 = nn ∧ v1 3 = kc ∧ v1 4 = kr ∧ 0 ≤ v1 18 ∧ v1 18 ≤ 1000 * (k : Int) + 1000 := ⟨hI.mono (by omega), by rw [h9 0 (by omega)]; exact h0, by rw [h9 3 (by omega)]; exact h3, by rw [h9 4 (by omega)]; exact h4, by omega, by omega⟩
  refine r_gen (A := 100 + 20 * k) (B := 10000 + 1269 * k) (by have e1 : rm_L_packets.cells = 0 := rfl; omega) (by have e2 : rm_L_packets.slots = 0 := rfl; omega) (fun c2 s2 hc hs => ?_)
  refine r_ist6 F (by decide) rfl dL_law_289 rfl ?_
  refine r_goto F (tgt := 417) dL_law_291 (by decide) ?_
  refine r_msk [true, true, true, true, true, true, true, true, false, false, false, false] rfl ?_
  exact J _ _ _ _ _ _ _ hJ.1 hJ.2.1 hJ.2.2.1 hJ.2.2.2.1 hJ.2.2.2.2.1 hJ.2.2.2.2.2 (by omega) (by omega)
set_option maxRecDepth 100000 in
set_option maxHeartbeats 4000000 in
theorem law_schedules {C : ja_C} {D : va_G} {cA : Nat → ClassId} {l : Launch} {B b L y : Nat} {xs : Nat → Int32} (F : ja_F C RL cL_law 12 room_1) (G : ja_G C l D cA B) (X : ja_X C b L xs) (hL : L ≤ 260) {lay : ja_Y} {mem : ja_M} {n k : Nat} {sl : Nat → Option Nat} {v : Nat → Int} {cells slots : Nat} {y0 nn kc kr z : Int} (hk : k < 18) (h : I7 lay mem n y sl (40 * (k : Int)) v) (h0 : v 0 = nn) (h3 : v 3 = kc) (h4 : v 4 = kr) (h18a : 0 ≤ v 18) (h18b : v 18 ≤ 1000 * (k : Int)) (hc : cells ≤ 100 + 20 * k) (hs : slots ≤ 10000 + 1269 * k) (hz : 0 ≤ z ∧ z ≤ 2147483647) (J : ∀ (lay2 : ja_Y) (mem2 : ja_M) (n2 : Nat) (sl2 : Nat → Option Nat) (v2 : Nat → Int) (cells2 slots2 : Nat), I7 lay2 mem2 n2 y sl2 (40 * (k : Int) + 40) v2 → v2 0 = nn → v2 3 = kc → v2 4 = kr → 0 ≤ v2 18 → v2 18 ≤ 1000 * (k : Int) + 1000 → cells2 ≤ 100 + 20 * k + 20 → slots2 ≤ 10000 + 1269 * k + 1269 → ja_W C cells2 slots2 lay2 mem2 n2 417 [some (.ref b), some (.ref y), some (.int (ja_I y0)), some (.int (ja_I nn)), some (.int (ja_I kc)), some (.int (ja_I kr)), some (.int (ja_I 1)), some (.int (ja_I (k : Int))), none, none, none, none] []) : ja_W C cells slots lay mem n 366 [some (.ref b), some (.ref y), some (.int (ja_I y0)), some (.int (ja_I nn)), some (.int (ja_I kc)), some (.int (ja_I kr)), some (.int (ja_I 1)), some (.int (ja_I (k : Int))), some (.int (ja_I z)), none, none, none] [] := by
  have hB := h.L
  have hO := h.O
  refine r_aload_n F rfl rfl dL_law_366 rfl ?_
  refine r_iload F rfl dL_law_367 rfl ?_
  refine r_iload F rfl dL_law_369 rfl ?_
  refine r_iload F rfl dL_law_371 rfl ?_
  refine r_iconst F dL_law_373 rfl ?_
  refine r_ishr F (J_shr32 (k := 3) (p := 8) ⟨by omega, by omega⟩ rfl (by decide) (by decide)) dL_law_374 rfl ?_
  refine r_callS F G (c_L_schedules _ _ _ _ h (by omega) ((h.set 3 (by omega)).trans h3) ((h.set 4 (by omega)).trans h4) (by omega)) s_L_159 rfl ⟨(Nat.le_of_ble_eq_true rfl), (Nat.le_of_ble_eq_true rfl)⟩ ⟨by have e1 : rm_L_schedules.cells = 0 := rfl; have e2 : room_1.cells = 600000 := rfl; omega, by have e1 : rm_L_schedules.slots = 0 := rfl; have e2 : room_1.slots = 7302250 := rfl; omega⟩ (Nat.le_of_ble_eq_true rfl) rfl dL_law_375 rfl (fun rv L1 M1 n1 hp => ?_)
  obtain ⟨q1, q2, q3, v1, hI, h9, g1, g2⟩ := hp
  subst q1; subst q2; subst q3
  have hJ : I7 _ M1 n y sl (40 * (k : Int) + 40) v1 ∧ v1 0 = nn ∧ v1 3 = kc ∧ v1 4 = kr ∧ 0 ≤ v1 18 ∧ v1 18 ≤ 1000 * (k : Int) + 1000 := ⟨hI.mono (by omega), by rw [h9 0 (by omega)]; exact h0, by rw [h9 3 (by omega)]; exact h3, by rw [h9 4 (by omega)]; exact h4, by omega, by omega⟩
  refine r_gen (A := 100 + 20 * k) (B := 10000 + 1269 * k) (by have e1 : rm_L_schedules.cells = 0 := rfl; omega) (by have e2 : rm_L_schedules.slots = 0 := rfl; omega) (fun c2 s2 hc hs => ?_)
  refine r_ist6 F (by decide) rfl dL_law_378 rfl ?_
  refine r_goto F (tgt := 417) dL_law_380 (by decide) ?_
  refine r_msk [true, true, true, true, true, true, true, true, false, false, false, false] rfl ?_
  exact J _ _ _ _ _ _ _ hJ.1 hJ.2.1 hJ.2.2.1 hJ.2.2.2.1 hJ.2.2.2.2.1 hJ.2.2.2.2.2 (by omega) (by omega)
set_option maxRecDepth 100000 in
set_option maxHeartbeats 4000000 in
theorem law_predicts {C : ja_C} {D : va_G} {cA : Nat → ClassId} {l : Launch} {B b L y : Nat} {xs : Nat → Int32} (F : ja_F C RL cL_law 12 room_1) (G : ja_G C l D cA B) (X : ja_X C b L xs) (hL : L ≤ 260) {lay : ja_Y} {mem : ja_M} {n k : Nat} {sl : Nat → Option Nat} {v : Nat → Int} {cells slots : Nat} {y0 nn kc kr z : Int} (hk : k < 18) (h : I7 lay mem n y sl (40 * (k : Int)) v) (h0 : v 0 = nn) (h3 : v 3 = kc) (h4 : v 4 = kr) (h18a : 0 ≤ v 18) (h18b : v 18 ≤ 1000 * (k : Int)) (hc : cells ≤ 100 + 20 * k) (hs : slots ≤ 10000 + 1269 * k) (hz : 0 ≤ z ∧ z ≤ 2147483647) (J : ∀ (lay2 : ja_Y) (mem2 : ja_M) (n2 : Nat) (sl2 : Nat → Option Nat) (v2 : Nat → Int) (cells2 slots2 : Nat), I7 lay2 mem2 n2 y sl2 (40 * (k : Int) + 40) v2 → v2 0 = nn → v2 3 = kc → v2 4 = kr → 0 ≤ v2 18 → v2 18 ≤ 1000 * (k : Int) + 1000 → cells2 ≤ 100 + 20 * k + 20 → slots2 ≤ 10000 + 1269 * k + 1269 → ja_W C cells2 slots2 lay2 mem2 n2 417 [some (.ref b), some (.ref y), some (.int (ja_I y0)), some (.int (ja_I nn)), some (.int (ja_I kc)), some (.int (ja_I kr)), some (.int (ja_I 1)), some (.int (ja_I (k : Int))), none, none, none, none] []) : ja_W C cells slots lay mem n 353 [some (.ref b), some (.ref y), some (.int (ja_I y0)), some (.int (ja_I nn)), some (.int (ja_I kc)), some (.int (ja_I kr)), some (.int (ja_I 1)), some (.int (ja_I (k : Int))), some (.int (ja_I z)), none, none, none] [] := by
  have hB := h.L
  have hO := h.O
  refine r_aload_n F rfl rfl dL_law_353 rfl ?_
  refine r_iload F rfl dL_law_354 rfl ?_
  refine r_iconst F dL_law_356 rfl ?_
  refine r_ishr F (J_shr32 (k := 3) (p := 8) ⟨by omega, by omega⟩ rfl (by decide) (by decide)) dL_law_357 rfl ?_
  refine r_callS F G (c_L_predicts _ _ _ _ h (by omega) (by omega)) s_L_156 rfl ⟨(Nat.le_of_ble_eq_true rfl), (Nat.le_of_ble_eq_true rfl)⟩ ⟨by have e1 : rm_L_predicts.cells = 20 := rfl; have e2 : room_1.cells = 600000 := rfl; omega, by have e1 : rm_L_predicts.slots = 1269 := rfl; have e2 : room_1.slots = 7302250 := rfl; omega⟩ (Nat.le_of_ble_eq_true rfl) rfl dL_law_358 rfl (fun rv L1 M1 n1 hp => ?_)
  obtain ⟨q1, sl1, h1⟩ := hp
  subst q1
  have hJ : I7 L1 M1 n1 y sl1 (40 * (k : Int) + 40) v ∧ v 0 = nn ∧ v 3 = kc ∧ v 4 = kr ∧ 0 ≤ v 18 ∧ v 18 ≤ 1000 * (k : Int) + 1000 := ⟨h1.mono (by omega), h0, h3, h4, by omega, by omega⟩
  refine r_gen (A := 100 + 20 * k + 20) (B := 10000 + 1269 * k + 1269) (by have e1 : rm_L_predicts.cells = 20 := rfl; omega) (by have e2 : rm_L_predicts.slots = 1269 := rfl; omega) (fun c2 s2 hc hs => ?_)
  refine r_ist6 F (by decide) rfl dL_law_361 rfl ?_
  refine r_goto F (tgt := 417) dL_law_363 (by decide) ?_
  refine r_msk [true, true, true, true, true, true, true, true, false, false, false, false] rfl ?_
  exact J _ _ _ _ _ _ _ hJ.1 hJ.2.1 hJ.2.2.1 hJ.2.2.2.1 hJ.2.2.2.2.1 hJ.2.2.2.2.2 (by omega) (by omega)
set_option maxRecDepth 100000 in
set_option maxHeartbeats 4000000 in
theorem law_advance {C : ja_C} {D : va_G} {cA : Nat → ClassId} {l : Launch} {B b L y : Nat} {xs : Nat → Int32} (F : ja_F C RL cL_law 12 room_1) (G : ja_G C l D cA B) (X : ja_X C b L xs) (hL : L ≤ 260) {lay : ja_Y} {mem : ja_M} {n k : Nat} {sl : Nat → Option Nat} {v : Nat → Int} {cells slots : Nat} {y0 nn kc kr z : Int} (hk : k < 18) (h : I7 lay mem n y sl (40 * (k : Int)) v) (h0 : v 0 = nn) (h3 : v 3 = kc) (h4 : v 4 = kr) (h18a : 0 ≤ v 18) (h18b : v 18 ≤ 1000 * (k : Int)) (hc : cells ≤ 100 + 20 * k) (hs : slots ≤ 10000 + 1269 * k) (hz : 0 ≤ z ∧ z ≤ 2147483647) (J : ∀ (lay2 : ja_Y) (mem2 : ja_M) (n2 : Nat) (sl2 : Nat → Option Nat) (v2 : Nat → Int) (cells2 slots2 : Nat), I7 lay2 mem2 n2 y sl2 (40 * (k : Int) + 40) v2 → v2 0 = nn → v2 3 = kc → v2 4 = kr → 0 ≤ v2 18 → v2 18 ≤ 1000 * (k : Int) + 1000 → cells2 ≤ 100 + 20 * k + 20 → slots2 ≤ 10000 + 1269 * k + 1269 → ja_W C cells2 slots2 lay2 mem2 n2 417 [some (.ref b), some (.ref y), some (.int (ja_I y0)), some (.int (ja_I nn)), some (.int (ja_I kc)), some (.int (ja_I kr)), some (.int (ja_I 1)), some (.int (ja_I (k : Int))), none, none, none, none] []) : ja_W C cells slots lay mem n 294 [some (.ref b), some (.ref y), some (.int (ja_I y0)), some (.int (ja_I nn)), some (.int (ja_I kc)), some (.int (ja_I kr)), some (.int (ja_I 1)), some (.int (ja_I (k : Int))), some (.int (ja_I z)), none, none, none] [] := by
  have hB := h.L
  have hO := h.O
  obtain ⟨mm, hmm⟩ : ∃ w, w = 1 + z / 8 % 40 := ⟨_, rfl⟩
  have hm1 : 1 ≤ mm ∧ mm ≤ 40 := by omega
  have hC0 := h.N.1.C
  have h12 : 0 ≤ v 12 ∧ v 12 ≤ 900002 := by omega
  clear hC0
  refine r_aload_n F rfl rfl dL_law_294 rfl ?_
  refine r_callV F G (c_X8_outputs _ _ _ _ hB hO) v_L_44 rfl (hB.1) rfl ⟨(Nat.le_of_ble_eq_true rfl), (Nat.le_of_ble_eq_true rfl)⟩ ⟨by have e1 : rm_X8_outputs.cells = 0 := rfl; have e2 : room_1.cells = 600000 := rfl; omega, by have e1 : rm_X8_outputs.slots = 0 := rfl; have e2 : room_1.slots = 7302250 := rfl; omega⟩ (Nat.le_of_ble_eq_true rfl) rfl dL_law_295 rfl (fun rv L' M' n' hp => ?_)
  obtain ⟨q1, q2, q3, q4⟩ := hp
  subst q1; subst q2; subst q3; subst q4
  refine r_eqz (z := v 12) h.P.1.2.2.1 ?_
  refine r_gen (A := 100 + 20 * k) (B := 10000 + 1269 * k) (by have e1 : rm_X8_outputs.cells = 0 := rfl; omega) (by have e2 : rm_X8_outputs.slots = 0 := rfl; omega) (fun c2 s2 hc hs => ?_)
  refine r_ist9 F (by decide) rfl dL_law_298 rfl ?_
  refine r_iconst F dL_law_300 rfl ?_
  refine r_iload F rfl dL_law_301 rfl ?_
  refine r_iconst F dL_law_303 rfl ?_
  refine r_ishr F (J_shr32 (k := 3) (p := 8) ⟨by omega, by omega⟩ rfl (by decide) (by decide)) dL_law_304 rfl ?_
  refine r_bipush F (by decide) dL_law_305 rfl ?_
  refine r_iremP F ⟨by omega, by omega⟩ ⟨by omega, by omega⟩ (by omega) (by omega) dL_law_307 rfl ?_
  refine r_iadd F dL_law_308 rfl ?_
  refine r_eqz (z := mm) (hmm.symm) ?_
  refine r_ist10 F (by decide) rfl dL_law_309 rfl ?_
  refine r_aload_n F rfl rfl dL_law_311 rfl ?_
  refine r_iload F rfl dL_law_312 rfl ?_
  refine r_callV F G (c_X8_advance _ _ _ _ hB hO ⟨by omega, by omega⟩ (by omega)) v_L_97 rfl (hB.1) rfl ⟨(Nat.le_of_ble_eq_true rfl), (Nat.le_of_ble_eq_true rfl)⟩ ⟨by have e1 : rm_X8_advance.cells = 0 := rfl; have e2 : room_1.cells = 600000 := rfl; omega, by have e1 : rm_X8_advance.slots = 0 := rfl; have e2 : room_1.slots = 7302250 := rfl; omega⟩ (Nat.le_of_ble_eq_true rfl) rfl dL_law_314 rfl (fun rv L1 M1 n1 hp => ?_)
  obtain ⟨q1, q2, q3, q4⟩ := hp
  subst q1; subst q2; subst q4
  obtain ⟨a1, a2, a3, a4, a5, a6⟩ := I7_tck h mm.toNat (by omega)
  have a7 : (B_adv mem (y + 1) mm.toNat) (y + 1 + 9) 4 = v 12 + N_at v mm.toNat := by have e := h.P.1.2.2.1; omega
  refine r_eqz (z := N_at v mm.toNat) ((if_pos ⟨by omega, by omega⟩).trans a3) ?_
  rw [(if_pos (show 1 ≤ mm ∧ mm ≤ 500 by omega)).symm.trans q3] at a1 a7
  have b9 := N_ad_9 h.N mm.toNat (by omega)
  have b18 := N_ad_18 h.N mm.toNat (by omega)
  have hJ : I7 _ M1 n y sl (40 * (k : Int) + 40) (N_ad v mm.toNat) ∧ (N_ad v mm.toNat) 0 = nn ∧ (N_ad v mm.toNat) 3 = kc ∧ (N_ad v mm.toNat) 4 = kr ∧ 0 ≤ (N_ad v mm.toNat) 18 ∧ (N_ad v mm.toNat) 18 ≤ 1000 * (k : Int) + 1000 := ⟨a1.mono (by omega), by rw [b9 0 (by omega)]; exact h0, by rw [b9 3 (by omega)]; exact h3, by rw [b9 4 (by omega)]; exact h4, by omega, by omega⟩
  refine r_gen (A := 100 + 20 * k) (B := 10000 + 1269 * k) (by have e1 : rm_X8_advance.cells = 0 := rfl; omega) (by have e2 : rm_X8_advance.slots = 0 := rfl; omega) (fun c2 s2 hc hs => ?_)
  refine r_ist11 F (by decide) rfl dL_law_317 rfl ?_
  refine r_iload F rfl dL_law_319 rfl ?_
  refine r_if_lt F (tgt := 347) ⟨by omega, by omega⟩ dL_law_321 rfl (by decide) (fun h_321 => ?_) (fun h_321 => ?_)
  ·
    exfalso; omega
  ·
    refine r_iload F rfl dL_law_324 rfl ?_
    refine r_iload F rfl dL_law_326 rfl ?_
    refine r_icmp_gt F (tgt := 347) ⟨by omega, by omega⟩ ⟨by omega, by omega⟩ dL_law_328 rfl (by decide) (fun h_328 => ?_) (fun h_328 => ?_)
    ·
      exfalso; omega
    ·
      refine r_aload_n F rfl rfl dL_law_331 rfl ?_
      refine r_callV F G (c_X8_outputs _ _ _ _ hB a1.O) v_L_44 rfl (hB.1) rfl ⟨(Nat.le_of_ble_eq_true rfl), (Nat.le_of_ble_eq_true rfl)⟩ ⟨by have e1 : rm_X8_outputs.cells = 0 := rfl; have e2 : room_1.cells = 600000 := rfl; omega, by have e1 : rm_X8_outputs.slots = 0 := rfl; have e2 : room_1.slots = 7302250 := rfl; omega⟩ (Nat.le_of_ble_eq_true rfl) rfl dL_law_332 rfl (fun rv L' M' n' hp => ?_)
      obtain ⟨q1, q2, q3, q4⟩ := hp
      subst q1; subst q2; subst q3; subst q4
      refine r_eqz (z := v 12 + N_at v mm.toNat) a7 ?_
      refine r_gen (A := 100 + 20 * k) (B := 10000 + 1269 * k) (by have e1 : rm_X8_outputs.cells = 0 := rfl; omega) (by have e2 : rm_X8_outputs.slots = 0 := rfl; omega) (fun c2 s2 hc hs => ?_)
      refine r_iload F rfl dL_law_335 rfl ?_
      refine r_iload F rfl dL_law_337 rfl ?_
      refine r_iadd F dL_law_339 rfl ?_
      refine r_nesame F (tgt := 347) rfl dL_law_340 rfl (by decide) ?_
      refine r_iconst F dL_law_343 rfl ?_
      refine r_goto F (tgt := 348) dL_law_344 (by decide) ?_
      refine r_ist6 F (by decide) rfl dL_law_348 rfl ?_
      refine r_goto F (tgt := 417) dL_law_350 (by decide) ?_
      refine r_msk [true, true, true, true, true, true, true, true, false, false, false, false] rfl ?_
      exact J _ _ _ _ _ _ _ hJ.1 hJ.2.1 hJ.2.2.1 hJ.2.2.2.1 hJ.2.2.2.2.1 hJ.2.2.2.2.2 (by omega) (by omega)
set_option maxRecDepth 100000 in
set_option maxHeartbeats 4000000 in
theorem law_refuses {C : ja_C} {D : va_G} {cA : Nat → ClassId} {l : Launch} {B b L y : Nat} {xs : Nat → Int32} (F : ja_F C RL cL_law 12 room_1) (G : ja_G C l D cA B) (X : ja_X C b L xs) (hL : L ≤ 260) {lay : ja_Y} {mem : ja_M} {n k : Nat} {sl : Nat → Option Nat} {v : Nat → Int} {cells slots : Nat} {y0 nn kc kr z : Int} (hk : k < 18) (h : I7 lay mem n y sl (40 * (k : Int)) v) (h0 : v 0 = nn) (h3 : v 3 = kc) (h4 : v 4 = kr) (h18a : 0 ≤ v 18) (h18b : v 18 ≤ 1000 * (k : Int)) (hc : cells ≤ 100 + 20 * k) (hs : slots ≤ 10000 + 1269 * k) (hz : 0 ≤ z ∧ z ≤ 2147483647) (J : ∀ (lay2 : ja_Y) (mem2 : ja_M) (n2 : Nat) (sl2 : Nat → Option Nat) (v2 : Nat → Int) (cells2 slots2 : Nat), I7 lay2 mem2 n2 y sl2 (40 * (k : Int) + 40) v2 → v2 0 = nn → v2 3 = kc → v2 4 = kr → 0 ≤ v2 18 → v2 18 ≤ 1000 * (k : Int) + 1000 → cells2 ≤ 100 + 20 * k + 20 → slots2 ≤ 10000 + 1269 * k + 1269 → ja_W C cells2 slots2 lay2 mem2 n2 417 [some (.ref b), some (.ref y), some (.int (ja_I y0)), some (.int (ja_I nn)), some (.int (ja_I kc)), some (.int (ja_I kr)), some (.int (ja_I 1)), some (.int (ja_I (k : Int))), none, none, none, none] []) : ja_W C cells slots lay mem n 383 [some (.ref b), some (.ref y), some (.int (ja_I y0)), some (.int (ja_I nn)), some (.int (ja_I kc)), some (.int (ja_I kr)), some (.int (ja_I 1)), some (.int (ja_I (k : Int))), some (.int (ja_I z)), none, none, none] [] := by
  have hB := h.L
  have hO := h.O
  obtain ⟨ba, hba⟩ : ∃ w, w = (if F_and z 8 = 0 then 1 else 0 : Int) := ⟨_, rfl⟩
  have baf : (F_and z 8 = 0 ∧ ba = 1) ∨ (¬ F_and z 8 = 0 ∧ ba = 0) := by rw [hba]; split <;> omega
  have ha1 := F_and_in z 8
  have h8 := h.R.1.2.2.2.2.2.2.2.2
  refine r_aload_n F rfl rfl dL_law_383 rfl ?_
  refine r_callS F G (c_L_refuses _ _ _ _ h (by omega)) s_L_162 rfl ⟨(Nat.le_of_ble_eq_true rfl), (Nat.le_of_ble_eq_true rfl)⟩ ⟨by have e1 : rm_L_refuses.cells = 20 := rfl; have e2 : room_1.cells = 600000 := rfl; omega, by have e1 : rm_L_refuses.slots = 1269 := rfl; have e2 : room_1.slots = 7302250 := rfl; omega⟩ (Nat.le_of_ble_eq_true rfl) rfl dL_law_384 rfl (fun rv L' M' n' hp => ?_)
  obtain ⟨q1, q2, q3, q4⟩ := hp
  subst q1; subst q2; subst q3; subst q4
  refine r_gen (A := 100 + 20 * k + 20) (B := 10000 + 1269 * k + 1269) (by have e1 : rm_L_refuses.cells = 20 := rfl; omega) (by have e2 : rm_L_refuses.slots = 1269 := rfl; omega) (fun c2 s2 hc hs => ?_)
  refine r_if_eq F (tgt := 414) ⟨by omega, by omega⟩ dL_law_387 rfl (by decide) (fun h_387 => ?_) (fun h_387 => ?_)
  ·
    exfalso; omega
  ·
    have J404 : ja_W C c2 s2 lay mem n 404 [some (.ref (b)), some (.ref (y)), some (.int (ja_I (y0))), some (.int (ja_I (nn))), some (.int (ja_I (kc))), some (.int (ja_I (kr))), some (.int (ja_I (1))), some (.int (ja_I ((k : Int)))), some (.int (ja_I (z))), none, none, none] [.int (ja_I (ba)), .ref (y)] := by
      refine r_callV F G (c_X8_setAdapting _ _ _ _ hB hO (by omega)) v_L_166 rfl (hB.1) rfl ⟨(Nat.le_of_ble_eq_true rfl), (Nat.le_of_ble_eq_true rfl)⟩ ⟨by have e1 : rm_X8_setAdapting.cells = 0 := rfl; have e2 : room_1.cells = 600000 := rfl; omega, by have e1 : rm_X8_setAdapting.slots = 0 := rfl; have e2 : room_1.slots = 7302250 := rfl; omega⟩ (Nat.le_of_ble_eq_true rfl) rfl dL_law_404 rfl (fun rv L1 M1 n1 hp => ?_)
      obtain ⟨q1, q2, q3, q4⟩ := hp
      subst q1; subst q2; subst q4
      have a1 := I7_up3 h (j := 8) (z := ba) (by omega) (by omega) (show 0 ≤ ba ∧ ba ≤ 1 by omega)
      rw [q3] at a1
      have a18 : ja_rs v 8 ba 18 = v 18 := ja_rs_n (by omega)
      have hJ : I7 lay M1 n y sl (40 * (k : Int) + 40) (ja_rs v 8 ba) ∧ ja_rs v 8 ba 0 = nn ∧ ja_rs v 8 ba 3 = kc ∧ ja_rs v 8 ba 4 = kr ∧ 0 ≤ ja_rs v 8 ba 18 ∧ ja_rs v 8 ba 18 ≤ 1000 * (k : Int) + 1000 := ⟨a1.mono (by omega), (ja_rs_n (by omega)).trans h0, (ja_rs_n (by omega)).trans h3, (ja_rs_n (by omega)).trans h4, by omega, by omega⟩
      refine r_gen (A := 100 + 20 * k + 20) (B := 10000 + 1269 * k + 1269) (by have e1 : rm_X8_setAdapting.cells = 0 := rfl; omega) (by have e2 : rm_X8_setAdapting.slots = 0 := rfl; omega) (fun c2 s2 hc hs => ?_)
      refine r_if_lt F (tgt := 414) ⟨by omega, by omega⟩ dL_law_407 rfl (by decide) (fun h_407 => ?_) (fun h_407 => ?_)
      ·
        exfalso; omega
      ·
        refine r_iconst F dL_law_410 rfl ?_
        refine r_goto F (tgt := 415) dL_law_411 (by decide) ?_
        refine r_ist6 F (by decide) rfl dL_law_415 rfl ?_
        refine r_msk [true, true, true, true, true, true, true, true, false, false, false, false] rfl ?_
        exact J _ _ _ _ _ _ _ hJ.1 hJ.2.1 hJ.2.2.1 hJ.2.2.2.1 hJ.2.2.2.2.1 hJ.2.2.2.2.2 (by omega) (by omega)
    refine r_aload_n F rfl rfl dL_law_390 rfl ?_
    refine r_iload F rfl dL_law_391 rfl ?_
    refine r_bipush F (by decide) dL_law_393 rfl ?_
    refine r_iand F (ja_of' _) dL_law_395 rfl ?_
    refine r_eqz (z := F_and z 8) (rfl) ?_
    refine r_if_ne F (tgt := 403) ha1 dL_law_396 rfl (by decide) (fun h_396 => ?_) (fun h_396 => ?_)
    ·
      refine r_iconst F dL_law_403 rfl ?_
      refine r_eqz (z := ba) (by omega) ?_
      exact J404
    ·
      refine r_iconst F dL_law_399 rfl ?_
      refine r_goto F (tgt := 404) dL_law_400 (by decide) ?_
      refine r_eqz (z := ba) (by omega) ?_
      exact J404
