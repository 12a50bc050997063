set_option maxRecDepth 100000 in
set_option maxHeartbeats 4000000 in
theorem law_loop {C : ja_C} {D : va_G} {cA : Nat → ClassId} {l : Launch} {B b L y : Nat} {xs : Nat → Int32} (F : ja_F C RL cL_law 12 room_1) (G : ja_G C l D cA B) (X : ja_X C b L xs) (hL : L ≤ 260) (hE : ∀ (lay : ja_Y) (mem : ja_M) (n cells slots pc : Nat) (ls : List (Option Value)), cells ≤ 600000 → slots ≤ 7302250 → decode code pc = .ok (.ireturn, 1) → ja_W C cells slots lay mem n pc ls [.int (ja_I 1)]) {y0 nn kc kr : Int} : ∀ (d k : Nat) (lay : ja_Y) (mem : ja_M) (n : Nat) (sl : Nat → Option Nat) (v : Nat → Int) (cells slots : Nat), k + d = 18 → I7 lay mem n y sl (40 * (k : Int)) v → v 0 = nn → v 3 = kc → v 4 = kr → 0 ≤ v 18 → v 18 ≤ 1000 * (k : Int) → cells ≤ 100 + 20 * k → slots ≤ 10000 + 1269 * k → ja_W C cells slots lay mem n 185 [some (.ref b), some (.ref y), some (.int (ja_I y0)), some (.int (ja_I nn)), some (.int (ja_I kc)), some (.int (ja_I kr)), some (.int (ja_I 1)), some (.int (ja_I (k : Int))), none, none, none, none] [] := by
  intro d
  induction d with
  | zero =>
    intro k lay mem n sl v cells slots hk h h0 h3 h4 h18a h18b hc hs
    refine r_iload F rfl dL_law_185 rfl ?_
    refine r_bipush F (by decide) dL_law_187 rfl ?_
    refine r_icmp_ge F (tgt := 443) ⟨by omega, by omega⟩ ⟨by omega, by omega⟩ dL_law_189 rfl (by decide) (fun h_189 => ?_) (fun h_189 => ?_)
    · refine r_msk [true, true, true, true, true, true, true, false, false, false, false, false] rfl ?_
      exact law_end F G X hL hE h (by omega) h0 (by omega) (by omega)
    · exfalso; omega
  | succ d ih =>
    intro k lay mem n sl v cells slots hk h h0 h3 h4 h18a h18b hc hs
    have J : ∀ (lay2 : ja_Y) (mem2 : ja_M) (n2 : Nat) (sl2 : Nat → Option Nat) (v2 : Nat → Int) (cells2 slots2 : Nat), I7 lay2 mem2 n2 y sl2 (40 * (k : Int) + 40) v2 → v2 0 = nn → v2 3 = kc → v2 4 = kr → 0 ≤ v2 18 → v2 18 ≤ 1000 * (k : Int) + 1000 → cells2 ≤ 100 + 20 * k + 20 → slots2 ≤ 10000 + 1269 * k + 1269 → ja_W C cells2 slots2 lay2 mem2 n2 417 [some (.ref b), some (.ref y), some (.int (ja_I y0)), some (.int (ja_I nn)), some (.int (ja_I kc)), some (.int (ja_I kr)), some (.int (ja_I 1)), some (.int (ja_I (k : Int))), none, none, none, none] [] := by
      intro lay2 mem2 n2 sl2 v2 cells2 slots2 hI2 g0 g3 g4 g5 g6 hc hs
      have hB := hI2.L
      refine r_iload F rfl dL_law_417 rfl ?_
      refine r_if_eq F (tgt := 434) ⟨by omega, by omega⟩ dL_law_419 rfl (by decide) (fun h_419 => ?_) (fun h_419 => ?_)
      ·
        exfalso; omega
      ·
        refine r_aload_n F rfl rfl dL_law_422 rfl ?_
        refine r_iload_n F rfl rfl dL_law_423 rfl ?_
        refine r_callS F G (c_L_sound _ _ _ _ hI2 ((hI2.set 0 (by omega)).trans g0)) s_L_169 rfl ⟨(Nat.le_of_ble_eq_true rfl), (Nat.le_of_ble_eq_true rfl)⟩ ⟨by have e1 : rm_L_sound.cells = 0 := rfl; have e2 : room_1.cells = 600000 := rfl; omega, by have e1 : rm_L_sound.slots = 0 := rfl; have e2 : room_1.slots = 7302250 := rfl; omega⟩ (Nat.le_of_ble_eq_true rfl) rfl dL_law_424 rfl (fun rv L' M' n' hp => ?_)
        obtain ⟨q1, q2, q3, q4⟩ := hp
        subst q1; subst q2; subst q3; subst q4
        refine r_gen (A := 100 + 20 * k + 20) (B := 10000 + 1269 * k + 1269) (by have e1 : rm_L_sound.cells = 0 := rfl; omega) (by have e2 : rm_L_sound.slots = 0 := rfl; omega) (fun c2 s2 hc hs => ?_)
        refine r_if_eq F (tgt := 434) ⟨by omega, by omega⟩ dL_law_427 rfl (by decide) (fun h_427 => ?_) (fun h_427 => ?_)
        ·
          exfalso; omega
        ·
          refine r_iconst F dL_law_430 rfl ?_
          refine r_goto F (tgt := 435) dL_law_431 (by decide) ?_
          refine r_ist6 F (by decide) rfl dL_law_435 rfl ?_
          refine r_inc7 F (by decide) rfl dL_law_437 rfl ?_
          refine r_goto F (tgt := 185) dL_law_440 (by decide) ?_
          exact ih (k + 1) _ _ _ _ v2 _ _ (by omega) (by rw [show 40 * ((k + 1 : Nat) : Int) = 40 * (k : Int) + 40 by omega]; exact hI2) g0 g3 g4 g5 (by omega) (by omega) (by omega)
    refine r_iload F rfl dL_law_185 rfl ?_
    refine r_bipush F (by decide) dL_law_187 rfl ?_
    refine r_icmp_ge F (tgt := 443) ⟨by omega, by omega⟩ ⟨by omega, by omega⟩ dL_law_189 rfl (by decide) (fun h_189 => ?_) (fun h_189 => ?_)
    · exfalso; omega
    ·
      refine r_iload F rfl dL_law_192 rfl ?_
      refine r_if_eq F (tgt := 443) ⟨by omega, by omega⟩ dL_law_194 rfl (by decide) (fun h_194 => ?_) (fun h_194 => ?_)
      ·
        exfalso; omega
      ·
        refine r_aload_n F rfl rfl dL_law_197 rfl ?_
        refine r_iload F rfl dL_law_198 rfl ?_
        refine r_iconst F dL_law_200 rfl ?_
        refine r_iadd F dL_law_201 rfl ?_
        refine r_callSX F G X (c_L_cell _ _ _ _ (k := ((k : Int) + 1)) (by omega) hL) s_L_144 rfl ⟨(Nat.le_of_ble_eq_true rfl), (Nat.le_of_ble_eq_true rfl)⟩ ⟨by have e1 : rm_L_cell.cells = 0 := rfl; have e2 : room_1.cells = 600000 := rfl; omega, by have e1 : rm_L_cell.slots = 0 := rfl; have e2 : room_1.slots = 7302250 := rfl; omega⟩ (Nat.le_of_ble_eq_true rfl) rfl dL_law_202 rfl (fun rv L' M' n' hp => ?_)
        obtain ⟨q1, q2, q3, zc, hzc, q4⟩ := hp
        subst q1; subst q2; subst q3; subst q4
        have hz7 := J_and7 (ja_I zc)
        refine r_gen (A := 100 + 20 * k) (B := 10000 + 1269 * k) (by have e1 : rm_L_cell.cells = 0 := rfl; omega) (by have e2 : rm_L_cell.slots = 0 := rfl; omega) (fun c2 s2 hc hs => ?_)
        refine r_ist8 F (by decide) rfl dL_law_205 rfl ?_
        refine r_iload F rfl dL_law_207 rfl ?_
        refine r_bipush F (by decide) dL_law_209 rfl ?_
        refine r_iand F (ja_of' _) dL_law_211 rfl ?_
        generalize (ja_I zc &&& ja_I 7).toInt = z7 at hz7 ⊢
        rcases (show z7 = 0 ∨ z7 = 1 ∨ z7 = 2 ∨ z7 = 3 ∨ z7 = 4 ∨ z7 = 5 ∨ z7 = 6 ∨ z7 = 7 by omega) with h7 | h7 | h7 | h7 | h7 | h7 | h7 | h7
        · exact r_tableIn F (off := 44) (tgt := 256) ⟨by omega, by omega⟩ dL_law_212 (by omega) (by omega) (by rw [h7]; rfl) (by decide) (law_arrives F G X hL (by omega) h h0 h3 h4 h18a h18b hc hs hzc J)
        · exact r_tableIn F (off := 44) (tgt := 256) ⟨by omega, by omega⟩ dL_law_212 (by omega) (by omega) (by rw [h7]; rfl) (by decide) (law_arrives F G X hL (by omega) h h0 h3 h4 h18a h18b hc hs hzc J)
        · exact r_tableIn F (off := 44) (tgt := 256) ⟨by omega, by omega⟩ dL_law_212 (by omega) (by omega) (by rw [h7]; rfl) (by decide) (law_arrives F G X hL (by omega) h h0 h3 h4 h18a h18b hc hs hzc J)
        · exact r_tableIn F (off := 65) (tgt := 277) ⟨by omega, by omega⟩ dL_law_212 (by omega) (by omega) (by rw [h7]; rfl) (by decide) (law_packets F G X hL (by omega) h h0 h3 h4 h18a h18b hc hs hzc J)
        · exact r_tableIn F (off := 82) (tgt := 294) ⟨by omega, by omega⟩ dL_law_212 (by omega) (by omega) (by rw [h7]; rfl) (by decide) (law_advance F G X hL (by omega) h h0 h3 h4 h18a h18b hc hs hzc J)
        · exact r_tableIn F (off := 141) (tgt := 353) ⟨by omega, by omega⟩ dL_law_212 (by omega) (by omega) (by rw [h7]; rfl) (by decide) (law_predicts F G X hL (by omega) h h0 h3 h4 h18a h18b hc hs hzc J)
        · exact r_tableIn F (off := 154) (tgt := 366) ⟨by omega, by omega⟩ dL_law_212 (by omega) (by omega) (by rw [h7]; rfl) (by decide) (law_schedules F G X hL (by omega) h h0 h3 h4 h18a h18b hc hs hzc J)
        · exact r_tableOut F (tgt := 383) ⟨by omega, by omega⟩ dL_law_212 (by omega) (by decide) (law_refuses F G X hL (by omega) h h0 h3 h4 h18a h18b hc hs hzc J)
