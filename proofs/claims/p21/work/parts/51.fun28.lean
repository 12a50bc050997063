-- a copy, place by place
theorem ja_cp_i {mem : ja_M} {a0 a1 k j : Nat} (h : j < k) : ja_cp mem a0 a1 0 0 k a1 j = mem a0 j := by
  unfold ja_cp
  rw [if_pos ⟨rfl, by omega, by omega⟩]
  congr 1
  omega
/-- receiver b holds what receiver o holds (in another memory) -/
def R_eq (mem' : ja_M) (b : Nat) (mem : ja_M) (o : Nat) : Prop := (∀ j, j < 9 → mem' (b + 1) j = mem (o + 1) j) ∧ (∀ c j, 3 ≤ c → c ≤ 5 → j < 250 → mem' (b + c) j = mem (o + c) j) ∧ (mem' (b + 6) 2 = mem (o + 6) 2 ∧ mem' (b + 6) 3 = mem (o + 6) 3) ∧ (∀ c j, 7 ≤ c → c ≤ 8 → j < 16 → mem' (b + c) j = mem (o + c) j) ∧ (mem' (b + 9) 1 = mem (o + 9) 1 ∧ mem' (b + 9) 2 = mem (o + 9) 2 ∧ mem' (b + 9) 4 = mem (o + 9) 4 ∧ mem' (b + 9) 6 = mem (o + 9) 6) ∧ (∀ j, j < 24 → mem' (b + 10) j = mem (o + 10) j) ∧ (∀ j, j < 256 → mem' (b + 11) j = mem (o + 11) j) ∧ (∀ j, j < 32 → mem' (b + 12) j = mem (o + 12) j) ∧ (∀ j, j < 9 → mem' (b + 14) j = mem (o + 14) j) ∧ mem' (b + 15) 4 = mem (o + 15) 4 ∧ (∀ (c j : Nat), 16 ≤ c → c ≤ 19 → (j : Int) < mem (o + 15) 4 → mem' (b + c) j = mem (o + c) j) ∧ (mem' b 6 = mem o 6 ∧ mem' b 7 = mem o 7 ∧ mem' b 8 = mem o 8)
theorem R_cp_eq {mem : ja_M} {b o : Nat} (hbo : b + 20 ≤ o ∨ o + 20 ≤ b) (hz : 0 ≤ mem (o + 15) 4 ∧ mem (o + 15) 4 ≤ 24) : R_eq (R_cp mem b o) b mem o := by
  have hx : ∀ q, q ≠ b → q < b + 15 → R_cp mem b o q = R_c5 mem b o q := fun q a1 a2 => by
    unfold R_cp R_c6
    rw [ja_up_row a1, ja_up_row a1, ja_up_row a1, A_all_o (by omega), ja_up_row (by omega)]
  have o1 : ∀ q, q ≠ b + 1 → R_c1 mem b o q = mem q := fun q a1 => by
    unfold R_c1
    exact S_cp_o a1
  have o2 : ∀ q, q ≠ b + 1 → (q < b + 3 ∨ b + 6 ≤ q) → R_c2 mem b o q = mem q := fun q a1 a2 => by
    unfold R_c2
    rw [F_cpy_o (by omega), o1 q a1]
  have o3 : ∀ q, (q < b + 1 ∨ b + 9 ≤ q) → R_c3 mem b o q = mem q := fun q a1 => by
    unfold R_c3
    rw [T_cp_o (by omega), o2 q (by omega) (by omega)]
  have o4 : ∀ q, (q < b + 1 ∨ b + 14 ≤ q) → R_c4 mem b o q = mem q := fun q a1 => by
    unfold R_c4
    rw [P_cp2_o (by omega), o3 q (by omega)]
  have r2 : ∀ q, q ≠ b → b + 2 ≤ q → q < b + 6 → R_cp mem b o q = R_c2 mem b o q := fun q a0 a1 a2 => by
    rw [hx q a0 (by omega)]
    unfold R_c5 R_c4 R_c3
    rw [C_cp_o (by omega), P_cp2_o (by omega), T_cp_o (by omega)]
  have r6 : ∀ q, b + 6 ≤ q → q < b + 9 → R_cp mem b o q = R_c3 mem b o q := fun q a1 a2 => by
    rw [hx _ (by omega) (by omega)]
    unfold R_c5 R_c4
    rw [C_cp_o (by omega), P_cp2_o (by omega)]
  have r9 : ∀ q, b + 9 ≤ q → q < b + 14 → R_cp mem b o q = R_c4 mem b o q := fun q a1 a2 => by
    rw [hx _ (by omega) (by omega)]
    unfold R_c5
    rw [C_cp_o (by omega)]
  have ha : ∀ q, b + 15 ≤ q → R_cp mem b o q = R_c6 mem b o q := fun q a1 => by
    unfold R_cp
    rw [ja_up_row (by omega), ja_up_row (by omega), ja_up_row (by omega)]
  have hA6 : R_c6 mem b o = A_all (ja_up (R_c5 mem b o) (b + 15) 4 0) (b + 15) (o + 15) (mem (o + 15) 4).toNat := by
    unfold R_c6
    rw [R_c5_o (by omega)]
  have hIs := A_all_is (mem := ja_up (R_c5 mem b o) (b + 15) 4 0) (a := b + 15) (o := o + 15) (by rw [ja_up_s]) (by omega) (mem (o + 15) 4).toNat (by omega)
  obtain ⟨i4, ij⟩ := hIs
  have m5 : ∀ q, q ≠ b + 15 → (q < b + 1 ∨ b + 15 ≤ q) → ja_up (R_c5 mem b o) (b + 15) 4 0 q = mem q := fun q a1 a2 => by rw [ja_up_row a1, R_c5_o (by omega)]
  refine ⟨fun j hj => ?_, fun c j c1 c2 hj => ?_, ⟨?_, ?_⟩, fun c j c1 c2 hj => ?_, ⟨?_, ?_, ?_, ?_⟩, fun j hj => ?_, fun j hj => ?_, fun j hj => ?_, fun j hj => ?_, ?_, fun c j c1 c2 hj => ?_, ⟨?_, ?_, ?_⟩⟩
  · rw [hx _ (by omega) (by omega)]
    unfold R_c5 R_c4 R_c3 R_c2 R_c1
    rw [C_cp_o (by omega), P_cp2_o (by omega), T_cp_o (by omega), F_cpy_o (by omega), S_cp_s hj]
  · rw [r2 _ (by omega) (by omega) (by omega)]
    unfold R_c2 F_cpy
    rcases (show c = 3 ∨ c = 4 ∨ c = 5 by omega) with rfl | rfl | rfl
    · rw [ja_cp_o _ (by omega), ja_cp_o _ (by omega), show b + 3 = b + 2 + 1 by omega, ja_cp_i hj, o1 _ (by omega)]
    · rw [ja_cp_o _ (by omega), show b + 4 = b + 2 + 2 by omega, ja_cp_i hj, ja_cp_o _ (by omega), o1 _ (by omega)]
    · rw [show b + 5 = b + 2 + 3 by omega, ja_cp_i hj, ja_cp_o _ (by omega), ja_cp_o _ (by omega), o1 _ (by omega)]
  · rw [r6 _ (by omega) (by omega)]
    unfold R_c3 T_cp
    rw [ja_up_j (by omega), ja_up_s, o2 _ (by omega) (by omega)]
  · rw [r6 _ (by omega) (by omega)]
    unfold R_c3 T_cp
    rw [ja_up_s, o2 _ (by omega) (by omega)]
  · rw [r6 _ (by omega) (by omega)]
    unfold R_c3 T_cp
    rcases (show c = 7 ∨ c = 8 by omega) with rfl | rfl
    · rw [ja_up_a (by omega), ja_up_a (by omega), ja_cp_o _ (by omega), show b + 7 = b + 6 + 1 by omega, ja_cp_i hj, o2 _ (by omega) (by omega)]
    · rw [ja_up_a (by omega), ja_up_a (by omega), show b + 8 = b + 6 + 2 by omega, ja_cp_i hj, ja_cp_o _ (by omega), o2 _ (by omega) (by omega)]
  · rw [r9 _ (by omega) (by omega)]
    unfold R_c4 P_cp2
    rw [o3 (o + 9) (by omega), ja_up_j (by omega), ja_cp_o _ (by omega), ja_up_j (by omega), ja_cp_o _ (by omega), ja_up_j (by omega), ja_up_s]
  · rw [r9 _ (by omega) (by omega)]
    unfold R_c4 P_cp2
    rw [o3 (o + 9) (by omega), ja_up_j (by omega), ja_cp_o _ (by omega), ja_up_j (by omega), ja_cp_o _ (by omega), ja_up_s]
  · rw [r9 _ (by omega) (by omega)]
    unfold R_c4 P_cp2
    rw [o3 (o + 9) (by omega), ja_up_j (by omega), ja_cp_o _ (by omega), ja_up_s]
  · rw [r9 _ (by omega) (by omega)]
    unfold R_c4 P_cp2
    rw [o3 (o + 9) (by omega), ja_up_s]
  · rw [r9 _ (by omega) (by omega)]
    unfold R_c4 P_cp2
    rw [ja_up_a (by omega), ja_cp_o _ (by omega), ja_up_a (by omega), ja_cp_o _ (by omega), ja_up_a (by omega), ja_up_a (by omega), show b + 10 = b + 9 + 1 by omega, ja_cp_i hj, o3 _ (by omega)]
  · rw [r9 _ (by omega) (by omega)]
    unfold R_c4 P_cp2
    rw [ja_up_a (by omega), ja_cp_o _ (by omega), ja_up_a (by omega), show b + 11 = b + 9 + 2 by omega, ja_cp_i hj, ja_up_a (by omega), ja_up_a (by omega), ja_cp_o _ (by omega), o3 _ (by omega)]
  · rw [r9 _ (by omega) (by omega)]
    unfold R_c4 P_cp2
    rw [ja_up_a (by omega), show b + 12 = b + 9 + 3 by omega, ja_cp_i hj, ja_up_a (by omega), ja_cp_o _ (by omega), ja_up_a (by omega), ja_up_a (by omega), ja_cp_o _ (by omega), o3 _ (by omega)]
  · rw [hx _ (by omega) (by omega)]
    unfold R_c5
    rw [C_cp_s hj, o4 _ (by omega)]
  · rw [ha _ (by omega), hA6, i4]
    omega
  · obtain ⟨e1, e2, e3, e4⟩ := ij j (by omega)
    rw [ha _ (by omega), hA6]
    rcases (show c = 16 ∨ c = 17 ∨ c = 18 ∨ c = 19 by omega) with rfl | rfl | rfl | rfl
    · rw [show b + 16 = b + 15 + 1 by omega, e1, m5 _ (by omega) (by omega)]
    · rw [show b + 17 = b + 15 + 2 by omega, e2, m5 _ (by omega) (by omega)]
    · rw [show b + 18 = b + 15 + 3 by omega, e3, m5 _ (by omega) (by omega)]
    · rw [show b + 19 = b + 15 + 4 by omega, e4, m5 _ (by omega) (by omega)]
  · unfold R_cp
    rw [ja_up_j (by omega), ja_up_j (by omega), ja_up_s, R_c6_o (by omega)]
  · unfold R_cp
    rw [ja_up_j (by omega), ja_up_s, R_c6_o (by omega)]
  · unfold R_cp
    rw [ja_up_s, R_c6_o (by omega)]
-- a receiver to which nothing has arrived, with nothing scheduled: time passes
def Z_I (mem : ja_M) (b : Nat) : Prop := mem b 7 = 0 ∧ mem (b + 15) 4 = 0
theorem Z_tk {mem : ja_M} {b : Nat} (h : Z_I mem b) : R_tk mem b = ja_up (ja_up mem (b + 15) 4 0) b 6 (mem b 6 + 1) := by
  have e1 : R_due mem b = ja_up mem (b + 15) 4 0 := by
    unfold R_due
    rw [h.2]
    rfl
  have e2 : R_pl (R_due mem b) b = R_due mem b := by
    unfold R_pl
    rw [if_neg]
    intro q
    rw [e1, ja_up_a (show b ≠ b + 15 by omega)] at q
    exact q.1 h.1
  unfold R_tk
  rw [e2, e1, ja_up_a (show b ≠ b + 15 by omega)]
theorem Z_tk_v {mem : ja_M} {b q j : Nat} (h : Z_I mem b) (hq : ¬ (q = b ∧ j = 6)) : R_tk mem b q j = mem q j := by
  rw [Z_tk h, ja_up_x (by omega)]
  unfold ja_up
  split
  · rename_i hh
    rw [hh.1, hh.2, h.2]
  · rfl
theorem Z_tk_I {mem : ja_M} {b : Nat} (h : Z_I mem b) : Z_I (R_tk mem b) b := ⟨(Z_tk_v h (by omega)).trans h.1, (Z_tk_v h (by omega)).trans h.2⟩
theorem Z_adv {mem : ja_M} {b : Nat} (h : Z_I mem b) : ∀ k, Z_I (B_adv mem b k) b ∧ ∀ q j, ¬ (q = b ∧ j = 6) → B_adv mem b k q j = mem q j
  | 0 => ⟨h, fun _ _ _ => rfl⟩
  | k + 1 => by
    obtain ⟨i1, i2⟩ := Z_adv h k
    exact ⟨Z_tk_I i1, fun q j hq => (Z_tk_v i1 hq).trans (i2 q j hq)⟩
theorem Z_gap {b : Nat} {c : Int} : ∀ (r i : Nat) (m : ja_M), Z_I m b → m (b + 14) 2 ≤ c → (B_gap b c r i m).1 = -1004
  | 0, _, _, _, _ => rfl
  | r + 1, i, m, h, hc => by
    have e := Z_tk_v (q := b + 14) (j := 2) h (by omega)
    simp only [B_gap]
    rw [if_neg (by omega)]
    exact Z_gap r (i + 1) _ (Z_tk_I h) (by omega)
theorem Z_fra {b : Nat} {x : Int} : ∀ (r i : Nat) (m : ja_M), Z_I m b → m (b + 9) 6 ≤ x → (B_fra b x r i m).1 = -1004
  | 0, _, _, _, _ => rfl
  | r + 1, i, m, h, hc => by
    have e := Z_tk_v (q := b + 9) (j := 6) h (by omega)
    simp only [B_fra]
    rw [if_neg (by omega)]
    exact Z_fra r (i + 1) _ (Z_tk_I h) (by omega)
-- the reference
def Z_J (v : Nat → Int) : Prop := v 10 < 0 ∧ v 25 = 0
theorem Z_t1 {v : Nat → Int} (h : Z_J v) : N_t1 v = ja_rs (ja_rs v 25 0) 27 0 := by
  unfold N_t1 N_as
  rw [h.2]
  rfl
theorem Z_on {v : Nat → Int} (h : Z_J v) : ¬ N_on (N_t1 v) := by
  intro q
  have q1 := q.1
  rw [Z_t1 h, ja_rs_n (by omega), ja_rs_n (by omega)] at q1
  have := h.1
  omega
theorem Z_ti {v : Nat → Int} (h : Z_J v) : N_ti v = ja_rs (ja_rs (ja_rs v 25 0) 27 0) 9 (v 9 + 1) := by
  unfold N_ti N_pl
  rw [if_neg (Z_on h), Z_t1 h, ja_rs_n (show (9 : Nat) ≠ 27 by omega), ja_rs_n (show (9 : Nat) ≠ 25 by omega)]
theorem Z_to {v : Nat → Int} (h : Z_J v) : N_to v = 0 := by
  unfold N_to
  rw [if_neg (fun q => Z_on h q.1)]
theorem Z_ti_v {v : Nat → Int} {j : Nat} (h : Z_J v) (h9 : j ≠ 9) (h27 : j ≠ 27) : N_ti v j = v j := by
  rw [Z_ti h, ja_rs_n h9, ja_rs_n h27]
  unfold ja_rs
  split
  · rename_i hh
    rw [hh, h.2]
  · rfl
theorem Z_ti_27 {v : Nat → Int} (h : Z_J v) : N_ti v 27 = 0 := by rw [Z_ti h, ja_rs_n (by omega), ja_rs_s]
theorem Z_ti_J {v : Nat → Int} (h : Z_J v) : Z_J (N_ti v) := ⟨by rw [Z_ti_v h (by omega) (by omega)]; exact h.1, by rw [Z_ti_v h (by omega) (by omega)]; exact h.2⟩
theorem Z_ad {v : Nat → Int} (h : Z_J v) : ∀ k, Z_J (N_ad v k)
  | 0 => h
  | k + 1 => Z_ti_J (Z_ad h k)
theorem Z_at {v : Nat → Int} (h : Z_J v) : ∀ k, N_at v k = 0
  | 0 => rfl
  | k + 1 => by
    simp only [N_at]
    rw [Z_at h k, Z_to (Z_ad h k)]
    rfl
theorem Z_ag {v : Nat → Int} (h : Z_J v) : ∀ k, N_ag v k = 0
  | 0 => rfl
  | k + 1 => by
    simp only [N_ag]
    rw [Z_ag h k, Z_ti_27 (Z_ad h k)]
    rfl
theorem Z_xg : ∀ (r i : Nat) (v : Nat → Int), Z_J v → N_xg r i v = -1004
  | 0, _, _, _ => rfl
  | r + 1, i, v, h => by
    simp only [N_xg]
    rw [Z_ti_27 h, if_neg (by omega)]
    exact Z_xg r (i + 1) _ (Z_ti_J h)
theorem Z_xf {x : Int} : ∀ (r i : Nat) (v : Nat → Int), Z_J v → v 11 ≤ x → N_xf x r i v = -1004
  | 0, _, _, _, _ => rfl
  | r + 1, i, v, h, hx => by
    have e := Z_ti_v (j := 11) h (by omega) (by omega)
    simp only [N_xf]
    rw [if_neg (by omega)]
    exact Z_xf r (i + 1) _ (Z_ti_J h) (by omega)
theorem N_v0_J : Z_J N_v0 := ⟨by decide, by decide⟩
