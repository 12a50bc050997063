theorem ja_LS_c {lay lay' : ja_Y} {a : Nat} (h : lay' a = lay a) (hL : ja_LS lay a) : ja_LS lay' a := by
  unfold ja_LS
  rw [h]
  exact hL
theorem ja_LC_c {lay lay' : ja_Y} {a : Nat} (h : lay' a = lay a) (hL : ja_LC lay a) : ja_LC lay' a := by
  unfold ja_LC
  rw [h]
  exact hL
theorem ja_LF_c {lay lay' : ja_Y} {a : Nat} (h : ∀ q, a ≤ q → q < a + 4 → lay' q = lay q) (hL : ja_LF lay a) : ja_LF lay' a := by
  unfold ja_LF
  rw [h a (by omega) (by omega), h (a + 1) (by omega) (by omega), h (a + 2) (by omega) (by omega), h (a + 3) (by omega) (by omega)]
  exact hL
theorem ja_LT_c {lay lay' : ja_Y} {a : Nat} (h : ∀ q, a ≤ q → q < a + 3 → lay' q = lay q) (hL : ja_LT lay a) : ja_LT lay' a := by
  unfold ja_LT
  rw [h a (by omega) (by omega), h (a + 1) (by omega) (by omega), h (a + 2) (by omega) (by omega)]
  exact hL
theorem ja_LP_c {lay lay' : ja_Y} {a : Nat} (h : ∀ q, a ≤ q → q < a + 5 → lay' q = lay q) (hL : ja_LP lay a) : ja_LP lay' a := by
  unfold ja_LP
  rw [h a (by omega) (by omega), h (a + 1) (by omega) (by omega), h (a + 2) (by omega) (by omega), h (a + 3) (by omega) (by omega), h (a + 4) (by omega) (by omega)]
  exact hL
theorem ja_LA_c {lay lay' : ja_Y} {a : Nat} (h : ∀ q, a ≤ q → q < a + 5 → lay' q = lay q) (hL : ja_LA lay a) : ja_LA lay' a := by
  unfold ja_LA
  rw [h a (by omega) (by omega), h (a + 1) (by omega) (by omega), h (a + 2) (by omega) (by omega), h (a + 3) (by omega) (by omega), h (a + 4) (by omega) (by omega)]
  exact hL
theorem ja_LX_c {lay lay' : ja_Y} {a : Nat} (h : ∀ q, a ≤ q → q < a + 2 → lay' q = lay q) (hL : ja_LX lay a) : ja_LX lay' a := by
  unfold ja_LX
  rw [h a (by omega) (by omega), h (a + 1) (by omega) (by omega)]
  exact hL
theorem ja_LR_c {lay lay' : ja_Y} {b : Nat} (h : ∀ q, b ≤ q → q < b + 20 → lay' q = lay q) (hL : ja_LR lay b) : ja_LR lay' b := by
  obtain ⟨h0, h1, h2, h3, h4, h5, h6⟩ := hL
  exact ⟨by rw [h b (by omega) (by omega)]; exact h0, ja_LS_c (h _ (by omega) (by omega)) h1, ja_LF_c (fun q a1 a2 => h q (by omega) (by omega)) h2, ja_LT_c (fun q a1 a2 => h q (by omega) (by omega)) h3, ja_LP_c (fun q a1 a2 => h q (by omega) (by omega)) h4, ja_LC_c (h _ (by omega) (by omega)) h5, ja_LA_c (fun q a1 a2 => h q (by omega) (by omega)) h6⟩
/-- settings as at first -/
def ja_S0 (mem : ja_M) (s : Nat) : Prop := mem s 0 = 8 ∧ mem s 1 = 16 ∧ mem s 2 = 25 ∧ mem s 3 = 4 ∧ mem s 4 = 4 ∧ mem s 5 = 16 ∧ mem s 6 = 90 ∧ mem s 7 = 8 ∧ mem s 8 = 1
theorem RO_0 {mem : ja_M} {b : Nat} (hS : ja_S0 mem (b + 1)) (hz : ∀ q j, b ≤ q → q < b + 20 → q ≠ b + 1 → mem q j = 0) : ja_RO mem b 0 := by
  obtain ⟨s0, s1, s2, s3, s4, s5, s6, s7, s8⟩ := hS
  have z : ∀ q j, (q = b ∨ (b + 2 ≤ q ∧ q < b + 20)) → mem q j = 0 := fun q j hq => hz q j (by omega) (by omega) (by omega)
  refine ⟨⟨by omega, by omega, by omega, by omega, by omega, by omega, by omega, by omega, by omega⟩, ⟨by rw [z _ _ (by omega)]; omega, by rw [z _ _ (by omega)]; omega, fun j => by rw [z _ _ (by omega)]; exact ⟨by omega, by omega⟩, fun j => by rw [z _ _ (by omega)]; exact ⟨by omega, by omega⟩⟩, ⟨by rw [z _ _ (by omega), z _ _ (by omega)]; omega, by rw [z _ _ (by omega)]; omega, by rw [z _ _ (by omega)]; omega, fun j => by rw [z _ _ (by omega)]; exact ⟨by omega, by omega⟩, fun j => by rw [z _ _ (by omega)]; exact ⟨by omega, by omega⟩, fun j => by rw [z _ _ (by omega)]; exact ⟨by omega, by omega⟩⟩, ⟨by rw [z _ _ (by omega)]; omega, fun j => by rw [z _ _ (by omega)]; omega, fun j => by rw [z _ _ (by omega)]; exact ⟨by omega, by omega⟩, fun j => by rw [z _ _ (by omega)]; exact ⟨by omega, by omega⟩, fun j => by rw [z _ _ (by omega)]; exact ⟨by omega, by omega⟩⟩, fun j hj => by rw [z _ _ (by omega)] at hj; omega, by rw [z _ _ (by omega)]; omega, by rw [z _ _ (by omega)]; omega, by rw [z _ _ (by omega)]; omega, by rw [z _ _ (by omega), z _ _ (by omega)]; omega, by rw [z _ _ (by omega), z _ _ (by omega)]; omega, by rw [z _ _ (by omega), z _ _ (by omega)]; omega, by rw [z _ _ (by omega), z _ _ (by omega)]; omega⟩
theorem BO_0 {mem : ja_M} {y : Nat} (h1 : ja_S0 mem (y + 1 + 1)) (h2 : ja_S0 mem (y + 21 + 1)) (hz : ∀ q j, y ≤ q → q < y + 49 → q ≠ y + 1 + 1 → q ≠ y + 21 + 1 → mem q j = 0) : ja_BO mem y (fun _ => none) 0 := by
  have z : ∀ q j, (y + 41 ≤ q ∧ q < y + 49) → mem q j = 0 := fun q j hq => hz q j (by omega) (by omega) (by omega) (by omega)
  refine ⟨RO_0 h1 (fun q j a b c => hz q j (by omega) (by omega) (by omega) (by omega)), ⟨0, RO_0 h2 (fun q j a b c => hz q j (by omega) (by omega) (by omega) (by omega))⟩, ⟨by rw [z _ _ (by omega)]; omega, fun j => by rw [z _ _ (by omega)]; omega, by rw [z _ _ (by omega)]; omega, by rw [z _ _ (by omega)]; omega, by rw [z _ _ (by omega)]; omega⟩, ⟨by rw [z _ _ (by omega)]; omega, fun j => by rw [z _ _ (by omega)]; omega, fun j => by rw [z _ _ (by omega)]; exact ⟨by omega, by omega⟩, fun j => by rw [z _ _ (by omega)]; exact ⟨by omega, by omega⟩, fun j => by rw [z _ _ (by omega)]; exact ⟨by omega, by omega⟩⟩, fun i o _ h => by cases h⟩
