-- the whole object at y: receiver y + 1, forecast y + 21, slots y + 41, text y + 42, described y + 44
def ja_LB (lay : ja_Y) (y : Nat) (sl : Nat → Option Nat) : Prop := lay y = some (.inl (8, [some (.ref (y + 1)), some (.ref (y + 21)), some (.ref (y + 41)), some (.ref (y + 42)), some (.ref (y + 44))])) ∧ ja_LR lay (y + 1) ∧ ja_LR lay (y + 21) ∧ lay (y + 41) = some (.inr (3, 2, sl)) ∧ ja_LX lay (y + 42) ∧ ja_LA lay (y + 44) ∧ ∀ i o, i < 2 → sl i = some o → y + 49 ≤ o ∧ ja_LR lay o
theorem ja_LB_1 {lay : ja_Y} {y : Nat} {sl : Nat → Option Nat} (h : ja_LB lay y sl) : ja_LR lay (y + 1) := h.2.1
theorem ja_LB_21 {lay : ja_Y} {y : Nat} {sl : Nat → Option Nat} (h : ja_LB lay y sl) : ja_LR lay (y + 21) := h.2.2.1
theorem ja_LB_41 {lay : ja_Y} {y : Nat} {sl : Nat → Option Nat} (h : ja_LB lay y sl) : lay (y + 41) = some (.inr (3, 2, sl)) := h.2.2.2.1
theorem ja_LB_42 {lay : ja_Y} {y : Nat} {sl : Nat → Option Nat} (h : ja_LB lay y sl) : ja_LX lay (y + 42) := h.2.2.2.2.1
theorem ja_LB_44 {lay : ja_Y} {y : Nat} {sl : Nat → Option Nat} (h : ja_LB lay y sl) : ja_LA lay (y + 44) := h.2.2.2.2.2.1
/-- the text's ranges -/
def ja_HO (mem : ja_M) (x : Nat) : Prop := (0 ≤ mem x 1 ∧ mem x 1 ≤ 120) ∧ (∀ j, 0 ≤ mem (x + 1) j ∧ mem (x + 1) j ≤ 126) ∧ (0 ≤ mem x 5 ∧ mem x 5 ≤ 2) ∧ (0 ≤ mem x 6 ∧ mem x 6 ≤ 9999) ∧ (0 ≤ mem x 7 ∧ mem x 7 ≤ 9999)
def ja_BO (mem : ja_M) (y : Nat) (sl : Nat → Option Nat) (t : Int) : Prop := ja_RO mem (y + 1) t ∧ (∃ t', ja_RO mem (y + 21) t') ∧ ja_HO mem (y + 42) ∧ ja_AO mem (y + 44) ∧ ∀ i o, i < 2 → sl i = some o → ja_RO mem o t
def B_adv (mem : ja_M) (b : Nat) : Nat → ja_M
  | 0 => mem
  | k + 1 => R_tk (B_adv mem b k) b
theorem B_adv_RO {mem : ja_M} {b : Nat} {t : Int} (h : ja_RO mem b t) : ∀ k : Nat, t + k ≤ 900001 → ja_RO (B_adv mem b k) b (t + k)
  | 0, _ => by
    rw [show t + ((0 : Nat) : Int) = t by omega]
    exact h
  | k + 1, hk => by
    have ih := B_adv_RO h k (by omega)
    have := R_tk_RO ih (by omega)
    rw [show t + ((k + 1 : Nat) : Int) = t + k + 1 by omega]
    exact this
abbrev B_isF (x : Int) : Prop := 0 ≤ x ∧ x ≤ 999
/-- something has arrived, or is scheduled -/
abbrev B_bg (mem : ja_M) (y : Nat) : Prop := ¬ mem (y + 1) 7 = 0 ∨ 0 < mem (y + 1 + 15) 4
def B_gap (b : Nat) (c : Int) : Nat → Nat → ja_M → Int × ja_M
  | 0, _, m => (-1004, m)
  | r + 1, i, m => if c < R_tk m b (b + 14) 2 then ((i : Int), R_tk m b) else B_gap b c r (i + 1) (R_tk m b)
def B_fra (b : Nat) (x : Int) : Nat → Nat → ja_M → Int × ja_M
  | 0, _, m => (-1004, m)
  | r + 1, i, m => if x < R_tk m b (b + 9) 6 then ((i : Int), R_tk m b) else B_fra b x r (i + 1) (R_tk m b)
def B_cd : Nat → Int → Int → Int
  | 0, a, _ => a
  | k + 1, a, b => if b = 0 then a else B_cd k b (a % b)
def B_par (mem : ja_M) (s : Nat) (r k i p : Int) : Nat → Int
  | 0 => 0
  | j + 1 => if 999 < ja_cov mem s r k i j then B_par mem s r k i p j else (ja_I (B_par mem s r k i p j) ^^^ ja_I (ja_wave mem s (ja_cov mem s r k i j) p + 128)).toInt
theorem B_cd_in : ∀ (k : Nat) (a b : Int), 0 ≤ a → 0 ≤ b → 0 ≤ B_cd k a b ∧ (B_cd k a b ≤ a ∨ B_cd k a b ≤ b)
  | 0, a, b, ha, hb => by
    simp only [B_cd]
    omega
  | k + 1, a, b, ha, hb => by
    simp only [B_cd]
    split
    · omega
    · have h1 := Int.emod_nonneg a (show b ≠ 0 by omega)
      have h2 := Int.emod_lt_of_pos a (show 0 < b by omega)
      have := B_cd_in k b (a % b) hb h1
      omega
/-- ticksToFrame's end -/
abbrev ja_tf (lay : ja_Y) (mem : ja_M) (n y : Nat) (x : Int) : ja_P := ja_rd lay (if B_isF x then (if x < mem (y + 1 + 9) 6 then mem else (B_fra (y + 21) x 2000 0 (R_cp mem (y + 21) (y + 1))).2) else mem) n (some (.int (ja_I (if B_isF x then (if x < mem (y + 1 + 9) 6 then -1003 else (B_fra (y + 21) x 2000 0 (R_cp mem (y + 21) (y + 1))).1) else -1001))))
